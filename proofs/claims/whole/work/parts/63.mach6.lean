/-! the machine: cycles -/
/-- the machine as one value -/
def kMS : Type := (Nat) × (Nat) × (Nat) × (Nat) × (Int32) × (Nat) × (Int32) × (Int32) × (Nat → Int32) × (Nat → Int32) × (Nat → Int32) × (Nat) × (Nat) × (Nat) × (Nat) × (Nat → Nat) × (Nat → Nat) × (Nat → Nat) × (Nat → Nat) × (Nat → Nat) × (Nat → Int32) × (Nat → Int32) × (Nat → Nat) × (Nat → Int32) × (Nat → Int32) × (Nat → Int32) × (Nat → Int32) × (Nat → Nat) × (Nat → Nat) × (Nat → Int32) × (Nat → Nat) × (Nat → Nat) × (Nat → Nat) × (Nat → Nat → Int64) × (Nat → Nat → Int64)
def kmmk (la : Nat) (ma : Nat) (qu : Nat) (st : Nat) (nx : Int32) (bo : Nat) (cy : Int32) (sd : Int32) (X : Nat → Int32) (F : Nat → Int32) (G : Nat → Int32) (wp : Nat) (gp : Nat) (ln : Nat) (sa : Nat) (wk : Nat → Nat) (po : Nat → Nat) (pd : Nat → Nat) (pa : Nat → Nat) (pb : Nat → Nat) (pn : Nat → Int32) (pm : Nat → Int32) (ww : Nat → Nat) (gr : Nat → Int32) (mo : Nat → Int32) (xa : Nat → Int32) (xb : Nat → Int32) (fr : Nat → Nat) (wi : Nat → Nat) (nu : Nat → Int32) (tt : Nat → Nat) (dn : Nat → Nat) (db : Nat → Nat) (rF : Nat → Nat → Int64) (wF : Nat → Nat → Int64) : kMS := (la, ma, qu, st, nx, bo, cy, sd, X, F, G, wp, gp, ln, sa, wk, po, pd, pa, pb, pn, pm, ww, gr, mo, xa, xb, fr, wi, nu, tt, dn, db, rF, wF)
def kMS.la (x : kMS) : Nat := x.1
def kMS.ma (x : kMS) : Nat := x.2.1
def kMS.qu (x : kMS) : Nat := x.2.2.1
def kMS.st (x : kMS) : Nat := x.2.2.2.1
def kMS.nx (x : kMS) : Int32 := x.2.2.2.2.1
def kMS.bo (x : kMS) : Nat := x.2.2.2.2.2.1
def kMS.cy (x : kMS) : Int32 := x.2.2.2.2.2.2.1
def kMS.sd (x : kMS) : Int32 := x.2.2.2.2.2.2.2.1
def kMS.X (x : kMS) : Nat → Int32 := x.2.2.2.2.2.2.2.2.1
def kMS.F (x : kMS) : Nat → Int32 := x.2.2.2.2.2.2.2.2.2.1
def kMS.G (x : kMS) : Nat → Int32 := x.2.2.2.2.2.2.2.2.2.2.1
def kMS.wp (x : kMS) : Nat := x.2.2.2.2.2.2.2.2.2.2.2.1
def kMS.gp (x : kMS) : Nat := x.2.2.2.2.2.2.2.2.2.2.2.2.1
def kMS.ln (x : kMS) : Nat := x.2.2.2.2.2.2.2.2.2.2.2.2.2.1
def kMS.sa (x : kMS) : Nat := x.2.2.2.2.2.2.2.2.2.2.2.2.2.2.1
def kMS.wk (x : kMS) : Nat → Nat := x.2.2.2.2.2.2.2.2.2.2.2.2.2.2.2.1
def kMS.po (x : kMS) : Nat → Nat := x.2.2.2.2.2.2.2.2.2.2.2.2.2.2.2.2.1
def kMS.pd (x : kMS) : Nat → Nat := x.2.2.2.2.2.2.2.2.2.2.2.2.2.2.2.2.2.1
def kMS.pa (x : kMS) : Nat → Nat := x.2.2.2.2.2.2.2.2.2.2.2.2.2.2.2.2.2.2.1
def kMS.pb (x : kMS) : Nat → Nat := x.2.2.2.2.2.2.2.2.2.2.2.2.2.2.2.2.2.2.2.1
def kMS.pn (x : kMS) : Nat → Int32 := x.2.2.2.2.2.2.2.2.2.2.2.2.2.2.2.2.2.2.2.2.1
def kMS.pm (x : kMS) : Nat → Int32 := x.2.2.2.2.2.2.2.2.2.2.2.2.2.2.2.2.2.2.2.2.2.1
def kMS.ww (x : kMS) : Nat → Nat := x.2.2.2.2.2.2.2.2.2.2.2.2.2.2.2.2.2.2.2.2.2.2.1
def kMS.gr (x : kMS) : Nat → Int32 := x.2.2.2.2.2.2.2.2.2.2.2.2.2.2.2.2.2.2.2.2.2.2.2.1
def kMS.mo (x : kMS) : Nat → Int32 := x.2.2.2.2.2.2.2.2.2.2.2.2.2.2.2.2.2.2.2.2.2.2.2.2.1
def kMS.xa (x : kMS) : Nat → Int32 := x.2.2.2.2.2.2.2.2.2.2.2.2.2.2.2.2.2.2.2.2.2.2.2.2.2.1
def kMS.xb (x : kMS) : Nat → Int32 := x.2.2.2.2.2.2.2.2.2.2.2.2.2.2.2.2.2.2.2.2.2.2.2.2.2.2.1
def kMS.fr (x : kMS) : Nat → Nat := x.2.2.2.2.2.2.2.2.2.2.2.2.2.2.2.2.2.2.2.2.2.2.2.2.2.2.2.1
def kMS.wi (x : kMS) : Nat → Nat := x.2.2.2.2.2.2.2.2.2.2.2.2.2.2.2.2.2.2.2.2.2.2.2.2.2.2.2.2.1
def kMS.nu (x : kMS) : Nat → Int32 := x.2.2.2.2.2.2.2.2.2.2.2.2.2.2.2.2.2.2.2.2.2.2.2.2.2.2.2.2.2.1
def kMS.tt (x : kMS) : Nat → Nat := x.2.2.2.2.2.2.2.2.2.2.2.2.2.2.2.2.2.2.2.2.2.2.2.2.2.2.2.2.2.2.1
def kMS.dn (x : kMS) : Nat → Nat := x.2.2.2.2.2.2.2.2.2.2.2.2.2.2.2.2.2.2.2.2.2.2.2.2.2.2.2.2.2.2.2.1
def kMS.db (x : kMS) : Nat → Nat := x.2.2.2.2.2.2.2.2.2.2.2.2.2.2.2.2.2.2.2.2.2.2.2.2.2.2.2.2.2.2.2.2.1
def kMS.rF (x : kMS) : Nat → Nat → Int64 := x.2.2.2.2.2.2.2.2.2.2.2.2.2.2.2.2.2.2.2.2.2.2.2.2.2.2.2.2.2.2.2.2.2.1
def kMS.wF (x : kMS) : Nat → Nat → Int64 := x.2.2.2.2.2.2.2.2.2.2.2.2.2.2.2.2.2.2.2.2.2.2.2.2.2.2.2.2.2.2.2.2.2.2
def km_cy (x : kMS) (v : Int32) : kMS := kmmk x.la x.ma x.qu x.st x.nx x.bo v x.sd x.X x.F x.G x.wp x.gp x.ln x.sa x.wk x.po x.pd x.pa x.pb x.pn x.pm x.ww x.gr x.mo x.xa x.xb x.fr x.wi x.nu x.tt x.dn x.db x.rF x.wF
def kMof (ad : Nat → Nat) (cI cB cJ cQ cW : ClassId) (cs : Nat → va_E) (x : kMS) : Prop := kM ad cI cB cJ cQ cW cs x.la x.ma x.qu x.st x.nx x.bo x.cy x.sd x.X x.F x.G x.wp x.gp x.ln x.sa x.wk x.po x.pd x.pa x.pb x.pn x.pm x.ww x.gr x.mo x.xa x.xb x.fr x.wi x.nu x.tt x.dn x.db x.rF x.wF
def km_note  (x : kMS) : kMS := kmmk x.la x.ma x.qu x.st x.nx x.bo x.cy x.sd x.X x.F x.G x.wp x.gp x.ln x.sa x.wk x.po x.pd x.pa x.pb x.pn x.pm x.ww x.gr x.mo x.xa x.xb x.fr x.wi x.nu x.tt x.dn (kv_M_noteStepsDone_db x.qu x.wk x.dn x.db) x.rF x.wF
def km_noteN (x : kMS) : Prop := x.qu ≤ 4
theorem c_P_note (l : Launch) {D : va_G} {ad : Nat → Nat} {n : Nat} {cs : Nat → va_E} (hJ : kw_J ad n) {cI cB cJ cQ cW : ClassId} {x : kMS}  (hn : 22 + x.ma ≤ n) (hP9 : kMof ad cI cB cJ cQ cW cs x) (hN : km_noteN x) : kw_mv l y_M_noteStepsDone w_M_noteStepsDone (kr 0) D kc (kt cI cB cJ cQ cW) ad n cs [.ref (ad 0)] (fun c9 => kMof ad cI cB cJ cQ cW c9 (km_note x)) := c_M_noteStepsDone l hJ hn hP9 hN
def km_unit (y : Int32) (x : kMS) : kMS := kmmk x.la x.ma x.qu x.st x.nx x.bo x.cy ((kv_wo x.la x.wk x.po x.pd x.pa x.pb x.pm x.ww x.gr x.mo x.xa x.xb x.fr x.wi x.tt x.db x.rF x.wF y x.dn x.F x.G x.sd x.qu 0 0 0).2.2.2) x.X ((kv_wo x.la x.wk x.po x.pd x.pa x.pb x.pm x.ww x.gr x.mo x.xa x.xb x.fr x.wi x.tt x.db x.rF x.wF y x.dn x.F x.G x.sd x.qu 0 0 0).2.1) ((kv_wo x.la x.wk x.po x.pd x.pa x.pb x.pm x.ww x.gr x.mo x.xa x.xb x.fr x.wi x.tt x.db x.rF x.wF y x.dn x.F x.G x.sd x.qu 0 0 0).2.2.1) x.wp x.gp x.ln x.sa x.wk x.po x.pd x.pa x.pb x.pn x.pm x.ww x.gr x.mo x.xa x.xb x.fr x.wi x.nu x.tt ((kv_wo x.la x.wk x.po x.pd x.pa x.pb x.pm x.ww x.gr x.mo x.xa x.xb x.fr x.wi x.tt x.db x.rF x.wF y x.dn x.F x.G x.sd x.qu 0 0 0).1) x.db x.rF x.wF
def km_unitN (x : kMS) : Prop := x.qu ≤ 4 ∧ x.la ≤ 8 ∧ ∀ i, i < x.qu → x.fr (x.wk i) ≤ x.tt (x.wk i) ∧ x.tt (x.wk i) < 2 ^ 30 ∧ x.ww (x.wk i) ≤ 4 ∧ x.db (x.wk i) ≤ 32
theorem c_P_unit (l : Launch) {D : va_G} {ad : Nat → Nat} {n : Nat} {cs : Nat → va_E} (hJ : kw_J ad n) {cI cB cJ cQ cW : ClassId} {x : kMS} {y : Int32} (hn : 22 + x.ma ≤ n) (hP9 : kMof ad cI cB cJ cQ cW cs x) (hN : km_unitN x) : kw_mv l y_M_workUnit w_M_workUnit (kr 5) D kc (kt cI cB cJ cQ cW) ad n cs [.ref (ad 0), .int y] (fun c9 => kMof ad cI cB cJ cQ cW c9 (km_unit y x)) := c_M_workUnit l hJ hn hP9 hN.1 hN.2.1 hN.2.2
def km_drop  (x : kMS) : kMS := kmmk x.la x.ma (kv_M_dropFinished_qu x.qu x.wk x.po x.fr x.wi x.tt x.dn) x.st x.nx x.bo x.cy x.sd x.X x.F x.G x.wp x.gp x.ln x.sa (kv_M_dropFinished_wk x.qu x.wk x.po x.fr x.wi x.tt x.dn) x.po x.pd x.pa x.pb x.pn x.pm x.ww x.gr x.mo x.xa x.xb x.fr x.wi x.nu x.tt x.dn x.db x.rF x.wF
def km_dropN (x : kMS) : Prop := x.qu ≤ 4
theorem c_P_drop (l : Launch) {D : va_G} {ad : Nat → Nat} {n : Nat} {cs : Nat → va_E} (hJ : kw_J ad n) {cI cB cJ cQ cW : ClassId} {x : kMS}  (hn : 22 + x.ma ≤ n) (hP9 : kMof ad cI cB cJ cQ cW cs x) (hN : km_dropN x) : kw_mv l y_M_dropFinished w_M_dropFinished (kr 3) D kc (kt cI cB cJ cQ cW) ad n cs [.ref (ad 0)] (fun c9 => kMof ad cI cB cJ cQ cW c9 (km_drop x)) := c_M_dropFinished l hJ hn hP9 hN
def km_adv  (x : kMS) : kMS := kmmk x.la x.ma (kv_M_advance_qu x.ma x.qu x.nx x.bo x.X x.F x.wp x.gp x.ln x.sa x.wk x.po x.pd x.pa x.pb x.pm x.wi x.dn x.wF) (kv_M_advance_st x.ma x.qu x.st x.nx x.bo x.X x.F x.wp x.gp x.ln x.sa x.wk x.po x.pd x.pa x.pb x.pm x.wi x.dn x.wF) (kv_M_advance_nx x.ma x.qu x.nx x.bo x.X x.F x.wp x.gp x.ln x.sa x.wk x.po x.pd x.pa x.pb x.pn x.pm x.wi x.dn x.wF) (kv_M_advance_bo x.ma x.qu x.nx x.bo x.X x.wp x.gp x.po x.pd x.pa x.pb x.pm) x.cy x.sd (kv_M_advance_X x.ma x.qu x.nx x.X x.F x.wp x.gp x.po x.pd x.pa x.pb x.pn x.pm) x.F x.G (kv_M_advance_wp x.ma x.qu x.nx x.wp x.gp x.po x.pd x.pa x.pb x.pn x.pm) (kv_M_advance_gp x.ma x.qu x.nx x.wp x.gp x.po x.pd x.pa x.pb x.pn x.pm) (kv_M_advance_ln x.ma x.qu x.nx x.bo x.X x.F x.wp x.gp x.ln x.sa x.wk x.po x.pd x.pa x.pb x.pn x.pm x.wi x.dn x.wF) (kv_M_advance_sa x.ma x.qu x.nx x.bo x.X x.F x.wp x.gp x.ln x.sa x.wk x.po x.pd x.pa x.pb x.pm x.wi x.dn x.wF) x.wk x.po x.pd x.pa x.pb x.pn x.pm (kv_M_advance_ww x.ma x.qu x.nx x.wp x.gp x.wk x.po x.pd x.pa x.pb x.pm x.ww x.wi x.dn x.wF) (kv_M_advance_gr x.ma x.qu x.nx x.wp x.gp x.wk x.po x.pd x.pa x.pb x.pm x.gr x.wi x.dn x.wF) (kv_M_advance_mo x.ma x.qu x.nx x.wp x.gp x.wk x.po x.pd x.pa x.pb x.pm x.mo x.wi x.dn x.wF) (kv_M_advance_xa x.ma x.qu x.nx x.X x.wp x.gp x.wk x.po x.pd x.pa x.pb x.pm x.xa x.wi x.dn x.wF) (kv_M_advance_xb x.ma x.qu x.nx x.X x.wp x.gp x.wk x.po x.pd x.pa x.pb x.pm x.xb x.wi x.dn x.wF) (kv_M_advance_fr x.ma x.qu x.nx x.wp x.gp x.sa x.wk x.po x.pd x.pa x.pb x.pm x.fr x.wi x.dn x.wF) (kv_M_advance_wi x.ma x.qu x.nx x.wp x.gp x.wk x.po x.pd x.pa x.pb x.pm x.wi x.dn x.wF) (kv_M_advance_nu x.ma x.qu x.nx x.wp x.gp x.wk x.po x.pd x.pa x.pb x.pm x.wi x.nu x.dn x.wF) (kv_M_advance_tt x.ma x.qu x.nx x.bo x.X x.F x.wp x.gp x.ln x.sa x.wk x.po x.pd x.pa x.pb x.pm x.wi x.tt x.dn x.wF) (kv_M_advance_dn x.ma x.qu x.nx x.wp x.gp x.wk x.po x.pd x.pa x.pb x.pm x.wi x.dn x.wF) x.db (kv_M_advance_rF x.ma x.qu x.nx x.bo x.X x.F x.wp x.gp x.ln x.sa x.wk x.po x.pd x.pa x.pb x.pm x.wi x.dn x.rF x.wF) (kv_M_advance_wF x.ma x.qu x.nx x.bo x.X x.F x.wp x.gp x.ln x.sa x.wk x.po x.pd x.pa x.pb x.pm x.wi x.dn x.rF x.wF)
def km_advN (x : kMS) : Prop := (x.ma ≤ 40) ∧ (x.qu ≤ 4) ∧ (x.wp ≤ 2) ∧ (x.sa ≤ x.ln) ∧ (x.ln < 2 ^ 30) ∧ (∀ i, i < x.qu → x.dn (x.wk i) ≤ 32) ∧ (∀ i, i ≤ x.ma → x.pd i < 8) ∧ (∀ i, i ≤ x.ma → nI (x.po i) = 6 → kn_code (x.pn i))
theorem c_P_adv (l : Launch) {D : va_G} {ad : Nat → Nat} {n : Nat} {cs : Nat → va_E} (hJ : kw_J ad n) {cI cB cJ cQ cW : ClassId} {x : kMS}  (hn : 22 + x.ma ≤ n) (hP9 : kMof ad cI cB cJ cQ cW cs x) (hN : km_advN x) : kw_mv l y_M_advance w_M_advance (kr 5) D kc (kt cI cB cJ cQ cW) ad n cs [.ref (ad 0)] (fun c9 => kMof ad cI cB cJ cQ cW c9 (km_adv x)) := by
  obtain ⟨h1, h2, h3, h4, h5, h6, h7, h8⟩ := hN
  exact c_M_advance l hJ hn hP9 h1 h2 h3 h4 h5 h6 h7 h8
/-- a cycle, ahead of the going on -/
def km_u (x : kMS) : kMS := km_note (km_cy x (x.cy + 1))
def km_half (x : kMS) : kMS := km_drop (km_unit 2 (km_unit 1 (km_unit 0 (km_u x))))
def km_step (x : kMS) : kMS := if nI (km_half x).st = 0 then km_adv (km_half x) else km_half x
def km_it : Nat → kMS → kMS
  | 0, x => x
  | k + 1, x => km_it k (km_step x)
/-- what a cycle needs -/
def km_N (x : kMS) : Prop := km_noteN (km_cy x (x.cy + 1)) ∧ km_unitN (km_u x) ∧ km_unitN (km_unit 0 (km_u x)) ∧ km_unitN (km_unit 1 (km_unit 0 (km_u x))) ∧ km_dropN (km_unit 2 (km_unit 1 (km_unit 0 (km_u x)))) ∧ (nI (km_half x).st = 0 → km_advN (km_half x))
theorem km_step_p {x : kMS} (h : nI (km_half x).st = 0) : km_step x = km_adv (km_half x) := if_pos h
theorem km_step_n {x : kMS} (h : ¬ nI (km_half x).st = 0) : km_step x = km_half x := if_neg h

def kv_M_cycles_x (x : kMS) (C : Nat) : kMS := km_it C x
def kv_M_cycles (x : kMS) (C : Nat) : Int32 := (km_it C x).cy
set_option maxRecDepth 100000 in
set_option maxHeartbeats 4000000 in
theorem c_M_cycles (l : Launch) {D : va_G} {ad : Nat → Nat} {n : Nat} {cs : Nat → va_E} (hJ : kw_J ad n) {cI : ClassId} {cB : ClassId} {cJ : ClassId} {cQ : ClassId} {cW : ClassId} {x : kMS} {C : Nat} (hn : 22 + x.ma ≤ n) (hM : kMof ad cI cB cJ cQ cW cs x) (h1C : 1 ≤ C) (hC2 : C ≤ 200) {Jm : kMS → Prop} (hJm : Jm x) (hC : ∀ y, Jm y → km_N y ∧ Jm (km_step y)) (hma : ∀ y, Jm y → 22 + y.ma ≤ n) (hmaC : 22 + (km_it C x).ma ≤ n) : kw_mi l y_M_cycles w_M_cycles (kr 6) D kc (kt cI cB cJ cQ cW) ad n cs [.ref (ad 0), .int (nI C)] (fun r9 c9 => r9 = kv_M_cycles x C ∧ kMof ad cI cB cJ cQ cW c9 (kv_M_cycles_x x C)) := by
  refine kw_of (cc := b_M_cycles) (maxL := 4) (ret := (some .int)) (by decide) rfl (Nat.le_of_ble_eq_true rfl) ?_
  intro p e s m below meth c ls hx hb hr hml hown hts hlocks hP hK hl
  have hg : ∀ w9 ∈ kg_G, w9.before [.ref (ad 0), .int (nI C)].toArray s = true := fun w9 h9 => hts w9 (List.mem_cons_of_mem _ h9)
  have hown : s.vm.findClass "LaneMachine" = some m.cls := hown
  have hA : ∀ k, k < n → kw_A ad n (ad k) := fun k hk => ⟨k, hk, rfl⟩
  have hS : va_S (kw_A ad n) s.heap s.heap [] := va_S.rf
  have hl : lv_has ls 4 [(0, .ref (ad 0)), (1, .int (nI C))] := hl
  refine lv_iload_n hx hb d_M_cycles_0 rfl (lv_at hl 1 rfl) ?_
  refine lv_iconst (v := 1) hx hb d_M_cycles_1 (by decide) ?_
  refine lv_icmp_lt (tgt := 12) hx hb d_M_cycles_2 (by decide) (fun h1 => absurd h1 (fun z9 => absurd ((nI_ltI (b := 1) (by omega) (by omega)).mp z9) (by omega))) (fun _ => ?_)
  refine lv_iload_n hx hb d_M_cycles_5 rfl (lv_at hl 1 rfl) ?_
  refine lv_sipush (v := 200) hx hb d_M_cycles_6 (by decide) ?_
  refine lv_icmp_le (tgt := 20) hx hb d_M_cycles_9 (by decide) (fun _ => ?_) (fun h2 => absurd (nI_le (b := 200) (by omega) (by omega)) h2)
  refine lv_iconst (v := 0) hx hb d_M_cycles_20 (by decide) ?_
  refine lv_istore_n (lv' := [(2, .int 0), (0, .ref (ad 0)), (1, .int (nI C))]) hx hb d_M_cycles_21 rfl hl (by decide) rfl (fun ls hl => ?_)
  have KXc : ∀ (csL : Nat → va_E) (H : Heap) (locs : List Loc) (ls : Array Slot), kMof ad cI cB cJ cQ cW csL (km_it C x) → va_P D kc (kw_w ad csL n) H → va_S (kw_A ad n) s.heap H locs → lv_has ls 4 [(0, .ref (ad 0))] → W p l e (kr 6) s m [.ref (ad 0), .int (nI C)].toArray below meth c H locs 0 0 (MQ below (va_Qi (fun r9 c9 => r9 = kv_M_cycles x C ∧ kMof ad cI cB cJ cQ cW c9 (kv_M_cycles_x x C)) (kw_Pre D kc (kt cI cB cJ cQ cW) ad n) (kw_A ad n)) [.ref (ad 0), .int (nI C)].toArray s 0 0 (kw_A ad n)) (F0 m 80 ls []) := by
    intro csL H locs ls hM hP hS hl
    have hn : 22 + (km_it C x).ma ≤ n := hmaC
    refine lv_aload_n hx hb d_M_cycles_80 rfl (lv_at hl 0 rfl) ?_
    refine kw_get hx hb hg in_M hown hK hP 0 (kM_q hn (by decide : 0 < 22)) (kM_0 hM) rfl 12 (by decide) (hg _ kg_174) rfl rfl d_M_cycles_81 ?_
    exact kw_iret hx hb hr hlocks hP hK hS ⟨by rw [kv_M_cycles], (by rw [show kv_M_cycles_x x C = km_it C x from (by rw [kv_M_cycles_x])]; exact hM)⟩ d_M_cycles_84
  have loopc : ∀ (kk : Nat) (csL : Nat → va_E) (ci : Nat) (y : kMS) (H : Heap) (locs : List Loc) (ls : Array Slot), ci + kk = C → Jm y → km_it C x = km_it kk y → kMof ad cI cB cJ cQ cW csL y → va_P D kc (kw_w ad csL n) H → va_S (kw_A ad n) s.heap H locs → lv_has ls 4 [(2, .int (nI ci)), (1, .int (nI C)), (0, .ref (ad 0))] → W p l e (kr 6) s m [.ref (ad 0), .int (nI C)].toArray below meth c H locs 0 0 (MQ below (va_Qi (fun r9 c9 => r9 = kv_M_cycles x C ∧ kMof ad cI cB cJ cQ cW c9 (kv_M_cycles_x x C)) (kw_Pre D kc (kt cI cB cJ cQ cW) ad n) (kw_A ad n)) [.ref (ad 0), .int (nI C)].toArray s 0 0 (kw_A ad n)) (F0 m 22 ls []) := by
    intro kk
    induction kk with
    | zero =>
      intro csL ci y H locs ls hck hJ1 hv hM hP hS hl
      have hn : 22 + y.ma ≤ n := hma y hJ1
      refine lv_iload_n hx hb d_M_cycles_22 rfl (lv_at hl 0 rfl) ?_
      refine lv_iload_n hx hb d_M_cycles_23 rfl (lv_at hl 1 rfl) ?_
      refine lv_icmp_ge (tgt := 80) hx hb d_M_cycles_24 (by decide) (fun _ => ?_) (fun h3 => absurd (nI_le (by omega) (by omega)) h3)
      exact KXc _ _ _ _ (by rw [show km_it C x = y from hv]; exact hM) hP hS (by (first | (rw [show km_it C x = y from hv]) | skip); exact lv_sub hl [2] rfl)
    | succ j ihc =>
      intro csL ci y H locs ls hck hJ1 hv hM hP hS hl
      obtain ⟨hN1, hN2, hN3, hN4, hN5, hN6⟩ := (hC y hJ1).1
      have hn : 22 + y.ma ≤ n := hma y hJ1
      refine lv_iload_n hx hb d_M_cycles_22 rfl (lv_at hl 0 rfl) ?_
      refine lv_iload_n hx hb d_M_cycles_23 rfl (lv_at hl 1 rfl) ?_
      refine lv_icmp_ge (tgt := 80) hx hb d_M_cycles_24 (by decide) (fun h4 => absurd h4 (nI_ge (by omega) (by omega))) (fun _ => ?_)
      refine lv_aload_n hx hb d_M_cycles_27 rfl (lv_at hl 2 rfl) ?_
      refine lv_dup hx hb d_M_cycles_28 rfl ?_
      refine kw_get hx hb hg in_M hown hK hP 0 (kM_q hn (by decide : 0 < 22)) (kM_0 hM) rfl 12 (by decide) (hg _ kg_174) rfl rfl d_M_cycles_29 ?_
      refine lv_iconst (v := 1) hx hb d_M_cycles_32 (by decide) ?_
      refine lv_iadd hx hb d_M_cycles_33 ?_
      refine kw_put (ty := .int) hx hb hg in_M t_M ty_M nm_M hown hK hP hJ hA hS 0 (kM_q hn (by decide : 0 < 22)) (kM_0 hM) rfl 12 (by decide) (hg _ kg_174) rfl rfl (by decide +kernel) rfl rfl (Nat.le_of_ble_eq_true rfl) d_M_cycles_34 (fun H locs hP hS => ?_)
      obtain ⟨cs1, hccs1⟩ : ∃ z9, z9 = va_up csL 0 (.inr (4, [.int (nI y.la), .ref (ad 1), .ref (ad 2), .ref (ad 4), .ref (ad 6), .ref (ad 7), .ref (ad 8), .int (nI y.ma), .int (nI y.qu), .int (nI y.st), .int y.nx, .int (nI y.bo), .int (y.cy + 1), .int y.sd])) := ⟨_, rfl⟩
      replace hP : va_P D kc (kw_w ad cs1 n) H := by rw [hccs1]; exact hP
      replace hM : kMof ad cI cB cJ cQ cW cs1 (km_cy y (y.cy + 1)) := by rw [hccs1]; exact kM_u0 hM
      clear hccs1
      refine lv_aload_n hx hb d_M_cycles_37 rfl (lv_at hl 2 rfl) ?_
      refine kw_callv (kw_rV (As := []) (rest := []) (q0 := 0) ⟨hx, hb, hml, hown, hg⟩ ⟨callB_of 0 hg (kg_goodG kg_366) rfl rfl rfl (hg _ kg_1) (hg _ kg_363) (by decide +kernel) ⟨by decide, by decide⟩, hg _ kg_365, hg _ (kg_sel (q := (y_M_noteStepsDone, 14)) (by decide +kernel))⟩ (c_P_note l hJ hn hM hN1  (x := km_cy y (y.cy + 1))) hK hP (kM_q hn (by decide : 0 < 22)) (kM_0 hM) rfl rfl hl.1 rfl (Nat.le_of_ble_eq_true rfl) d_M_cycles_38 ⟨Nat.zero_le _, Nat.zero_le _⟩) hA hS (fun cs2 H locs hM hP hS => ?_)
      refine lv_iconst (v := 0) hx hb d_M_cycles_41 (by decide) ?_
      refine lv_istore_n (lv' := [(3, .int 0), (2, .int (nI ci)), (1, .int (nI C)), (0, .ref (ad 0))]) hx hb d_M_cycles_42 rfl hl (by decide) rfl (fun ls hl => ?_)
      refine lv_iload_n hx hb d_M_cycles_43 rfl (lv_at hl 0 rfl) ?_
      refine lv_iconst (v := 3) hx hb d_M_cycles_44 (by decide) ?_
      refine lv_icmp_ge (tgt := 59) hx hb d_M_cycles_45 (by decide) (fun h5 => absurd h5 (by decide)) (fun _ => ?_)
      refine lv_aload_n hx hb d_M_cycles_48 rfl (lv_at hl 3 rfl) ?_
      refine lv_iload_n hx hb d_M_cycles_49 rfl (lv_at hl 0 rfl) ?_
      refine kw_callv (kw_rV (As := [.int 0]) (rest := []) (q0 := 0) ⟨hx, hb, hml, hown, hg⟩ ⟨callB_of 1 hg (kg_goodG kg_370) rfl rfl rfl (hg _ kg_1) (hg _ kg_367) (by decide +kernel) ⟨by decide, by decide⟩, hg _ kg_369, hg _ (kg_sel (q := (y_M_workUnit, 14)) (by decide +kernel))⟩ (c_P_unit l hJ hn hM hN2  (x := km_note (km_cy y (y.cy + 1)))) hK hP (kM_q hn (by decide : 0 < 22)) (kM_0 hM) rfl rfl hl.1 rfl (Nat.le_of_ble_eq_true rfl) d_M_cycles_50 ⟨Nat.zero_le _, Nat.zero_le _⟩) hA hS (fun cs3 H locs hM hP hS => ?_)
      refine lv_iinc (k := 0) (v := 1) (lv' := [(3, .int 1), (2, .int (nI ci)), (1, .int (nI C)), (0, .ref (ad 0))]) hx hb d_M_cycles_53 hl rfl (by decide) (by decide) rfl (fun ls hl => ?_)
      refine lv_goto (tgt := 43) hx hb d_M_cycles_56 (by decide) ?_
      refine lv_iload_n hx hb d_M_cycles_43 rfl (lv_at hl 0 rfl) ?_
      refine lv_iconst (v := 3) hx hb d_M_cycles_44 (by decide) ?_
      refine lv_icmp_ge (tgt := 59) hx hb d_M_cycles_45 (by decide) (fun h6 => absurd h6 (by decide)) (fun _ => ?_)
      refine lv_aload_n hx hb d_M_cycles_48 rfl (lv_at hl 3 rfl) ?_
      refine lv_iload_n hx hb d_M_cycles_49 rfl (lv_at hl 0 rfl) ?_
      refine kw_callv (kw_rV (As := [.int 1]) (rest := []) (q0 := 0) ⟨hx, hb, hml, hown, hg⟩ ⟨callB_of 1 hg (kg_goodG kg_370) rfl rfl rfl (hg _ kg_1) (hg _ kg_367) (by decide +kernel) ⟨by decide, by decide⟩, hg _ kg_369, hg _ (kg_sel (q := (y_M_workUnit, 14)) (by decide +kernel))⟩ (c_P_unit l hJ hn hM hN3  (x := km_unit 0 (km_note (km_cy y (y.cy + 1))))) hK hP (kM_q hn (by decide : 0 < 22)) (kM_0 hM) rfl rfl hl.1 rfl (Nat.le_of_ble_eq_true rfl) d_M_cycles_50 ⟨Nat.zero_le _, Nat.zero_le _⟩) hA hS (fun cs4 H locs hM hP hS => ?_)
      refine lv_iinc (k := 0) (v := 2) (lv' := [(3, .int 2), (2, .int (nI ci)), (1, .int (nI C)), (0, .ref (ad 0))]) hx hb d_M_cycles_53 hl rfl (by decide) (by decide) rfl (fun ls hl => ?_)
      refine lv_goto (tgt := 43) hx hb d_M_cycles_56 (by decide) ?_
      refine lv_iload_n hx hb d_M_cycles_43 rfl (lv_at hl 0 rfl) ?_
      refine lv_iconst (v := 3) hx hb d_M_cycles_44 (by decide) ?_
      refine lv_icmp_ge (tgt := 59) hx hb d_M_cycles_45 (by decide) (fun h7 => absurd h7 (by decide)) (fun _ => ?_)
      refine lv_aload_n hx hb d_M_cycles_48 rfl (lv_at hl 3 rfl) ?_
      refine lv_iload_n hx hb d_M_cycles_49 rfl (lv_at hl 0 rfl) ?_
      refine kw_callv (kw_rV (As := [.int 2]) (rest := []) (q0 := 0) ⟨hx, hb, hml, hown, hg⟩ ⟨callB_of 1 hg (kg_goodG kg_370) rfl rfl rfl (hg _ kg_1) (hg _ kg_367) (by decide +kernel) ⟨by decide, by decide⟩, hg _ kg_369, hg _ (kg_sel (q := (y_M_workUnit, 14)) (by decide +kernel))⟩ (c_P_unit l hJ hn hM hN4  (x := km_unit 1 (km_unit 0 (km_note (km_cy y (y.cy + 1)))))) hK hP (kM_q hn (by decide : 0 < 22)) (kM_0 hM) rfl rfl hl.1 rfl (Nat.le_of_ble_eq_true rfl) d_M_cycles_50 ⟨Nat.zero_le _, Nat.zero_le _⟩) hA hS (fun cs5 H locs hM hP hS => ?_)
      refine lv_iinc (k := 0) (v := 3) (lv' := [(3, .int 3), (2, .int (nI ci)), (1, .int (nI C)), (0, .ref (ad 0))]) hx hb d_M_cycles_53 hl rfl (by decide) (by decide) rfl (fun ls hl => ?_)
      refine lv_goto (tgt := 43) hx hb d_M_cycles_56 (by decide) ?_
      refine lv_iload_n hx hb d_M_cycles_43 rfl (lv_at hl 0 rfl) ?_
      refine lv_iconst (v := 3) hx hb d_M_cycles_44 (by decide) ?_
      refine lv_icmp_ge (tgt := 59) hx hb d_M_cycles_45 (by decide) (fun _ => ?_) (fun h8 => absurd (by decide) h8)
      refine lv_aload_n hx hb d_M_cycles_59 rfl (lv_at hl 3 rfl) ?_
      refine kw_callv (kw_rV (As := []) (rest := []) (q0 := 0) ⟨hx, hb, hml, hown, hg⟩ ⟨callB_of 0 hg (kg_goodG kg_464) rfl rfl rfl (hg _ kg_1) (hg _ kg_461) (by decide +kernel) ⟨by decide, by decide⟩, hg _ kg_463, hg _ (kg_sel (q := (y_M_dropFinished, 14)) (by decide +kernel))⟩ (c_P_drop l hJ hn hM hN5  (x := km_unit 2 (km_unit 1 (km_unit 0 (km_note (km_cy y (y.cy + 1))))))) hK hP (kM_q hn (by decide : 0 < 22)) (kM_0 hM) rfl rfl hl.1 rfl (Nat.le_of_ble_eq_true rfl) d_M_cycles_60 ⟨Nat.zero_le _, Nat.zero_le _⟩) hA hS (fun cs6 H locs hM hP hS => ?_)
      refine lv_aload_n hx hb d_M_cycles_63 rfl (lv_at hl 3 rfl) ?_
      refine kw_get hx hb hg in_M hown hK hP 0 (kM_q hn (by decide : 0 < 22)) (kM_0 hM) rfl 9 (by decide) (hg _ kg_171) rfl rfl d_M_cycles_64 ?_
      refine lv_if_ne (tgt := 74) hx hb d_M_cycles_67 (by decide) (fun h9 => ?_) (fun h9 => ?_)
      · refine lv_iinc (k := 1) (v := nI (ci + 1)) (lv' := [(2, .int (nI (ci + 1))), (3, .int 3), (1, .int (nI C)), (0, .ref (ad 0))]) hx hb d_M_cycles_74 hl rfl ((nI_succ ci).symm) (by decide) rfl (fun ls hl => ?_)
        refine lv_goto (tgt := 22) hx hb d_M_cycles_77 (by decide) ?_
        exact ihc _ ((ci + 1)) _ _ _ _ (by omega) (by have z9 := (hC y hJ1).2; rw [km_step_n h9] at z9; exact z9) (by rw [hv, km_it, km_step_n h9]; rfl) hM hP hS (lv_sub hl [0, 2, 3] rfl)
      · refine lv_aload_n hx hb d_M_cycles_70 rfl (lv_at hl 3 rfl) ?_
        refine kw_callv (kw_rV (As := []) (rest := []) (q0 := 0) ⟨hx, hb, hml, hown, hg⟩ ⟨callB_of 0 hg (kg_goodG kg_469) rfl rfl rfl (hg _ kg_1) (hg _ kg_466) (by decide +kernel) ⟨by decide, by decide⟩, hg _ kg_468, hg _ (kg_sel (q := (y_M_advance, 14)) (by decide +kernel))⟩ (c_P_adv l hJ hn hM (hN6 h9)  (x := km_drop (km_unit 2 (km_unit 1 (km_unit 0 (km_note (km_cy y (y.cy + 1)))))))) hK hP (kM_q hn (by decide : 0 < 22)) (kM_0 hM) rfl rfl hl.1 rfl (Nat.le_of_ble_eq_true rfl) d_M_cycles_71 ⟨Nat.zero_le _, Nat.zero_le _⟩) hA hS (fun cs7 H locs hM hP hS => ?_)
        refine lv_iinc (k := 1) (v := nI (ci + 1)) (lv' := [(2, .int (nI (ci + 1))), (3, .int 3), (1, .int (nI C)), (0, .ref (ad 0))]) hx hb d_M_cycles_74 hl rfl ((nI_succ ci).symm) (by decide) rfl (fun ls hl => ?_)
        refine lv_goto (tgt := 22) hx hb d_M_cycles_77 (by decide) ?_
        exact ihc _ ((ci + 1)) _ _ _ _ (by omega) (by have z9 := (hC y hJ1).2; rw [km_step_p h9] at z9; exact z9) (by rw [hv, km_it, km_step_p h9]; rfl) hM hP hS (lv_sub hl [0, 2, 3] rfl)
  exact loopc C _ 0 x _ _ _ (by omega) (hJm) (rfl) hM hP hS (lv_sub hl [0, 2, 1] rfl)
