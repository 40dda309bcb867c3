/-! the reference: cycles -/
/-- the reference as one value -/
def kRS : Type := (Nat) × (Int32) × (Nat) × (Int32) × (Nat) × (Nat) × (Nat) × (Nat) × (Nat) × (Int32) × (Int32) × (Nat) × (Nat) × (Nat → Int32) × (Nat → Int32) × (Nat → Int32) × (Nat → Nat) × (Nat → Nat) × (Nat → Nat) × (Nat → Nat) × (Nat → Int32) × (Nat → Int32) × (Nat → Nat) × (Nat → Nat) × (Nat → Nat) × (Nat → Nat) × (Nat → Nat) × (Nat → Nat) × (Nat → Nat) × (Nat → Int32) × (Nat → Int32)
def kmk (la : Nat) (th : Int32) (st : Nat) (nx : Int32) (wi : Nat) (gp : Nat) (vl : Nat) (sa : Nat) (bo : Nat) (cy : Int32) (sd : Int32) (ma : Nat) (qu : Nat) (X : Nat → Int32) (F : Nat → Int32) (M : Nat → Int32) (po : Nat → Nat) (pd : Nat → Nat) (pa : Nat → Nat) (pb : Nat → Nat) (pn : Nat → Int32) (pm : Nat → Int32) (wh : Nat → Nat) (wd : Nat → Nat) (rg : Nat → Nat) (fr : Nat → Nat) (sp : Nat → Nat) (dn : Nat → Nat) (bf : Nat → Nat) (XA : Nat → Int32) (XB : Nat → Int32) : kRS := (la, th, st, nx, wi, gp, vl, sa, bo, cy, sd, ma, qu, X, F, M, po, pd, pa, pb, pn, pm, wh, wd, rg, fr, sp, dn, bf, XA, XB)
def kRS.la (x : kRS) : Nat := x.1
def kRS.th (x : kRS) : Int32 := x.2.1
def kRS.st (x : kRS) : Nat := x.2.2.1
def kRS.nx (x : kRS) : Int32 := x.2.2.2.1
def kRS.wi (x : kRS) : Nat := x.2.2.2.2.1
def kRS.gp (x : kRS) : Nat := x.2.2.2.2.2.1
def kRS.vl (x : kRS) : Nat := x.2.2.2.2.2.2.1
def kRS.sa (x : kRS) : Nat := x.2.2.2.2.2.2.2.1
def kRS.bo (x : kRS) : Nat := x.2.2.2.2.2.2.2.2.1
def kRS.cy (x : kRS) : Int32 := x.2.2.2.2.2.2.2.2.2.1
def kRS.sd (x : kRS) : Int32 := x.2.2.2.2.2.2.2.2.2.2.1
def kRS.ma (x : kRS) : Nat := x.2.2.2.2.2.2.2.2.2.2.2.1
def kRS.qu (x : kRS) : Nat := x.2.2.2.2.2.2.2.2.2.2.2.2.1
def kRS.X (x : kRS) : Nat → Int32 := x.2.2.2.2.2.2.2.2.2.2.2.2.2.1
def kRS.F (x : kRS) : Nat → Int32 := x.2.2.2.2.2.2.2.2.2.2.2.2.2.2.1
def kRS.M (x : kRS) : Nat → Int32 := x.2.2.2.2.2.2.2.2.2.2.2.2.2.2.2.1
def kRS.po (x : kRS) : Nat → Nat := x.2.2.2.2.2.2.2.2.2.2.2.2.2.2.2.2.1
def kRS.pd (x : kRS) : Nat → Nat := x.2.2.2.2.2.2.2.2.2.2.2.2.2.2.2.2.2.1
def kRS.pa (x : kRS) : Nat → Nat := x.2.2.2.2.2.2.2.2.2.2.2.2.2.2.2.2.2.2.1
def kRS.pb (x : kRS) : Nat → Nat := x.2.2.2.2.2.2.2.2.2.2.2.2.2.2.2.2.2.2.2.1
def kRS.pn (x : kRS) : Nat → Int32 := x.2.2.2.2.2.2.2.2.2.2.2.2.2.2.2.2.2.2.2.2.1
def kRS.pm (x : kRS) : Nat → Int32 := x.2.2.2.2.2.2.2.2.2.2.2.2.2.2.2.2.2.2.2.2.2.1
def kRS.wh (x : kRS) : Nat → Nat := x.2.2.2.2.2.2.2.2.2.2.2.2.2.2.2.2.2.2.2.2.2.2.1
def kRS.wd (x : kRS) : Nat → Nat := x.2.2.2.2.2.2.2.2.2.2.2.2.2.2.2.2.2.2.2.2.2.2.2.1
def kRS.rg (x : kRS) : Nat → Nat := x.2.2.2.2.2.2.2.2.2.2.2.2.2.2.2.2.2.2.2.2.2.2.2.2.1
def kRS.fr (x : kRS) : Nat → Nat := x.2.2.2.2.2.2.2.2.2.2.2.2.2.2.2.2.2.2.2.2.2.2.2.2.2.1
def kRS.sp (x : kRS) : Nat → Nat := x.2.2.2.2.2.2.2.2.2.2.2.2.2.2.2.2.2.2.2.2.2.2.2.2.2.2.1
def kRS.dn (x : kRS) : Nat → Nat := x.2.2.2.2.2.2.2.2.2.2.2.2.2.2.2.2.2.2.2.2.2.2.2.2.2.2.2.1
def kRS.bf (x : kRS) : Nat → Nat := x.2.2.2.2.2.2.2.2.2.2.2.2.2.2.2.2.2.2.2.2.2.2.2.2.2.2.2.2.1
def kRS.XA (x : kRS) : Nat → Int32 := x.2.2.2.2.2.2.2.2.2.2.2.2.2.2.2.2.2.2.2.2.2.2.2.2.2.2.2.2.2.1
def kRS.XB (x : kRS) : Nat → Int32 := x.2.2.2.2.2.2.2.2.2.2.2.2.2.2.2.2.2.2.2.2.2.2.2.2.2.2.2.2.2.2
def kq_th (x : kRS) (v : Int32) : kRS := kmk x.la v x.st x.nx x.wi x.gp x.vl x.sa x.bo x.cy x.sd x.ma x.qu x.X x.F x.M x.po x.pd x.pa x.pb x.pn x.pm x.wh x.wd x.rg x.fr x.sp x.dn x.bf x.XA x.XB
def kq_cy (x : kRS) (v : Int32) : kRS := kmk x.la x.th x.st x.nx x.wi x.gp x.vl x.sa x.bo v x.sd x.ma x.qu x.X x.F x.M x.po x.pd x.pa x.pb x.pn x.pm x.wh x.wd x.rg x.fr x.sp x.dn x.bf x.XA x.XB
def kRof (ad : Nat → Nat) (cI cZ : ClassId) (cs : Nat → va_E) (x : kRS) : Prop := kR ad cI cZ cs x.la x.th x.st x.nx x.wi x.gp x.vl x.sa x.bo x.cy x.sd x.ma x.qu x.X x.F x.M x.po x.pd x.pa x.pb x.pn x.pm x.wh x.wd x.rg x.fr x.sp x.dn x.bf x.XA x.XB
def kq_units (x : kRS) : kRS := kmk x.la x.th x.st x.nx x.wi x.gp x.vl x.sa x.bo x.cy (kv_R_units_sd x.la x.sd x.qu x.F x.M x.po x.pd x.pa x.pb x.pm x.wh x.wd x.rg x.fr x.sp x.dn x.bf x.XA x.XB) x.ma x.qu x.X (kv_R_units_F x.la x.sd x.qu x.F x.M x.po x.pd x.pa x.pb x.pm x.wh x.wd x.rg x.fr x.sp x.dn x.bf x.XA x.XB) (kv_R_units_M x.la x.sd x.qu x.F x.M x.po x.pd x.pa x.pb x.pm x.wh x.wd x.rg x.fr x.sp x.dn x.bf x.XA x.XB) x.po x.pd x.pa x.pb x.pn x.pm x.wh x.wd x.rg x.fr x.sp (kv_R_units_dn x.la x.sd x.qu x.F x.M x.po x.pd x.pa x.pb x.pm x.wh x.wd x.rg x.fr x.sp x.dn x.bf x.XA x.XB) (kv_R_units_bf x.qu x.dn x.bf) x.XA x.XB
def kq_unitsN (x : kRS) : Prop := x.qu ≤ 4 ∧ x.la ≤ 8 ∧ (∀ p, p < x.qu → kE x.po x.wh x.wd x.rg x.fr x.sp (kv_ub x.dn x.qu 0 x.bf) x.XA p) ∧ ∃ J : (Nat → Int32) → (Nat → Int32) → (Nat → Nat) → Prop, J x.F x.M x.dn ∧ kU x.po x.pd x.pa x.pb x.pm x.wh x.wd x.rg x.fr x.sp (kv_ub x.dn x.qu 0 x.bf) x.XA x.XB x.qu J
theorem c_Q_units (l : Launch) {D : va_G} {ad : Nat → Nat} {n : Nat} {cs : Nat → va_E} (hJ : kw_J ad n) {cI cZ : ClassId} {x : kRS} (hn : 19 ≤ n) (hQ : kRof ad cI cZ cs x) (hN : kq_unitsN x) : kw_mv l y_R_units w_R_units (kr 5) D kc (ktR cI cZ) ad n cs [.ref (ad 0)] (fun c9 => kRof ad cI cZ c9 (kq_units x)) := by
  obtain ⟨h1, h2, h3, J, h4, h5⟩ := hN
  exact c_R_units l hJ hn hQ h1 h2 h3 h4 h5
def kq_leaves (x : kRS) : kRS := kmk x.la x.th x.st x.nx x.wi x.gp x.vl x.sa x.bo x.cy x.sd x.ma (kv_R_leaves_qu x.qu x.wh x.wd x.rg x.fr x.sp x.dn x.bf x.XA x.XB) x.X x.F x.M x.po x.pd x.pa x.pb x.pn x.pm (kv_R_leaves_wh x.qu x.wh x.wd x.rg x.fr x.sp x.dn x.bf x.XA x.XB) (kv_R_leaves_wd x.qu x.wh x.wd x.rg x.fr x.sp x.dn x.bf x.XA x.XB) (kv_R_leaves_rg x.qu x.wh x.wd x.rg x.fr x.sp x.dn x.bf x.XA x.XB) (kv_R_leaves_fr x.qu x.wh x.wd x.rg x.fr x.sp x.dn x.bf x.XA x.XB) (kv_R_leaves_sp x.qu x.wh x.wd x.rg x.fr x.sp x.dn x.bf x.XA x.XB) (kv_R_leaves_dn x.qu x.wh x.wd x.rg x.fr x.sp x.dn x.bf x.XA x.XB) (kv_R_leaves_bf x.qu x.wh x.wd x.rg x.fr x.sp x.dn x.bf x.XA x.XB) (kv_R_leaves_XA x.qu x.wh x.wd x.rg x.fr x.sp x.dn x.bf x.XA x.XB) (kv_R_leaves_XB x.qu x.wh x.wd x.rg x.fr x.sp x.dn x.bf x.XA x.XB)
def kq_leavesN (x : kRS) : Prop := x.qu ≤ 4
theorem c_Q_leaves (l : Launch) {D : va_G} {ad : Nat → Nat} {n : Nat} {cs : Nat → va_E} (hJ : kw_J ad n) {cI cZ : ClassId} {x : kRS} (hn : 19 ≤ n) (hQ : kRof ad cI cZ cs x) (hN : kq_leavesN x) : kw_mv l y_R_leaves w_R_leaves (kr 0) D kc (ktR cI cZ) ad n cs [.ref (ad 0)] (fun c9 => kRof ad cI cZ c9 (kq_leaves x)) := c_R_leaves l hJ hn hQ hN
def kq_goesOn (x : kRS) : kRS := kmk x.la x.th (kv_R_goesOn_st x.st x.nx x.wi x.gp x.vl x.sa x.bo x.ma x.qu x.X x.F x.po x.pd x.pa x.pb x.pm x.wh x.wd x.fr x.sp x.dn x.XA x.XB (x.nx.toNatClampNeg)) (kv_R_goesOn_nx x.nx x.wi x.gp x.vl x.sa x.bo x.ma x.qu x.X x.F x.po x.pd x.pa x.pb x.pn x.pm x.wh x.wd x.fr x.sp x.dn x.XA x.XB (x.nx.toNatClampNeg)) (kv_R_goesOn_wi x.nx x.wi x.ma x.qu x.po x.pn (x.nx.toNatClampNeg)) (kv_R_goesOn_gp x.nx x.gp x.ma x.qu x.po x.pn (x.nx.toNatClampNeg)) (kv_R_goesOn_vl x.nx x.wi x.gp x.vl x.sa x.bo x.ma x.qu x.X x.F x.po x.pd x.pa x.pb x.pn x.pm x.wh x.wd x.fr x.sp x.dn x.XA x.XB (x.nx.toNatClampNeg)) (kv_R_goesOn_sa x.nx x.wi x.gp x.vl x.sa x.bo x.ma x.qu x.X x.F x.po x.pd x.pa x.pb x.pm x.wh x.wd x.fr x.sp x.dn x.XA x.XB (x.nx.toNatClampNeg)) (kv_R_goesOn_bo x.nx x.bo x.ma x.qu x.X x.po x.pa (x.nx.toNatClampNeg)) x.cy x.sd x.ma (kv_R_goesOn_qu x.nx x.wi x.gp x.vl x.sa x.bo x.ma x.qu x.X x.F x.po x.pd x.pa x.pb x.pm x.wh x.wd x.fr x.sp x.dn x.XA x.XB (x.nx.toNatClampNeg)) (kv_R_goesOn_X x.nx x.wi x.ma x.qu x.X x.F x.po x.pd x.pa x.pb x.pn (x.nx.toNatClampNeg)) x.F x.M x.po x.pd x.pa x.pb x.pn x.pm (kv_R_goesOn_wh x.nx x.wi x.gp x.ma x.qu x.po x.pd x.pa x.pb x.pm x.wh x.wd x.fr x.sp x.dn (x.nx.toNatClampNeg)) (kv_R_goesOn_wd x.nx x.wi x.gp x.ma x.qu x.po x.pd x.pa x.pb x.pm x.wh x.wd x.fr x.sp x.dn (x.nx.toNatClampNeg)) (kv_R_goesOn_rg x.nx x.wi x.gp x.ma x.qu x.po x.pd x.pa x.pb x.pm x.wh x.wd x.rg x.fr x.sp x.dn (x.nx.toNatClampNeg)) (kv_R_goesOn_fr x.nx x.wi x.gp x.sa x.ma x.qu x.po x.pd x.pa x.pb x.pm x.wh x.wd x.fr x.sp x.dn (x.nx.toNatClampNeg)) (kv_R_goesOn_sp x.nx x.wi x.gp x.vl x.sa x.bo x.ma x.qu x.X x.F x.po x.pd x.pa x.pb x.pm x.wh x.wd x.fr x.sp x.dn x.XA x.XB (x.nx.toNatClampNeg)) (kv_R_goesOn_dn x.nx x.wi x.gp x.ma x.qu x.po x.pd x.pa x.pb x.pm x.wh x.wd x.fr x.sp x.dn (x.nx.toNatClampNeg)) (kv_R_goesOn_bf x.nx x.wi x.gp x.ma x.qu x.po x.pd x.pa x.pb x.pm x.wh x.wd x.fr x.sp x.dn x.bf (x.nx.toNatClampNeg)) (kv_R_goesOn_XA x.nx x.wi x.gp x.vl x.ma x.qu x.X x.po x.pd x.pa x.pb x.pm x.wh x.wd x.fr x.sp x.dn x.XA (x.nx.toNatClampNeg)) (kv_R_goesOn_XB x.nx x.wi x.gp x.ma x.qu x.X x.po x.pd x.pa x.pb x.pm x.wh x.wd x.fr x.sp x.dn x.XB (x.nx.toNatClampNeg))
def kq_goesOnN (x : kRS) : Prop := x.ma ≤ 40 ∧ 0 < x.gp ∧ x.gp < 5 ∧ x.qu ≤ 4 ∧ x.wi ≤ 4 ∧ x.sa ≤ x.vl ∧ x.vl ≤ 64 ∧ (∀ b, b < x.qu → x.wh b < 40 ∧ x.dn b ≤ x.sp b ∧ x.sp b < 2 ^ 20) ∧ kN x.nx x.wi x.gp x.vl x.ma x.po x.pd x.pa x.pb x.pn x.pm
theorem c_Q_goesOn (l : Launch) {D : va_G} {ad : Nat → Nat} {n : Nat} {cs : Nat → va_E} (hJ : kw_J ad n) {cI cZ : ClassId} {x : kRS} (hn : 19 ≤ n) (hQ : kRof ad cI cZ cs x) (hN : kq_goesOnN x) : kw_mv l y_R_goesOn w_R_goesOn (kr 5) D kc (ktR cI cZ) ad n cs [.ref (ad 0)] (fun c9 => kRof ad cI cZ c9 (kq_goesOn x)) := by
  obtain ⟨h1, h2, h3, h4, h5, h6, h7, h8, h9⟩ := hN
  exact c_R_goesOn l hJ hn hQ h1 h2 h3 h4 h5 h6 h7 h8 h9
/-- a cycle, ahead of the going on -/
def kq_half (x : kRS) : kRS := kq_leaves (kq_units (kq_cy x (x.cy + 1)))
def kq_step (x : kRS) : kRS := if nI (kq_half x).st = 0 then kq_goesOn (kq_half x) else kq_half x
def kq_it : Nat → kRS → kRS
  | 0, x => x
  | k + 1, x => kq_it k (kq_step x)
/-- what a cycle needs -/
def kq_N (x : kRS) : Prop := kq_unitsN (kq_cy x (x.cy + 1)) ∧ kq_leavesN (kq_units (kq_cy x (x.cy + 1))) ∧ (nI (kq_half x).st = 0 → kq_goesOnN (kq_half x)) ∧ x.th = 0
theorem kq_step_p {x : kRS} (h : nI (kq_half x).st = 0) : kq_step x = kq_goesOn (kq_half x) := if_pos h
theorem kq_step_n {x : kRS} (h : ¬ nI (kq_half x).st = 0) : kq_step x = kq_half x := if_neg h

def kv_R_cycles_x (x : kRS) (co : Int32) (C : Nat) : kRS := if co < 1 then (kq_th x 1) else if co ≤ 200 then (kq_it C (kq_th x 0)) else (kq_th x 1)
def kv_R_cycles (x : kRS) (co : Int32) (C : Nat) : Int32 := if co < 1 then (if co ≤ 0 then x.cy else x.cy) else if co ≤ 200 then ((kq_it C (kq_th x 0)).cy) else if co ≤ 0 then x.cy else x.cy
set_option maxRecDepth 100000 in
set_option maxHeartbeats 4000000 in
theorem c_R_cycles (l : Launch) {D : va_G} {ad : Nat → Nat} {n : Nat} {cs : Nat → va_E} (hJ : kw_J ad n) {cI : ClassId} {cZ : ClassId} {x : kRS} {co : Int32} (hn : 19 ≤ n) (hQ : kRof ad cI cZ cs x) {Jc : kRS → Prop} (hJc : Jc (kq_th x 0)) (hC : ∀ y, Jc y → kq_N y ∧ Jc (kq_step y)) : kw_mi l y_R_cycles w_R_cycles (kr 6) D kc (ktR cI cZ) ad n cs [.ref (ad 0), .int co] (fun r9 c9 => r9 = kv_R_cycles x co (co.toNatClampNeg) ∧ kRof ad cI cZ c9 (kv_R_cycles_x x co (co.toNatClampNeg))) := by
  refine kw_of (cc := b_R_cycles) (maxL := 3) (ret := (some .int)) (by decide) rfl (Nat.le_of_ble_eq_true rfl) ?_
  intro p e s m below meth c ls hx hb hr hml hown hts hlocks hP hK hl
  have hg : ∀ w9 ∈ kg_G, w9.before [.ref (ad 0), .int co].toArray s = true := fun w9 h9 => hts w9 (List.mem_cons_of_mem _ h9)
  have hown : s.vm.findClass "LaneMachineModel" = some m.cls := hown
  have hA : ∀ k, k < n → kw_A ad n (ad k) := fun k hk => ⟨k, hk, rfl⟩
  have hS : va_S (kw_A ad n) s.heap s.heap [] := va_S.rf
  have hl : lv_has ls 3 [(0, .ref (ad 0)), (1, .int co)] := hl
  obtain ⟨e0, e1, e2, e3, e4, e5, e6, e7, e8, e9, e10, e11, e12, e13, e14, e15, e16, e17, e18⟩ := hQ
  generalize hk0 : co.toNatClampNeg = C
  refine lv_aload_n hx hb d_R_cycles_0 rfl (lv_at hl 0 rfl) ?_
  refine lv_iload_n hx hb d_R_cycles_1 rfl (lv_at hl 1 rfl) ?_
  refine lv_iconst (v := 1) hx hb d_R_cycles_2 (by decide) ?_
  refine lv_icmp_lt (tgt := 13) hx hb d_R_cycles_3 (by decide) (fun h1 => ?_) (fun h1 => ?_)
  · refine lv_iconst (v := 1) hx hb d_R_cycles_13 (by decide) ?_
    refine lv_goto (tgt := 18) hx hb d_R_cycles_14 (by decide) ?_
    refine kw_put (ty := .int) hx hb hg in_R t_R ty_R nm_R hown hK hP hJ hA hS 0 (Nat.lt_of_lt_of_le (by decide : 0 < 19) hn) e0 rfl 1 (by decide) (hg _ kg_584) rfl rfl (by decide +kernel) rfl rfl (Nat.le_of_ble_eq_true rfl) d_R_cycles_18 (fun H locs hP hS => ?_)
    obtain ⟨cs1, hccs1⟩ : ∃ z9, z9 = va_up cs 0 (.inr (5, [.int (nI x.la), .int 1, .int (nI x.st), .int x.nx, .int (nI x.wi), .int (nI x.gp), .int (nI x.vl), .int (nI x.sa), .int (nI x.bo), .int x.cy, .int x.sd, .ref (ad 1), .ref (ad 2), .ref (ad 3), .int (nI x.ma), .ref (ad 4), .ref (ad 5), .ref (ad 6), .ref (ad 7), .ref (ad 8), .ref (ad 9), .int (nI x.qu), .ref (ad 10), .ref (ad 11), .ref (ad 12), .ref (ad 13), .ref (ad 14), .ref (ad 15), .ref (ad 16), .ref (ad 17), .ref (ad 18)])) := ⟨_, rfl⟩
    replace hP : va_P D kc (kw_w ad cs1 n) H := by rw [hccs1]; exact hP
    have e0 : cs1 0 = .inr (5, [.int (nI x.la), .int 1, .int (nI x.st), .int x.nx, .int (nI x.wi), .int (nI x.gp), .int (nI x.vl), .int (nI x.sa), .int (nI x.bo), .int x.cy, .int x.sd, .ref (ad 1), .ref (ad 2), .ref (ad 3), .int (nI x.ma), .ref (ad 4), .ref (ad 5), .ref (ad 6), .ref (ad 7), .ref (ad 8), .ref (ad 9), .int (nI x.qu), .ref (ad 10), .ref (ad 11), .ref (ad 12), .ref (ad 13), .ref (ad 14), .ref (ad 15), .ref (ad 16), .ref (ad 17), .ref (ad 18)]) := by rw [hccs1]; exact va_up_self _ _ _
    replace e1 := (congrFun hccs1 1).trans ((va_up_ne _ _ (by decide)).trans e1)
    replace e2 := (congrFun hccs1 2).trans ((va_up_ne _ _ (by decide)).trans e2)
    replace e3 := (congrFun hccs1 3).trans ((va_up_ne _ _ (by decide)).trans e3)
    replace e4 := (congrFun hccs1 4).trans ((va_up_ne _ _ (by decide)).trans e4)
    replace e5 := (congrFun hccs1 5).trans ((va_up_ne _ _ (by decide)).trans e5)
    replace e6 := (congrFun hccs1 6).trans ((va_up_ne _ _ (by decide)).trans e6)
    replace e7 := (congrFun hccs1 7).trans ((va_up_ne _ _ (by decide)).trans e7)
    replace e8 := (congrFun hccs1 8).trans ((va_up_ne _ _ (by decide)).trans e8)
    replace e9 := (congrFun hccs1 9).trans ((va_up_ne _ _ (by decide)).trans e9)
    replace e10 := (congrFun hccs1 10).trans ((va_up_ne _ _ (by decide)).trans e10)
    replace e11 := (congrFun hccs1 11).trans ((va_up_ne _ _ (by decide)).trans e11)
    replace e12 := (congrFun hccs1 12).trans ((va_up_ne _ _ (by decide)).trans e12)
    replace e13 := (congrFun hccs1 13).trans ((va_up_ne _ _ (by decide)).trans e13)
    replace e14 := (congrFun hccs1 14).trans ((va_up_ne _ _ (by decide)).trans e14)
    replace e15 := (congrFun hccs1 15).trans ((va_up_ne _ _ (by decide)).trans e15)
    replace e16 := (congrFun hccs1 16).trans ((va_up_ne _ _ (by decide)).trans e16)
    replace e17 := (congrFun hccs1 17).trans ((va_up_ne _ _ (by decide)).trans e17)
    replace e18 := (congrFun hccs1 18).trans ((va_up_ne _ _ (by decide)).trans e18)
    clear hccs1
    refine lv_iconst (v := 0) hx hb d_R_cycles_21 (by decide) ?_
    refine lv_istore_n (lv' := [(2, .int 0), (0, .ref (ad 0)), (1, .int co)]) hx hb d_R_cycles_22 rfl hl (by decide) rfl (fun ls hl => ?_)
    refine lv_iload_n hx hb d_R_cycles_23 rfl (lv_at hl 0 rfl) ?_
    refine lv_iload_n hx hb d_R_cycles_24 rfl (lv_at hl 2 rfl) ?_
    refine lv_icmp_ge (tgt := 70) hx hb d_R_cycles_25 (by decide) (fun h2 => ?_) (fun h2 => ?_)
    · refine lv_aload_n hx hb d_R_cycles_70 rfl (lv_at hl 1 rfl) ?_
      refine kw_get hx hb hg in_R hown hK hP 0 (Nat.lt_of_lt_of_le (by decide : 0 < 19) hn) e0 rfl 9 (by decide) (hg _ kg_592) rfl rfl d_R_cycles_71 ?_
      exact kw_iret hx hb hr hlocks hP hK hS ⟨by rw [kv_R_cycles, if_pos h1, if_pos h2], (by rw [show kv_R_cycles_x x co C = kq_th x 1 from (by rw [kv_R_cycles_x, if_pos h1])]; exact ⟨e0, e1, e2, e3, e4, e5, e6, e7, e8, e9, e10, e11, e12, e13, e14, e15, e16, e17, e18⟩)⟩ d_R_cycles_74
    · refine lv_aload_n hx hb d_R_cycles_28 rfl (lv_at hl 1 rfl) ?_
      refine kw_get hx hb hg in_R hown hK hP 0 (Nat.lt_of_lt_of_le (by decide : 0 < 19) hn) e0 rfl 1 (by decide) (hg _ kg_584) rfl rfl d_R_cycles_29 ?_
      refine lv_if_ne (tgt := 70) hx hb d_R_cycles_32 (by decide) (fun _ => ?_) (fun h3 => absurd h3 (by decide))
      refine lv_aload_n hx hb d_R_cycles_70 rfl (lv_at hl 1 rfl) ?_
      refine kw_get hx hb hg in_R hown hK hP 0 (Nat.lt_of_lt_of_le (by decide : 0 < 19) hn) e0 rfl 9 (by decide) (hg _ kg_592) rfl rfl d_R_cycles_71 ?_
      exact kw_iret hx hb hr hlocks hP hK hS ⟨by rw [kv_R_cycles, if_pos h1, if_neg h2], (by rw [show kv_R_cycles_x x co C = kq_th x 1 from (by rw [kv_R_cycles_x, if_pos h1])]; exact ⟨e0, e1, e2, e3, e4, e5, e6, e7, e8, e9, e10, e11, e12, e13, e14, e15, e16, e17, e18⟩)⟩ d_R_cycles_74
  · refine lv_iload_n hx hb d_R_cycles_6 rfl (lv_at hl 1 rfl) ?_
    refine lv_sipush (v := 200) hx hb d_R_cycles_7 (by decide) ?_
    refine lv_icmp_le (tgt := 17) hx hb d_R_cycles_10 (by decide) (fun h4 => ?_) (fun h4 => ?_)
    · refine lv_iconst (v := 0) hx hb d_R_cycles_17 (by decide) ?_
      refine kw_put (ty := .int) hx hb hg in_R t_R ty_R nm_R hown hK hP hJ hA hS 0 (Nat.lt_of_lt_of_le (by decide : 0 < 19) hn) e0 rfl 1 (by decide) (hg _ kg_584) rfl rfl (by decide +kernel) rfl rfl (Nat.le_of_ble_eq_true rfl) d_R_cycles_18 (fun H locs hP hS => ?_)
      obtain ⟨cs2, hccs2⟩ : ∃ z9, z9 = va_up cs 0 (.inr (5, [.int (nI x.la), .int 0, .int (nI x.st), .int x.nx, .int (nI x.wi), .int (nI x.gp), .int (nI x.vl), .int (nI x.sa), .int (nI x.bo), .int x.cy, .int x.sd, .ref (ad 1), .ref (ad 2), .ref (ad 3), .int (nI x.ma), .ref (ad 4), .ref (ad 5), .ref (ad 6), .ref (ad 7), .ref (ad 8), .ref (ad 9), .int (nI x.qu), .ref (ad 10), .ref (ad 11), .ref (ad 12), .ref (ad 13), .ref (ad 14), .ref (ad 15), .ref (ad 16), .ref (ad 17), .ref (ad 18)])) := ⟨_, rfl⟩
      replace hP : va_P D kc (kw_w ad cs2 n) H := by rw [hccs2]; exact hP
      have e0 : cs2 0 = .inr (5, [.int (nI x.la), .int 0, .int (nI x.st), .int x.nx, .int (nI x.wi), .int (nI x.gp), .int (nI x.vl), .int (nI x.sa), .int (nI x.bo), .int x.cy, .int x.sd, .ref (ad 1), .ref (ad 2), .ref (ad 3), .int (nI x.ma), .ref (ad 4), .ref (ad 5), .ref (ad 6), .ref (ad 7), .ref (ad 8), .ref (ad 9), .int (nI x.qu), .ref (ad 10), .ref (ad 11), .ref (ad 12), .ref (ad 13), .ref (ad 14), .ref (ad 15), .ref (ad 16), .ref (ad 17), .ref (ad 18)]) := by rw [hccs2]; exact va_up_self _ _ _
      replace e1 := (congrFun hccs2 1).trans ((va_up_ne _ _ (by decide)).trans e1)
      replace e2 := (congrFun hccs2 2).trans ((va_up_ne _ _ (by decide)).trans e2)
      replace e3 := (congrFun hccs2 3).trans ((va_up_ne _ _ (by decide)).trans e3)
      replace e4 := (congrFun hccs2 4).trans ((va_up_ne _ _ (by decide)).trans e4)
      replace e5 := (congrFun hccs2 5).trans ((va_up_ne _ _ (by decide)).trans e5)
      replace e6 := (congrFun hccs2 6).trans ((va_up_ne _ _ (by decide)).trans e6)
      replace e7 := (congrFun hccs2 7).trans ((va_up_ne _ _ (by decide)).trans e7)
      replace e8 := (congrFun hccs2 8).trans ((va_up_ne _ _ (by decide)).trans e8)
      replace e9 := (congrFun hccs2 9).trans ((va_up_ne _ _ (by decide)).trans e9)
      replace e10 := (congrFun hccs2 10).trans ((va_up_ne _ _ (by decide)).trans e10)
      replace e11 := (congrFun hccs2 11).trans ((va_up_ne _ _ (by decide)).trans e11)
      replace e12 := (congrFun hccs2 12).trans ((va_up_ne _ _ (by decide)).trans e12)
      replace e13 := (congrFun hccs2 13).trans ((va_up_ne _ _ (by decide)).trans e13)
      replace e14 := (congrFun hccs2 14).trans ((va_up_ne _ _ (by decide)).trans e14)
      replace e15 := (congrFun hccs2 15).trans ((va_up_ne _ _ (by decide)).trans e15)
      replace e16 := (congrFun hccs2 16).trans ((va_up_ne _ _ (by decide)).trans e16)
      replace e17 := (congrFun hccs2 17).trans ((va_up_ne _ _ (by decide)).trans e17)
      replace e18 := (congrFun hccs2 18).trans ((va_up_ne _ _ (by decide)).trans e18)
      clear hccs2
      refine lv_iconst (v := 0) hx hb d_R_cycles_21 (by decide) ?_
      refine lv_istore_n (lv' := [(2, .int 0), (0, .ref (ad 0)), (1, .int co)]) hx hb d_R_cycles_22 rfl hl (by decide) rfl (fun ls hl => ?_)
      have hco : co = nI C := by obtain ⟨j9, hj9, hz9⟩ := nI_of (fun z9 => h1 (Int32.lt_trans z9 (by decide))); rw [← hk0, hz9, nI_clamp hj9]
      have hC31 : C < 2 ^ 31 := by obtain ⟨j9, hj9, hz9⟩ := nI_of (fun z9 => h1 (Int32.lt_trans z9 (by decide))); rw [← hk0, hz9, nI_clamp hj9]; omega
      rw [hco] at hl
      have KXc : ∀ (csL : Nat → va_E) (H : Heap) (locs : List Loc) (ls : Array Slot), kRof ad cI cZ csL (kq_it C (kq_th x 0)) → va_P D kc (kw_w ad csL n) H → va_S (kw_A ad n) s.heap H locs → lv_has ls 3 [(0, .ref (ad 0))] → W p l e (kr 6) s m [.ref (ad 0), .int co].toArray below meth c H locs 0 0 (MQ below (va_Qi (fun r9 c9 => r9 = kv_R_cycles x co C ∧ kRof ad cI cZ c9 (kv_R_cycles_x x co C)) (kw_Pre D kc (ktR cI cZ) ad n) (kw_A ad n)) [.ref (ad 0), .int co].toArray s 0 0 (kw_A ad n)) (F0 m 70 ls []) := by
        intro csL H locs ls hR9 hP hS hl
        obtain ⟨e0, e1, e2, e3, e4, e5, e6, e7, e8, e9, e10, e11, e12, e13, e14, e15, e16, e17, e18⟩ := hR9
        refine lv_aload_n hx hb d_R_cycles_70 rfl (lv_at hl 0 rfl) ?_
        refine kw_get hx hb hg in_R hown hK hP 0 (Nat.lt_of_lt_of_le (by decide : 0 < 19) hn) e0 rfl 9 (by decide) (hg _ kg_592) rfl rfl d_R_cycles_71 ?_
        exact kw_iret hx hb hr hlocks hP hK hS ⟨by rw [kv_R_cycles, if_neg h1, if_pos h4], (by rw [show kv_R_cycles_x x co C = kq_it C (kq_th x 0) from (by rw [kv_R_cycles_x, if_neg h1, if_pos h4])]; exact ⟨e0, e1, e2, e3, e4, e5, e6, e7, e8, e9, e10, e11, e12, e13, e14, e15, e16, e17, e18⟩)⟩ d_R_cycles_74
      have loopc : ∀ (kk : Nat) (csL : Nat → va_E) (ci : Nat) (y : kRS) (H : Heap) (locs : List Loc) (ls : Array Slot), ci + kk = C → Jc y → kq_it C (kq_th x 0) = kq_it kk y → kRof ad cI cZ csL y → va_P D kc (kw_w ad csL n) H → va_S (kw_A ad n) s.heap H locs → lv_has ls 3 [(2, .int (nI ci)), (1, .int (nI C)), (0, .ref (ad 0))] → W p l e (kr 6) s m [.ref (ad 0), .int co].toArray below meth c H locs 0 0 (MQ below (va_Qi (fun r9 c9 => r9 = kv_R_cycles x co C ∧ kRof ad cI cZ c9 (kv_R_cycles_x x co C)) (kw_Pre D kc (ktR cI cZ) ad n) (kw_A ad n)) [.ref (ad 0), .int co].toArray s 0 0 (kw_A ad n)) (F0 m 23 ls []) := by
        intro kk
        induction kk with
        | zero =>
          intro csL ci y H locs ls hck hJ1 hv hR9 hP hS hl
          obtain ⟨e0, e1, e2, e3, e4, e5, e6, e7, e8, e9, e10, e11, e12, e13, e14, e15, e16, e17, e18⟩ := hR9
          refine lv_iload_n hx hb d_R_cycles_23 rfl (lv_at hl 0 rfl) ?_
          refine lv_iload_n hx hb d_R_cycles_24 rfl (lv_at hl 1 rfl) ?_
          refine lv_icmp_ge (tgt := 70) hx hb d_R_cycles_25 (by decide) (fun _ => ?_) (fun h5 => absurd (nI_le (by omega) (by omega)) h5)
          exact KXc _ _ _ _ (by rw [show kq_it C (kq_th x 0) = y from hv]; exact ⟨e0, e1, e2, e3, e4, e5, e6, e7, e8, e9, e10, e11, e12, e13, e14, e15, e16, e17, e18⟩) hP hS (by (first | (rw [show kq_it C (kq_th x 0) = y from hv]) | skip); exact lv_sub hl [2] rfl)
        | succ j ihc =>
          intro csL ci y H locs ls hck hJ1 hv hR9 hP hS hl
          obtain ⟨e0, e1, e2, e3, e4, e5, e6, e7, e8, e9, e10, e11, e12, e13, e14, e15, e16, e17, e18⟩ := hR9
          obtain ⟨hN1, hN2, hN3, hN4⟩ := (hC y hJ1).1
          refine lv_iload_n hx hb d_R_cycles_23 rfl (lv_at hl 0 rfl) ?_
          refine lv_iload_n hx hb d_R_cycles_24 rfl (lv_at hl 1 rfl) ?_
          refine lv_icmp_ge (tgt := 70) hx hb d_R_cycles_25 (by decide) (fun h6 => absurd h6 (nI_ge (by omega) (by omega))) (fun _ => ?_)
          refine lv_aload_n hx hb d_R_cycles_28 rfl (lv_at hl 2 rfl) ?_
          refine kw_get hx hb hg in_R hown hK hP 0 (Nat.lt_of_lt_of_le (by decide : 0 < 19) hn) e0 rfl 1 (by decide) (hg _ kg_584) rfl rfl d_R_cycles_29 ?_
          refine lv_if_ne (tgt := 70) hx hb d_R_cycles_32 (by decide) (fun h7 => absurd (hN4) h7) (fun _ => ?_)
          refine lv_aload_n hx hb d_R_cycles_35 rfl (lv_at hl 2 rfl) ?_
          refine lv_dup hx hb d_R_cycles_36 rfl ?_
          refine kw_get hx hb hg in_R hown hK hP 0 (Nat.lt_of_lt_of_le (by decide : 0 < 19) hn) e0 rfl 9 (by decide) (hg _ kg_592) rfl rfl d_R_cycles_37 ?_
          refine lv_iconst (v := 1) hx hb d_R_cycles_40 (by decide) ?_
          refine lv_iadd hx hb d_R_cycles_41 ?_
          refine kw_put (ty := .int) hx hb hg in_R t_R ty_R nm_R hown hK hP hJ hA hS 0 (Nat.lt_of_lt_of_le (by decide : 0 < 19) hn) e0 rfl 9 (by decide) (hg _ kg_592) rfl rfl (by decide +kernel) rfl rfl (Nat.le_of_ble_eq_true rfl) d_R_cycles_42 (fun H locs hP hS => ?_)
          obtain ⟨cs3, hccs3⟩ : ∃ z9, z9 = va_up csL 0 (.inr (5, [.int (nI y.la), .int y.th, .int (nI y.st), .int y.nx, .int (nI y.wi), .int (nI y.gp), .int (nI y.vl), .int (nI y.sa), .int (nI y.bo), .int (y.cy + 1), .int y.sd, .ref (ad 1), .ref (ad 2), .ref (ad 3), .int (nI y.ma), .ref (ad 4), .ref (ad 5), .ref (ad 6), .ref (ad 7), .ref (ad 8), .ref (ad 9), .int (nI y.qu), .ref (ad 10), .ref (ad 11), .ref (ad 12), .ref (ad 13), .ref (ad 14), .ref (ad 15), .ref (ad 16), .ref (ad 17), .ref (ad 18)])) := ⟨_, rfl⟩
          replace hP : va_P D kc (kw_w ad cs3 n) H := by rw [hccs3]; exact hP
          have e0 : cs3 0 = .inr (5, [.int (nI y.la), .int y.th, .int (nI y.st), .int y.nx, .int (nI y.wi), .int (nI y.gp), .int (nI y.vl), .int (nI y.sa), .int (nI y.bo), .int (y.cy + 1), .int y.sd, .ref (ad 1), .ref (ad 2), .ref (ad 3), .int (nI y.ma), .ref (ad 4), .ref (ad 5), .ref (ad 6), .ref (ad 7), .ref (ad 8), .ref (ad 9), .int (nI y.qu), .ref (ad 10), .ref (ad 11), .ref (ad 12), .ref (ad 13), .ref (ad 14), .ref (ad 15), .ref (ad 16), .ref (ad 17), .ref (ad 18)]) := by rw [hccs3]; exact va_up_self _ _ _
          replace e1 := (congrFun hccs3 1).trans ((va_up_ne _ _ (by decide)).trans e1)
          replace e2 := (congrFun hccs3 2).trans ((va_up_ne _ _ (by decide)).trans e2)
          replace e3 := (congrFun hccs3 3).trans ((va_up_ne _ _ (by decide)).trans e3)
          replace e4 := (congrFun hccs3 4).trans ((va_up_ne _ _ (by decide)).trans e4)
          replace e5 := (congrFun hccs3 5).trans ((va_up_ne _ _ (by decide)).trans e5)
          replace e6 := (congrFun hccs3 6).trans ((va_up_ne _ _ (by decide)).trans e6)
          replace e7 := (congrFun hccs3 7).trans ((va_up_ne _ _ (by decide)).trans e7)
          replace e8 := (congrFun hccs3 8).trans ((va_up_ne _ _ (by decide)).trans e8)
          replace e9 := (congrFun hccs3 9).trans ((va_up_ne _ _ (by decide)).trans e9)
          replace e10 := (congrFun hccs3 10).trans ((va_up_ne _ _ (by decide)).trans e10)
          replace e11 := (congrFun hccs3 11).trans ((va_up_ne _ _ (by decide)).trans e11)
          replace e12 := (congrFun hccs3 12).trans ((va_up_ne _ _ (by decide)).trans e12)
          replace e13 := (congrFun hccs3 13).trans ((va_up_ne _ _ (by decide)).trans e13)
          replace e14 := (congrFun hccs3 14).trans ((va_up_ne _ _ (by decide)).trans e14)
          replace e15 := (congrFun hccs3 15).trans ((va_up_ne _ _ (by decide)).trans e15)
          replace e16 := (congrFun hccs3 16).trans ((va_up_ne _ _ (by decide)).trans e16)
          replace e17 := (congrFun hccs3 17).trans ((va_up_ne _ _ (by decide)).trans e17)
          replace e18 := (congrFun hccs3 18).trans ((va_up_ne _ _ (by decide)).trans e18)
          clear hccs3
          refine lv_aload_n hx hb d_R_cycles_45 rfl (lv_at hl 2 rfl) ?_
          refine kw_callv (kw_rV (As := []) (rest := []) (q0 := 0) ⟨hx, hb, hml, hown, hg⟩ ⟨callB_of 0 hg (kg_goodG kg_689) rfl rfl rfl (hg _ kg_7) (hg _ kg_686) (by decide +kernel) ⟨by decide, by decide⟩, hg _ kg_688, hg _ (kg_sel (q := (y_R_units, 31)) (by decide +kernel))⟩ (c_Q_units l hJ hn ⟨e0, e1, e2, e3, e4, e5, e6, e7, e8, e9, e10, e11, e12, e13, e14, e15, e16, e17, e18⟩ hN1  (x := kq_cy y (y.cy + 1))) hK hP (Nat.lt_of_lt_of_le (by decide : 0 < 19) hn) e0 rfl rfl hl.1 rfl (Nat.le_of_ble_eq_true rfl) d_R_cycles_46 ⟨Nat.zero_le _, Nat.zero_le _⟩) hA hS (fun cs4 H locs hp hP hS => ?_)
          obtain ⟨e0, e1, e2, e3, e4, e5, e6, e7, e8, e9, e10, e11, e12, e13, e14, e15, e16, e17, e18⟩ := hp
          refine lv_aload_n hx hb d_R_cycles_49 rfl (lv_at hl 2 rfl) ?_
          refine kw_callv (kw_rV (As := []) (rest := []) (q0 := 0) ⟨hx, hb, hml, hown, hg⟩ ⟨callB_of 0 hg (kg_goodG kg_761) rfl rfl rfl (hg _ kg_7) (hg _ kg_758) (by decide +kernel) ⟨by decide, by decide⟩, hg _ kg_760, hg _ (kg_sel (q := (y_R_leaves, 31)) (by decide +kernel))⟩ (c_Q_leaves l hJ hn ⟨e0, e1, e2, e3, e4, e5, e6, e7, e8, e9, e10, e11, e12, e13, e14, e15, e16, e17, e18⟩ hN2  (x := kq_units (kq_cy y (y.cy + 1)))) hK hP (Nat.lt_of_lt_of_le (by decide : 0 < 19) hn) e0 rfl rfl hl.1 rfl (Nat.le_of_ble_eq_true rfl) d_R_cycles_50 ⟨Nat.zero_le _, Nat.zero_le _⟩) hA hS (fun cs5 H locs hp hP hS => ?_)
          obtain ⟨e0, e1, e2, e3, e4, e5, e6, e7, e8, e9, e10, e11, e12, e13, e14, e15, e16, e17, e18⟩ := hp
          refine lv_aload_n hx hb d_R_cycles_53 rfl (lv_at hl 2 rfl) ?_
          refine kw_get hx hb hg in_R hown hK hP 0 (Nat.lt_of_lt_of_le (by decide : 0 < 19) hn) e0 rfl 2 (by decide) (hg _ kg_585) rfl rfl d_R_cycles_54 ?_
          refine lv_if_ne (tgt := 64) hx hb d_R_cycles_57 (by decide) (fun h8 => ?_) (fun h8 => ?_)
          · refine lv_iinc (k := 0) (v := nI (ci + 1)) (lv' := [(2, .int (nI (ci + 1))), (1, .int (nI C)), (0, .ref (ad 0))]) hx hb d_R_cycles_64 hl rfl ((nI_succ ci).symm) (by decide) rfl (fun ls hl => ?_)
            refine lv_goto (tgt := 23) hx hb d_R_cycles_67 (by decide) ?_
            exact ihc _ ((ci + 1)) _ _ _ _ (by omega) (by have z9 := (hC y hJ1).2; rw [kq_step_n h8] at z9; exact z9) (by rw [hv, kq_it, kq_step_n h8]; rfl) ⟨e0, e1, e2, e3, e4, e5, e6, e7, e8, e9, e10, e11, e12, e13, e14, e15, e16, e17, e18⟩ hP hS (lv_sub hl [0, 1, 2] rfl)
          · refine lv_aload_n hx hb d_R_cycles_60 rfl (lv_at hl 2 rfl) ?_
            refine kw_callv (kw_rV (As := []) (rest := []) (q0 := 0) ⟨hx, hb, hml, hown, hg⟩ ⟨callB_of 0 hg (kg_goodG kg_765) rfl rfl rfl (hg _ kg_7) (hg _ kg_762) (by decide +kernel) ⟨by decide, by decide⟩, hg _ kg_764, hg _ (kg_sel (q := (y_R_goesOn, 31)) (by decide +kernel))⟩ (c_Q_goesOn l hJ hn ⟨e0, e1, e2, e3, e4, e5, e6, e7, e8, e9, e10, e11, e12, e13, e14, e15, e16, e17, e18⟩ (hN3 h8)  (x := kq_leaves (kq_units (kq_cy y (y.cy + 1))))) hK hP (Nat.lt_of_lt_of_le (by decide : 0 < 19) hn) e0 rfl rfl hl.1 rfl (Nat.le_of_ble_eq_true rfl) d_R_cycles_61 ⟨Nat.zero_le _, Nat.zero_le _⟩) hA hS (fun cs6 H locs hp hP hS => ?_)
            obtain ⟨e0, e1, e2, e3, e4, e5, e6, e7, e8, e9, e10, e11, e12, e13, e14, e15, e16, e17, e18⟩ := hp
            refine lv_iinc (k := 0) (v := nI (ci + 1)) (lv' := [(2, .int (nI (ci + 1))), (1, .int (nI C)), (0, .ref (ad 0))]) hx hb d_R_cycles_64 hl rfl ((nI_succ ci).symm) (by decide) rfl (fun ls hl => ?_)
            refine lv_goto (tgt := 23) hx hb d_R_cycles_67 (by decide) ?_
            exact ihc _ ((ci + 1)) _ _ _ _ (by omega) (by have z9 := (hC y hJ1).2; rw [kq_step_p h8] at z9; exact z9) (by rw [hv, kq_it, kq_step_p h8]; rfl) ⟨e0, e1, e2, e3, e4, e5, e6, e7, e8, e9, e10, e11, e12, e13, e14, e15, e16, e17, e18⟩ hP hS (lv_sub hl [0, 1, 2] rfl)
      exact loopc C _ 0 ((kq_th x 0)) _ _ _ (by omega) (hJc) (rfl) ⟨e0, e1, e2, e3, e4, e5, e6, e7, e8, e9, e10, e11, e12, e13, e14, e15, e16, e17, e18⟩ hP hS (lv_sub hl [0, 2, 1] rfl)
    · refine lv_iconst (v := 1) hx hb d_R_cycles_13 (by decide) ?_
      refine lv_goto (tgt := 18) hx hb d_R_cycles_14 (by decide) ?_
      refine kw_put (ty := .int) hx hb hg in_R t_R ty_R nm_R hown hK hP hJ hA hS 0 (Nat.lt_of_lt_of_le (by decide : 0 < 19) hn) e0 rfl 1 (by decide) (hg _ kg_584) rfl rfl (by decide +kernel) rfl rfl (Nat.le_of_ble_eq_true rfl) d_R_cycles_18 (fun H locs hP hS => ?_)
      obtain ⟨cs7, hccs7⟩ : ∃ z9, z9 = va_up cs 0 (.inr (5, [.int (nI x.la), .int 1, .int (nI x.st), .int x.nx, .int (nI x.wi), .int (nI x.gp), .int (nI x.vl), .int (nI x.sa), .int (nI x.bo), .int x.cy, .int x.sd, .ref (ad 1), .ref (ad 2), .ref (ad 3), .int (nI x.ma), .ref (ad 4), .ref (ad 5), .ref (ad 6), .ref (ad 7), .ref (ad 8), .ref (ad 9), .int (nI x.qu), .ref (ad 10), .ref (ad 11), .ref (ad 12), .ref (ad 13), .ref (ad 14), .ref (ad 15), .ref (ad 16), .ref (ad 17), .ref (ad 18)])) := ⟨_, rfl⟩
      replace hP : va_P D kc (kw_w ad cs7 n) H := by rw [hccs7]; exact hP
      have e0 : cs7 0 = .inr (5, [.int (nI x.la), .int 1, .int (nI x.st), .int x.nx, .int (nI x.wi), .int (nI x.gp), .int (nI x.vl), .int (nI x.sa), .int (nI x.bo), .int x.cy, .int x.sd, .ref (ad 1), .ref (ad 2), .ref (ad 3), .int (nI x.ma), .ref (ad 4), .ref (ad 5), .ref (ad 6), .ref (ad 7), .ref (ad 8), .ref (ad 9), .int (nI x.qu), .ref (ad 10), .ref (ad 11), .ref (ad 12), .ref (ad 13), .ref (ad 14), .ref (ad 15), .ref (ad 16), .ref (ad 17), .ref (ad 18)]) := by rw [hccs7]; exact va_up_self _ _ _
      replace e1 := (congrFun hccs7 1).trans ((va_up_ne _ _ (by decide)).trans e1)
      replace e2 := (congrFun hccs7 2).trans ((va_up_ne _ _ (by decide)).trans e2)
      replace e3 := (congrFun hccs7 3).trans ((va_up_ne _ _ (by decide)).trans e3)
      replace e4 := (congrFun hccs7 4).trans ((va_up_ne _ _ (by decide)).trans e4)
      replace e5 := (congrFun hccs7 5).trans ((va_up_ne _ _ (by decide)).trans e5)
      replace e6 := (congrFun hccs7 6).trans ((va_up_ne _ _ (by decide)).trans e6)
      replace e7 := (congrFun hccs7 7).trans ((va_up_ne _ _ (by decide)).trans e7)
      replace e8 := (congrFun hccs7 8).trans ((va_up_ne _ _ (by decide)).trans e8)
      replace e9 := (congrFun hccs7 9).trans ((va_up_ne _ _ (by decide)).trans e9)
      replace e10 := (congrFun hccs7 10).trans ((va_up_ne _ _ (by decide)).trans e10)
      replace e11 := (congrFun hccs7 11).trans ((va_up_ne _ _ (by decide)).trans e11)
      replace e12 := (congrFun hccs7 12).trans ((va_up_ne _ _ (by decide)).trans e12)
      replace e13 := (congrFun hccs7 13).trans ((va_up_ne _ _ (by decide)).trans e13)
      replace e14 := (congrFun hccs7 14).trans ((va_up_ne _ _ (by decide)).trans e14)
      replace e15 := (congrFun hccs7 15).trans ((va_up_ne _ _ (by decide)).trans e15)
      replace e16 := (congrFun hccs7 16).trans ((va_up_ne _ _ (by decide)).trans e16)
      replace e17 := (congrFun hccs7 17).trans ((va_up_ne _ _ (by decide)).trans e17)
      replace e18 := (congrFun hccs7 18).trans ((va_up_ne _ _ (by decide)).trans e18)
      clear hccs7
      refine lv_iconst (v := 0) hx hb d_R_cycles_21 (by decide) ?_
      refine lv_istore_n (lv' := [(2, .int 0), (0, .ref (ad 0)), (1, .int co)]) hx hb d_R_cycles_22 rfl hl (by decide) rfl (fun ls hl => ?_)
      refine lv_iload_n hx hb d_R_cycles_23 rfl (lv_at hl 0 rfl) ?_
      refine lv_iload_n hx hb d_R_cycles_24 rfl (lv_at hl 2 rfl) ?_
      refine lv_icmp_ge (tgt := 70) hx hb d_R_cycles_25 (by decide) (fun h9 => ?_) (fun h9 => ?_)
      · refine lv_aload_n hx hb d_R_cycles_70 rfl (lv_at hl 1 rfl) ?_
        refine kw_get hx hb hg in_R hown hK hP 0 (Nat.lt_of_lt_of_le (by decide : 0 < 19) hn) e0 rfl 9 (by decide) (hg _ kg_592) rfl rfl d_R_cycles_71 ?_
        exact kw_iret hx hb hr hlocks hP hK hS ⟨by rw [kv_R_cycles, if_neg h1, if_neg h4, if_pos h9], (by rw [show kv_R_cycles_x x co C = kq_th x 1 from (by rw [kv_R_cycles_x, if_neg h1, if_neg h4])]; exact ⟨e0, e1, e2, e3, e4, e5, e6, e7, e8, e9, e10, e11, e12, e13, e14, e15, e16, e17, e18⟩)⟩ d_R_cycles_74
      · refine lv_aload_n hx hb d_R_cycles_28 rfl (lv_at hl 1 rfl) ?_
        refine kw_get hx hb hg in_R hown hK hP 0 (Nat.lt_of_lt_of_le (by decide : 0 < 19) hn) e0 rfl 1 (by decide) (hg _ kg_584) rfl rfl d_R_cycles_29 ?_
        refine lv_if_ne (tgt := 70) hx hb d_R_cycles_32 (by decide) (fun _ => ?_) (fun h10 => absurd h10 (by decide))
        refine lv_aload_n hx hb d_R_cycles_70 rfl (lv_at hl 1 rfl) ?_
        refine kw_get hx hb hg in_R hown hK hP 0 (Nat.lt_of_lt_of_le (by decide : 0 < 19) hn) e0 rfl 9 (by decide) (hg _ kg_592) rfl rfl d_R_cycles_71 ?_
        exact kw_iret hx hb hr hlocks hP hK hS ⟨by rw [kv_R_cycles, if_neg h1, if_neg h4, if_neg h9], (by rw [show kv_R_cycles_x x co C = kq_th x 1 from (by rw [kv_R_cycles_x, if_neg h1, if_neg h4])]; exact ⟨e0, e1, e2, e3, e4, e5, e6, e7, e8, e9, e10, e11, e12, e13, e14, e15, e16, e17, e18⟩)⟩ d_R_cycles_74
