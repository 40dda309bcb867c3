/-! reading rows of the branches -/
theorem kq_st_la (x : kRS) (v : Nat) : (kq_st x v).la = x.la := Eq.trans rfl rfl
theorem kq_st_th (x : kRS) (v : Nat) : (kq_st x v).th = x.th := Eq.trans rfl rfl
theorem kq_st_st (x : kRS) (v : Nat) : (kq_st x v).st = v := Eq.trans rfl rfl
theorem kq_st_nx (x : kRS) (v : Nat) : (kq_st x v).nx = x.nx := Eq.trans rfl rfl
theorem kq_st_wi (x : kRS) (v : Nat) : (kq_st x v).wi = x.wi := Eq.trans rfl rfl
theorem kq_st_gp (x : kRS) (v : Nat) : (kq_st x v).gp = x.gp := Eq.trans rfl rfl
theorem kq_st_vl (x : kRS) (v : Nat) : (kq_st x v).vl = x.vl := Eq.trans rfl rfl
theorem kq_st_sa (x : kRS) (v : Nat) : (kq_st x v).sa = x.sa := Eq.trans rfl rfl
theorem kq_st_bo (x : kRS) (v : Nat) : (kq_st x v).bo = x.bo := Eq.trans rfl rfl
theorem kq_st_cy (x : kRS) (v : Nat) : (kq_st x v).cy = x.cy := Eq.trans rfl rfl
theorem kq_st_sd (x : kRS) (v : Nat) : (kq_st x v).sd = x.sd := Eq.trans rfl rfl
theorem kq_st_ma (x : kRS) (v : Nat) : (kq_st x v).ma = x.ma := Eq.trans rfl rfl
theorem kq_st_qu (x : kRS) (v : Nat) : (kq_st x v).qu = x.qu := Eq.trans rfl rfl
theorem kq_st_X (x : kRS) (v : Nat) : (kq_st x v).X = x.X := Eq.trans rfl rfl
theorem kq_st_F (x : kRS) (v : Nat) : (kq_st x v).F = x.F := Eq.trans rfl rfl
theorem kq_st_M (x : kRS) (v : Nat) : (kq_st x v).M = x.M := Eq.trans rfl rfl
theorem kq_st_po (x : kRS) (v : Nat) : (kq_st x v).po = x.po := Eq.trans rfl rfl
theorem kq_st_pd (x : kRS) (v : Nat) : (kq_st x v).pd = x.pd := Eq.trans rfl rfl
theorem kq_st_pa (x : kRS) (v : Nat) : (kq_st x v).pa = x.pa := Eq.trans rfl rfl
theorem kq_st_pb (x : kRS) (v : Nat) : (kq_st x v).pb = x.pb := Eq.trans rfl rfl
theorem kq_st_pn (x : kRS) (v : Nat) : (kq_st x v).pn = x.pn := Eq.trans rfl rfl
theorem kq_st_pm (x : kRS) (v : Nat) : (kq_st x v).pm = x.pm := Eq.trans rfl rfl
theorem kq_st_wh (x : kRS) (v : Nat) : (kq_st x v).wh = x.wh := Eq.trans rfl rfl
theorem kq_st_wd (x : kRS) (v : Nat) : (kq_st x v).wd = x.wd := Eq.trans rfl rfl
theorem kq_st_rg (x : kRS) (v : Nat) : (kq_st x v).rg = x.rg := Eq.trans rfl rfl
theorem kq_st_fr (x : kRS) (v : Nat) : (kq_st x v).fr = x.fr := Eq.trans rfl rfl
theorem kq_st_sp (x : kRS) (v : Nat) : (kq_st x v).sp = x.sp := Eq.trans rfl rfl
theorem kq_st_dn (x : kRS) (v : Nat) : (kq_st x v).dn = x.dn := Eq.trans rfl rfl
theorem kq_st_bf (x : kRS) (v : Nat) : (kq_st x v).bf = x.bf := Eq.trans rfl rfl
theorem kq_st_XA (x : kRS) (v : Nat) : (kq_st x v).XA = x.XA := Eq.trans rfl rfl
theorem kq_st_XB (x : kRS) (v : Nat) : (kq_st x v).XB = x.XB := Eq.trans rfl rfl
theorem kq_sc_la (x : kRS) (k : Nat) : (kq_sc x k).la = x.la := Eq.trans rfl rfl
theorem kq_sc_th (x : kRS) (k : Nat) : (kq_sc x k).th = x.th := Eq.trans rfl rfl
theorem kq_sc_st (x : kRS) (k : Nat) : (kq_sc x k).st = (if kv_R_scalarDone x.qu x.po k = 0 then x.st else 0) := Eq.trans rfl rfl
theorem kq_sc_nx (x : kRS) (k : Nat) : (kq_sc x k).nx = (kv_R_scalarDone_nx (nI k) x.qu x.X x.po x.pa x.pb x.pn k) := Eq.trans rfl rfl
theorem kq_sc_wi (x : kRS) (k : Nat) : (kq_sc x k).wi = (kv_R_scalarDone_wi x.wi x.qu x.po k ((x.pn k).toNatClampNeg)) := Eq.trans rfl rfl
theorem kq_sc_gp (x : kRS) (k : Nat) : (kq_sc x k).gp = (kv_R_scalarDone_gp x.gp x.qu x.po k ((x.pn k).toNatClampNeg)) := Eq.trans rfl rfl
theorem kq_sc_vl (x : kRS) (k : Nat) : (kq_sc x k).vl = (kv_R_scalarDone_vl x.vl x.qu x.X x.po x.pa k ((x.pn k).toNatClampNeg)) := Eq.trans rfl rfl
theorem kq_sc_sa (x : kRS) (k : Nat) : (kq_sc x k).sa = (kv_R_scalarDone_sa x.sa x.qu x.po k) := Eq.trans rfl rfl
theorem kq_sc_bo (x : kRS) (k : Nat) : (kq_sc x k).bo = (kv_R_scalarDone_bo x.bo x.qu x.X x.po x.pa k) := Eq.trans rfl rfl
theorem kq_sc_cy (x : kRS) (k : Nat) : (kq_sc x k).cy = x.cy := Eq.trans rfl rfl
theorem kq_sc_sd (x : kRS) (k : Nat) : (kq_sc x k).sd = x.sd := Eq.trans rfl rfl
theorem kq_sc_ma (x : kRS) (k : Nat) : (kq_sc x k).ma = x.ma := Eq.trans rfl rfl
theorem kq_sc_qu (x : kRS) (k : Nat) : (kq_sc x k).qu = x.qu := Eq.trans rfl rfl
theorem kq_sc_X (x : kRS) (k : Nat) : (kq_sc x k).X = (kv_R_scalarDone_X x.wi x.qu x.X x.F x.po x.pd x.pa x.pb x.pn k ((x.pn k).toNatClampNeg)) := Eq.trans rfl rfl
theorem kq_sc_F (x : kRS) (k : Nat) : (kq_sc x k).F = x.F := Eq.trans rfl rfl
theorem kq_sc_M (x : kRS) (k : Nat) : (kq_sc x k).M = x.M := Eq.trans rfl rfl
theorem kq_sc_po (x : kRS) (k : Nat) : (kq_sc x k).po = x.po := Eq.trans rfl rfl
theorem kq_sc_pd (x : kRS) (k : Nat) : (kq_sc x k).pd = x.pd := Eq.trans rfl rfl
theorem kq_sc_pa (x : kRS) (k : Nat) : (kq_sc x k).pa = x.pa := Eq.trans rfl rfl
theorem kq_sc_pb (x : kRS) (k : Nat) : (kq_sc x k).pb = x.pb := Eq.trans rfl rfl
theorem kq_sc_pn (x : kRS) (k : Nat) : (kq_sc x k).pn = x.pn := Eq.trans rfl rfl
theorem kq_sc_pm (x : kRS) (k : Nat) : (kq_sc x k).pm = x.pm := Eq.trans rfl rfl
theorem kq_sc_wh (x : kRS) (k : Nat) : (kq_sc x k).wh = x.wh := Eq.trans rfl rfl
theorem kq_sc_wd (x : kRS) (k : Nat) : (kq_sc x k).wd = x.wd := Eq.trans rfl rfl
theorem kq_sc_rg (x : kRS) (k : Nat) : (kq_sc x k).rg = x.rg := Eq.trans rfl rfl
theorem kq_sc_fr (x : kRS) (k : Nat) : (kq_sc x k).fr = x.fr := Eq.trans rfl rfl
theorem kq_sc_sp (x : kRS) (k : Nat) : (kq_sc x k).sp = x.sp := Eq.trans rfl rfl
theorem kq_sc_dn (x : kRS) (k : Nat) : (kq_sc x k).dn = x.dn := Eq.trans rfl rfl
theorem kq_sc_bf (x : kRS) (k : Nat) : (kq_sc x k).bf = x.bf := Eq.trans rfl rfl
theorem kq_sc_XA (x : kRS) (k : Nat) : (kq_sc x k).XA = x.XA := Eq.trans rfl rfl
theorem kq_sc_XB (x : kRS) (k : Nat) : (kq_sc x k).XB = x.XB := Eq.trans rfl rfl
theorem kq_ho_la (x : kRS) (k : Nat) : (kq_ho x k).la = x.la := Eq.trans rfl rfl
theorem kq_ho_th (x : kRS) (k : Nat) : (kq_ho x k).th = x.th := Eq.trans rfl rfl
theorem kq_ho_st (x : kRS) (k : Nat) : (kq_ho x k).st = (kv_R_handsOut_st x.st x.vl x.po k (kn_e x.F x.po x.pb x.pm (va_up x.wh x.qu k) (va_up x.wd x.qu x.wi) (upd x.XA x.qu ((if (nI (x.po k)) = 14 then (nI x.vl) else (x.X (x.pa k)) : Int32))) (upd x.XB x.qu (x.X (x.pb k))) x.wi x.vl x.sa x.bo x.qu k)) := Eq.trans rfl rfl
theorem kq_ho_nx (x : kRS) (k : Nat) : (kq_ho x k).nx = (kv_R_handsOut_nx (nI k) x.vl x.po k (kn_e x.F x.po x.pb x.pm (va_up x.wh x.qu k) (va_up x.wd x.qu x.wi) (upd x.XA x.qu ((if (nI (x.po k)) = 14 then (nI x.vl) else (x.X (x.pa k)) : Int32))) (upd x.XB x.qu (x.X (x.pb k))) x.wi x.vl x.sa x.bo x.qu k)) := Eq.trans rfl rfl
theorem kq_ho_wi (x : kRS) (k : Nat) : (kq_ho x k).wi = x.wi := Eq.trans rfl rfl
theorem kq_ho_gp (x : kRS) (k : Nat) : (kq_ho x k).gp = x.gp := Eq.trans rfl rfl
theorem kq_ho_vl (x : kRS) (k : Nat) : (kq_ho x k).vl = (kv_R_handsOut_vl x.vl x.po k (kn_e x.F x.po x.pb x.pm (va_up x.wh x.qu k) (va_up x.wd x.qu x.wi) (upd x.XA x.qu ((if (nI (x.po k)) = 14 then (nI x.vl) else (x.X (x.pa k)) : Int32))) (upd x.XB x.qu (x.X (x.pb k))) x.wi x.vl x.sa x.bo x.qu k)) := Eq.trans rfl rfl
theorem kq_ho_sa (x : kRS) (k : Nat) : (kq_ho x k).sa = (kv_R_handsOut_sa x.vl x.po k (kn_e x.F x.po x.pb x.pm (va_up x.wh x.qu k) (va_up x.wd x.qu x.wi) (upd x.XA x.qu ((if (nI (x.po k)) = 14 then (nI x.vl) else (x.X (x.pa k)) : Int32))) (upd x.XB x.qu (x.X (x.pb k))) x.wi x.vl x.sa x.bo x.qu k)) := Eq.trans rfl rfl
theorem kq_ho_bo (x : kRS) (k : Nat) : (kq_ho x k).bo = x.bo := Eq.trans rfl rfl
theorem kq_ho_cy (x : kRS) (k : Nat) : (kq_ho x k).cy = x.cy := Eq.trans rfl rfl
theorem kq_ho_sd (x : kRS) (k : Nat) : (kq_ho x k).sd = x.sd := Eq.trans rfl rfl
theorem kq_ho_ma (x : kRS) (k : Nat) : (kq_ho x k).ma = x.ma := Eq.trans rfl rfl
theorem kq_ho_qu (x : kRS) (k : Nat) : (kq_ho x k).qu = (kv_R_handsOut_qu x.sa x.qu x.po x.sp k (kn_e x.F x.po x.pb x.pm (va_up x.wh x.qu k) (va_up x.wd x.qu x.wi) (upd x.XA x.qu ((if (nI (x.po k)) = 14 then (nI x.vl) else (x.X (x.pa k)) : Int32))) (upd x.XB x.qu (x.X (x.pb k))) x.wi x.vl x.sa x.bo x.qu k)) := Eq.trans rfl rfl
theorem kq_ho_X (x : kRS) (k : Nat) : (kq_ho x k).X = x.X := Eq.trans rfl rfl
theorem kq_ho_F (x : kRS) (k : Nat) : (kq_ho x k).F = x.F := Eq.trans rfl rfl
theorem kq_ho_M (x : kRS) (k : Nat) : (kq_ho x k).M = x.M := Eq.trans rfl rfl
theorem kq_ho_po (x : kRS) (k : Nat) : (kq_ho x k).po = x.po := Eq.trans rfl rfl
theorem kq_ho_pd (x : kRS) (k : Nat) : (kq_ho x k).pd = x.pd := Eq.trans rfl rfl
theorem kq_ho_pa (x : kRS) (k : Nat) : (kq_ho x k).pa = x.pa := Eq.trans rfl rfl
theorem kq_ho_pb (x : kRS) (k : Nat) : (kq_ho x k).pb = x.pb := Eq.trans rfl rfl
theorem kq_ho_pn (x : kRS) (k : Nat) : (kq_ho x k).pn = x.pn := Eq.trans rfl rfl
theorem kq_ho_pm (x : kRS) (k : Nat) : (kq_ho x k).pm = x.pm := Eq.trans rfl rfl
theorem kq_ho_wh (x : kRS) (k : Nat) : (kq_ho x k).wh = (kv_R_handsOut_wh x.qu x.wh k) := Eq.trans rfl rfl
theorem kq_ho_wd (x : kRS) (k : Nat) : (kq_ho x k).wd = (kv_R_handsOut_wd x.wi x.qu x.wd) := Eq.trans rfl rfl
theorem kq_ho_rg (x : kRS) (k : Nat) : (kq_ho x k).rg = (kv_R_handsOut_rg x.gp x.qu x.rg) := Eq.trans rfl rfl
theorem kq_ho_fr (x : kRS) (k : Nat) : (kq_ho x k).fr = (kv_R_handsOut_fr x.sa x.qu x.fr) := Eq.trans rfl rfl
theorem kq_ho_sp (x : kRS) (k : Nat) : (kq_ho x k).sp = (kv_R_handsOut_sp x.sa x.qu x.po x.sp k (kn_e x.F x.po x.pb x.pm (va_up x.wh x.qu k) (va_up x.wd x.qu x.wi) (upd x.XA x.qu ((if (nI (x.po k)) = 14 then (nI x.vl) else (x.X (x.pa k)) : Int32))) (upd x.XB x.qu (x.X (x.pb k))) x.wi x.vl x.sa x.bo x.qu k)) := Eq.trans rfl rfl
theorem kq_ho_dn (x : kRS) (k : Nat) : (kq_ho x k).dn = (kv_R_handsOut_dn x.qu x.dn) := Eq.trans rfl rfl
theorem kq_ho_bf (x : kRS) (k : Nat) : (kq_ho x k).bf = (kv_R_handsOut_bf x.qu x.bf) := Eq.trans rfl rfl
theorem kq_ho_XA (x : kRS) (k : Nat) : (kq_ho x k).XA = (kv_R_handsOut_XA x.vl x.qu x.X x.po x.pa x.XA k) := Eq.trans rfl rfl
theorem kq_ho_XB (x : kRS) (k : Nat) : (kq_ho x k).XB = (kv_R_handsOut_XB x.qu x.X x.pb x.XB k) := Eq.trans rfl rfl
theorem km_st_la (x : kMS) (v : Nat) : (km_st x v).la = x.la := Eq.trans rfl rfl
theorem km_st_ma (x : kMS) (v : Nat) : (km_st x v).ma = x.ma := Eq.trans rfl rfl
theorem km_st_qu (x : kMS) (v : Nat) : (km_st x v).qu = x.qu := Eq.trans rfl rfl
theorem km_st_st (x : kMS) (v : Nat) : (km_st x v).st = v := Eq.trans rfl rfl
theorem km_st_nx (x : kMS) (v : Nat) : (km_st x v).nx = x.nx := Eq.trans rfl rfl
theorem km_st_bo (x : kMS) (v : Nat) : (km_st x v).bo = x.bo := Eq.trans rfl rfl
theorem km_st_cy (x : kMS) (v : Nat) : (km_st x v).cy = x.cy := Eq.trans rfl rfl
theorem km_st_sd (x : kMS) (v : Nat) : (km_st x v).sd = x.sd := Eq.trans rfl rfl
theorem km_st_X (x : kMS) (v : Nat) : (km_st x v).X = x.X := Eq.trans rfl rfl
theorem km_st_F (x : kMS) (v : Nat) : (km_st x v).F = x.F := Eq.trans rfl rfl
theorem km_st_G (x : kMS) (v : Nat) : (km_st x v).G = x.G := Eq.trans rfl rfl
theorem km_st_wp (x : kMS) (v : Nat) : (km_st x v).wp = x.wp := Eq.trans rfl rfl
theorem km_st_gp (x : kMS) (v : Nat) : (km_st x v).gp = x.gp := Eq.trans rfl rfl
theorem km_st_ln (x : kMS) (v : Nat) : (km_st x v).ln = x.ln := Eq.trans rfl rfl
theorem km_st_sa (x : kMS) (v : Nat) : (km_st x v).sa = x.sa := Eq.trans rfl rfl
theorem km_st_wk (x : kMS) (v : Nat) : (km_st x v).wk = x.wk := Eq.trans rfl rfl
theorem km_st_po (x : kMS) (v : Nat) : (km_st x v).po = x.po := Eq.trans rfl rfl
theorem km_st_pd (x : kMS) (v : Nat) : (km_st x v).pd = x.pd := Eq.trans rfl rfl
theorem km_st_pa (x : kMS) (v : Nat) : (km_st x v).pa = x.pa := Eq.trans rfl rfl
theorem km_st_pb (x : kMS) (v : Nat) : (km_st x v).pb = x.pb := Eq.trans rfl rfl
theorem km_st_pn (x : kMS) (v : Nat) : (km_st x v).pn = x.pn := Eq.trans rfl rfl
theorem km_st_pm (x : kMS) (v : Nat) : (km_st x v).pm = x.pm := Eq.trans rfl rfl
theorem km_st_ww (x : kMS) (v : Nat) : (km_st x v).ww = x.ww := Eq.trans rfl rfl
theorem km_st_gr (x : kMS) (v : Nat) : (km_st x v).gr = x.gr := Eq.trans rfl rfl
theorem km_st_mo (x : kMS) (v : Nat) : (km_st x v).mo = x.mo := Eq.trans rfl rfl
theorem km_st_xa (x : kMS) (v : Nat) : (km_st x v).xa = x.xa := Eq.trans rfl rfl
theorem km_st_xb (x : kMS) (v : Nat) : (km_st x v).xb = x.xb := Eq.trans rfl rfl
theorem km_st_fr (x : kMS) (v : Nat) : (km_st x v).fr = x.fr := Eq.trans rfl rfl
theorem km_st_wi (x : kMS) (v : Nat) : (km_st x v).wi = x.wi := Eq.trans rfl rfl
theorem km_st_nu (x : kMS) (v : Nat) : (km_st x v).nu = x.nu := Eq.trans rfl rfl
theorem km_st_tt (x : kMS) (v : Nat) : (km_st x v).tt = x.tt := Eq.trans rfl rfl
theorem km_st_dn (x : kMS) (v : Nat) : (km_st x v).dn = x.dn := Eq.trans rfl rfl
theorem km_st_db (x : kMS) (v : Nat) : (km_st x v).db = x.db := Eq.trans rfl rfl
theorem km_st_rF (x : kMS) (v : Nat) : (km_st x v).rF = x.rF := Eq.trans rfl rfl
theorem km_st_wF (x : kMS) (v : Nat) : (km_st x v).wF = x.wF := Eq.trans rfl rfl
theorem km_sc_la (x : kMS) (i0 : Nat) : (km_sc x i0).la = x.la := Eq.trans rfl rfl
theorem km_sc_ma (x : kMS) (i0 : Nat) : (km_sc x i0).ma = x.ma := Eq.trans rfl rfl
theorem km_sc_qu (x : kMS) (i0 : Nat) : (km_sc x i0).qu = x.qu := Eq.trans rfl rfl
theorem km_sc_st (x : kMS) (i0 : Nat) : (km_sc x i0).st = (kv_M_doScalar_st x.st x.po i0) := Eq.trans rfl rfl
theorem km_sc_nx (x : kMS) (i0 : Nat) : (km_sc x i0).nx = (kv_M_doScalar_nx x.nx x.X x.po x.pa x.pb x.pn i0) := Eq.trans rfl rfl
theorem km_sc_bo (x : kMS) (i0 : Nat) : (km_sc x i0).bo = (kv_M_doScalar_bo x.bo x.X x.po x.pa i0) := Eq.trans rfl rfl
theorem km_sc_cy (x : kMS) (i0 : Nat) : (km_sc x i0).cy = x.cy := Eq.trans rfl rfl
theorem km_sc_sd (x : kMS) (i0 : Nat) : (km_sc x i0).sd = x.sd := Eq.trans rfl rfl
theorem km_sc_X (x : kMS) (i0 : Nat) : (km_sc x i0).X = (kv_M_doScalar_X x.X x.F x.wp x.po x.pd x.pa x.pb x.pn i0) := Eq.trans rfl rfl
theorem km_sc_F (x : kMS) (i0 : Nat) : (km_sc x i0).F = x.F := Eq.trans rfl rfl
theorem km_sc_G (x : kMS) (i0 : Nat) : (km_sc x i0).G = x.G := Eq.trans rfl rfl
theorem km_sc_wp (x : kMS) (i0 : Nat) : (km_sc x i0).wp = (kv_M_doScalar_wp x.wp x.po x.pn i0) := Eq.trans rfl rfl
theorem km_sc_gp (x : kMS) (i0 : Nat) : (km_sc x i0).gp = (kv_M_doScalar_gp x.gp x.po x.pn i0) := Eq.trans rfl rfl
theorem km_sc_ln (x : kMS) (i0 : Nat) : (km_sc x i0).ln = (kv_M_doScalar_ln x.X x.ln x.po x.pa x.pn i0) := Eq.trans rfl rfl
theorem km_sc_sa (x : kMS) (i0 : Nat) : (km_sc x i0).sa = (kv_M_doScalar_sa x.sa x.po i0) := Eq.trans rfl rfl
theorem km_sc_wk (x : kMS) (i0 : Nat) : (km_sc x i0).wk = x.wk := Eq.trans rfl rfl
theorem km_sc_po (x : kMS) (i0 : Nat) : (km_sc x i0).po = x.po := Eq.trans rfl rfl
theorem km_sc_pd (x : kMS) (i0 : Nat) : (km_sc x i0).pd = x.pd := Eq.trans rfl rfl
theorem km_sc_pa (x : kMS) (i0 : Nat) : (km_sc x i0).pa = x.pa := Eq.trans rfl rfl
theorem km_sc_pb (x : kMS) (i0 : Nat) : (km_sc x i0).pb = x.pb := Eq.trans rfl rfl
theorem km_sc_pn (x : kMS) (i0 : Nat) : (km_sc x i0).pn = x.pn := Eq.trans rfl rfl
theorem km_sc_pm (x : kMS) (i0 : Nat) : (km_sc x i0).pm = x.pm := Eq.trans rfl rfl
theorem km_sc_ww (x : kMS) (i0 : Nat) : (km_sc x i0).ww = x.ww := Eq.trans rfl rfl
theorem km_sc_gr (x : kMS) (i0 : Nat) : (km_sc x i0).gr = x.gr := Eq.trans rfl rfl
theorem km_sc_mo (x : kMS) (i0 : Nat) : (km_sc x i0).mo = x.mo := Eq.trans rfl rfl
theorem km_sc_xa (x : kMS) (i0 : Nat) : (km_sc x i0).xa = x.xa := Eq.trans rfl rfl
theorem km_sc_xb (x : kMS) (i0 : Nat) : (km_sc x i0).xb = x.xb := Eq.trans rfl rfl
theorem km_sc_fr (x : kMS) (i0 : Nat) : (km_sc x i0).fr = x.fr := Eq.trans rfl rfl
theorem km_sc_wi (x : kMS) (i0 : Nat) : (km_sc x i0).wi = x.wi := Eq.trans rfl rfl
theorem km_sc_nu (x : kMS) (i0 : Nat) : (km_sc x i0).nu = x.nu := Eq.trans rfl rfl
theorem km_sc_tt (x : kMS) (i0 : Nat) : (km_sc x i0).tt = x.tt := Eq.trans rfl rfl
theorem km_sc_dn (x : kMS) (i0 : Nat) : (km_sc x i0).dn = x.dn := Eq.trans rfl rfl
theorem km_sc_db (x : kMS) (i0 : Nat) : (km_sc x i0).db = x.db := Eq.trans rfl rfl
theorem km_sc_rF (x : kMS) (i0 : Nat) : (km_sc x i0).rF = x.rF := Eq.trans rfl rfl
theorem km_sc_wF (x : kMS) (i0 : Nat) : (km_sc x i0).wF = x.wF := Eq.trans rfl rfl
theorem km_ho_la (x : kMS) (i0 k0 : Nat) : (km_ho x i0 k0).la = x.la := Eq.trans rfl rfl
theorem km_ho_ma (x : kMS) (i0 k0 : Nat) : (km_ho x i0 k0).ma = x.ma := Eq.trans rfl rfl
theorem km_ho_qu (x : kMS) (i0 k0 : Nat) : (km_ho x i0 k0).qu = (kv_M_handOut_qu x.qu x.ln x.sa x.po i0 (kv_M_bad x.wp x.sa x.ln (kv_M_scalar (nI (x.pa i0)) x.X) (kv_M_scalar (nI (x.pb i0)) x.X) (nI (x.po i0)) (nI (x.pb i0)) (x.pm i0) x.F x.bo)) := Eq.trans rfl rfl
theorem km_ho_st (x : kMS) (i0 k0 : Nat) : (km_ho x i0 k0).st = (kv_M_handOut_st x.st x.po i0 (kv_M_bad x.wp x.sa x.ln (kv_M_scalar (nI (x.pa i0)) x.X) (kv_M_scalar (nI (x.pb i0)) x.X) (nI (x.po i0)) (nI (x.pb i0)) (x.pm i0) x.F x.bo)) := Eq.trans rfl rfl
theorem km_ho_nx (x : kMS) (i0 k0 : Nat) : (km_ho x i0 k0).nx = (kv_M_handOut_nx x.nx x.po i0 (kv_M_bad x.wp x.sa x.ln (kv_M_scalar (nI (x.pa i0)) x.X) (kv_M_scalar (nI (x.pb i0)) x.X) (nI (x.po i0)) (nI (x.pb i0)) (x.pm i0) x.F x.bo)) := Eq.trans rfl rfl
theorem km_ho_bo (x : kMS) (i0 k0 : Nat) : (km_ho x i0 k0).bo = x.bo := Eq.trans rfl rfl
theorem km_ho_cy (x : kMS) (i0 k0 : Nat) : (km_ho x i0 k0).cy = x.cy := Eq.trans rfl rfl
theorem km_ho_sd (x : kMS) (i0 k0 : Nat) : (km_ho x i0 k0).sd = x.sd := Eq.trans rfl rfl
theorem km_ho_X (x : kMS) (i0 k0 : Nat) : (km_ho x i0 k0).X = x.X := Eq.trans rfl rfl
theorem km_ho_F (x : kMS) (i0 k0 : Nat) : (km_ho x i0 k0).F = x.F := Eq.trans rfl rfl
theorem km_ho_G (x : kMS) (i0 k0 : Nat) : (km_ho x i0 k0).G = x.G := Eq.trans rfl rfl
theorem km_ho_wp (x : kMS) (i0 k0 : Nat) : (km_ho x i0 k0).wp = x.wp := Eq.trans rfl rfl
theorem km_ho_gp (x : kMS) (i0 k0 : Nat) : (km_ho x i0 k0).gp = x.gp := Eq.trans rfl rfl
theorem km_ho_ln (x : kMS) (i0 k0 : Nat) : (km_ho x i0 k0).ln = (kv_M_handOut_ln x.ln x.po i0 (kv_M_bad x.wp x.sa x.ln (kv_M_scalar (nI (x.pa i0)) x.X) (kv_M_scalar (nI (x.pb i0)) x.X) (nI (x.po i0)) (nI (x.pb i0)) (x.pm i0) x.F x.bo)) := Eq.trans rfl rfl
theorem km_ho_sa (x : kMS) (i0 k0 : Nat) : (km_ho x i0 k0).sa = (kv_M_handOut_sa x.po i0 (kv_M_bad x.wp x.sa x.ln (kv_M_scalar (nI (x.pa i0)) x.X) (kv_M_scalar (nI (x.pb i0)) x.X) (nI (x.po i0)) (nI (x.pb i0)) (x.pm i0) x.F x.bo)) := Eq.trans rfl rfl
theorem km_ho_wk (x : kMS) (i0 k0 : Nat) : (km_ho x i0 k0).wk = x.wk := Eq.trans rfl rfl
theorem km_ho_po (x : kMS) (i0 k0 : Nat) : (km_ho x i0 k0).po = x.po := Eq.trans rfl rfl
theorem km_ho_pd (x : kMS) (i0 k0 : Nat) : (km_ho x i0 k0).pd = x.pd := Eq.trans rfl rfl
theorem km_ho_pa (x : kMS) (i0 k0 : Nat) : (km_ho x i0 k0).pa = x.pa := Eq.trans rfl rfl
theorem km_ho_pb (x : kMS) (i0 k0 : Nat) : (km_ho x i0 k0).pb = x.pb := Eq.trans rfl rfl
theorem km_ho_pn (x : kMS) (i0 k0 : Nat) : (km_ho x i0 k0).pn = x.pn := Eq.trans rfl rfl
theorem km_ho_pm (x : kMS) (i0 k0 : Nat) : (km_ho x i0 k0).pm = x.pm := Eq.trans rfl rfl
theorem km_ho_ww (x : kMS) (i0 k0 : Nat) : (km_ho x i0 k0).ww = (kv_M_handOut_ww x.wp x.ww k0) := Eq.trans rfl rfl
theorem km_ho_gr (x : kMS) (i0 k0 : Nat) : (km_ho x i0 k0).gr = (kv_M_handOut_gr x.gp x.gr k0) := Eq.trans rfl rfl
theorem km_ho_mo (x : kMS) (i0 k0 : Nat) : (km_ho x i0 k0).mo = (kv_M_handOut_mo x.wp x.gp x.mo k0) := Eq.trans rfl rfl
theorem km_ho_xa (x : kMS) (i0 k0 : Nat) : (km_ho x i0 k0).xa = (kv_M_handOut_xa x.X x.pa x.xa i0 k0) := Eq.trans rfl rfl
theorem km_ho_xb (x : kMS) (i0 k0 : Nat) : (km_ho x i0 k0).xb = (kv_M_handOut_xb x.X x.pb x.xb i0 k0) := Eq.trans rfl rfl
theorem km_ho_fr (x : kMS) (i0 k0 : Nat) : (km_ho x i0 k0).fr = (kv_M_handOut_fr x.sa x.fr k0) := Eq.trans rfl rfl
theorem km_ho_wi (x : kMS) (i0 k0 : Nat) : (km_ho x i0 k0).wi = (kv_M_handOut_wi x.wi i0 k0) := Eq.trans rfl rfl
theorem km_ho_nu (x : kMS) (i0 k0 : Nat) : (km_ho x i0 k0).nu = (kv_M_handOut_nu x.nx x.nu k0) := Eq.trans rfl rfl
theorem km_ho_tt (x : kMS) (i0 k0 : Nat) : (km_ho x i0 k0).tt = (kv_M_handOut_tt x.ln x.tt k0 (kv_M_bad x.wp x.sa x.ln (kv_M_scalar (nI (x.pa i0)) x.X) (kv_M_scalar (nI (x.pb i0)) x.X) (nI (x.po i0)) (nI (x.pb i0)) (x.pm i0) x.F x.bo)) := Eq.trans rfl rfl
theorem km_ho_dn (x : kMS) (i0 k0 : Nat) : (km_ho x i0 k0).dn = (kv_M_handOut_dn x.dn k0) := Eq.trans rfl rfl
theorem km_ho_db (x : kMS) (i0 k0 : Nat) : (km_ho x i0 k0).db = x.db := Eq.trans rfl rfl
theorem km_ho_rF (x : kMS) (i0 k0 : Nat) : (km_ho x i0 k0).rF = (kv_M_handOut_rF x.X x.wp x.gp x.ln x.sa x.po x.pd x.pa x.pb x.pm x.rF x.wF i0 k0 (kv_M_bad x.wp x.sa x.ln (kv_M_scalar (nI (x.pa i0)) x.X) (kv_M_scalar (nI (x.pb i0)) x.X) (nI (x.po i0)) (nI (x.pb i0)) (x.pm i0) x.F x.bo)) := Eq.trans rfl rfl
theorem km_ho_wF (x : kMS) (i0 k0 : Nat) : (km_ho x i0 k0).wF = (kv_M_handOut_wF x.X x.wp x.gp x.ln x.sa x.po x.pd x.pa x.pb x.pm x.rF x.wF i0 k0 (kv_M_bad x.wp x.sa x.ln (kv_M_scalar (nI (x.pa i0)) x.X) (kv_M_scalar (nI (x.pb i0)) x.X) (nI (x.po i0)) (nI (x.pb i0)) (x.pm i0) x.F x.bo)) := Eq.trans rfl rfl
