/-! reading rows -/
theorem kq_th_la (x : kRS) (v : Int32) : (kq_th x v).la = x.la := Eq.trans rfl rfl
theorem kq_th_th (x : kRS) (v : Int32) : (kq_th x v).th = v := Eq.trans rfl rfl
theorem kq_th_st (x : kRS) (v : Int32) : (kq_th x v).st = x.st := Eq.trans rfl rfl
theorem kq_th_nx (x : kRS) (v : Int32) : (kq_th x v).nx = x.nx := Eq.trans rfl rfl
theorem kq_th_wi (x : kRS) (v : Int32) : (kq_th x v).wi = x.wi := Eq.trans rfl rfl
theorem kq_th_gp (x : kRS) (v : Int32) : (kq_th x v).gp = x.gp := Eq.trans rfl rfl
theorem kq_th_vl (x : kRS) (v : Int32) : (kq_th x v).vl = x.vl := Eq.trans rfl rfl
theorem kq_th_sa (x : kRS) (v : Int32) : (kq_th x v).sa = x.sa := Eq.trans rfl rfl
theorem kq_th_bo (x : kRS) (v : Int32) : (kq_th x v).bo = x.bo := Eq.trans rfl rfl
theorem kq_th_cy (x : kRS) (v : Int32) : (kq_th x v).cy = x.cy := Eq.trans rfl rfl
theorem kq_th_sd (x : kRS) (v : Int32) : (kq_th x v).sd = x.sd := Eq.trans rfl rfl
theorem kq_th_ma (x : kRS) (v : Int32) : (kq_th x v).ma = x.ma := Eq.trans rfl rfl
theorem kq_th_qu (x : kRS) (v : Int32) : (kq_th x v).qu = x.qu := Eq.trans rfl rfl
theorem kq_th_X (x : kRS) (v : Int32) : (kq_th x v).X = x.X := Eq.trans rfl rfl
theorem kq_th_F (x : kRS) (v : Int32) : (kq_th x v).F = x.F := Eq.trans rfl rfl
theorem kq_th_M (x : kRS) (v : Int32) : (kq_th x v).M = x.M := Eq.trans rfl rfl
theorem kq_th_po (x : kRS) (v : Int32) : (kq_th x v).po = x.po := Eq.trans rfl rfl
theorem kq_th_pd (x : kRS) (v : Int32) : (kq_th x v).pd = x.pd := Eq.trans rfl rfl
theorem kq_th_pa (x : kRS) (v : Int32) : (kq_th x v).pa = x.pa := Eq.trans rfl rfl
theorem kq_th_pb (x : kRS) (v : Int32) : (kq_th x v).pb = x.pb := Eq.trans rfl rfl
theorem kq_th_pn (x : kRS) (v : Int32) : (kq_th x v).pn = x.pn := Eq.trans rfl rfl
theorem kq_th_pm (x : kRS) (v : Int32) : (kq_th x v).pm = x.pm := Eq.trans rfl rfl
theorem kq_th_wh (x : kRS) (v : Int32) : (kq_th x v).wh = x.wh := Eq.trans rfl rfl
theorem kq_th_wd (x : kRS) (v : Int32) : (kq_th x v).wd = x.wd := Eq.trans rfl rfl
theorem kq_th_rg (x : kRS) (v : Int32) : (kq_th x v).rg = x.rg := Eq.trans rfl rfl
theorem kq_th_fr (x : kRS) (v : Int32) : (kq_th x v).fr = x.fr := Eq.trans rfl rfl
theorem kq_th_sp (x : kRS) (v : Int32) : (kq_th x v).sp = x.sp := Eq.trans rfl rfl
theorem kq_th_dn (x : kRS) (v : Int32) : (kq_th x v).dn = x.dn := Eq.trans rfl rfl
theorem kq_th_bf (x : kRS) (v : Int32) : (kq_th x v).bf = x.bf := Eq.trans rfl rfl
theorem kq_th_XA (x : kRS) (v : Int32) : (kq_th x v).XA = x.XA := Eq.trans rfl rfl
theorem kq_th_XB (x : kRS) (v : Int32) : (kq_th x v).XB = x.XB := Eq.trans rfl rfl
theorem kq_cy_la (x : kRS) (v : Int32) : (kq_cy x v).la = x.la := Eq.trans rfl rfl
theorem kq_cy_th (x : kRS) (v : Int32) : (kq_cy x v).th = x.th := Eq.trans rfl rfl
theorem kq_cy_st (x : kRS) (v : Int32) : (kq_cy x v).st = x.st := Eq.trans rfl rfl
theorem kq_cy_nx (x : kRS) (v : Int32) : (kq_cy x v).nx = x.nx := Eq.trans rfl rfl
theorem kq_cy_wi (x : kRS) (v : Int32) : (kq_cy x v).wi = x.wi := Eq.trans rfl rfl
theorem kq_cy_gp (x : kRS) (v : Int32) : (kq_cy x v).gp = x.gp := Eq.trans rfl rfl
theorem kq_cy_vl (x : kRS) (v : Int32) : (kq_cy x v).vl = x.vl := Eq.trans rfl rfl
theorem kq_cy_sa (x : kRS) (v : Int32) : (kq_cy x v).sa = x.sa := Eq.trans rfl rfl
theorem kq_cy_bo (x : kRS) (v : Int32) : (kq_cy x v).bo = x.bo := Eq.trans rfl rfl
theorem kq_cy_cy (x : kRS) (v : Int32) : (kq_cy x v).cy = v := Eq.trans rfl rfl
theorem kq_cy_sd (x : kRS) (v : Int32) : (kq_cy x v).sd = x.sd := Eq.trans rfl rfl
theorem kq_cy_ma (x : kRS) (v : Int32) : (kq_cy x v).ma = x.ma := Eq.trans rfl rfl
theorem kq_cy_qu (x : kRS) (v : Int32) : (kq_cy x v).qu = x.qu := Eq.trans rfl rfl
theorem kq_cy_X (x : kRS) (v : Int32) : (kq_cy x v).X = x.X := Eq.trans rfl rfl
theorem kq_cy_F (x : kRS) (v : Int32) : (kq_cy x v).F = x.F := Eq.trans rfl rfl
theorem kq_cy_M (x : kRS) (v : Int32) : (kq_cy x v).M = x.M := Eq.trans rfl rfl
theorem kq_cy_po (x : kRS) (v : Int32) : (kq_cy x v).po = x.po := Eq.trans rfl rfl
theorem kq_cy_pd (x : kRS) (v : Int32) : (kq_cy x v).pd = x.pd := Eq.trans rfl rfl
theorem kq_cy_pa (x : kRS) (v : Int32) : (kq_cy x v).pa = x.pa := Eq.trans rfl rfl
theorem kq_cy_pb (x : kRS) (v : Int32) : (kq_cy x v).pb = x.pb := Eq.trans rfl rfl
theorem kq_cy_pn (x : kRS) (v : Int32) : (kq_cy x v).pn = x.pn := Eq.trans rfl rfl
theorem kq_cy_pm (x : kRS) (v : Int32) : (kq_cy x v).pm = x.pm := Eq.trans rfl rfl
theorem kq_cy_wh (x : kRS) (v : Int32) : (kq_cy x v).wh = x.wh := Eq.trans rfl rfl
theorem kq_cy_wd (x : kRS) (v : Int32) : (kq_cy x v).wd = x.wd := Eq.trans rfl rfl
theorem kq_cy_rg (x : kRS) (v : Int32) : (kq_cy x v).rg = x.rg := Eq.trans rfl rfl
theorem kq_cy_fr (x : kRS) (v : Int32) : (kq_cy x v).fr = x.fr := Eq.trans rfl rfl
theorem kq_cy_sp (x : kRS) (v : Int32) : (kq_cy x v).sp = x.sp := Eq.trans rfl rfl
theorem kq_cy_dn (x : kRS) (v : Int32) : (kq_cy x v).dn = x.dn := Eq.trans rfl rfl
theorem kq_cy_bf (x : kRS) (v : Int32) : (kq_cy x v).bf = x.bf := Eq.trans rfl rfl
theorem kq_cy_XA (x : kRS) (v : Int32) : (kq_cy x v).XA = x.XA := Eq.trans rfl rfl
theorem kq_cy_XB (x : kRS) (v : Int32) : (kq_cy x v).XB = x.XB := Eq.trans rfl rfl
theorem kq_units_la (x : kRS) : (kq_units x).la = x.la := Eq.trans rfl rfl
theorem kq_units_th (x : kRS) : (kq_units x).th = x.th := Eq.trans rfl rfl
theorem kq_units_st (x : kRS) : (kq_units x).st = x.st := Eq.trans rfl rfl
theorem kq_units_nx (x : kRS) : (kq_units x).nx = x.nx := Eq.trans rfl rfl
theorem kq_units_wi (x : kRS) : (kq_units x).wi = x.wi := Eq.trans rfl rfl
theorem kq_units_gp (x : kRS) : (kq_units x).gp = x.gp := Eq.trans rfl rfl
theorem kq_units_vl (x : kRS) : (kq_units x).vl = x.vl := Eq.trans rfl rfl
theorem kq_units_sa (x : kRS) : (kq_units x).sa = x.sa := Eq.trans rfl rfl
theorem kq_units_bo (x : kRS) : (kq_units x).bo = x.bo := Eq.trans rfl rfl
theorem kq_units_cy (x : kRS) : (kq_units x).cy = x.cy := Eq.trans rfl rfl
theorem kq_units_sd (x : kRS) : (kq_units x).sd = (kv_R_units_sd x.la x.sd x.qu x.F x.M x.po x.pd x.pa x.pb x.pm x.wh x.wd x.rg x.fr x.sp x.dn x.bf x.XA x.XB) := Eq.trans rfl rfl
theorem kq_units_ma (x : kRS) : (kq_units x).ma = x.ma := Eq.trans rfl rfl
theorem kq_units_qu (x : kRS) : (kq_units x).qu = x.qu := Eq.trans rfl rfl
theorem kq_units_X (x : kRS) : (kq_units x).X = x.X := Eq.trans rfl rfl
theorem kq_units_F (x : kRS) : (kq_units x).F = (kv_R_units_F x.la x.sd x.qu x.F x.M x.po x.pd x.pa x.pb x.pm x.wh x.wd x.rg x.fr x.sp x.dn x.bf x.XA x.XB) := Eq.trans rfl rfl
theorem kq_units_M (x : kRS) : (kq_units x).M = (kv_R_units_M x.la x.sd x.qu x.F x.M x.po x.pd x.pa x.pb x.pm x.wh x.wd x.rg x.fr x.sp x.dn x.bf x.XA x.XB) := Eq.trans rfl rfl
theorem kq_units_po (x : kRS) : (kq_units x).po = x.po := Eq.trans rfl rfl
theorem kq_units_pd (x : kRS) : (kq_units x).pd = x.pd := Eq.trans rfl rfl
theorem kq_units_pa (x : kRS) : (kq_units x).pa = x.pa := Eq.trans rfl rfl
theorem kq_units_pb (x : kRS) : (kq_units x).pb = x.pb := Eq.trans rfl rfl
theorem kq_units_pn (x : kRS) : (kq_units x).pn = x.pn := Eq.trans rfl rfl
theorem kq_units_pm (x : kRS) : (kq_units x).pm = x.pm := Eq.trans rfl rfl
theorem kq_units_wh (x : kRS) : (kq_units x).wh = x.wh := Eq.trans rfl rfl
theorem kq_units_wd (x : kRS) : (kq_units x).wd = x.wd := Eq.trans rfl rfl
theorem kq_units_rg (x : kRS) : (kq_units x).rg = x.rg := Eq.trans rfl rfl
theorem kq_units_fr (x : kRS) : (kq_units x).fr = x.fr := Eq.trans rfl rfl
theorem kq_units_sp (x : kRS) : (kq_units x).sp = x.sp := Eq.trans rfl rfl
theorem kq_units_dn (x : kRS) : (kq_units x).dn = (kv_R_units_dn x.la x.sd x.qu x.F x.M x.po x.pd x.pa x.pb x.pm x.wh x.wd x.rg x.fr x.sp x.dn x.bf x.XA x.XB) := Eq.trans rfl rfl
theorem kq_units_bf (x : kRS) : (kq_units x).bf = (kv_R_units_bf x.qu x.dn x.bf) := Eq.trans rfl rfl
theorem kq_units_XA (x : kRS) : (kq_units x).XA = x.XA := Eq.trans rfl rfl
theorem kq_units_XB (x : kRS) : (kq_units x).XB = x.XB := Eq.trans rfl rfl
theorem kq_leaves_la (x : kRS) : (kq_leaves x).la = x.la := Eq.trans rfl rfl
theorem kq_leaves_th (x : kRS) : (kq_leaves x).th = x.th := Eq.trans rfl rfl
theorem kq_leaves_st (x : kRS) : (kq_leaves x).st = x.st := Eq.trans rfl rfl
theorem kq_leaves_nx (x : kRS) : (kq_leaves x).nx = x.nx := Eq.trans rfl rfl
theorem kq_leaves_wi (x : kRS) : (kq_leaves x).wi = x.wi := Eq.trans rfl rfl
theorem kq_leaves_gp (x : kRS) : (kq_leaves x).gp = x.gp := Eq.trans rfl rfl
theorem kq_leaves_vl (x : kRS) : (kq_leaves x).vl = x.vl := Eq.trans rfl rfl
theorem kq_leaves_sa (x : kRS) : (kq_leaves x).sa = x.sa := Eq.trans rfl rfl
theorem kq_leaves_bo (x : kRS) : (kq_leaves x).bo = x.bo := Eq.trans rfl rfl
theorem kq_leaves_cy (x : kRS) : (kq_leaves x).cy = x.cy := Eq.trans rfl rfl
theorem kq_leaves_sd (x : kRS) : (kq_leaves x).sd = x.sd := Eq.trans rfl rfl
theorem kq_leaves_ma (x : kRS) : (kq_leaves x).ma = x.ma := Eq.trans rfl rfl
theorem kq_leaves_qu (x : kRS) : (kq_leaves x).qu = (kv_R_leaves_qu x.qu x.wh x.wd x.rg x.fr x.sp x.dn x.bf x.XA x.XB) := Eq.trans rfl rfl
theorem kq_leaves_X (x : kRS) : (kq_leaves x).X = x.X := Eq.trans rfl rfl
theorem kq_leaves_F (x : kRS) : (kq_leaves x).F = x.F := Eq.trans rfl rfl
theorem kq_leaves_M (x : kRS) : (kq_leaves x).M = x.M := Eq.trans rfl rfl
theorem kq_leaves_po (x : kRS) : (kq_leaves x).po = x.po := Eq.trans rfl rfl
theorem kq_leaves_pd (x : kRS) : (kq_leaves x).pd = x.pd := Eq.trans rfl rfl
theorem kq_leaves_pa (x : kRS) : (kq_leaves x).pa = x.pa := Eq.trans rfl rfl
theorem kq_leaves_pb (x : kRS) : (kq_leaves x).pb = x.pb := Eq.trans rfl rfl
theorem kq_leaves_pn (x : kRS) : (kq_leaves x).pn = x.pn := Eq.trans rfl rfl
theorem kq_leaves_pm (x : kRS) : (kq_leaves x).pm = x.pm := Eq.trans rfl rfl
theorem kq_leaves_wh (x : kRS) : (kq_leaves x).wh = (kv_R_leaves_wh x.qu x.wh x.wd x.rg x.fr x.sp x.dn x.bf x.XA x.XB) := Eq.trans rfl rfl
theorem kq_leaves_wd (x : kRS) : (kq_leaves x).wd = (kv_R_leaves_wd x.qu x.wh x.wd x.rg x.fr x.sp x.dn x.bf x.XA x.XB) := Eq.trans rfl rfl
theorem kq_leaves_rg (x : kRS) : (kq_leaves x).rg = (kv_R_leaves_rg x.qu x.wh x.wd x.rg x.fr x.sp x.dn x.bf x.XA x.XB) := Eq.trans rfl rfl
theorem kq_leaves_fr (x : kRS) : (kq_leaves x).fr = (kv_R_leaves_fr x.qu x.wh x.wd x.rg x.fr x.sp x.dn x.bf x.XA x.XB) := Eq.trans rfl rfl
theorem kq_leaves_sp (x : kRS) : (kq_leaves x).sp = (kv_R_leaves_sp x.qu x.wh x.wd x.rg x.fr x.sp x.dn x.bf x.XA x.XB) := Eq.trans rfl rfl
theorem kq_leaves_dn (x : kRS) : (kq_leaves x).dn = (kv_R_leaves_dn x.qu x.wh x.wd x.rg x.fr x.sp x.dn x.bf x.XA x.XB) := Eq.trans rfl rfl
theorem kq_leaves_bf (x : kRS) : (kq_leaves x).bf = (kv_R_leaves_bf x.qu x.wh x.wd x.rg x.fr x.sp x.dn x.bf x.XA x.XB) := Eq.trans rfl rfl
theorem kq_leaves_XA (x : kRS) : (kq_leaves x).XA = (kv_R_leaves_XA x.qu x.wh x.wd x.rg x.fr x.sp x.dn x.bf x.XA x.XB) := Eq.trans rfl rfl
theorem kq_leaves_XB (x : kRS) : (kq_leaves x).XB = (kv_R_leaves_XB x.qu x.wh x.wd x.rg x.fr x.sp x.dn x.bf x.XA x.XB) := Eq.trans rfl rfl
theorem kq_goesOn_la (x : kRS) : (kq_goesOn x).la = x.la := Eq.trans rfl rfl
theorem kq_goesOn_th (x : kRS) : (kq_goesOn x).th = x.th := Eq.trans rfl rfl
theorem kq_goesOn_st (x : kRS) : (kq_goesOn x).st = (kv_R_goesOn_st x.st x.nx x.wi x.gp x.vl x.sa x.bo x.ma x.qu x.X x.F x.po x.pd x.pa x.pb x.pm x.wh x.wd x.fr x.sp x.dn x.XA x.XB (x.nx.toNatClampNeg)) := Eq.trans rfl rfl
theorem kq_goesOn_nx (x : kRS) : (kq_goesOn x).nx = (kv_R_goesOn_nx x.nx x.wi x.gp x.vl x.sa x.bo x.ma x.qu x.X x.F x.po x.pd x.pa x.pb x.pn x.pm x.wh x.wd x.fr x.sp x.dn x.XA x.XB (x.nx.toNatClampNeg)) := Eq.trans rfl rfl
theorem kq_goesOn_wi (x : kRS) : (kq_goesOn x).wi = (kv_R_goesOn_wi x.nx x.wi x.ma x.qu x.po x.pn (x.nx.toNatClampNeg)) := Eq.trans rfl rfl
theorem kq_goesOn_gp (x : kRS) : (kq_goesOn x).gp = (kv_R_goesOn_gp x.nx x.gp x.ma x.qu x.po x.pn (x.nx.toNatClampNeg)) := Eq.trans rfl rfl
theorem kq_goesOn_vl (x : kRS) : (kq_goesOn x).vl = (kv_R_goesOn_vl x.nx x.wi x.gp x.vl x.sa x.bo x.ma x.qu x.X x.F x.po x.pd x.pa x.pb x.pn x.pm x.wh x.wd x.fr x.sp x.dn x.XA x.XB (x.nx.toNatClampNeg)) := Eq.trans rfl rfl
theorem kq_goesOn_sa (x : kRS) : (kq_goesOn x).sa = (kv_R_goesOn_sa x.nx x.wi x.gp x.vl x.sa x.bo x.ma x.qu x.X x.F x.po x.pd x.pa x.pb x.pm x.wh x.wd x.fr x.sp x.dn x.XA x.XB (x.nx.toNatClampNeg)) := Eq.trans rfl rfl
theorem kq_goesOn_bo (x : kRS) : (kq_goesOn x).bo = (kv_R_goesOn_bo x.nx x.bo x.ma x.qu x.X x.po x.pa (x.nx.toNatClampNeg)) := Eq.trans rfl rfl
theorem kq_goesOn_cy (x : kRS) : (kq_goesOn x).cy = x.cy := Eq.trans rfl rfl
theorem kq_goesOn_sd (x : kRS) : (kq_goesOn x).sd = x.sd := Eq.trans rfl rfl
theorem kq_goesOn_ma (x : kRS) : (kq_goesOn x).ma = x.ma := Eq.trans rfl rfl
theorem kq_goesOn_qu (x : kRS) : (kq_goesOn x).qu = (kv_R_goesOn_qu x.nx x.wi x.gp x.vl x.sa x.bo x.ma x.qu x.X x.F x.po x.pd x.pa x.pb x.pm x.wh x.wd x.fr x.sp x.dn x.XA x.XB (x.nx.toNatClampNeg)) := Eq.trans rfl rfl
theorem kq_goesOn_X (x : kRS) : (kq_goesOn x).X = (kv_R_goesOn_X x.nx x.wi x.ma x.qu x.X x.F x.po x.pd x.pa x.pb x.pn (x.nx.toNatClampNeg)) := Eq.trans rfl rfl
theorem kq_goesOn_F (x : kRS) : (kq_goesOn x).F = x.F := Eq.trans rfl rfl
theorem kq_goesOn_M (x : kRS) : (kq_goesOn x).M = x.M := Eq.trans rfl rfl
theorem kq_goesOn_po (x : kRS) : (kq_goesOn x).po = x.po := Eq.trans rfl rfl
theorem kq_goesOn_pd (x : kRS) : (kq_goesOn x).pd = x.pd := Eq.trans rfl rfl
theorem kq_goesOn_pa (x : kRS) : (kq_goesOn x).pa = x.pa := Eq.trans rfl rfl
theorem kq_goesOn_pb (x : kRS) : (kq_goesOn x).pb = x.pb := Eq.trans rfl rfl
theorem kq_goesOn_pn (x : kRS) : (kq_goesOn x).pn = x.pn := Eq.trans rfl rfl
theorem kq_goesOn_pm (x : kRS) : (kq_goesOn x).pm = x.pm := Eq.trans rfl rfl
theorem kq_goesOn_wh (x : kRS) : (kq_goesOn x).wh = (kv_R_goesOn_wh x.nx x.wi x.gp x.ma x.qu x.po x.pd x.pa x.pb x.pm x.wh x.wd x.fr x.sp x.dn (x.nx.toNatClampNeg)) := Eq.trans rfl rfl
theorem kq_goesOn_wd (x : kRS) : (kq_goesOn x).wd = (kv_R_goesOn_wd x.nx x.wi x.gp x.ma x.qu x.po x.pd x.pa x.pb x.pm x.wh x.wd x.fr x.sp x.dn (x.nx.toNatClampNeg)) := Eq.trans rfl rfl
theorem kq_goesOn_rg (x : kRS) : (kq_goesOn x).rg = (kv_R_goesOn_rg x.nx x.wi x.gp x.ma x.qu x.po x.pd x.pa x.pb x.pm x.wh x.wd x.rg x.fr x.sp x.dn (x.nx.toNatClampNeg)) := Eq.trans rfl rfl
theorem kq_goesOn_fr (x : kRS) : (kq_goesOn x).fr = (kv_R_goesOn_fr x.nx x.wi x.gp x.sa x.ma x.qu x.po x.pd x.pa x.pb x.pm x.wh x.wd x.fr x.sp x.dn (x.nx.toNatClampNeg)) := Eq.trans rfl rfl
theorem kq_goesOn_sp (x : kRS) : (kq_goesOn x).sp = (kv_R_goesOn_sp x.nx x.wi x.gp x.vl x.sa x.bo x.ma x.qu x.X x.F x.po x.pd x.pa x.pb x.pm x.wh x.wd x.fr x.sp x.dn x.XA x.XB (x.nx.toNatClampNeg)) := Eq.trans rfl rfl
theorem kq_goesOn_dn (x : kRS) : (kq_goesOn x).dn = (kv_R_goesOn_dn x.nx x.wi x.gp x.ma x.qu x.po x.pd x.pa x.pb x.pm x.wh x.wd x.fr x.sp x.dn (x.nx.toNatClampNeg)) := Eq.trans rfl rfl
theorem kq_goesOn_bf (x : kRS) : (kq_goesOn x).bf = (kv_R_goesOn_bf x.nx x.wi x.gp x.ma x.qu x.po x.pd x.pa x.pb x.pm x.wh x.wd x.fr x.sp x.dn x.bf (x.nx.toNatClampNeg)) := Eq.trans rfl rfl
theorem kq_goesOn_XA (x : kRS) : (kq_goesOn x).XA = (kv_R_goesOn_XA x.nx x.wi x.gp x.vl x.ma x.qu x.X x.po x.pd x.pa x.pb x.pm x.wh x.wd x.fr x.sp x.dn x.XA (x.nx.toNatClampNeg)) := Eq.trans rfl rfl
theorem kq_goesOn_XB (x : kRS) : (kq_goesOn x).XB = (kv_R_goesOn_XB x.nx x.wi x.gp x.ma x.qu x.X x.po x.pd x.pa x.pb x.pm x.wh x.wd x.fr x.sp x.dn x.XB (x.nx.toNatClampNeg)) := Eq.trans rfl rfl
theorem km_cy_la (x : kMS) (v : Int32) : (km_cy x v).la = x.la := Eq.trans rfl rfl
theorem km_cy_ma (x : kMS) (v : Int32) : (km_cy x v).ma = x.ma := Eq.trans rfl rfl
theorem km_cy_qu (x : kMS) (v : Int32) : (km_cy x v).qu = x.qu := Eq.trans rfl rfl
theorem km_cy_st (x : kMS) (v : Int32) : (km_cy x v).st = x.st := Eq.trans rfl rfl
theorem km_cy_nx (x : kMS) (v : Int32) : (km_cy x v).nx = x.nx := Eq.trans rfl rfl
theorem km_cy_bo (x : kMS) (v : Int32) : (km_cy x v).bo = x.bo := Eq.trans rfl rfl
theorem km_cy_cy (x : kMS) (v : Int32) : (km_cy x v).cy = v := Eq.trans rfl rfl
theorem km_cy_sd (x : kMS) (v : Int32) : (km_cy x v).sd = x.sd := Eq.trans rfl rfl
theorem km_cy_X (x : kMS) (v : Int32) : (km_cy x v).X = x.X := Eq.trans rfl rfl
theorem km_cy_F (x : kMS) (v : Int32) : (km_cy x v).F = x.F := Eq.trans rfl rfl
theorem km_cy_G (x : kMS) (v : Int32) : (km_cy x v).G = x.G := Eq.trans rfl rfl
theorem km_cy_wp (x : kMS) (v : Int32) : (km_cy x v).wp = x.wp := Eq.trans rfl rfl
theorem km_cy_gp (x : kMS) (v : Int32) : (km_cy x v).gp = x.gp := Eq.trans rfl rfl
theorem km_cy_ln (x : kMS) (v : Int32) : (km_cy x v).ln = x.ln := Eq.trans rfl rfl
theorem km_cy_sa (x : kMS) (v : Int32) : (km_cy x v).sa = x.sa := Eq.trans rfl rfl
theorem km_cy_wk (x : kMS) (v : Int32) : (km_cy x v).wk = x.wk := Eq.trans rfl rfl
theorem km_cy_po (x : kMS) (v : Int32) : (km_cy x v).po = x.po := Eq.trans rfl rfl
theorem km_cy_pd (x : kMS) (v : Int32) : (km_cy x v).pd = x.pd := Eq.trans rfl rfl
theorem km_cy_pa (x : kMS) (v : Int32) : (km_cy x v).pa = x.pa := Eq.trans rfl rfl
theorem km_cy_pb (x : kMS) (v : Int32) : (km_cy x v).pb = x.pb := Eq.trans rfl rfl
theorem km_cy_pn (x : kMS) (v : Int32) : (km_cy x v).pn = x.pn := Eq.trans rfl rfl
theorem km_cy_pm (x : kMS) (v : Int32) : (km_cy x v).pm = x.pm := Eq.trans rfl rfl
theorem km_cy_ww (x : kMS) (v : Int32) : (km_cy x v).ww = x.ww := Eq.trans rfl rfl
theorem km_cy_gr (x : kMS) (v : Int32) : (km_cy x v).gr = x.gr := Eq.trans rfl rfl
theorem km_cy_mo (x : kMS) (v : Int32) : (km_cy x v).mo = x.mo := Eq.trans rfl rfl
theorem km_cy_xa (x : kMS) (v : Int32) : (km_cy x v).xa = x.xa := Eq.trans rfl rfl
theorem km_cy_xb (x : kMS) (v : Int32) : (km_cy x v).xb = x.xb := Eq.trans rfl rfl
theorem km_cy_fr (x : kMS) (v : Int32) : (km_cy x v).fr = x.fr := Eq.trans rfl rfl
theorem km_cy_wi (x : kMS) (v : Int32) : (km_cy x v).wi = x.wi := Eq.trans rfl rfl
theorem km_cy_nu (x : kMS) (v : Int32) : (km_cy x v).nu = x.nu := Eq.trans rfl rfl
theorem km_cy_tt (x : kMS) (v : Int32) : (km_cy x v).tt = x.tt := Eq.trans rfl rfl
theorem km_cy_dn (x : kMS) (v : Int32) : (km_cy x v).dn = x.dn := Eq.trans rfl rfl
theorem km_cy_db (x : kMS) (v : Int32) : (km_cy x v).db = x.db := Eq.trans rfl rfl
theorem km_cy_rF (x : kMS) (v : Int32) : (km_cy x v).rF = x.rF := Eq.trans rfl rfl
theorem km_cy_wF (x : kMS) (v : Int32) : (km_cy x v).wF = x.wF := Eq.trans rfl rfl
theorem km_note_la  (x : kMS) : (km_note x).la = x.la := Eq.trans rfl rfl
theorem km_note_ma  (x : kMS) : (km_note x).ma = x.ma := Eq.trans rfl rfl
theorem km_note_qu  (x : kMS) : (km_note x).qu = x.qu := Eq.trans rfl rfl
theorem km_note_st  (x : kMS) : (km_note x).st = x.st := Eq.trans rfl rfl
theorem km_note_nx  (x : kMS) : (km_note x).nx = x.nx := Eq.trans rfl rfl
theorem km_note_bo  (x : kMS) : (km_note x).bo = x.bo := Eq.trans rfl rfl
theorem km_note_cy  (x : kMS) : (km_note x).cy = x.cy := Eq.trans rfl rfl
theorem km_note_sd  (x : kMS) : (km_note x).sd = x.sd := Eq.trans rfl rfl
theorem km_note_X  (x : kMS) : (km_note x).X = x.X := Eq.trans rfl rfl
theorem km_note_F  (x : kMS) : (km_note x).F = x.F := Eq.trans rfl rfl
theorem km_note_G  (x : kMS) : (km_note x).G = x.G := Eq.trans rfl rfl
theorem km_note_wp  (x : kMS) : (km_note x).wp = x.wp := Eq.trans rfl rfl
theorem km_note_gp  (x : kMS) : (km_note x).gp = x.gp := Eq.trans rfl rfl
theorem km_note_ln  (x : kMS) : (km_note x).ln = x.ln := Eq.trans rfl rfl
theorem km_note_sa  (x : kMS) : (km_note x).sa = x.sa := Eq.trans rfl rfl
theorem km_note_wk  (x : kMS) : (km_note x).wk = x.wk := Eq.trans rfl rfl
theorem km_note_po  (x : kMS) : (km_note x).po = x.po := Eq.trans rfl rfl
theorem km_note_pd  (x : kMS) : (km_note x).pd = x.pd := Eq.trans rfl rfl
theorem km_note_pa  (x : kMS) : (km_note x).pa = x.pa := Eq.trans rfl rfl
theorem km_note_pb  (x : kMS) : (km_note x).pb = x.pb := Eq.trans rfl rfl
theorem km_note_pn  (x : kMS) : (km_note x).pn = x.pn := Eq.trans rfl rfl
theorem km_note_pm  (x : kMS) : (km_note x).pm = x.pm := Eq.trans rfl rfl
theorem km_note_ww  (x : kMS) : (km_note x).ww = x.ww := Eq.trans rfl rfl
theorem km_note_gr  (x : kMS) : (km_note x).gr = x.gr := Eq.trans rfl rfl
theorem km_note_mo  (x : kMS) : (km_note x).mo = x.mo := Eq.trans rfl rfl
theorem km_note_xa  (x : kMS) : (km_note x).xa = x.xa := Eq.trans rfl rfl
theorem km_note_xb  (x : kMS) : (km_note x).xb = x.xb := Eq.trans rfl rfl
theorem km_note_fr  (x : kMS) : (km_note x).fr = x.fr := Eq.trans rfl rfl
theorem km_note_wi  (x : kMS) : (km_note x).wi = x.wi := Eq.trans rfl rfl
theorem km_note_nu  (x : kMS) : (km_note x).nu = x.nu := Eq.trans rfl rfl
theorem km_note_tt  (x : kMS) : (km_note x).tt = x.tt := Eq.trans rfl rfl
theorem km_note_dn  (x : kMS) : (km_note x).dn = x.dn := Eq.trans rfl rfl
theorem km_note_db  (x : kMS) : (km_note x).db = (kv_M_noteStepsDone_db x.qu x.wk x.dn x.db) := Eq.trans rfl rfl
theorem km_note_rF  (x : kMS) : (km_note x).rF = x.rF := Eq.trans rfl rfl
theorem km_note_wF  (x : kMS) : (km_note x).wF = x.wF := Eq.trans rfl rfl
theorem km_unit_la (y : Int32) (x : kMS) : (km_unit y x).la = x.la := Eq.trans rfl rfl
theorem km_unit_ma (y : Int32) (x : kMS) : (km_unit y x).ma = x.ma := Eq.trans rfl rfl
theorem km_unit_qu (y : Int32) (x : kMS) : (km_unit y x).qu = x.qu := Eq.trans rfl rfl
theorem km_unit_st (y : Int32) (x : kMS) : (km_unit y x).st = x.st := Eq.trans rfl rfl
theorem km_unit_nx (y : Int32) (x : kMS) : (km_unit y x).nx = x.nx := Eq.trans rfl rfl
theorem km_unit_bo (y : Int32) (x : kMS) : (km_unit y x).bo = x.bo := Eq.trans rfl rfl
theorem km_unit_cy (y : Int32) (x : kMS) : (km_unit y x).cy = x.cy := Eq.trans rfl rfl
theorem km_unit_sd (y : Int32) (x : kMS) : (km_unit y x).sd = ((kv_wo x.la x.wk x.po x.pd x.pa x.pb x.pm x.ww x.gr x.mo x.xa x.xb x.fr x.wi x.tt x.db x.rF x.wF y x.dn x.F x.G x.sd x.qu 0 0 0).2.2.2) := Eq.trans rfl rfl
theorem km_unit_X (y : Int32) (x : kMS) : (km_unit y x).X = x.X := Eq.trans rfl rfl
theorem km_unit_F (y : Int32) (x : kMS) : (km_unit y x).F = ((kv_wo x.la x.wk x.po x.pd x.pa x.pb x.pm x.ww x.gr x.mo x.xa x.xb x.fr x.wi x.tt x.db x.rF x.wF y x.dn x.F x.G x.sd x.qu 0 0 0).2.1) := Eq.trans rfl rfl
theorem km_unit_G (y : Int32) (x : kMS) : (km_unit y x).G = ((kv_wo x.la x.wk x.po x.pd x.pa x.pb x.pm x.ww x.gr x.mo x.xa x.xb x.fr x.wi x.tt x.db x.rF x.wF y x.dn x.F x.G x.sd x.qu 0 0 0).2.2.1) := Eq.trans rfl rfl
theorem km_unit_wp (y : Int32) (x : kMS) : (km_unit y x).wp = x.wp := Eq.trans rfl rfl
theorem km_unit_gp (y : Int32) (x : kMS) : (km_unit y x).gp = x.gp := Eq.trans rfl rfl
theorem km_unit_ln (y : Int32) (x : kMS) : (km_unit y x).ln = x.ln := Eq.trans rfl rfl
theorem km_unit_sa (y : Int32) (x : kMS) : (km_unit y x).sa = x.sa := Eq.trans rfl rfl
theorem km_unit_wk (y : Int32) (x : kMS) : (km_unit y x).wk = x.wk := Eq.trans rfl rfl
theorem km_unit_po (y : Int32) (x : kMS) : (km_unit y x).po = x.po := Eq.trans rfl rfl
theorem km_unit_pd (y : Int32) (x : kMS) : (km_unit y x).pd = x.pd := Eq.trans rfl rfl
theorem km_unit_pa (y : Int32) (x : kMS) : (km_unit y x).pa = x.pa := Eq.trans rfl rfl
theorem km_unit_pb (y : Int32) (x : kMS) : (km_unit y x).pb = x.pb := Eq.trans rfl rfl
theorem km_unit_pn (y : Int32) (x : kMS) : (km_unit y x).pn = x.pn := Eq.trans rfl rfl
theorem km_unit_pm (y : Int32) (x : kMS) : (km_unit y x).pm = x.pm := Eq.trans rfl rfl
theorem km_unit_ww (y : Int32) (x : kMS) : (km_unit y x).ww = x.ww := Eq.trans rfl rfl
theorem km_unit_gr (y : Int32) (x : kMS) : (km_unit y x).gr = x.gr := Eq.trans rfl rfl
theorem km_unit_mo (y : Int32) (x : kMS) : (km_unit y x).mo = x.mo := Eq.trans rfl rfl
theorem km_unit_xa (y : Int32) (x : kMS) : (km_unit y x).xa = x.xa := Eq.trans rfl rfl
theorem km_unit_xb (y : Int32) (x : kMS) : (km_unit y x).xb = x.xb := Eq.trans rfl rfl
theorem km_unit_fr (y : Int32) (x : kMS) : (km_unit y x).fr = x.fr := Eq.trans rfl rfl
theorem km_unit_wi (y : Int32) (x : kMS) : (km_unit y x).wi = x.wi := Eq.trans rfl rfl
theorem km_unit_nu (y : Int32) (x : kMS) : (km_unit y x).nu = x.nu := Eq.trans rfl rfl
theorem km_unit_tt (y : Int32) (x : kMS) : (km_unit y x).tt = x.tt := Eq.trans rfl rfl
theorem km_unit_dn (y : Int32) (x : kMS) : (km_unit y x).dn = ((kv_wo x.la x.wk x.po x.pd x.pa x.pb x.pm x.ww x.gr x.mo x.xa x.xb x.fr x.wi x.tt x.db x.rF x.wF y x.dn x.F x.G x.sd x.qu 0 0 0).1) := Eq.trans rfl rfl
theorem km_unit_db (y : Int32) (x : kMS) : (km_unit y x).db = x.db := Eq.trans rfl rfl
theorem km_unit_rF (y : Int32) (x : kMS) : (km_unit y x).rF = x.rF := Eq.trans rfl rfl
theorem km_unit_wF (y : Int32) (x : kMS) : (km_unit y x).wF = x.wF := Eq.trans rfl rfl
theorem km_drop_la  (x : kMS) : (km_drop x).la = x.la := Eq.trans rfl rfl
theorem km_drop_ma  (x : kMS) : (km_drop x).ma = x.ma := Eq.trans rfl rfl
theorem km_drop_qu  (x : kMS) : (km_drop x).qu = (kv_M_dropFinished_qu x.qu x.wk x.po x.fr x.wi x.tt x.dn) := Eq.trans rfl rfl
theorem km_drop_st  (x : kMS) : (km_drop x).st = x.st := Eq.trans rfl rfl
theorem km_drop_nx  (x : kMS) : (km_drop x).nx = x.nx := Eq.trans rfl rfl
theorem km_drop_bo  (x : kMS) : (km_drop x).bo = x.bo := Eq.trans rfl rfl
theorem km_drop_cy  (x : kMS) : (km_drop x).cy = x.cy := Eq.trans rfl rfl
theorem km_drop_sd  (x : kMS) : (km_drop x).sd = x.sd := Eq.trans rfl rfl
theorem km_drop_X  (x : kMS) : (km_drop x).X = x.X := Eq.trans rfl rfl
theorem km_drop_F  (x : kMS) : (km_drop x).F = x.F := Eq.trans rfl rfl
theorem km_drop_G  (x : kMS) : (km_drop x).G = x.G := Eq.trans rfl rfl
theorem km_drop_wp  (x : kMS) : (km_drop x).wp = x.wp := Eq.trans rfl rfl
theorem km_drop_gp  (x : kMS) : (km_drop x).gp = x.gp := Eq.trans rfl rfl
theorem km_drop_ln  (x : kMS) : (km_drop x).ln = x.ln := Eq.trans rfl rfl
theorem km_drop_sa  (x : kMS) : (km_drop x).sa = x.sa := Eq.trans rfl rfl
theorem km_drop_wk  (x : kMS) : (km_drop x).wk = (kv_M_dropFinished_wk x.qu x.wk x.po x.fr x.wi x.tt x.dn) := Eq.trans rfl rfl
theorem km_drop_po  (x : kMS) : (km_drop x).po = x.po := Eq.trans rfl rfl
theorem km_drop_pd  (x : kMS) : (km_drop x).pd = x.pd := Eq.trans rfl rfl
theorem km_drop_pa  (x : kMS) : (km_drop x).pa = x.pa := Eq.trans rfl rfl
theorem km_drop_pb  (x : kMS) : (km_drop x).pb = x.pb := Eq.trans rfl rfl
theorem km_drop_pn  (x : kMS) : (km_drop x).pn = x.pn := Eq.trans rfl rfl
theorem km_drop_pm  (x : kMS) : (km_drop x).pm = x.pm := Eq.trans rfl rfl
theorem km_drop_ww  (x : kMS) : (km_drop x).ww = x.ww := Eq.trans rfl rfl
theorem km_drop_gr  (x : kMS) : (km_drop x).gr = x.gr := Eq.trans rfl rfl
theorem km_drop_mo  (x : kMS) : (km_drop x).mo = x.mo := Eq.trans rfl rfl
theorem km_drop_xa  (x : kMS) : (km_drop x).xa = x.xa := Eq.trans rfl rfl
theorem km_drop_xb  (x : kMS) : (km_drop x).xb = x.xb := Eq.trans rfl rfl
theorem km_drop_fr  (x : kMS) : (km_drop x).fr = x.fr := Eq.trans rfl rfl
theorem km_drop_wi  (x : kMS) : (km_drop x).wi = x.wi := Eq.trans rfl rfl
theorem km_drop_nu  (x : kMS) : (km_drop x).nu = x.nu := Eq.trans rfl rfl
theorem km_drop_tt  (x : kMS) : (km_drop x).tt = x.tt := Eq.trans rfl rfl
theorem km_drop_dn  (x : kMS) : (km_drop x).dn = x.dn := Eq.trans rfl rfl
theorem km_drop_db  (x : kMS) : (km_drop x).db = x.db := Eq.trans rfl rfl
theorem km_drop_rF  (x : kMS) : (km_drop x).rF = x.rF := Eq.trans rfl rfl
theorem km_drop_wF  (x : kMS) : (km_drop x).wF = x.wF := Eq.trans rfl rfl
theorem km_adv_la  (x : kMS) : (km_adv x).la = x.la := Eq.trans rfl rfl
theorem km_adv_ma  (x : kMS) : (km_adv x).ma = x.ma := Eq.trans rfl rfl
theorem km_adv_qu  (x : kMS) : (km_adv x).qu = (kv_M_advance_qu x.ma x.qu x.nx x.bo x.X x.F x.wp x.gp x.ln x.sa x.wk x.po x.pd x.pa x.pb x.pm x.wi x.dn x.wF) := Eq.trans rfl rfl
theorem km_adv_st  (x : kMS) : (km_adv x).st = (kv_M_advance_st x.ma x.qu x.st x.nx x.bo x.X x.F x.wp x.gp x.ln x.sa x.wk x.po x.pd x.pa x.pb x.pm x.wi x.dn x.wF) := Eq.trans rfl rfl
theorem km_adv_nx  (x : kMS) : (km_adv x).nx = (kv_M_advance_nx x.ma x.qu x.nx x.bo x.X x.F x.wp x.gp x.ln x.sa x.wk x.po x.pd x.pa x.pb x.pn x.pm x.wi x.dn x.wF) := Eq.trans rfl rfl
theorem km_adv_bo  (x : kMS) : (km_adv x).bo = (kv_M_advance_bo x.ma x.qu x.nx x.bo x.X x.wp x.gp x.po x.pd x.pa x.pb x.pm) := Eq.trans rfl rfl
theorem km_adv_cy  (x : kMS) : (km_adv x).cy = x.cy := Eq.trans rfl rfl
theorem km_adv_sd  (x : kMS) : (km_adv x).sd = x.sd := Eq.trans rfl rfl
theorem km_adv_X  (x : kMS) : (km_adv x).X = (kv_M_advance_X x.ma x.qu x.nx x.X x.F x.wp x.gp x.po x.pd x.pa x.pb x.pn x.pm) := Eq.trans rfl rfl
theorem km_adv_F  (x : kMS) : (km_adv x).F = x.F := Eq.trans rfl rfl
theorem km_adv_G  (x : kMS) : (km_adv x).G = x.G := Eq.trans rfl rfl
theorem km_adv_wp  (x : kMS) : (km_adv x).wp = (kv_M_advance_wp x.ma x.qu x.nx x.wp x.gp x.po x.pd x.pa x.pb x.pn x.pm) := Eq.trans rfl rfl
theorem km_adv_gp  (x : kMS) : (km_adv x).gp = (kv_M_advance_gp x.ma x.qu x.nx x.wp x.gp x.po x.pd x.pa x.pb x.pn x.pm) := Eq.trans rfl rfl
theorem km_adv_ln  (x : kMS) : (km_adv x).ln = (kv_M_advance_ln x.ma x.qu x.nx x.bo x.X x.F x.wp x.gp x.ln x.sa x.wk x.po x.pd x.pa x.pb x.pn x.pm x.wi x.dn x.wF) := Eq.trans rfl rfl
theorem km_adv_sa  (x : kMS) : (km_adv x).sa = (kv_M_advance_sa x.ma x.qu x.nx x.bo x.X x.F x.wp x.gp x.ln x.sa x.wk x.po x.pd x.pa x.pb x.pm x.wi x.dn x.wF) := Eq.trans rfl rfl
theorem km_adv_wk  (x : kMS) : (km_adv x).wk = x.wk := Eq.trans rfl rfl
theorem km_adv_po  (x : kMS) : (km_adv x).po = x.po := Eq.trans rfl rfl
theorem km_adv_pd  (x : kMS) : (km_adv x).pd = x.pd := Eq.trans rfl rfl
theorem km_adv_pa  (x : kMS) : (km_adv x).pa = x.pa := Eq.trans rfl rfl
theorem km_adv_pb  (x : kMS) : (km_adv x).pb = x.pb := Eq.trans rfl rfl
theorem km_adv_pn  (x : kMS) : (km_adv x).pn = x.pn := Eq.trans rfl rfl
theorem km_adv_pm  (x : kMS) : (km_adv x).pm = x.pm := Eq.trans rfl rfl
theorem km_adv_ww  (x : kMS) : (km_adv x).ww = (kv_M_advance_ww x.ma x.qu x.nx x.wp x.gp x.wk x.po x.pd x.pa x.pb x.pm x.ww x.wi x.dn x.wF) := Eq.trans rfl rfl
theorem km_adv_gr  (x : kMS) : (km_adv x).gr = (kv_M_advance_gr x.ma x.qu x.nx x.wp x.gp x.wk x.po x.pd x.pa x.pb x.pm x.gr x.wi x.dn x.wF) := Eq.trans rfl rfl
theorem km_adv_mo  (x : kMS) : (km_adv x).mo = (kv_M_advance_mo x.ma x.qu x.nx x.wp x.gp x.wk x.po x.pd x.pa x.pb x.pm x.mo x.wi x.dn x.wF) := Eq.trans rfl rfl
theorem km_adv_xa  (x : kMS) : (km_adv x).xa = (kv_M_advance_xa x.ma x.qu x.nx x.X x.wp x.gp x.wk x.po x.pd x.pa x.pb x.pm x.xa x.wi x.dn x.wF) := Eq.trans rfl rfl
theorem km_adv_xb  (x : kMS) : (km_adv x).xb = (kv_M_advance_xb x.ma x.qu x.nx x.X x.wp x.gp x.wk x.po x.pd x.pa x.pb x.pm x.xb x.wi x.dn x.wF) := Eq.trans rfl rfl
theorem km_adv_fr  (x : kMS) : (km_adv x).fr = (kv_M_advance_fr x.ma x.qu x.nx x.wp x.gp x.sa x.wk x.po x.pd x.pa x.pb x.pm x.fr x.wi x.dn x.wF) := Eq.trans rfl rfl
theorem km_adv_wi  (x : kMS) : (km_adv x).wi = (kv_M_advance_wi x.ma x.qu x.nx x.wp x.gp x.wk x.po x.pd x.pa x.pb x.pm x.wi x.dn x.wF) := Eq.trans rfl rfl
theorem km_adv_nu  (x : kMS) : (km_adv x).nu = (kv_M_advance_nu x.ma x.qu x.nx x.wp x.gp x.wk x.po x.pd x.pa x.pb x.pm x.wi x.nu x.dn x.wF) := Eq.trans rfl rfl
theorem km_adv_tt  (x : kMS) : (km_adv x).tt = (kv_M_advance_tt x.ma x.qu x.nx x.bo x.X x.F x.wp x.gp x.ln x.sa x.wk x.po x.pd x.pa x.pb x.pm x.wi x.tt x.dn x.wF) := Eq.trans rfl rfl
theorem km_adv_dn  (x : kMS) : (km_adv x).dn = (kv_M_advance_dn x.ma x.qu x.nx x.wp x.gp x.wk x.po x.pd x.pa x.pb x.pm x.wi x.dn x.wF) := Eq.trans rfl rfl
theorem km_adv_db  (x : kMS) : (km_adv x).db = x.db := Eq.trans rfl rfl
theorem km_adv_rF  (x : kMS) : (km_adv x).rF = (kv_M_advance_rF x.ma x.qu x.nx x.bo x.X x.F x.wp x.gp x.ln x.sa x.wk x.po x.pd x.pa x.pb x.pm x.wi x.dn x.rF x.wF) := Eq.trans rfl rfl
theorem km_adv_wF  (x : kMS) : (km_adv x).wF = (kv_M_advance_wF x.ma x.qu x.nx x.bo x.X x.F x.wp x.gp x.ln x.sa x.wk x.po x.pd x.pa x.pb x.pm x.wi x.dn x.rF x.wF) := Eq.trans rfl rfl
