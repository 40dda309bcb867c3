/-! reading rows of the other calls -/
theorem kq_put_la (s : kRS) (o9 d9 a9 b9 : Nat) (x y : Int32) : (kq_put s o9 d9 a9 b9 x y).la = s.la := Eq.trans rfl rfl
theorem kq_put_th (s : kRS) (o9 d9 a9 b9 : Nat) (x y : Int32) : (kq_put s o9 d9 a9 b9 x y).th = (kv_R_put_th s.st s.ma o9 d9 a9 b9 x) := Eq.trans rfl rfl
theorem kq_put_st (s : kRS) (o9 d9 a9 b9 : Nat) (x y : Int32) : (kq_put s o9 d9 a9 b9 x y).st = s.st := Eq.trans rfl rfl
theorem kq_put_nx (s : kRS) (o9 d9 a9 b9 : Nat) (x y : Int32) : (kq_put s o9 d9 a9 b9 x y).nx = s.nx := Eq.trans rfl rfl
theorem kq_put_wi (s : kRS) (o9 d9 a9 b9 : Nat) (x y : Int32) : (kq_put s o9 d9 a9 b9 x y).wi = s.wi := Eq.trans rfl rfl
theorem kq_put_gp (s : kRS) (o9 d9 a9 b9 : Nat) (x y : Int32) : (kq_put s o9 d9 a9 b9 x y).gp = s.gp := Eq.trans rfl rfl
theorem kq_put_vl (s : kRS) (o9 d9 a9 b9 : Nat) (x y : Int32) : (kq_put s o9 d9 a9 b9 x y).vl = s.vl := Eq.trans rfl rfl
theorem kq_put_sa (s : kRS) (o9 d9 a9 b9 : Nat) (x y : Int32) : (kq_put s o9 d9 a9 b9 x y).sa = s.sa := Eq.trans rfl rfl
theorem kq_put_bo (s : kRS) (o9 d9 a9 b9 : Nat) (x y : Int32) : (kq_put s o9 d9 a9 b9 x y).bo = s.bo := Eq.trans rfl rfl
theorem kq_put_cy (s : kRS) (o9 d9 a9 b9 : Nat) (x y : Int32) : (kq_put s o9 d9 a9 b9 x y).cy = s.cy := Eq.trans rfl rfl
theorem kq_put_sd (s : kRS) (o9 d9 a9 b9 : Nat) (x y : Int32) : (kq_put s o9 d9 a9 b9 x y).sd = s.sd := Eq.trans rfl rfl
theorem kq_put_ma (s : kRS) (o9 d9 a9 b9 : Nat) (x y : Int32) : (kq_put s o9 d9 a9 b9 x y).ma = (kv_R_put_ma s.st s.ma o9 d9 a9 b9 x) := Eq.trans rfl rfl
theorem kq_put_qu (s : kRS) (o9 d9 a9 b9 : Nat) (x y : Int32) : (kq_put s o9 d9 a9 b9 x y).qu = s.qu := Eq.trans rfl rfl
theorem kq_put_X (s : kRS) (o9 d9 a9 b9 : Nat) (x y : Int32) : (kq_put s o9 d9 a9 b9 x y).X = s.X := Eq.trans rfl rfl
theorem kq_put_F (s : kRS) (o9 d9 a9 b9 : Nat) (x y : Int32) : (kq_put s o9 d9 a9 b9 x y).F = s.F := Eq.trans rfl rfl
theorem kq_put_M (s : kRS) (o9 d9 a9 b9 : Nat) (x y : Int32) : (kq_put s o9 d9 a9 b9 x y).M = s.M := Eq.trans rfl rfl
theorem kq_put_po (s : kRS) (o9 d9 a9 b9 : Nat) (x y : Int32) : (kq_put s o9 d9 a9 b9 x y).po = (kv_R_put_po s.st s.ma s.po o9 d9 a9 b9 x) := Eq.trans rfl rfl
theorem kq_put_pd (s : kRS) (o9 d9 a9 b9 : Nat) (x y : Int32) : (kq_put s o9 d9 a9 b9 x y).pd = (kv_R_put_pd s.st s.ma s.pd o9 d9 a9 b9 x) := Eq.trans rfl rfl
theorem kq_put_pa (s : kRS) (o9 d9 a9 b9 : Nat) (x y : Int32) : (kq_put s o9 d9 a9 b9 x y).pa = (kv_R_put_pa s.st s.ma s.pa o9 d9 a9 b9 x) := Eq.trans rfl rfl
theorem kq_put_pb (s : kRS) (o9 d9 a9 b9 : Nat) (x y : Int32) : (kq_put s o9 d9 a9 b9 x y).pb = (kv_R_put_pb s.st s.ma s.pb o9 d9 a9 b9 x) := Eq.trans rfl rfl
theorem kq_put_pn (s : kRS) (o9 d9 a9 b9 : Nat) (x y : Int32) : (kq_put s o9 d9 a9 b9 x y).pn = (kv_R_put_pn s.st s.ma s.pn o9 d9 a9 b9 x) := Eq.trans rfl rfl
theorem kq_put_pm (s : kRS) (o9 d9 a9 b9 : Nat) (x y : Int32) : (kq_put s o9 d9 a9 b9 x y).pm = (kv_R_put_pm s.st s.ma s.pm o9 d9 a9 b9 x y) := Eq.trans rfl rfl
theorem kq_put_wh (s : kRS) (o9 d9 a9 b9 : Nat) (x y : Int32) : (kq_put s o9 d9 a9 b9 x y).wh = s.wh := Eq.trans rfl rfl
theorem kq_put_wd (s : kRS) (o9 d9 a9 b9 : Nat) (x y : Int32) : (kq_put s o9 d9 a9 b9 x y).wd = s.wd := Eq.trans rfl rfl
theorem kq_put_rg (s : kRS) (o9 d9 a9 b9 : Nat) (x y : Int32) : (kq_put s o9 d9 a9 b9 x y).rg = s.rg := Eq.trans rfl rfl
theorem kq_put_fr (s : kRS) (o9 d9 a9 b9 : Nat) (x y : Int32) : (kq_put s o9 d9 a9 b9 x y).fr = s.fr := Eq.trans rfl rfl
theorem kq_put_sp (s : kRS) (o9 d9 a9 b9 : Nat) (x y : Int32) : (kq_put s o9 d9 a9 b9 x y).sp = s.sp := Eq.trans rfl rfl
theorem kq_put_dn (s : kRS) (o9 d9 a9 b9 : Nat) (x y : Int32) : (kq_put s o9 d9 a9 b9 x y).dn = s.dn := Eq.trans rfl rfl
theorem kq_put_bf (s : kRS) (o9 d9 a9 b9 : Nat) (x y : Int32) : (kq_put s o9 d9 a9 b9 x y).bf = s.bf := Eq.trans rfl rfl
theorem kq_put_XA (s : kRS) (o9 d9 a9 b9 : Nat) (x y : Int32) : (kq_put s o9 d9 a9 b9 x y).XA = s.XA := Eq.trans rfl rfl
theorem kq_put_XB (s : kRS) (o9 d9 a9 b9 : Nat) (x y : Int32) : (kq_put s o9 d9 a9 b9 x y).XB = s.XB := Eq.trans rfl rfl
theorem kq_go_la (s : kRS) (x : Int32) : (kq_go s x).la = s.la := Eq.trans rfl rfl
theorem kq_go_th (s : kRS) (x : Int32) : (kq_go s x).th = (kv_R_go_th s.st s.ma s.qu x) := Eq.trans rfl rfl
theorem kq_go_st (s : kRS) (x : Int32) : (kq_go s x).st = (kv_R_go_st s.st s.ma s.qu x) := Eq.trans rfl rfl
theorem kq_go_nx (s : kRS) (x : Int32) : (kq_go s x).nx = (kv_R_go_nx s.st s.nx s.ma s.qu x) := Eq.trans rfl rfl
theorem kq_go_wi (s : kRS) (x : Int32) : (kq_go s x).wi = s.wi := Eq.trans rfl rfl
theorem kq_go_gp (s : kRS) (x : Int32) : (kq_go s x).gp = s.gp := Eq.trans rfl rfl
theorem kq_go_vl (s : kRS) (x : Int32) : (kq_go s x).vl = s.vl := Eq.trans rfl rfl
theorem kq_go_sa (s : kRS) (x : Int32) : (kq_go s x).sa = (kv_R_go_sa s.st s.sa s.ma s.qu x) := Eq.trans rfl rfl
theorem kq_go_bo (s : kRS) (x : Int32) : (kq_go s x).bo = s.bo := Eq.trans rfl rfl
theorem kq_go_cy (s : kRS) (x : Int32) : (kq_go s x).cy = s.cy := Eq.trans rfl rfl
theorem kq_go_sd (s : kRS) (x : Int32) : (kq_go s x).sd = s.sd := Eq.trans rfl rfl
theorem kq_go_ma (s : kRS) (x : Int32) : (kq_go s x).ma = s.ma := Eq.trans rfl rfl
theorem kq_go_qu (s : kRS) (x : Int32) : (kq_go s x).qu = s.qu := Eq.trans rfl rfl
theorem kq_go_X (s : kRS) (x : Int32) : (kq_go s x).X = s.X := Eq.trans rfl rfl
theorem kq_go_F (s : kRS) (x : Int32) : (kq_go s x).F = s.F := Eq.trans rfl rfl
theorem kq_go_M (s : kRS) (x : Int32) : (kq_go s x).M = s.M := Eq.trans rfl rfl
theorem kq_go_po (s : kRS) (x : Int32) : (kq_go s x).po = s.po := Eq.trans rfl rfl
theorem kq_go_pd (s : kRS) (x : Int32) : (kq_go s x).pd = s.pd := Eq.trans rfl rfl
theorem kq_go_pa (s : kRS) (x : Int32) : (kq_go s x).pa = s.pa := Eq.trans rfl rfl
theorem kq_go_pb (s : kRS) (x : Int32) : (kq_go s x).pb = s.pb := Eq.trans rfl rfl
theorem kq_go_pn (s : kRS) (x : Int32) : (kq_go s x).pn = s.pn := Eq.trans rfl rfl
theorem kq_go_pm (s : kRS) (x : Int32) : (kq_go s x).pm = s.pm := Eq.trans rfl rfl
theorem kq_go_wh (s : kRS) (x : Int32) : (kq_go s x).wh = s.wh := Eq.trans rfl rfl
theorem kq_go_wd (s : kRS) (x : Int32) : (kq_go s x).wd = s.wd := Eq.trans rfl rfl
theorem kq_go_rg (s : kRS) (x : Int32) : (kq_go s x).rg = s.rg := Eq.trans rfl rfl
theorem kq_go_fr (s : kRS) (x : Int32) : (kq_go s x).fr = s.fr := Eq.trans rfl rfl
theorem kq_go_sp (s : kRS) (x : Int32) : (kq_go s x).sp = s.sp := Eq.trans rfl rfl
theorem kq_go_dn (s : kRS) (x : Int32) : (kq_go s x).dn = s.dn := Eq.trans rfl rfl
theorem kq_go_bf (s : kRS) (x : Int32) : (kq_go s x).bf = s.bf := Eq.trans rfl rfl
theorem kq_go_XA (s : kRS) (x : Int32) : (kq_go s x).XA = s.XA := Eq.trans rfl rfl
theorem kq_go_XB (s : kRS) (x : Int32) : (kq_go s x).XB = s.XB := Eq.trans rfl rfl
theorem kq_resume_la (s : kRS)  : (kq_resume s).la = s.la := Eq.trans rfl rfl
theorem kq_resume_th (s : kRS)  : (kq_resume s).th = (kv_R_resume_th s.st s.qu) := Eq.trans rfl rfl
theorem kq_resume_st (s : kRS)  : (kq_resume s).st = (kv_R_resume_st s.st s.qu) := Eq.trans rfl rfl
theorem kq_resume_nx (s : kRS)  : (kq_resume s).nx = s.nx := Eq.trans rfl rfl
theorem kq_resume_wi (s : kRS)  : (kq_resume s).wi = s.wi := Eq.trans rfl rfl
theorem kq_resume_gp (s : kRS)  : (kq_resume s).gp = s.gp := Eq.trans rfl rfl
theorem kq_resume_vl (s : kRS)  : (kq_resume s).vl = s.vl := Eq.trans rfl rfl
theorem kq_resume_sa (s : kRS)  : (kq_resume s).sa = s.sa := Eq.trans rfl rfl
theorem kq_resume_bo (s : kRS)  : (kq_resume s).bo = s.bo := Eq.trans rfl rfl
theorem kq_resume_cy (s : kRS)  : (kq_resume s).cy = s.cy := Eq.trans rfl rfl
theorem kq_resume_sd (s : kRS)  : (kq_resume s).sd = s.sd := Eq.trans rfl rfl
theorem kq_resume_ma (s : kRS)  : (kq_resume s).ma = s.ma := Eq.trans rfl rfl
theorem kq_resume_qu (s : kRS)  : (kq_resume s).qu = s.qu := Eq.trans rfl rfl
theorem kq_resume_X (s : kRS)  : (kq_resume s).X = s.X := Eq.trans rfl rfl
theorem kq_resume_F (s : kRS)  : (kq_resume s).F = s.F := Eq.trans rfl rfl
theorem kq_resume_M (s : kRS)  : (kq_resume s).M = s.M := Eq.trans rfl rfl
theorem kq_resume_po (s : kRS)  : (kq_resume s).po = s.po := Eq.trans rfl rfl
theorem kq_resume_pd (s : kRS)  : (kq_resume s).pd = s.pd := Eq.trans rfl rfl
theorem kq_resume_pa (s : kRS)  : (kq_resume s).pa = s.pa := Eq.trans rfl rfl
theorem kq_resume_pb (s : kRS)  : (kq_resume s).pb = s.pb := Eq.trans rfl rfl
theorem kq_resume_pn (s : kRS)  : (kq_resume s).pn = s.pn := Eq.trans rfl rfl
theorem kq_resume_pm (s : kRS)  : (kq_resume s).pm = s.pm := Eq.trans rfl rfl
theorem kq_resume_wh (s : kRS)  : (kq_resume s).wh = s.wh := Eq.trans rfl rfl
theorem kq_resume_wd (s : kRS)  : (kq_resume s).wd = s.wd := Eq.trans rfl rfl
theorem kq_resume_rg (s : kRS)  : (kq_resume s).rg = s.rg := Eq.trans rfl rfl
theorem kq_resume_fr (s : kRS)  : (kq_resume s).fr = s.fr := Eq.trans rfl rfl
theorem kq_resume_sp (s : kRS)  : (kq_resume s).sp = s.sp := Eq.trans rfl rfl
theorem kq_resume_dn (s : kRS)  : (kq_resume s).dn = s.dn := Eq.trans rfl rfl
theorem kq_resume_bf (s : kRS)  : (kq_resume s).bf = s.bf := Eq.trans rfl rfl
theorem kq_resume_XA (s : kRS)  : (kq_resume s).XA = s.XA := Eq.trans rfl rfl
theorem kq_resume_XB (s : kRS)  : (kq_resume s).XB = s.XB := Eq.trans rfl rfl
theorem kq_limit_la (s : kRS) (y9 : Nat) : (kq_limit s y9).la = s.la := Eq.trans rfl rfl
theorem kq_limit_th (s : kRS) (y9 : Nat) : (kq_limit s y9).th = (kv_R_limit_th s.st s.qu y9) := Eq.trans rfl rfl
theorem kq_limit_st (s : kRS) (y9 : Nat) : (kq_limit s y9).st = s.st := Eq.trans rfl rfl
theorem kq_limit_nx (s : kRS) (y9 : Nat) : (kq_limit s y9).nx = s.nx := Eq.trans rfl rfl
theorem kq_limit_wi (s : kRS) (y9 : Nat) : (kq_limit s y9).wi = s.wi := Eq.trans rfl rfl
theorem kq_limit_gp (s : kRS) (y9 : Nat) : (kq_limit s y9).gp = s.gp := Eq.trans rfl rfl
theorem kq_limit_vl (s : kRS) (y9 : Nat) : (kq_limit s y9).vl = s.vl := Eq.trans rfl rfl
theorem kq_limit_sa (s : kRS) (y9 : Nat) : (kq_limit s y9).sa = s.sa := Eq.trans rfl rfl
theorem kq_limit_bo (s : kRS) (y9 : Nat) : (kq_limit s y9).bo = (kv_R_limit_bo s.st s.bo s.qu y9) := Eq.trans rfl rfl
theorem kq_limit_cy (s : kRS) (y9 : Nat) : (kq_limit s y9).cy = s.cy := Eq.trans rfl rfl
theorem kq_limit_sd (s : kRS) (y9 : Nat) : (kq_limit s y9).sd = s.sd := Eq.trans rfl rfl
theorem kq_limit_ma (s : kRS) (y9 : Nat) : (kq_limit s y9).ma = s.ma := Eq.trans rfl rfl
theorem kq_limit_qu (s : kRS) (y9 : Nat) : (kq_limit s y9).qu = s.qu := Eq.trans rfl rfl
theorem kq_limit_X (s : kRS) (y9 : Nat) : (kq_limit s y9).X = s.X := Eq.trans rfl rfl
theorem kq_limit_F (s : kRS) (y9 : Nat) : (kq_limit s y9).F = s.F := Eq.trans rfl rfl
theorem kq_limit_M (s : kRS) (y9 : Nat) : (kq_limit s y9).M = s.M := Eq.trans rfl rfl
theorem kq_limit_po (s : kRS) (y9 : Nat) : (kq_limit s y9).po = s.po := Eq.trans rfl rfl
theorem kq_limit_pd (s : kRS) (y9 : Nat) : (kq_limit s y9).pd = s.pd := Eq.trans rfl rfl
theorem kq_limit_pa (s : kRS) (y9 : Nat) : (kq_limit s y9).pa = s.pa := Eq.trans rfl rfl
theorem kq_limit_pb (s : kRS) (y9 : Nat) : (kq_limit s y9).pb = s.pb := Eq.trans rfl rfl
theorem kq_limit_pn (s : kRS) (y9 : Nat) : (kq_limit s y9).pn = s.pn := Eq.trans rfl rfl
theorem kq_limit_pm (s : kRS) (y9 : Nat) : (kq_limit s y9).pm = s.pm := Eq.trans rfl rfl
theorem kq_limit_wh (s : kRS) (y9 : Nat) : (kq_limit s y9).wh = s.wh := Eq.trans rfl rfl
theorem kq_limit_wd (s : kRS) (y9 : Nat) : (kq_limit s y9).wd = s.wd := Eq.trans rfl rfl
theorem kq_limit_rg (s : kRS) (y9 : Nat) : (kq_limit s y9).rg = s.rg := Eq.trans rfl rfl
theorem kq_limit_fr (s : kRS) (y9 : Nat) : (kq_limit s y9).fr = s.fr := Eq.trans rfl rfl
theorem kq_limit_sp (s : kRS) (y9 : Nat) : (kq_limit s y9).sp = s.sp := Eq.trans rfl rfl
theorem kq_limit_dn (s : kRS) (y9 : Nat) : (kq_limit s y9).dn = s.dn := Eq.trans rfl rfl
theorem kq_limit_bf (s : kRS) (y9 : Nat) : (kq_limit s y9).bf = s.bf := Eq.trans rfl rfl
theorem kq_limit_XA (s : kRS) (y9 : Nat) : (kq_limit s y9).XA = s.XA := Eq.trans rfl rfl
theorem kq_limit_XB (s : kRS) (y9 : Nat) : (kq_limit s y9).XB = s.XB := Eq.trans rfl rfl
theorem kq_poke_la (s : kRS) (x y : Int32) : (kq_poke s x y).la = s.la := Eq.trans rfl rfl
theorem kq_poke_th (s : kRS) (x y : Int32) : (kq_poke s x y).th = (kv_R_poke_th x y) := Eq.trans rfl rfl
theorem kq_poke_st (s : kRS) (x y : Int32) : (kq_poke s x y).st = s.st := Eq.trans rfl rfl
theorem kq_poke_nx (s : kRS) (x y : Int32) : (kq_poke s x y).nx = s.nx := Eq.trans rfl rfl
theorem kq_poke_wi (s : kRS) (x y : Int32) : (kq_poke s x y).wi = s.wi := Eq.trans rfl rfl
theorem kq_poke_gp (s : kRS) (x y : Int32) : (kq_poke s x y).gp = s.gp := Eq.trans rfl rfl
theorem kq_poke_vl (s : kRS) (x y : Int32) : (kq_poke s x y).vl = s.vl := Eq.trans rfl rfl
theorem kq_poke_sa (s : kRS) (x y : Int32) : (kq_poke s x y).sa = s.sa := Eq.trans rfl rfl
theorem kq_poke_bo (s : kRS) (x y : Int32) : (kq_poke s x y).bo = s.bo := Eq.trans rfl rfl
theorem kq_poke_cy (s : kRS) (x y : Int32) : (kq_poke s x y).cy = s.cy := Eq.trans rfl rfl
theorem kq_poke_sd (s : kRS) (x y : Int32) : (kq_poke s x y).sd = s.sd := Eq.trans rfl rfl
theorem kq_poke_ma (s : kRS) (x y : Int32) : (kq_poke s x y).ma = s.ma := Eq.trans rfl rfl
theorem kq_poke_qu (s : kRS) (x y : Int32) : (kq_poke s x y).qu = s.qu := Eq.trans rfl rfl
theorem kq_poke_X (s : kRS) (x y : Int32) : (kq_poke s x y).X = s.X := Eq.trans rfl rfl
theorem kq_poke_F (s : kRS) (x y : Int32) : (kq_poke s x y).F = s.F := Eq.trans rfl rfl
theorem kq_poke_M (s : kRS) (x y : Int32) : (kq_poke s x y).M = (kv_R_poke_M s.M x y) := Eq.trans rfl rfl
theorem kq_poke_po (s : kRS) (x y : Int32) : (kq_poke s x y).po = s.po := Eq.trans rfl rfl
theorem kq_poke_pd (s : kRS) (x y : Int32) : (kq_poke s x y).pd = s.pd := Eq.trans rfl rfl
theorem kq_poke_pa (s : kRS) (x y : Int32) : (kq_poke s x y).pa = s.pa := Eq.trans rfl rfl
theorem kq_poke_pb (s : kRS) (x y : Int32) : (kq_poke s x y).pb = s.pb := Eq.trans rfl rfl
theorem kq_poke_pn (s : kRS) (x y : Int32) : (kq_poke s x y).pn = s.pn := Eq.trans rfl rfl
theorem kq_poke_pm (s : kRS) (x y : Int32) : (kq_poke s x y).pm = s.pm := Eq.trans rfl rfl
theorem kq_poke_wh (s : kRS) (x y : Int32) : (kq_poke s x y).wh = s.wh := Eq.trans rfl rfl
theorem kq_poke_wd (s : kRS) (x y : Int32) : (kq_poke s x y).wd = s.wd := Eq.trans rfl rfl
theorem kq_poke_rg (s : kRS) (x y : Int32) : (kq_poke s x y).rg = s.rg := Eq.trans rfl rfl
theorem kq_poke_fr (s : kRS) (x y : Int32) : (kq_poke s x y).fr = s.fr := Eq.trans rfl rfl
theorem kq_poke_sp (s : kRS) (x y : Int32) : (kq_poke s x y).sp = s.sp := Eq.trans rfl rfl
theorem kq_poke_dn (s : kRS) (x y : Int32) : (kq_poke s x y).dn = s.dn := Eq.trans rfl rfl
theorem kq_poke_bf (s : kRS) (x y : Int32) : (kq_poke s x y).bf = s.bf := Eq.trans rfl rfl
theorem kq_poke_XA (s : kRS) (x y : Int32) : (kq_poke s x y).XA = s.XA := Eq.trans rfl rfl
theorem kq_poke_XB (s : kRS) (x y : Int32) : (kq_poke s x y).XB = s.XB := Eq.trans rfl rfl
theorem km_go_la (x : kMS) (v : Nat) : (km_go x v).la = x.la := Eq.trans rfl rfl
theorem km_go_ma (x : kMS) (v : Nat) : (km_go x v).ma = x.ma := Eq.trans rfl rfl
theorem km_go_qu (x : kMS) (v : Nat) : (km_go x v).qu = x.qu := Eq.trans rfl rfl
theorem km_go_st (x : kMS) (v : Nat) : (km_go x v).st = 0 := Eq.trans rfl rfl
theorem km_go_nx (x : kMS) (v : Nat) : (km_go x v).nx = (nI v) := Eq.trans rfl rfl
theorem km_go_bo (x : kMS) (v : Nat) : (km_go x v).bo = x.bo := Eq.trans rfl rfl
theorem km_go_cy (x : kMS) (v : Nat) : (km_go x v).cy = x.cy := Eq.trans rfl rfl
theorem km_go_sd (x : kMS) (v : Nat) : (km_go x v).sd = x.sd := Eq.trans rfl rfl
theorem km_go_X (x : kMS) (v : Nat) : (km_go x v).X = x.X := Eq.trans rfl rfl
theorem km_go_F (x : kMS) (v : Nat) : (km_go x v).F = x.F := Eq.trans rfl rfl
theorem km_go_G (x : kMS) (v : Nat) : (km_go x v).G = x.G := Eq.trans rfl rfl
theorem km_go_wp (x : kMS) (v : Nat) : (km_go x v).wp = x.wp := Eq.trans rfl rfl
theorem km_go_gp (x : kMS) (v : Nat) : (km_go x v).gp = x.gp := Eq.trans rfl rfl
theorem km_go_ln (x : kMS) (v : Nat) : (km_go x v).ln = x.ln := Eq.trans rfl rfl
theorem km_go_sa (x : kMS) (v : Nat) : (km_go x v).sa = 0 := Eq.trans rfl rfl
theorem km_go_wk (x : kMS) (v : Nat) : (km_go x v).wk = x.wk := Eq.trans rfl rfl
theorem km_go_po (x : kMS) (v : Nat) : (km_go x v).po = x.po := Eq.trans rfl rfl
theorem km_go_pd (x : kMS) (v : Nat) : (km_go x v).pd = x.pd := Eq.trans rfl rfl
theorem km_go_pa (x : kMS) (v : Nat) : (km_go x v).pa = x.pa := Eq.trans rfl rfl
theorem km_go_pb (x : kMS) (v : Nat) : (km_go x v).pb = x.pb := Eq.trans rfl rfl
theorem km_go_pn (x : kMS) (v : Nat) : (km_go x v).pn = x.pn := Eq.trans rfl rfl
theorem km_go_pm (x : kMS) (v : Nat) : (km_go x v).pm = x.pm := Eq.trans rfl rfl
theorem km_go_ww (x : kMS) (v : Nat) : (km_go x v).ww = x.ww := Eq.trans rfl rfl
theorem km_go_gr (x : kMS) (v : Nat) : (km_go x v).gr = x.gr := Eq.trans rfl rfl
theorem km_go_mo (x : kMS) (v : Nat) : (km_go x v).mo = x.mo := Eq.trans rfl rfl
theorem km_go_xa (x : kMS) (v : Nat) : (km_go x v).xa = x.xa := Eq.trans rfl rfl
theorem km_go_xb (x : kMS) (v : Nat) : (km_go x v).xb = x.xb := Eq.trans rfl rfl
theorem km_go_fr (x : kMS) (v : Nat) : (km_go x v).fr = x.fr := Eq.trans rfl rfl
theorem km_go_wi (x : kMS) (v : Nat) : (km_go x v).wi = x.wi := Eq.trans rfl rfl
theorem km_go_nu (x : kMS) (v : Nat) : (km_go x v).nu = x.nu := Eq.trans rfl rfl
theorem km_go_tt (x : kMS) (v : Nat) : (km_go x v).tt = x.tt := Eq.trans rfl rfl
theorem km_go_dn (x : kMS) (v : Nat) : (km_go x v).dn = x.dn := Eq.trans rfl rfl
theorem km_go_db (x : kMS) (v : Nat) : (km_go x v).db = x.db := Eq.trans rfl rfl
theorem km_go_rF (x : kMS) (v : Nat) : (km_go x v).rF = x.rF := Eq.trans rfl rfl
theorem km_go_wF (x : kMS) (v : Nat) : (km_go x v).wF = x.wF := Eq.trans rfl rfl
theorem km_resume_la (x : kMS) : (km_resume x).la = x.la := Eq.trans rfl rfl
theorem km_resume_ma (x : kMS) : (km_resume x).ma = x.ma := Eq.trans rfl rfl
theorem km_resume_qu (x : kMS) : (km_resume x).qu = x.qu := Eq.trans rfl rfl
theorem km_resume_st (x : kMS) : (km_resume x).st = 0 := Eq.trans rfl rfl
theorem km_resume_nx (x : kMS) : (km_resume x).nx = x.nx := Eq.trans rfl rfl
theorem km_resume_bo (x : kMS) : (km_resume x).bo = x.bo := Eq.trans rfl rfl
theorem km_resume_cy (x : kMS) : (km_resume x).cy = x.cy := Eq.trans rfl rfl
theorem km_resume_sd (x : kMS) : (km_resume x).sd = x.sd := Eq.trans rfl rfl
theorem km_resume_X (x : kMS) : (km_resume x).X = x.X := Eq.trans rfl rfl
theorem km_resume_F (x : kMS) : (km_resume x).F = x.F := Eq.trans rfl rfl
theorem km_resume_G (x : kMS) : (km_resume x).G = x.G := Eq.trans rfl rfl
theorem km_resume_wp (x : kMS) : (km_resume x).wp = x.wp := Eq.trans rfl rfl
theorem km_resume_gp (x : kMS) : (km_resume x).gp = x.gp := Eq.trans rfl rfl
theorem km_resume_ln (x : kMS) : (km_resume x).ln = x.ln := Eq.trans rfl rfl
theorem km_resume_sa (x : kMS) : (km_resume x).sa = x.sa := Eq.trans rfl rfl
theorem km_resume_wk (x : kMS) : (km_resume x).wk = x.wk := Eq.trans rfl rfl
theorem km_resume_po (x : kMS) : (km_resume x).po = x.po := Eq.trans rfl rfl
theorem km_resume_pd (x : kMS) : (km_resume x).pd = x.pd := Eq.trans rfl rfl
theorem km_resume_pa (x : kMS) : (km_resume x).pa = x.pa := Eq.trans rfl rfl
theorem km_resume_pb (x : kMS) : (km_resume x).pb = x.pb := Eq.trans rfl rfl
theorem km_resume_pn (x : kMS) : (km_resume x).pn = x.pn := Eq.trans rfl rfl
theorem km_resume_pm (x : kMS) : (km_resume x).pm = x.pm := Eq.trans rfl rfl
theorem km_resume_ww (x : kMS) : (km_resume x).ww = x.ww := Eq.trans rfl rfl
theorem km_resume_gr (x : kMS) : (km_resume x).gr = x.gr := Eq.trans rfl rfl
theorem km_resume_mo (x : kMS) : (km_resume x).mo = x.mo := Eq.trans rfl rfl
theorem km_resume_xa (x : kMS) : (km_resume x).xa = x.xa := Eq.trans rfl rfl
theorem km_resume_xb (x : kMS) : (km_resume x).xb = x.xb := Eq.trans rfl rfl
theorem km_resume_fr (x : kMS) : (km_resume x).fr = x.fr := Eq.trans rfl rfl
theorem km_resume_wi (x : kMS) : (km_resume x).wi = x.wi := Eq.trans rfl rfl
theorem km_resume_nu (x : kMS) : (km_resume x).nu = x.nu := Eq.trans rfl rfl
theorem km_resume_tt (x : kMS) : (km_resume x).tt = x.tt := Eq.trans rfl rfl
theorem km_resume_dn (x : kMS) : (km_resume x).dn = x.dn := Eq.trans rfl rfl
theorem km_resume_db (x : kMS) : (km_resume x).db = x.db := Eq.trans rfl rfl
theorem km_resume_rF (x : kMS) : (km_resume x).rF = x.rF := Eq.trans rfl rfl
theorem km_resume_wF (x : kMS) : (km_resume x).wF = x.wF := Eq.trans rfl rfl
theorem km_limit_la (x : kMS) (v : Nat) : (km_limit x v).la = x.la := Eq.trans rfl rfl
theorem km_limit_ma (x : kMS) (v : Nat) : (km_limit x v).ma = x.ma := Eq.trans rfl rfl
theorem km_limit_qu (x : kMS) (v : Nat) : (km_limit x v).qu = x.qu := Eq.trans rfl rfl
theorem km_limit_st (x : kMS) (v : Nat) : (km_limit x v).st = x.st := Eq.trans rfl rfl
theorem km_limit_nx (x : kMS) (v : Nat) : (km_limit x v).nx = x.nx := Eq.trans rfl rfl
theorem km_limit_bo (x : kMS) (v : Nat) : (km_limit x v).bo = v := Eq.trans rfl rfl
theorem km_limit_cy (x : kMS) (v : Nat) : (km_limit x v).cy = x.cy := Eq.trans rfl rfl
theorem km_limit_sd (x : kMS) (v : Nat) : (km_limit x v).sd = x.sd := Eq.trans rfl rfl
theorem km_limit_X (x : kMS) (v : Nat) : (km_limit x v).X = x.X := Eq.trans rfl rfl
theorem km_limit_F (x : kMS) (v : Nat) : (km_limit x v).F = x.F := Eq.trans rfl rfl
theorem km_limit_G (x : kMS) (v : Nat) : (km_limit x v).G = x.G := Eq.trans rfl rfl
theorem km_limit_wp (x : kMS) (v : Nat) : (km_limit x v).wp = x.wp := Eq.trans rfl rfl
theorem km_limit_gp (x : kMS) (v : Nat) : (km_limit x v).gp = x.gp := Eq.trans rfl rfl
theorem km_limit_ln (x : kMS) (v : Nat) : (km_limit x v).ln = x.ln := Eq.trans rfl rfl
theorem km_limit_sa (x : kMS) (v : Nat) : (km_limit x v).sa = x.sa := Eq.trans rfl rfl
theorem km_limit_wk (x : kMS) (v : Nat) : (km_limit x v).wk = x.wk := Eq.trans rfl rfl
theorem km_limit_po (x : kMS) (v : Nat) : (km_limit x v).po = x.po := Eq.trans rfl rfl
theorem km_limit_pd (x : kMS) (v : Nat) : (km_limit x v).pd = x.pd := Eq.trans rfl rfl
theorem km_limit_pa (x : kMS) (v : Nat) : (km_limit x v).pa = x.pa := Eq.trans rfl rfl
theorem km_limit_pb (x : kMS) (v : Nat) : (km_limit x v).pb = x.pb := Eq.trans rfl rfl
theorem km_limit_pn (x : kMS) (v : Nat) : (km_limit x v).pn = x.pn := Eq.trans rfl rfl
theorem km_limit_pm (x : kMS) (v : Nat) : (km_limit x v).pm = x.pm := Eq.trans rfl rfl
theorem km_limit_ww (x : kMS) (v : Nat) : (km_limit x v).ww = x.ww := Eq.trans rfl rfl
theorem km_limit_gr (x : kMS) (v : Nat) : (km_limit x v).gr = x.gr := Eq.trans rfl rfl
theorem km_limit_mo (x : kMS) (v : Nat) : (km_limit x v).mo = x.mo := Eq.trans rfl rfl
theorem km_limit_xa (x : kMS) (v : Nat) : (km_limit x v).xa = x.xa := Eq.trans rfl rfl
theorem km_limit_xb (x : kMS) (v : Nat) : (km_limit x v).xb = x.xb := Eq.trans rfl rfl
theorem km_limit_fr (x : kMS) (v : Nat) : (km_limit x v).fr = x.fr := Eq.trans rfl rfl
theorem km_limit_wi (x : kMS) (v : Nat) : (km_limit x v).wi = x.wi := Eq.trans rfl rfl
theorem km_limit_nu (x : kMS) (v : Nat) : (km_limit x v).nu = x.nu := Eq.trans rfl rfl
theorem km_limit_tt (x : kMS) (v : Nat) : (km_limit x v).tt = x.tt := Eq.trans rfl rfl
theorem km_limit_dn (x : kMS) (v : Nat) : (km_limit x v).dn = x.dn := Eq.trans rfl rfl
theorem km_limit_db (x : kMS) (v : Nat) : (km_limit x v).db = x.db := Eq.trans rfl rfl
theorem km_limit_rF (x : kMS) (v : Nat) : (km_limit x v).rF = x.rF := Eq.trans rfl rfl
theorem km_limit_wF (x : kMS) (v : Nat) : (km_limit x v).wF = x.wF := Eq.trans rfl rfl
theorem km_poke_la (x : kMS) (k : Nat) (y : Int32) : (km_poke x k y).la = x.la := Eq.trans rfl rfl
theorem km_poke_ma (x : kMS) (k : Nat) (y : Int32) : (km_poke x k y).ma = x.ma := Eq.trans rfl rfl
theorem km_poke_qu (x : kMS) (k : Nat) (y : Int32) : (km_poke x k y).qu = x.qu := Eq.trans rfl rfl
theorem km_poke_st (x : kMS) (k : Nat) (y : Int32) : (km_poke x k y).st = x.st := Eq.trans rfl rfl
theorem km_poke_nx (x : kMS) (k : Nat) (y : Int32) : (km_poke x k y).nx = x.nx := Eq.trans rfl rfl
theorem km_poke_bo (x : kMS) (k : Nat) (y : Int32) : (km_poke x k y).bo = x.bo := Eq.trans rfl rfl
theorem km_poke_cy (x : kMS) (k : Nat) (y : Int32) : (km_poke x k y).cy = x.cy := Eq.trans rfl rfl
theorem km_poke_sd (x : kMS) (k : Nat) (y : Int32) : (km_poke x k y).sd = x.sd := Eq.trans rfl rfl
theorem km_poke_X (x : kMS) (k : Nat) (y : Int32) : (km_poke x k y).X = x.X := Eq.trans rfl rfl
theorem km_poke_F (x : kMS) (k : Nat) (y : Int32) : (km_poke x k y).F = x.F := Eq.trans rfl rfl
theorem km_poke_G (x : kMS) (k : Nat) (y : Int32) : (km_poke x k y).G = (kv_write x.G 128 (nI k) 1 y) := Eq.trans rfl rfl
theorem km_poke_wp (x : kMS) (k : Nat) (y : Int32) : (km_poke x k y).wp = x.wp := Eq.trans rfl rfl
theorem km_poke_gp (x : kMS) (k : Nat) (y : Int32) : (km_poke x k y).gp = x.gp := Eq.trans rfl rfl
theorem km_poke_ln (x : kMS) (k : Nat) (y : Int32) : (km_poke x k y).ln = x.ln := Eq.trans rfl rfl
theorem km_poke_sa (x : kMS) (k : Nat) (y : Int32) : (km_poke x k y).sa = x.sa := Eq.trans rfl rfl
theorem km_poke_wk (x : kMS) (k : Nat) (y : Int32) : (km_poke x k y).wk = x.wk := Eq.trans rfl rfl
theorem km_poke_po (x : kMS) (k : Nat) (y : Int32) : (km_poke x k y).po = x.po := Eq.trans rfl rfl
theorem km_poke_pd (x : kMS) (k : Nat) (y : Int32) : (km_poke x k y).pd = x.pd := Eq.trans rfl rfl
theorem km_poke_pa (x : kMS) (k : Nat) (y : Int32) : (km_poke x k y).pa = x.pa := Eq.trans rfl rfl
theorem km_poke_pb (x : kMS) (k : Nat) (y : Int32) : (km_poke x k y).pb = x.pb := Eq.trans rfl rfl
theorem km_poke_pn (x : kMS) (k : Nat) (y : Int32) : (km_poke x k y).pn = x.pn := Eq.trans rfl rfl
theorem km_poke_pm (x : kMS) (k : Nat) (y : Int32) : (km_poke x k y).pm = x.pm := Eq.trans rfl rfl
theorem km_poke_ww (x : kMS) (k : Nat) (y : Int32) : (km_poke x k y).ww = x.ww := Eq.trans rfl rfl
theorem km_poke_gr (x : kMS) (k : Nat) (y : Int32) : (km_poke x k y).gr = x.gr := Eq.trans rfl rfl
theorem km_poke_mo (x : kMS) (k : Nat) (y : Int32) : (km_poke x k y).mo = x.mo := Eq.trans rfl rfl
theorem km_poke_xa (x : kMS) (k : Nat) (y : Int32) : (km_poke x k y).xa = x.xa := Eq.trans rfl rfl
theorem km_poke_xb (x : kMS) (k : Nat) (y : Int32) : (km_poke x k y).xb = x.xb := Eq.trans rfl rfl
theorem km_poke_fr (x : kMS) (k : Nat) (y : Int32) : (km_poke x k y).fr = x.fr := Eq.trans rfl rfl
theorem km_poke_wi (x : kMS) (k : Nat) (y : Int32) : (km_poke x k y).wi = x.wi := Eq.trans rfl rfl
theorem km_poke_nu (x : kMS) (k : Nat) (y : Int32) : (km_poke x k y).nu = x.nu := Eq.trans rfl rfl
theorem km_poke_tt (x : kMS) (k : Nat) (y : Int32) : (km_poke x k y).tt = x.tt := Eq.trans rfl rfl
theorem km_poke_dn (x : kMS) (k : Nat) (y : Int32) : (km_poke x k y).dn = x.dn := Eq.trans rfl rfl
theorem km_poke_db (x : kMS) (k : Nat) (y : Int32) : (km_poke x k y).db = x.db := Eq.trans rfl rfl
theorem km_poke_rF (x : kMS) (k : Nat) (y : Int32) : (km_poke x k y).rF = x.rF := Eq.trans rfl rfl
theorem km_poke_wF (x : kMS) (k : Nat) (y : Int32) : (km_poke x k y).wF = x.wF := Eq.trans rfl rfl
theorem km_put_la (x : kMS) (o9 d9 a9 b9 : Nat) (n9 m9 : Int32) : (km_put x o9 d9 a9 b9 n9 m9).la = x.la := Eq.trans rfl rfl
theorem km_put_ma (x : kMS) (o9 d9 a9 b9 : Nat) (n9 m9 : Int32) : (km_put x o9 d9 a9 b9 n9 m9).ma = (x.ma + 1) := Eq.trans rfl rfl
theorem km_put_qu (x : kMS) (o9 d9 a9 b9 : Nat) (n9 m9 : Int32) : (km_put x o9 d9 a9 b9 n9 m9).qu = x.qu := Eq.trans rfl rfl
theorem km_put_st (x : kMS) (o9 d9 a9 b9 : Nat) (n9 m9 : Int32) : (km_put x o9 d9 a9 b9 n9 m9).st = x.st := Eq.trans rfl rfl
theorem km_put_nx (x : kMS) (o9 d9 a9 b9 : Nat) (n9 m9 : Int32) : (km_put x o9 d9 a9 b9 n9 m9).nx = x.nx := Eq.trans rfl rfl
theorem km_put_bo (x : kMS) (o9 d9 a9 b9 : Nat) (n9 m9 : Int32) : (km_put x o9 d9 a9 b9 n9 m9).bo = x.bo := Eq.trans rfl rfl
theorem km_put_cy (x : kMS) (o9 d9 a9 b9 : Nat) (n9 m9 : Int32) : (km_put x o9 d9 a9 b9 n9 m9).cy = x.cy := Eq.trans rfl rfl
theorem km_put_sd (x : kMS) (o9 d9 a9 b9 : Nat) (n9 m9 : Int32) : (km_put x o9 d9 a9 b9 n9 m9).sd = x.sd := Eq.trans rfl rfl
theorem km_put_X (x : kMS) (o9 d9 a9 b9 : Nat) (n9 m9 : Int32) : (km_put x o9 d9 a9 b9 n9 m9).X = x.X := Eq.trans rfl rfl
theorem km_put_F (x : kMS) (o9 d9 a9 b9 : Nat) (n9 m9 : Int32) : (km_put x o9 d9 a9 b9 n9 m9).F = x.F := Eq.trans rfl rfl
theorem km_put_G (x : kMS) (o9 d9 a9 b9 : Nat) (n9 m9 : Int32) : (km_put x o9 d9 a9 b9 n9 m9).G = x.G := Eq.trans rfl rfl
theorem km_put_wp (x : kMS) (o9 d9 a9 b9 : Nat) (n9 m9 : Int32) : (km_put x o9 d9 a9 b9 n9 m9).wp = x.wp := Eq.trans rfl rfl
theorem km_put_gp (x : kMS) (o9 d9 a9 b9 : Nat) (n9 m9 : Int32) : (km_put x o9 d9 a9 b9 n9 m9).gp = x.gp := Eq.trans rfl rfl
theorem km_put_ln (x : kMS) (o9 d9 a9 b9 : Nat) (n9 m9 : Int32) : (km_put x o9 d9 a9 b9 n9 m9).ln = x.ln := Eq.trans rfl rfl
theorem km_put_sa (x : kMS) (o9 d9 a9 b9 : Nat) (n9 m9 : Int32) : (km_put x o9 d9 a9 b9 n9 m9).sa = x.sa := Eq.trans rfl rfl
theorem km_put_wk (x : kMS) (o9 d9 a9 b9 : Nat) (n9 m9 : Int32) : (km_put x o9 d9 a9 b9 n9 m9).wk = x.wk := Eq.trans rfl rfl
theorem km_put_po (x : kMS) (o9 d9 a9 b9 : Nat) (n9 m9 : Int32) : (km_put x o9 d9 a9 b9 n9 m9).po = (va_up x.po (x.ma + 1) o9) := Eq.trans rfl rfl
theorem km_put_pd (x : kMS) (o9 d9 a9 b9 : Nat) (n9 m9 : Int32) : (km_put x o9 d9 a9 b9 n9 m9).pd = (va_up x.pd (x.ma + 1) d9) := Eq.trans rfl rfl
theorem km_put_pa (x : kMS) (o9 d9 a9 b9 : Nat) (n9 m9 : Int32) : (km_put x o9 d9 a9 b9 n9 m9).pa = (va_up x.pa (x.ma + 1) a9) := Eq.trans rfl rfl
theorem km_put_pb (x : kMS) (o9 d9 a9 b9 : Nat) (n9 m9 : Int32) : (km_put x o9 d9 a9 b9 n9 m9).pb = (va_up x.pb (x.ma + 1) b9) := Eq.trans rfl rfl
theorem km_put_pn (x : kMS) (o9 d9 a9 b9 : Nat) (n9 m9 : Int32) : (km_put x o9 d9 a9 b9 n9 m9).pn = (va_up x.pn (x.ma + 1) n9) := Eq.trans rfl rfl
theorem km_put_pm (x : kMS) (o9 d9 a9 b9 : Nat) (n9 m9 : Int32) : (km_put x o9 d9 a9 b9 n9 m9).pm = (va_up x.pm (x.ma + 1) m9) := Eq.trans rfl rfl
theorem km_put_ww (x : kMS) (o9 d9 a9 b9 : Nat) (n9 m9 : Int32) : (km_put x o9 d9 a9 b9 n9 m9).ww = x.ww := Eq.trans rfl rfl
theorem km_put_gr (x : kMS) (o9 d9 a9 b9 : Nat) (n9 m9 : Int32) : (km_put x o9 d9 a9 b9 n9 m9).gr = x.gr := Eq.trans rfl rfl
theorem km_put_mo (x : kMS) (o9 d9 a9 b9 : Nat) (n9 m9 : Int32) : (km_put x o9 d9 a9 b9 n9 m9).mo = x.mo := Eq.trans rfl rfl
theorem km_put_xa (x : kMS) (o9 d9 a9 b9 : Nat) (n9 m9 : Int32) : (km_put x o9 d9 a9 b9 n9 m9).xa = x.xa := Eq.trans rfl rfl
theorem km_put_xb (x : kMS) (o9 d9 a9 b9 : Nat) (n9 m9 : Int32) : (km_put x o9 d9 a9 b9 n9 m9).xb = x.xb := Eq.trans rfl rfl
theorem km_put_fr (x : kMS) (o9 d9 a9 b9 : Nat) (n9 m9 : Int32) : (km_put x o9 d9 a9 b9 n9 m9).fr = x.fr := Eq.trans rfl rfl
theorem km_put_wi (x : kMS) (o9 d9 a9 b9 : Nat) (n9 m9 : Int32) : (km_put x o9 d9 a9 b9 n9 m9).wi = x.wi := Eq.trans rfl rfl
theorem km_put_nu (x : kMS) (o9 d9 a9 b9 : Nat) (n9 m9 : Int32) : (km_put x o9 d9 a9 b9 n9 m9).nu = x.nu := Eq.trans rfl rfl
theorem km_put_tt (x : kMS) (o9 d9 a9 b9 : Nat) (n9 m9 : Int32) : (km_put x o9 d9 a9 b9 n9 m9).tt = x.tt := Eq.trans rfl rfl
theorem km_put_dn (x : kMS) (o9 d9 a9 b9 : Nat) (n9 m9 : Int32) : (km_put x o9 d9 a9 b9 n9 m9).dn = x.dn := Eq.trans rfl rfl
theorem km_put_db (x : kMS) (o9 d9 a9 b9 : Nat) (n9 m9 : Int32) : (km_put x o9 d9 a9 b9 n9 m9).db = x.db := Eq.trans rfl rfl
theorem km_put_rF (x : kMS) (o9 d9 a9 b9 : Nat) (n9 m9 : Int32) : (km_put x o9 d9 a9 b9 n9 m9).rF = x.rF := Eq.trans rfl rfl
theorem km_put_wF (x : kMS) (o9 d9 a9 b9 : Nat) (n9 m9 : Int32) : (km_put x o9 d9 a9 b9 n9 m9).wF = x.wF := Eq.trans rfl rfl
