/-! pure part: P23 -/
theorem kp_any (v : Int32) : ∃ n : Nat, v = nI n := ⟨v.toBitVec.toNat, by
  apply Int32.toBitVec_inj.mp
  show v.toBitVec = BitVec.ofNat 32 v.toBitVec.toNat
  simp⟩
theorem kp_7 {v : Int32} (h : ¬ v < 0) : 7 < v ↔ 8 ≤ v := by
  obtain ⟨j, hj, rfl⟩ := nI_of h
  rw [show (7 : Int32) = nI 7 from rfl, show (8 : Int32) = nI 8 from rfl, nI_ltI (by decide) hj, nI_leI (by decide) hj]
  omega
theorem kp_reg (v : Int32) : kv_R_isRegister v = kv_M_isRegister v := by
  unfold kv_R_isRegister kv_M_isRegister
  by_cases h : v < 0
  · rw [if_pos h, if_pos h]
  · rw [if_neg h, if_neg h]
    by_cases h2 : 7 < v
    · rw [if_pos h2, if_pos ((kp_7 h).mp h2)]
    · rw [if_neg h2, if_neg (fun z => h2 ((kp_7 h).mpr z))]
/-- put's arguments are good -/
def kpGd (o d a b n : Int32) : Prop := ¬ o < 0 ∧ ¬ 20 < o ∧ ¬ kv_M_isRegister d = 0 ∧ ¬ kv_M_isRegister a = 0 ∧ ¬ kv_M_isRegister b = 0 ∧ (o = 6 → ¬ kv_S_isCode n = 0)
theorem kp_pth {st ma o9 d9 a9 b9 : Nat} {n : Int32} : (kpGd (nI o9) (nI d9) (nI a9) (nI b9) n → kv_R_put_th st ma o9 d9 a9 b9 n = if nI ma = 40 then 2 else if nI st = 0 then 2 else 0) ∧ (¬ kpGd (nI o9) (nI d9) (nI a9) (nI b9) n → kv_R_put_th st ma o9 d9 a9 b9 n = 1) := by
  unfold kv_R_put_th
  rw [kp_reg, kp_reg, kp_reg]
  have hc : (if n < 0 then (0 : Int32) else if 10 < n then 0 else if (n - n / 4 * 4) = 3 then 0 else 1) = kv_S_isCode n := rfl
  rw [hc]
  by_cases h0 : nI o9 < 0
  · rw [if_pos h0, if_pos rfl]; exact ⟨fun z => absurd h0 z.1, fun _ => rfl⟩
  rw [if_neg h0]
  by_cases h1 : 20 < nI o9
  · rw [if_pos h1, if_pos rfl]; exact ⟨fun z => absurd h1 z.2.1, fun _ => rfl⟩
  rw [if_neg h1]
  by_cases h2 : kv_M_isRegister (nI d9) = 0
  · rw [if_pos h2, if_pos rfl]; exact ⟨fun z => absurd h2 z.2.2.1, fun _ => rfl⟩
  rw [if_neg h2]
  by_cases h3 : kv_M_isRegister (nI a9) = 0
  · rw [if_pos h3, if_pos rfl]; exact ⟨fun z => absurd h3 z.2.2.2.1, fun _ => rfl⟩
  rw [if_neg h3]
  by_cases h4 : kv_M_isRegister (nI b9) = 0
  · rw [if_pos h4, if_pos rfl]; exact ⟨fun z => absurd h4 z.2.2.2.2.1, fun _ => rfl⟩
  rw [if_neg h4]
  by_cases h5 : nI o9 = 6
  · rw [if_pos h5]
    by_cases h6 : kv_S_isCode n = 0
    · rw [if_pos h6]; exact ⟨fun z => absurd h6 (z.2.2.2.2.2 h5), fun _ => rfl⟩
    · rw [if_neg h6]; exact ⟨fun _ => rfl, fun z => absurd ⟨h0, h1, h2, h3, h4, fun _ => h6⟩ z⟩
  · rw [if_neg h5, if_neg (by decide)]; exact ⟨fun _ => rfl, fun z => absurd ⟨h0, h1, h2, h3, h4, fun z => absurd z h5⟩ z⟩
theorem kp_qput {s : kRS} {o9 d9 a9 b9 : Nat} {n m : Int32} : kq_put s o9 d9 a9 b9 n m = kmk s.la (kv_R_put_th s.st s.ma o9 d9 a9 b9 n) s.st s.nx s.wi s.gp s.vl s.sa s.bo s.cy s.sd (if kv_R_put_th s.st s.ma o9 d9 a9 b9 n ≤ 0 then s.ma + 1 else s.ma) s.qu s.X s.F s.M (if kv_R_put_th s.st s.ma o9 d9 a9 b9 n ≤ 0 then va_up s.po s.ma o9 else s.po) (if kv_R_put_th s.st s.ma o9 d9 a9 b9 n ≤ 0 then va_up s.pd s.ma d9 else s.pd) (if kv_R_put_th s.st s.ma o9 d9 a9 b9 n ≤ 0 then va_up s.pa s.ma a9 else s.pa) (if kv_R_put_th s.st s.ma o9 d9 a9 b9 n ≤ 0 then va_up s.pb s.ma b9 else s.pb) (if kv_R_put_th s.st s.ma o9 d9 a9 b9 n ≤ 0 then upd s.pn s.ma n else s.pn) (if kv_R_put_th s.st s.ma o9 d9 a9 b9 n ≤ 0 then upd s.pm s.ma (vp_nar .boolean m) else s.pm) s.wh s.wd s.rg s.fr s.sp s.dn s.bf s.XA s.XB := rfl
theorem kZ.putA {r : kRS} {o9 d9 a9 b9 : Nat} {n m : Int32} (h : ¬ kpGd (nI o9) (nI d9) (nI a9) (nI b9) n) : kq_put r o9 d9 a9 b9 n m = kq_th r 1 := by
  rw [kp_qput, kp_pth.2 h]
  simp (decide := true) only [if_false]
  rfl
theorem kZ.putS {r : kRS} {o9 d9 a9 b9 : Nat} {n m : Int32} (h : kpGd (nI o9) (nI d9) (nI a9) (nI b9) n) (h2 : nI r.ma = 40 ∨ nI r.st = 0) : kq_put r o9 d9 a9 b9 n m = kq_th r 2 := by
  have e : kv_R_put_th r.st r.ma o9 d9 a9 b9 n = 2 := by
    rw [kp_pth.1 h]
    by_cases h3 : nI r.ma = 40
    · rw [if_pos h3]
    · rw [if_neg h3]
      rcases h2 with z | z
      · exact absurd z h3
      · rw [if_pos z]
  rw [kp_qput, e]
  simp (decide := true) only [if_false]
  rfl
section
variable {po pd pa pb po' pd' pa' pb' : Nat → Nat} {pm pm' : Nat → Int32} {wh wd rg fr sp : Nat → Nat} {XA XB : Nat → Int32} {q : Nat}
theorem kp_cw (h1 : po' (wh q) = po (wh q)) (h2 : pd' (wh q) = pd (wh q)) (t : Nat) : kv_R_writes po' pd' wh wd fr q t = kv_R_writes po pd wh wd fr q t := by
  unfold kv_R_writes; rw [h1, h2]
theorem kp_cr (h1 : po' (wh q) = po (wh q)) (h2 : pd' (wh q) = pd (wh q)) (h3 : pa' (wh q) = pa (wh q)) (h4 : pb' (wh q) = pb (wh q)) (h5 : pm' (wh q) = pm (wh q)) (t v : Nat) : kv_R_reads po' pd' pa' pb' pm' wh wd rg fr XB q t v = kv_R_reads po pd pa pb pm wh wd rg fr XB q t v := by
  unfold kv_R_reads; rw [h1, h2, h3, h4, h5]
theorem kp_cp (h1 : po' (wh q) = po (wh q)) (h4 : pb' (wh q) = pb (wh q)) (F : Nat → Int32) (t : Nat) : kv_R_place F po' pb' wh wd XA XB q t = kv_R_place F po pb wh wd XA XB q t := by
  unfold kv_R_place; rw [h1, h4]
theorem kp_cS (h1 : po' (wh q) = po (wh q)) (h2 : pd' (wh q) = pd (wh q)) (h3 : pa' (wh q) = pa (wh q)) (h4 : pb' (wh q) = pb (wh q)) (h5 : pm' (wh q) = pm (wh q)) (h : kpS po pd pa pb pm wh wd rg fr sp XA q) : kpS po' pd' pa' pb' pm' wh wd rg fr sp XA q := by
  unfold kpS at h ⊢; rw [h1, h2, h3, h4, h5]; exact h
end
theorem kp_code {n : Int32} (h : ¬ kv_S_isCode n = 0) : ∃ c, c ≤ 10 ∧ c % 4 ≠ 3 ∧ n = nI c := by
  unfold kv_S_isCode at h
  by_cases h0 : n < 0
  · rw [if_pos h0] at h; exact absurd rfl h
  rw [if_neg h0] at h
  obtain ⟨j, hj, rfl⟩ := nI_of h0
  have h1 : (10 : Int32) < nI j ↔ 10 < j := nI_ltI (a := 10) (by decide) hj
  by_cases h2 : 10 < j
  · rw [if_pos (h1.mpr h2)] at h; exact absurd rfl h
  rw [if_neg (fun z => h2 (h1.mp z))] at h
  refine ⟨j, by omega, fun z => ?_, rfl⟩
  have key : ∀ j, j ≤ 10 → j % 4 = 3 → nI j - nI j / 4 * 4 = 3 := by decide +kernel
  rw [if_pos (key j (by omega) z)] at h
  exact absurd rfl h
theorem kZ.put {x : kMS} {r : kRS} {o9 d9 a9 b9 : Nat} {n m : Int32} (hZ : kZ x r) (ho : o9 ≤ 20) (hd : d9 < 8) (ha : a9 < 8) (hb : b9 < 8) (hm : m = 0 ∨ m = 1) (hg : kpGd (nI o9) (nI d9) (nI a9) (nI b9) n) (hma : r.ma < 40) (hst : ¬ nI r.st = 0) (hnar : vp_nar .boolean m = m) : kZ (km_put x o9 d9 a9 b9 n m) (kq_put r o9 d9 a9 b9 n m) ∧ (kq_put r o9 d9 a9 b9 n m).th = 0 ∧ kv_R_put r.st r.ma o9 d9 a9 b9 n = nI r.ma := by
  obtain ⟨hI, hC, hs⟩ := hZ
  obtain ⟨c1, c2, c3, c4, c5, c6, c7, c8, c9, c10, c11, c12, c13, c14, c15, c16, c17⟩ := hC.1
  have n40 : ¬ nI r.ma = 40 := fun z => by have := kp_inj (b := 40) (by omega) (by decide) z; omega
  have e : kv_R_put_th r.st r.ma o9 d9 a9 b9 n = 0 := by
    rw [kp_pth.1 hg, if_neg n40, if_neg hst]
  have e2 : kq_put r o9 d9 a9 b9 n m = kmk r.la 0 r.st r.nx r.wi r.gp r.vl r.sa r.bo r.cy r.sd (r.ma + 1) r.qu r.X r.F r.M (va_up r.po r.ma o9) (va_up r.pd r.ma d9) (va_up r.pa r.ma a9) (va_up r.pb r.ma b9) (upd r.pn r.ma n) (upd r.pm r.ma m) r.wh r.wd r.rg r.fr r.sp r.dn r.bf r.XA r.XB := by
    rw [kp_qput, e, hnar]
    simp (decide := true) only [if_true]
  have hw : ∀ q, q < r.qu → r.wh q ≠ r.ma := fun q hq => by have := (hI.2.2.1 q hq).1; omega
  have w1 : ∀ q, q < r.qu → va_up r.po r.ma o9 (r.wh q) = r.po (r.wh q) := fun q hq => va_up_ne _ _ (hw q hq)
  have w2 : ∀ q, q < r.qu → va_up r.pd r.ma d9 (r.wh q) = r.pd (r.wh q) := fun q hq => va_up_ne _ _ (hw q hq)
  have w3 : ∀ q, q < r.qu → va_up r.pa r.ma a9 (r.wh q) = r.pa (r.wh q) := fun q hq => va_up_ne _ _ (hw q hq)
  have w4 : ∀ q, q < r.qu → va_up r.pb r.ma b9 (r.wh q) = r.pb (r.wh q) := fun q hq => va_up_ne _ _ (hw q hq)
  have w5 : ∀ q, q < r.qu → upd r.pm r.ma m (r.wh q) = r.pm (r.wh q) := fun q hq => by unfold upd; rw [if_neg (hw q hq)]
  obtain ⟨j1, j2, j3, j4, j5⟩ := hI.2.2.2
  refine ⟨?_, by rw [e2]; rfl, ?_⟩
  · rw [e2]
    refine ⟨⟨?_, hI.2.1, ?_, j1, j2, j3, ?_, ?_⟩, ⟨?_, ?_, ?_, hC.2.2.2⟩, hs⟩
    · refine ⟨(by show r.ma + 1 ≤ 40; omega), fun j hj => ?_⟩
      show va_up r.po r.ma o9 j < 21 ∧ va_up r.pd r.ma d9 j < 8 ∧ va_up r.pa r.ma a9 j < 8 ∧ va_up r.pb r.ma b9 j < 8 ∧ (upd r.pm r.ma m j = 0 ∨ upd r.pm r.ma m j = 1) ∧ (va_up r.po r.ma o9 j = 6 → ∃ c, c ≤ 10 ∧ c % 4 ≠ 3 ∧ upd r.pn r.ma n j = nI c)
      have hj' : j < r.ma + 1 := hj
      unfold upd
      by_cases hjm : j = r.ma
      · subst hjm
        rw [va_up_self, va_up_self, va_up_self, va_up_self, if_pos rfl, if_pos rfl]
        exact ⟨by omega, hd, ha, hb, hm, fun h => kp_code (hg.2.2.2.2.2 (by rw [h]; rfl))⟩
      · rw [va_up_ne _ _ hjm, va_up_ne _ _ hjm, va_up_ne _ _ hjm, va_up_ne _ _ hjm, if_neg hjm, if_neg hjm]
        exact hI.1.2 j (by omega)
    · intro q hq
      obtain ⟨z1, z2, z3⟩ := hI.2.2.1 q hq
      exact ⟨(by show r.wh q < r.ma + 1; omega), kp_cS (w1 q hq) (w2 q hq) (w3 q hq) (w4 q hq) (w5 q hq) z2, z3⟩
    · intro q hq h17 t ht1 ht2 hon
      have p := kp_cp (XA := r.XA) (XB := r.XB) (wd := r.wd) (w1 q hq) (w4 q hq) r.F (r.fr q + t)
      show kv_R_place r.F (va_up r.po r.ma o9) (va_up r.pb r.ma b9) r.wh r.wd r.XA r.XB q (r.fr q + t) = nI (kv_R_place r.F (va_up r.po r.ma o9) (va_up r.pb r.ma b9) r.wh r.wd r.XA r.XB q (r.fr q + t)).toNatClampNeg ∧ _
      rw [p]
      have h17' : 17 ≤ va_up r.po r.ma o9 (r.wh q) := h17
      rw [w1 q hq] at h17'
      have hon' : upd r.pm r.ma m (r.wh q) = 0 ∨ ¬ kv_R_bit r.F 0 (r.fr q + t) = 0 := hon
      rw [w5 q hq] at hon'
      have := j4 q hq h17' t ht1 ht2 hon'
      refine ⟨this.1, ?_⟩
      show (kv_R_place r.F (va_up r.po r.ma o9) (va_up r.pb r.ma b9) r.wh r.wd r.XA r.XB q (r.fr q + t)).toNatClampNeg + r.wd q ≤ 128
      rw [p]; exact this.2
    · intro q hq h17 p hp t ht1 ht2 k hk hwr
      have hpq : p < r.qu := Nat.lt_trans hp hq
      have h17' : 17 ≤ va_up r.po r.ma o9 (r.wh q) := h17
      rw [w1 q hq] at h17'
      have hwr' : kpb (kv_R_writes (va_up r.po r.ma o9) (va_up r.pd r.ma d9) r.wh r.wd r.fr p t) k = true := hwr
      rw [kp_cw (w1 p hpq) (w2 p hpq)] at hwr'
      have hno := j5 q hq h17' p hp t ht1 ht2 k hk hwr'
      show ¬ kpN (va_up r.po r.ma o9) (va_up r.pb r.ma b9) (upd r.pm r.ma m) r.wh r.rg q k
      unfold kpN at hno ⊢
      rw [w1 q hq, w4 q hq, w5 q hq]
      exact hno
    · exact ⟨c1, by show x.ma + 1 = r.ma + 1; rw [c2], c3, c4, c5, c6, c7, c8, c9, c10, c11, c12, c13, c14, c15, c16, c17⟩
    · refine ⟨⟨?_, ?_⟩, fun j hj => ?_⟩
      · show va_up x.po (x.ma + 1) o9 0 = 4; rw [va_up_ne _ _ (by omega)]; exact hC.2.1.1.1
      · show va_up x.pd (x.ma + 1) d9 0 = 0; rw [va_up_ne _ _ (by omega)]; exact hC.2.1.1.2
      · show va_up x.po (x.ma + 1) o9 (j + 1) = va_up r.po r.ma o9 j ∧ va_up x.pd (x.ma + 1) d9 (j + 1) = va_up r.pd r.ma d9 j ∧ va_up x.pa (x.ma + 1) a9 (j + 1) = va_up r.pa r.ma a9 j ∧ va_up x.pb (x.ma + 1) b9 (j + 1) = va_up r.pb r.ma b9 j ∧ va_up x.pn (x.ma + 1) n (j + 1) = upd r.pn r.ma n j ∧ va_up x.pm (x.ma + 1) m (j + 1) = upd r.pm r.ma m j
        have hj' : j < r.ma + 1 := hj
        rw [c2]
        unfold upd
        by_cases hjm : j = r.ma
        · subst hjm
          rw [va_up_self, va_up_self, va_up_self, va_up_self, va_up_self, va_up_self, va_up_self, va_up_self, va_up_self, va_up_self, if_pos rfl, if_pos rfl]
          exact ⟨rfl, rfl, rfl, rfl, rfl, rfl⟩
        · have hj1 : j + 1 ≠ r.ma + 1 := by omega
          rw [va_up_ne _ _ hjm, va_up_ne _ _ hjm, va_up_ne _ _ hjm, va_up_ne _ _ hjm, va_up_ne _ _ hj1, va_up_ne _ _ hj1, va_up_ne _ _ hj1, va_up_ne _ _ hj1, va_up_ne _ _ hj1, va_up_ne _ _ hj1, if_neg hjm, if_neg hjm]
          exact hC.2.1.2 j (by omega)
    · intro q hq
      have hq' : q < r.qu := hq
      obtain ⟨e1, e2, e3, e4, e5, e6, e7, e8, e9, e10, e11⟩ := hC.2.2.1 q hq'
      refine ⟨e1, e2, e3, e4, e5, e6, e7, fun h => ?_, fun h => ?_, e10, fun s hs => ?_⟩
      · have h' : va_up r.po r.ma o9 (r.wh q) ≠ 14 := h
        rw [w1 q hq'] at h'
        exact e8 h'
      · have h' : va_up r.po r.ma o9 (r.wh q) = 14 := h
        rw [w1 q hq'] at h'
        exact e9 h'
      · obtain ⟨f1, f2⟩ := e11 s hs
        refine ⟨f1.trans ?_, f2.trans ?_⟩
        · show kpo (fun t => kv_R_reads r.po r.pd r.pa r.pb r.pm r.wh r.wd r.rg r.fr r.XB q t (r.XA q).toNatClampNeg) (r.sp q - s) s = kpo (fun t => kv_R_reads (va_up r.po r.ma o9) (va_up r.pd r.ma d9) (va_up r.pa r.ma a9) (va_up r.pb r.ma b9) (upd r.pm r.ma m) r.wh r.wd r.rg r.fr r.XB q t (r.XA q).toNatClampNeg) (r.sp q - s) s
          congr 1
          funext t
          exact (kp_cr (w1 q hq') (w2 q hq') (w3 q hq') (w4 q hq') (w5 q hq') t _).symm
        · show kpo (fun t => kv_R_writes r.po r.pd r.wh r.wd r.fr q t) (r.sp q - s) s = kpo (fun t => kv_R_writes (va_up r.po r.ma o9) (va_up r.pd r.ma d9) r.wh r.wd r.fr q t) (r.sp q - s) s
          congr 1
          funext t
          exact (kp_cw (w1 q hq') (w2 q hq') t).symm
  · have e3 : kv_R_put r.st r.ma o9 d9 a9 b9 n = if kv_R_put_th r.st r.ma o9 d9 a9 b9 n ≤ 0 then nI r.ma else 0 := rfl
    rw [e3, e, if_pos (by decide)]
/-- what is asked -/
theorem kZ.scalar {x : kMS} {r : kRS} (hZ : kZ x r) (v : Int32) : kv_M_scalar v x.X = kv_R_scalar r.X v := by
  unfold kv_M_scalar kv_R_scalar
  rw [kp_reg]
  unfold kv_M_isRegister
  by_cases h : v < 0
  · rw [if_pos h, if_pos h, if_pos rfl]
  · rw [if_neg h, if_neg h]
    by_cases h2 : 8 ≤ v
    · rw [if_pos h2, if_pos h2, if_pos rfl]
    · rw [if_neg h2, if_neg h2, if_neg (by decide)]
      obtain ⟨j, hj, rfl⟩ := nI_of h
      rw [nI_clamp hj]
      exact hZ.2.1.1.2.2.2.2.2.2.2.2.2.2.2.2.2.2.1 j (by
        have : ¬ 8 ≤ j := fun z => h2 ((nI_leI (a := 8) (by decide) hj).mpr z)
        omega)
theorem kp_fil {f F : Nat → Int32} {L : Nat} {v : Int32} (hL : L < 2 ^ 20) (hL1 : 1 ≤ L) (hF : kp_eq L f F) (hb : ∀ i, i < L → kp_by (F i)) : kv_B_number L 1 v f = (if v < 0 then 0 else if nI (L - 1) < v then 0 else F v.toNatClampNeg) := by
  by_cases h : v < 0
  · unfold kv_B_number kv_bare
    rw [if_pos h, if_pos h]; decide
  · rw [if_neg h]
    obtain ⟨j, hj, rfl⟩ := nI_of h
    have h1 : nI (L - 1) < nI j ↔ L - 1 < j := nI_ltI (by omega) hj
    by_cases h2 : L - 1 < j
    · rw [if_pos (h1.mpr h2)]
      unfold kv_B_number kv_bare
      rw [if_neg h, pk_sub hL1, if_pos (h1.mpr h2)]; decide
    · rw [if_neg (fun z => h2 (h1.mp z)), nI_clamp hj]
      rw [kp_numL (w := 1) (Or.inl rfl) hF (by omega) (by omega), kv_R_signed, if_neg (by decide), if_neg (by decide), kp_sx56]
      have e := kp_el F j 1 0
      rw [e, show (0 : Int64).toInt32 = 0 from rfl, kp_bN1]
      have hby := hb j (by omega)
      have h8 := kp_b8 (F j &&& 255)
      rw [show (24 &&& 31 : Int32) = 24 from by decide] at h8
      rw [h8]
      have : (F j &&& 255).toInt8 = (F j).toInt8 := by
        apply Int8.toBitVec_inj.mp
        rw [Int32.toBitVec_toInt8, Int32.toBitVec_toInt8]
        apply BitVec.eq_of_getLsbD_eq
        intro i hi
        simp only [BitVec.getLsbD_signExtend, Int32.toBitVec_and, BitVec.getLsbD_and, kp_t255]
        simp [hi, show i < 32 by omega]
      rw [this]
      exact hby
theorem kZ.file {x : kMS} {r : kRS} (hZ : kZ x r) (v : Int32) : kv_M_file v x.F = kv_R_file r.F v := by
  unfold kv_M_file kv_R_file
  rw [kp_fil (L := 64) (by decide) (by decide) hZ.2.1.1.2.2.2.2.2.2.2.2.2.2.2.2.2.2.2.1 hZ.1.2.2.2.1]
  rfl
theorem kZ.memory {x : kMS} {r : kRS} (hZ : kZ x r) (v : Int32) : kv_M_memory v x.G = kv_R_memory r.M v := by
  unfold kv_M_memory kv_R_memory
  rw [kp_fil (L := 128) (by decide) (by decide) hZ.2.1.1.2.2.2.2.2.2.2.2.2.2.2.2.2.2.2.2 hZ.1.2.2.2.2.1]
  rfl
theorem kZ.about {x : kMS} {r : kRS} (hZ : kZ x r) (v : Int32) : kv_M_about x.ma x.qu x.st x.bo x.nx x.cy x.sd (nI x.wp) (nI x.gp) (nI x.ln) (nI x.sa) v = kv_R_about r.st r.nx r.wi r.gp r.vl r.sa r.bo r.cy r.sd r.ma r.qu v := by
  obtain ⟨c1, c2, c3, c4, c5, c6, c7, c8, c9, c10, c11, c12, c13, c14, c15, c16, c17⟩ := hZ.2.1.1
  unfold kv_M_about kv_R_about
  rw [kp_wdt _ c9, kp_grp _ c10, c11, c12, c2, c3, c4, c5, c6, c7, c8, c13, c14]
theorem kZ.queue {x : kMS} {r : kRS} (hZ : kZ x r) (v y : Int32) : kv_M_queue x.qu x.wk x.po x.fr x.wi x.nu x.tt x.dn v y = kv_R_queue r.qu r.wh r.sp r.dn v y := by
  obtain ⟨hI, hC, -⟩ := hZ
  have c3 := hC.1.2.2.1
  have hqu : r.qu ≤ 4 := hI.2.1.2.1
  unfold kv_M_queue kv_R_queue
  rw [c3]
  by_cases h : v < 0
  · rw [if_pos h, if_pos h]
  rw [if_neg h, if_neg h]
  obtain ⟨j, hj, rfl⟩ := nI_of h
  have h1 : nI r.qu ≤ nI j ↔ r.qu ≤ j := nI_leI (by omega) hj
  have h2 : nI j < nI r.qu ↔ j < r.qu := nI_ltI hj (by omega)
  by_cases h3 : j < r.qu
  · rw [if_neg (fun z => by have := h1.mp z; omega), if_pos (h2.mpr h3), if_pos (show nI j < 4 from (nI_ltI (b := 4) hj (by decide)).mpr (by omega)), nI_clamp hj]
    obtain ⟨e1, e2, e3, e4, e5, e6, e7, e8, e9, e10, e11⟩ := hC.2.2.1 j h3
    obtain ⟨q1, q2, q3, q4, q5, q6, q7, q8, q9, q10, q11, q12, q13⟩ := kC.Q hI hC h3
    rw [q1, q10, q13, e2, e10]
  · rw [if_pos (h1.mpr (by omega)), if_neg (fun z => h3 (h2.mp z))]
