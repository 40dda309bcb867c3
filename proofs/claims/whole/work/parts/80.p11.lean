/-! pure part: P11 -/
def kIp (r : kRS) : Prop := r.ma ≤ 40 ∧ ∀ j, j < r.ma → r.po j < 21 ∧ r.pd j < 8 ∧ r.pa j < 8 ∧ r.pb j < 8 ∧ (r.pm j = 0 ∨ r.pm j = 1) ∧ (r.po j = 6 → ∃ c, c ≤ 10 ∧ c % 4 ≠ 3 ∧ r.pn j = nI c)
def kIs (r : kRS) : Prop := r.la ≤ 8 ∧ r.qu ≤ 4 ∧ kp_w r.wi ∧ kp_w r.gp ∧ r.vl ≤ 8 * r.gp / r.wi ∧ r.sa ≤ r.vl ∧ r.bo ≤ 128 ∧ r.X 0 = 0
def kIq (r : kRS) : Prop := (∀ q, q < r.qu → r.wh q < r.ma ∧ kpS r.po r.pd r.pa r.pb r.pm r.wh r.wd r.rg r.fr r.sp r.XA q ∧ 0 < r.sp q) ∧ kpJ r.po r.pd r.pb r.pm r.wh r.wd r.rg r.fr r.sp (fun _ => 0) r.XA r.XB r.qu r.F r.M r.dn
/-- what holds of the reference between two calls -/
def kI (r : kRS) : Prop := kIp r ∧ kIs r ∧ kIq r
def kCs (x : kMS) (r : kRS) : Prop := x.la = r.la ∧ x.ma = r.ma ∧ x.qu = r.qu ∧ x.st = r.st ∧ x.nx = r.nx ∧ x.bo = r.bo ∧ x.cy = r.cy ∧ x.sd = r.sd ∧ x.wp ≤ 2 ∧ x.gp ≤ 2 ∧ 2 ^ x.wp = r.wi ∧ 2 ^ x.gp = r.gp ∧ x.ln = r.vl ∧ x.sa = r.sa ∧ kp_eq 8 x.X r.X ∧ kp_eq 64 x.F r.F ∧ kp_eq 128 x.G r.M
def kCp (x : kMS) (r : kRS) : Prop := (x.po 0 = 4 ∧ x.pd 0 = 0) ∧ ∀ j, j < r.ma → x.po (j + 1) = r.po j ∧ x.pd (j + 1) = r.pd j ∧ x.pa (j + 1) = r.pa j ∧ x.pb (j + 1) = r.pb j ∧ x.pn (j + 1) = r.pn j ∧ x.pm (j + 1) = r.pm j
/-- the Work k is the entry q of the queue -/
def kCe (x : kMS) (r : kRS) (k q : Nat) : Prop := x.wi k = r.wh q + 1 ∧ x.nu k = nI (r.wh q) ∧ x.ww k = r.wd q ∧ x.gr k = nI (r.rg q) ∧ x.mo k = nI (8 * r.rg q / r.wd q) ∧ x.xb k = r.XB q ∧ x.fr k = r.fr q ∧ (r.po (r.wh q) ≠ 14 → x.xa k = r.XA q ∧ x.tt k = r.fr q + r.sp q) ∧ (r.po (r.wh q) = 14 → x.tt k = (r.XA q).toNatClampNeg) ∧ x.dn k = r.dn q ∧
  (∀ s, s ≤ 32 → x.rF k s = kpo (fun t => kv_R_reads r.po r.pd r.pa r.pb r.pm r.wh r.wd r.rg r.fr r.XB q t (r.XA q).toNatClampNeg) (r.sp q - s) s ∧ x.wF k s = kpo (fun t => kv_R_writes r.po r.pd r.wh r.wd r.fr q t) (r.sp q - s) s)
def kCq (x : kMS) (r : kRS) : Prop := (∀ q, q < r.qu → kCe x r (x.wk q) q) ∧ ∀ i j, i < 4 → j < 4 → x.wk i = x.wk j → i = j
/-- the machine is the reference -/
def kC (x : kMS) (r : kRS) : Prop := kCs x r ∧ kCp x r ∧ kCq x r
theorem kp_stepsN {fr tt o : Nat} (ho : o < 21) (h14 : o ≠ 14) (h1 : fr ≤ tt) (h2 : tt ≤ 64) : kv_K_steps fr tt (nI o) = nI (tt - fr) := by
  unfold kv_K_steps
  rw [if_neg (show ¬ nI o = 14 from fun e => h14 (kp_inj (by omega) (by decide) (b := 14) e)), pk_sub h1]
  by_cases h : 0 < nI (tt - fr)
  · rw [if_pos h]
  · rw [if_neg h]
    have h3 : ¬ 0 < tt - fr := fun z => h ((nI_ltI (a := 0) (by decide) (by omega)).mpr z)
    rw [show tt - fr = 0 by omega]; rfl
theorem kp_stepsS {fr tt o : Nat} (h14 : o = 14) (h1 : fr < tt) (h2 : tt ≤ 64) : kv_K_steps fr tt (nI o) = nI 1 := by
  subst h14
  unfold kv_K_steps
  have h : 0 < nI (tt - fr) := (nI_ltI (a := 0) (by decide) (by omega)).mpr (by omega)
  rw [if_pos (show nI 14 = 14 from rfl), pk_sub (by omega), if_pos h, if_neg]
  · rfl
  · intro z
    have := (nI_ltI (b := 1) (by omega) (by decide)).mp z
    omega
theorem kC.Q {x : kMS} {r : kRS} (hI : kI r) (hC : kC x r) {q : Nat} (hq : q < r.qu) : kpQ x.po x.pd x.pa x.pb x.pm x.ww x.gr x.mo x.xa x.xb x.fr x.wi x.tt r.po r.pd r.pa r.pb r.pm r.wh r.wd r.rg r.fr r.sp r.XA r.XB (x.wk q) q := by
  obtain ⟨e1, e2, e3, e4, e5, e6, e7, e8, e9, e10, e11⟩ := hC.2.2.1 q hq
  obtain ⟨w1, S, w2⟩ := hI.2.2.1 q hq
  obtain ⟨p1, p2, p3, p4, p5, p6⟩ := hC.2.1.2 _ w1
  have hm := kp_most S.2.1 S.1
  obtain ⟨s1, s2, s3, s4, s5, s6, s7, s8, s9, s10, s11, s12, s13, s14⟩ := S
  refine ⟨by rw [e1]; exact p1, by rw [e1]; exact p2, by rw [e1]; exact p3, by rw [e1]; exact p4, by rw [e1]; exact p6, e3, e4, e5, e6, e7, fun h => (e8 h).1, e9, ?_⟩
  by_cases h14 : r.po (r.wh q) = 14
  · obtain ⟨a, b, c, d⟩ := s9 h14
    rw [e9 h14, d, h14]
    exact kp_stepsS rfl b (by omega)
  · rw [(e8 h14).2, kp_stepsN s3 h14 (by omega) (by omega)]
    congr 1; omega
theorem kC.V {x : kMS} {r : kRS} (hI : kI r) {q : Nat} {bf : Nat → Nat} (hq : q < r.qu) (hbf : bf q ≤ r.sp q) : kpV r.po r.pa r.wh r.wd r.rg r.sp bf q := by
  obtain ⟨w1, S, w2⟩ := hI.2.2.1 q hq
  have hm := kp_most S.2.1 S.1
  obtain ⟨s1, s2, s3, s4, s5, s6, s7, s8, s9, s10, s11, s12, s13, s14⟩ := S
  refine ⟨s3, s4, s2, s1, fun h => ?_, hbf, by omega⟩
  have := s10 (by omega)
  rcases s2 with z | z | z <;> rw [z] at this ⊢ <;> omega
theorem kp_nd {wk dn : Nat → Nat} {qu : Nat} (hinj : ∀ i j, i < qu → j < qu → wk i = wk j → i = j) : ∀ (n i : Nat) (b : Nat → Nat), i + n = qu → (∀ q, q < i → b (wk q) = dn (wk q)) → ∀ q, q < qu → kv_nd wk dn n i b (wk q) = dn (wk q) := by
  intro n
  induction n with
  | zero => intro i b hi h q hq; rw [kv_nd]; exact h q (by omega)
  | succ n ih =>
    intro i b hi h q hq
    rw [kv_nd]
    refine ih (i + 1) _ (by omega) (fun p hp => ?_) q hq
    by_cases hpi : p = i
    · subst hpi; rw [va_up_self]
    · rw [va_up_ne _ _ (fun z => hpi (hinj p i (by omega) (by omega) z))]
      exact h p (by omega)
theorem kp_ub {dn : Nat → Nat} {qu : Nat} : ∀ (n i : Nat) (b : Nat → Nat), i + n = qu → (∀ q, q < i → b q = dn q) → ∀ q, q < qu → kv_ub dn n i b q = dn q := by
  intro n
  induction n with
  | zero => intro i b hi h q hq; rw [kv_ub]; exact h q (by omega)
  | succ n ih =>
    intro i b hi h q hq
    rw [kv_ub]
    refine ih (i + 1) _ (by omega) (fun p hp => ?_) q hq
    by_cases hpi : p = i
    · subst hpi; rw [va_up_self]
    · rw [va_up_ne _ _ hpi]
      exact h p (by omega)
