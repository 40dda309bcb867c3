/-! the wrappers, in one form -/
theorem kL_mono {l : Launch} {y : MethodName} {ws : List Cond} {rm : Room} {Pc : Array Value → State → Prop} {Qc Qd : Array Value → State → Outcome → State → Prop} {mc ms : Nat} {f1 f2 : Addr → Prop} (h : Met l y ws rm Pc Qc mc ms f1) (hq : ∀ a st o t, Pc a st → Qc a st o t → Qd a st o t) (hf : ∀ q, f1 q → f2 q) : Met l y ws rm Pc Qd mc ms f2 := by
  intro p e ha hc hk s m args below hfr happ hP hK
  obtain ⟨k, o, h1, h2, h3, hQ, L, hF, hL⟩ := h p e ha hc hk s m args below hfr happ hP hK
  exact ⟨k, o, h1, h2, h3, hq _ _ _ _ hP hQ, L, hF, fun q hx => hf _ (hL q hx)⟩
/-- behind a wrapper: the machine, the row -/
def kLB (D : va_G) (cI cB cJ cQ cW : ClassId) (ad : Nat → Nat) (n ao sz : Nat) (k : Int32) (x1 : kMS) (val : Int64) (t : State) : Prop := ∃ (ad1 : Nat → Nat) (cs1 : Nat → va_E) (o1 : Nat → Int64), n ≤ 22 + x1.ma ∧ (∀ j, j < n → ad1 j = ad j) ∧ (∀ j, n ≤ j → j < 22 + x1.ma → sz ≤ ad1 j) ∧ kw_J ad1 (22 + x1.ma) ∧ kMof ad1 cI cB cJ cQ cW cs1 x1 ∧ va_P D kc (kw_w ad1 cs1 (22 + x1.ma)) t.heap ∧ va_P D kc (kL_o cJ ao o1) t.heap ∧ (k = 0 → o1 0 = val)
def kLc (l : Launch) (y : MethodName) (ws : List Cond) (D : va_G) (cI cB cJ cQ cW : ClassId) (ad : Nat → Nat) (n : Nat) (cs : Nat → va_E) (ao : Nat) (o : Nat → Int64) (sz : Nat) (vs : List Value) (k : Int32) (x1 : kMS) (val : Int64) : Prop :=
  Met l y ws kL_r (va_Pc vs (kL_P D (kt cI cB cJ cQ cW) ad n cs cJ ao o sz)) (va_Qi (fun r (_ : Unit) => r = k) (fun _ t => kLB D cI cB cJ cQ cW ad n ao sz k x1 val t) (kL_A2 ad n ao sz)) 1 6 (kL_A2 ad n ao sz)
section KLC
variable {l : Launch} {y : MethodName} {ws : List Cond} {D : va_G} {cI cB cJ cQ cW : ClassId} {ad : Nat → Nat} {n : Nat} {cs : Nat → va_E} {ao : Nat} {o : Nat → Int64} {sz : Nat} {vs : List Value} {x : kMS}
/-- an exception: all as it was -/
theorem kLc_X {k : Int32} {val : Int64} (hk0 : k ≠ 0) (hn : n = 22 + x.ma) (hJ : kw_J ad n) (hM : kMof ad cI cB cJ cQ cW cs x) (h : Met l y ws kL_r (va_Pc vs (kL_P D (kt cI cB cJ cQ cW) ad n cs cJ ao o sz)) (va_Qi (fun r (_ : Unit) => r = k) (fun _ _ => True) (fun q => sz ≤ q)) 1 6 (fun q => sz ≤ q)) : kLc l y ws D cI cB cJ cQ cW ad n cs ao o sz vs k x val := by
  subst hn
  refine kL_mono h (fun a st oc t hP hQ => ?_) (fun q h => Or.inr (Or.inr h))
  obtain ⟨-, hz, ⟨hP1, -⟩, hPo, -⟩ := hP
  obtain ⟨⟨r, u, h1, h2, -⟩, hF⟩ := hQ
  have hlt : ∀ q, q < st.heap.size → t.heap[q]? = st.heap[q]? := fun q hq => hF.2 q hq (fun z => by omega)
  refine ⟨⟨r, u, h1, h2, ad, cs, o, Nat.le_refl _, fun _ _ => rfl, fun j h1 h2 => absurd h2 (Nat.not_lt.mpr h1), hJ, hM, ?_, ?_, fun z => absurd z hk0⟩, hF.1, fun q h1 h2 => hlt q h1⟩
  · exact hP1.kept (fun k9 q hq => hlt q.1 (hP1 k9 q hq).lt)
  · exact hPo.kept (fun k9 q hq => hlt q.1 (hPo k9 q hq).lt)
/-- a way back with the same names -/
theorem kLc_0 {x1 : kMS} {v1 : Int32} {f : Int32 → Int64} {post : Int32 → (Nat → va_E) → Prop} (hn : n = 22 + x.ma) (hma : x1.ma = x.ma) (hJ : kw_J ad n) (hpost : ∀ r c, post r c → r = v1 ∧ kMof ad cI cB cJ cQ cW c x1)
    (h : Met l y ws kL_r (va_Pc vs (kL_P D (kt cI cB cJ cQ cW) ad n cs cJ ao o sz)) (va_Qi (fun r (u : Int32 × (Nat → va_E)) => r = 0 ∧ post u.1 u.2) (fun u t => kw_Pre D kc (kt cI cB cJ cQ cW) ad n u.2 t ∧ va_P D kc (kL_o cJ ao (vp_updL o 0 (f u.1))) t.heap) (kL_A ad n ao)) 1 6 (kL_A ad n ao)) : kLc l y ws D cI cB cJ cQ cW ad n cs ao o sz vs 0 x1 (f v1) := by
  subst hn
  refine kL_mono h (fun a st oc t hP hQ => ?_) (fun q h => h.elim (fun h => Or.inl h) (fun h => Or.inr (Or.inl h)))
  obtain ⟨⟨r, u, h1, ⟨h2, h3⟩, ⟨hP1, -⟩, hPo⟩, hF⟩ := hQ
  obtain ⟨h4, h5⟩ := hpost _ _ h3
  refine ⟨⟨r, (), h1, h2, ad, u.2, vp_updL o 0 (f u.1), (by rw [hma]; exact Nat.le_refl _), fun _ _ => rfl, fun j h1 h2 => absurd h2 (by rw [hma]; exact Nat.not_lt.mpr h1), (by rw [hma]; exact hJ), h5, (by rw [hma]; exact hP1), hPo, fun _ => ?_⟩, hF.1, fun q h1 h2 => hF.2 q h1 (fun z => h2 (z.elim (fun h => Or.inl h) (fun h => Or.inr (Or.inl h))))⟩
  rw [← h4]
  rfl
/-- put's way back -/
theorem kLc_put {x1 : kMS} {v1 : Int32} {post : Int32 → (Nat → Nat) × (Nat → va_E) → Prop} (hn : n = 22 + x.ma) (hma : x1.ma = x.ma + 1) (hpost : ∀ r u, post r u → r = v1 ∧ kMof u.1 cI cB cJ cQ cW u.2 x1 ∧ kw_J u.1 (n + 1) ∧ (∀ k, k < n → u.1 k = ad k) ∧ sz ≤ u.1 n)
    (h : Met l y ws kL_r (va_Pc vs (kL_P D (kt cI cB cJ cQ cW) ad n cs cJ ao o sz)) (va_Qi (fun r (u : Int32 × (Nat → Nat) × (Nat → va_E)) => r = 0 ∧ post u.1 u.2) (fun u t => kw_Pre D kc (kt cI cB cJ cQ cW) u.2.1 (n + 1) u.2.2 t ∧ va_P D kc (kL_o cJ ao (vp_updL o 0 u.1.toInt64)) t.heap) (kL_A2 ad n ao sz)) 1 6 (kL_A2 ad n ao sz)) : kLc l y ws D cI cB cJ cQ cW ad n cs ao o sz vs 0 x1 v1.toInt64 := by
  have hn1 : 22 + x1.ma = n + 1 := by omega
  refine kL_mono h (fun a st oc t hP hQ => ?_) (fun q h => h)
  obtain ⟨⟨r, u, h1, ⟨h2, h3⟩, ⟨hP1, -⟩, hPo⟩, hF⟩ := hQ
  obtain ⟨h4, h5, h6, h7, h8⟩ := hpost _ _ h3
  refine ⟨⟨r, (), h1, h2, u.2.1, u.2.2, vp_updL o 0 u.1.toInt64, by omega, h7, fun j j1 j2 => ?_, (by rw [hn1]; exact h6), h5, (by rw [hn1]; exact hP1), hPo, fun _ => ?_⟩, hF⟩
  · have : j = n := by omega
    subst this
    exact h8
  · rw [← h4]
    rfl
end KLC
/-- one operation of the law: the wrapper, the reference's method, and they agree -/
def kOp (l : Launch) (D : va_G) (cI cB cJ cQ cW dI dZ : ClassId) (yL : MethodName) (wL : List Cond) (yR : MethodName) (wR : List Cond) (dR : Nat) (f : Int32 → Int64) (vs : List Value) (x : kMS) (r : kRS) : Prop :=
  ∃ (k : Int32) (x1 : kMS) (val : Int64) (r1 : kRS) (b : Int32), r1.th = k ∧ (k = 0 → val = f b) ∧ kZ x1 r1 ∧
    (∀ (ad : Nat → Nat) (cs : Nat → va_E) (ao : Nat) (o : Nat → Int64) (sz : Nat), kw_J ad (22 + x.ma) → (∀ j, j < 22 + x.ma → ad j ≠ ao) → ao < sz → kMof ad cI cB cJ cQ cW cs x → kLc l yL wL D cI cB cJ cQ cW ad (22 + x.ma) cs ao o sz (.ref (ad 0) :: (vs ++ [.ref ao])) k x1 val) ∧
    (∀ (ad : Nat → Nat) (cs : Nat → va_E), kw_J ad 19 → kRof ad dI dZ cs r → kw_mi l yR wR (kr dR) D kc (ktR dI dZ) ad 19 cs (.ref (ad 0) :: vs) (fun r9 c9 => r9 = b ∧ kRof ad dI dZ c9 r1))
theorem kp_nle {a b : Int32} (h : ¬ a ≤ b) : b < a := Int32.not_le.mp h
section KO
variable {D : va_G} {cI cB cJ cQ cW dI dZ : ClassId} {x : kMS} {r : kRS}
theorem kO_go (l : Launch) (htr : ∀ e : Env, l.admits e → e.platform.stackTraces = false) (hZ : kZ x r) (v : Int32) : kOp l D cI cB cJ cQ cW dI dZ y_L_go w_L_go y_R_go w_R_go 0 (fun b => b.toInt64) [.int v] x r := by
  have cC := hZ.2.1.1
  have cma : x.ma = r.ma := cC.2.1
  have cqu : x.qu = r.qu := cC.2.2.1
  have cst : x.st = r.st := cC.2.2.2.1
  have hR : ∀ (ad : Nat → Nat) (cs : Nat → va_E), kw_J ad 19 → kRof ad dI dZ cs r → kw_mi l y_R_go w_R_go (kr 0) D kc (ktR dI dZ) ad 19 cs [.ref (ad 0), .int v] (fun r9 c9 => r9 = kv_R_go r.st r.ma r.qu v ∧ kRof ad dI dZ c9 (kq_go r v)) := fun ad cs hJ h => c_R_go l hJ (Nat.le_refl _) h
  by_cases hA : v < 0 ∨ nI r.ma ≤ v
  · have e : kq_go r v = kq_th r 1 := kZ.goA (x := x) hA
    refine ⟨1, x, 0, kq_go r v, _, by rw [e]; rfl, fun z => absurd z (by decide), by rw [e]; exact hZ.tho 1, fun ad cs ao o sz hJ hap hao hM => ?_, hR⟩
    have e0 := kM_0 hM
    exact kLc_X (by decide) rfl hJ hM (c_L_go_A l hao (by omega) e0 (x_M_go_A l htr (q0 := 0) (by omega) e0 rfl rfl rfl (by rw [cma]; exact hA)))
  have h0 : ¬ v < 0 := fun z => hA (Or.inl z)
  have h1 : v < nI r.ma := Int32.not_le.mp (fun z => hA (Or.inr z))
  by_cases hB : nI r.st = 0 ∨ ¬ nI r.qu ≤ 0
  · have e : kq_go r v = kq_th r 2 := kZ.goS (x := x) h0 h1 hB
    refine ⟨2, x, 0, kq_go r v, _, by rw [e]; rfl, fun z => absurd z (by decide), by rw [e]; exact hZ.tho 2, fun ad cs ao o sz hJ hap hao hM => ?_, hR⟩
    have e0 := kM_0 hM
    exact kLc_X (by decide) rfl hJ hM (c_L_go_S l hao (by omega) e0 (x_M_go_S l htr (q0 := 0) (by omega) e0 rfl rfl rfl h0 (by rw [cma]; exact h1) (by rw [cst, cqu]; exact hB.imp id kp_nle)))
  have hs : ¬ nI r.st = 0 := fun z => hB (Or.inl z)
  have hq : nI r.qu ≤ 0 := Decidable.not_not.mp (fun z => hB (Or.inr z))
  obtain ⟨j, hj, rfl⟩ := nI_of h0
  have hma := hZ.1.1.1
  have hjm : j < r.ma := (nI_ltI hj (by omega)).mp h1
  obtain ⟨z1, z2, z3⟩ := hZ.go hjm hs hq
  refine ⟨0, km_go x j, (nI j).toInt64, kq_go r (nI j), kv_R_go r.st r.ma r.qu (nI j), z2, fun _ => by rw [z3], z1, fun ad cs ao o sz hJ hap hao hM => ?_, hR⟩
  have e0 := kM_0 hM
  refine kLc_0 (x := x) (f := fun b => b.toInt64) rfl rfl hJ (fun r9 c9 hp => hp) (c_L_go_0 l hJ hap (by omega) e0 (post := fun r9 c9 => r9 = nI j ∧ kMof ad cI cB cJ cQ cW c9 (km_go x j)) ?_)
  refine kL_mono (c_M_go l hJ (by omega) e0 (by omega) (kM_6 hM) (by omega) (by omega) (by rw [cst]; exact hs) (by rw [cqu]; exact hq) (by decide)) (fun a st oc t _ hQ => ?_) (fun q h => h)
  obtain ⟨⟨r9, u, w1, ⟨w2, w3⟩, w4⟩, w5⟩ := hQ
  refine ⟨⟨r9, u, w1, ⟨w2, ?_⟩, w4⟩, w5⟩
  rw [w3]
  exact kM_u0 (st1 := 0) (kM_u6 (sa1 := 0) (kM_u0 hM))
end KO
