/-! the other operations of the law -/
section KO2
variable {D : va_G} {cI cB cJ cQ cW dI dZ : ClassId} {x : kMS} {r : kRS}
theorem kO_resume (l : Launch) (htr : ∀ e : Env, l.admits e → e.platform.stackTraces = false) (hZ : kZ x r) : kOp l D cI cB cJ cQ cW dI dZ y_L_resume w_L_resume y_R_resume w_R_resume 0 (fun b => b.toInt64) [] x r := by
  have cC := hZ.2.1.1
  have cma : x.ma = r.ma := cC.2.1
  have cqu : x.qu = r.qu := cC.2.2.1
  have cst : x.st = r.st := cC.2.2.2.1
  have csa : x.sa = r.sa := by
    obtain ⟨c1, c2, c3, c4, c5, c6, c7, c8, c9, c10, c11, c12, c13, c14, c15, c16, c17⟩ := cC
    exact c14
  have hR : ∀ (ad : Nat → Nat) (cs : Nat → va_E), kw_J ad 19 → kRof ad dI dZ cs r → kw_mi l y_R_resume w_R_resume (kr 0) D kc (ktR dI dZ) ad 19 cs [.ref (ad 0)] (fun r9 c9 => r9 = kv_R_resume r.st r.sa r.qu ∧ kRof ad dI dZ c9 (kq_resume r)) := fun ad cs hJ h => c_R_resume l hJ (Nat.le_refl _) h
  by_cases hB : ¬ nI r.st = 2 ∨ ¬ nI r.qu ≤ 0
  · have e : kq_resume r = kq_th r 1 := kZ.resumeS (x := x) hB
    refine ⟨1, x, 0, kq_resume r, _, by rw [e]; rfl, fun z => absurd z (by decide), by rw [e]; exact hZ.tho 1, fun ad cs ao o sz hJ hap hao hM => ?_, hR⟩
    have e0 := kM_0 hM
    exact kLc_X (by decide) rfl hJ hM (c_L_resume_S l hao (by omega) e0 (x_M_resume_S l htr (q0 := 0) (by omega) e0 rfl rfl (by rw [cst, cqu]; exact hB.imp id kp_nle)))
  have hs : nI r.st = 2 := Decidable.not_not.mp (fun z => hB (Or.inl z))
  have hq : nI r.qu ≤ 0 := Decidable.not_not.mp (fun z => hB (Or.inr z))
  obtain ⟨z1, z2, z3⟩ := hZ.resume hs hq
  refine ⟨0, km_resume x, (nI x.sa).toInt64, kq_resume r, kv_R_resume r.st r.sa r.qu, z2, fun _ => by rw [z3, csa], z1, fun ad cs ao o sz hJ hap hao hM => ?_, hR⟩
  have e0 := kM_0 hM
  refine kLc_0 (x := x) (f := fun b => b.toInt64) rfl rfl hJ (fun r9 c9 hp => hp) (c_L_resume_0 l hJ hap (by omega) e0 (post := fun r9 c9 => r9 = nI x.sa ∧ kMof ad cI cB cJ cQ cW c9 (km_resume x)) ?_)
  refine kL_mono (c_M_resume l hJ (by omega) e0 (by omega) (kM_6 hM) (by rw [cst]; exact hs) (by rw [cqu]; exact hq) (by decide)) (fun a st oc t _ hQ => ?_) (fun q h => h)
  obtain ⟨⟨r9, u, w1, ⟨w2, w3⟩, w4⟩, w5⟩ := hQ
  refine ⟨⟨r9, u, w1, ⟨w2, ?_⟩, w4⟩, w5⟩
  rw [w3]
  exact kM_u0 (st1 := 0) hM
theorem kO_cycles (l : Launch) (htr : ∀ e : Env, l.admits e → e.platform.stackTraces = false) (hZ : kZ x r) (v : Int32) : kOp l D cI cB cJ cQ cW dI dZ y_L_cycles w_L_cycles y_R_cycles w_R_cycles 6 (fun b => b.toInt64) [.int v] x r := by
  have cC := hZ.2.1.1
  have cma : x.ma = r.ma := cC.2.1
  have hZ0 : kZ x (kq_th r 0) := hZ.tho 0
  have h00 : (kq_th r 0).th = 0 := rfl
  have hR : ∀ (ad : Nat → Nat) (cs : Nat → va_E), kw_J ad 19 → kRof ad dI dZ cs r → kw_mi l y_R_cycles w_R_cycles (kr 6) D kc (ktR dI dZ) ad 19 cs [.ref (ad 0), .int v] (fun r9 c9 => r9 = kv_R_cycles r v v.toNatClampNeg ∧ kRof ad dI dZ c9 (kv_R_cycles_x r v v.toNatClampNeg)) := fun ad cs hJ h => c_R_cycles l hJ (Nat.le_refl _) h (Jc := fun q => ∃ y, kZ y q ∧ q.th = 0) ⟨x, hZ0, h00⟩ (fun q hq => by
    obtain ⟨y, g1, g2⟩ := hq
    obtain ⟨s1, s2, s3, s4, s5⟩ := g1.step g2
    exact ⟨s1, km_step y, s3, s4⟩)
  by_cases hA : v < 1 ∨ 200 < v
  · have e : kv_R_cycles_x r v v.toNatClampNeg = kq_th r 1 := by
      unfold kv_R_cycles_x
      by_cases h1 : v < 1
      · rw [if_pos h1]
      · rw [if_neg h1, if_neg (fun z => (hA.elim h1 (fun z2 => Int32.not_lt.mpr z z2)))]
    refine ⟨1, x, 0, kv_R_cycles_x r v v.toNatClampNeg, _, by rw [e]; rfl, fun z => absurd z (by decide), by rw [e]; exact hZ.tho 1, fun ad cs ao o sz hJ hap hao hM => ?_, hR⟩
    have e0 := kM_0 hM
    exact kLc_X (by decide) rfl hJ hM (c_L_cycles_A l hao (by omega) e0 (x_M_cycles_A l htr (q0 := 0) (by omega) e0 rfl rfl rfl hA))
  have h1 : ¬ v < 1 := fun z => hA (Or.inl z)
  have h2 : v ≤ 200 := Int32.not_lt.mp (fun z => hA (Or.inr z))
  have h0 : ¬ v < 0 := fun z => h1 (Int32.lt_of_lt_of_le z (by decide))
  obtain ⟨C, hC, rfl⟩ := nI_of h0
  have hC1 : 1 ≤ C := Nat.not_lt.mp (fun z => h1 ((nI_ltI (b := 1) hC (by decide)).mpr z))
  have hC2 : C ≤ 200 := (nI_leI (b := 200) hC (by decide)).mp h2
  have ex : kv_R_cycles_x r (nI C) (nI C).toNatClampNeg = kq_it C (kq_th r 0) := by
    unfold kv_R_cycles_x
    rw [if_neg h1, if_pos h2, nI_clamp hC]
  have ev : kv_R_cycles r (nI C) (nI C).toNatClampNeg = (kq_it C (kq_th r 0)).cy := by
    unfold kv_R_cycles
    rw [if_neg h1, if_pos h2, nI_clamp hC]
  obtain ⟨z1, z2, z3⟩ := kZ.it C hZ0 h00
  have ecy : (km_it C x).cy = (kq_it C (kq_th r 0)).cy := by
    obtain ⟨c1, c2, c3, c4, c5, c6, c7, c8, c9, c10, c11, c12, c13, c14, c15, c16, c17⟩ := z1.2.1.1
    exact c7
  refine ⟨0, km_it C x, (km_it C x).cy.toInt64, kv_R_cycles_x r (nI C) (nI C).toNatClampNeg, kv_R_cycles r (nI C) (nI C).toNatClampNeg, by rw [ex]; exact z2, fun _ => by rw [ev, ecy], by rw [ex]; exact z1, fun ad cs ao o sz hJ hap hao hM => ?_, hR⟩
  have e0 := kM_0 hM
  refine kLc_0 (x := x) (f := fun b => b.toInt64) rfl z3 hJ (fun r9 c9 hp => hp) (c_L_cycles_0 l hJ hap (by omega) e0 (post := fun r9 c9 => r9 = (km_it C x).cy ∧ kMof ad cI cB cJ cQ cW c9 (km_it C x)) ?_)
  exact c_M_cycles l hJ (Nat.le_refl _) hM hC1 hC2 (Jm := fun y => ∃ q, kZ y q ∧ q.th = 0 ∧ y.ma = x.ma) ⟨_, hZ0, h00, rfl⟩ (fun y hy => by
    obtain ⟨q, g1, g2, g3⟩ := hy
    obtain ⟨s1, s2, s3, s4, s5⟩ := g1.step g2
    exact ⟨s2, kq_step q, s3, s4, by rw [s5, g3]⟩) (fun y hy => by
    obtain ⟨q, g1, g2, g3⟩ := hy
    rw [g3]; exact Nat.le_refl _) (by rw [z3]; exact Nat.le_refl _)
theorem kO_poke (l : Launch) (htr : ∀ e : Env, l.admits e → e.platform.stackTraces = false) (hZ : kZ x r) (v w : Int32) : kOp l D cI cB cJ cQ cW dI dZ y_L_poke w_L_poke y_R_poke w_R_poke 0 kL_b [.int v, .int w] x r := by
  have hR : ∀ (ad : Nat → Nat) (cs : Nat → va_E), kw_J ad 19 → kRof ad dI dZ cs r → kw_mi l y_R_poke w_R_poke (kr 0) D kc (ktR dI dZ) ad 19 cs [.ref (ad 0), .int v, .int w] (fun r9 c9 => r9 = kv_R_poke v w ∧ kRof ad dI dZ c9 (kq_poke r v w)) := fun ad cs hJ h => c_R_poke l hJ (Nat.le_refl _) h
  by_cases hA : v < 0 ∨ 127 < v ∨ w < -128 ∨ ¬ w ≤ 255
  · have e : kq_poke r v w = kq_th r 1 := kZ.pokeA hA
    refine ⟨1, x, 0, kq_poke r v w, _, by rw [e]; rfl, fun z => absurd z (by decide), by rw [e]; exact hZ.tho 1, fun ad cs ao o sz hJ hap hao hM => ?_, hR⟩
    have e0 := kM_0 hM
    refine kLc_X (by decide) rfl hJ hM (c_L_poke_A l hao (by omega) e0 (x_M_poke_A l htr (q0 := 0) (by omega) e0 rfl rfl rfl ?_))
    by_cases h0 : v < 0
    · exact Or.inl h0
    · refine Or.inr (hA.elim (fun z => absurd z h0) (fun z => z.imp (fun z => ?_) (fun z => z.imp id kp_nle)))
      obtain ⟨j, hj, rfl⟩ := nI_of h0
      exact (nI_leI (a := 128) (by decide) hj).mpr (by have := (nI_ltI (a := 127) (by decide) hj).mp z; omega)
  have h0 : ¬ v < 0 := fun z => hA (Or.inl z)
  have h1 : ¬ 127 < v := fun z => hA (Or.inr (Or.inl z))
  have h2 : ¬ w < -128 := fun z => hA (Or.inr (Or.inr (Or.inl z)))
  have h3 : w ≤ 255 := Decidable.not_not.mp (fun z => hA (Or.inr (Or.inr (Or.inr z))))
  obtain ⟨j, hj, rfl⟩ := nI_of h0
  have hj1 : j < 128 := Nat.not_le.mp (fun z => h1 ((nI_ltI (a := 127) (by decide) hj).mpr (by omega)))
  obtain ⟨z1, z2, z3⟩ := hZ.poke (v := w) hj1 h2 h3
  refine ⟨0, km_poke x j w, kL_b 1, kq_poke r (nI j) w, kv_R_poke (nI j) w, z2, fun _ => by rw [z3], z1, fun ad cs ao o sz hJ hap hao hM => ?_, hR⟩
  have e0 := kM_0 hM
  refine kLc_0 (x := x) (f := kL_b) rfl rfl hJ (fun r9 c9 hp => hp) (c_L_poke_0 l hJ hap (by omega) e0 (post := fun r9 c9 => r9 = 1 ∧ kMof ad cI cB cJ cQ cW c9 (km_poke x j w)) ?_)
  refine kL_mono (c_M_poke l hJ (by omega) e0 (by omega) (kM_4 hM) (by omega) (kM_5 hM) hj1 h2 h3) (fun a st oc t _ hQ => ?_) (fun q h => h)
  obtain ⟨⟨r9, u, w1, ⟨w2, w3⟩, w4⟩, w5⟩ := hQ
  refine ⟨⟨r9, u, w1, ⟨w2, ?_⟩, w4⟩, w5⟩
  rw [w3]
  exact kM_u5 hM
theorem kO_limit (l : Launch) (htr : ∀ e : Env, l.admits e → e.platform.stackTraces = false) (hZ : kZ x r) (v0 : Int32) : kOp l D cI cB cJ cQ cW dI dZ y_L_limit w_L_limit y_R_limit w_R_limit 0 kL_b [.int v0] x r := by
  obtain ⟨v, rfl⟩ := kp_any v0
  have cC := hZ.2.1.1
  have cqu : x.qu = r.qu := cC.2.2.1
  have cst : x.st = r.st := cC.2.2.2.1
  have hR : ∀ (ad : Nat → Nat) (cs : Nat → va_E), kw_J ad 19 → kRof ad dI dZ cs r → kw_mi l y_R_limit w_R_limit (kr 0) D kc (ktR dI dZ) ad 19 cs [.ref (ad 0), .int (nI v)] (fun r9 c9 => r9 = kv_R_limit r.st r.qu v ∧ kRof ad dI dZ c9 (kq_limit r v)) := fun ad cs hJ h => c_R_limit l hJ (Nat.le_refl _) h
  by_cases hA : nI v < 0 ∨ ¬ nI v ≤ 128
  · have e : kq_limit r v = kq_th r 1 := kZ.limitA hA
    refine ⟨1, x, 0, kq_limit r v, _, by rw [e]; rfl, fun z => absurd z (by decide), by rw [e]; exact hZ.tho 1, fun ad cs ao o sz hJ hap hao hM => ?_, hR⟩
    have e0 := kM_0 hM
    exact kLc_X (by decide) rfl hJ hM (c_L_limit_A l hao (by omega) e0 (x_M_limit_A l htr (q0 := 0) (hA.imp id kp_nle)))
  have h0 : ¬ nI v < 0 := fun z => hA (Or.inl z)
  have h1 : nI v ≤ 128 := Decidable.not_not.mp (fun z => hA (Or.inr z))
  by_cases hB : nI r.st = 0 ∨ ¬ nI r.qu ≤ 0
  · have e : kq_limit r v = kq_th r 2 := kZ.limitS h0 h1 hB
    refine ⟨2, x, 0, kq_limit r v, _, by rw [e]; rfl, fun z => absurd z (by decide), by rw [e]; exact hZ.tho 2, fun ad cs ao o sz hJ hap hao hM => ?_, hR⟩
    have e0 := kM_0 hM
    exact kLc_X (by decide) rfl hJ hM (c_L_limit_S l hao (by omega) e0 (x_M_limit_S l htr (q0 := 0) (by omega) e0 rfl rfl rfl h0 h1 (by rw [cst, cqu]; exact hB.imp id kp_nle)))
  have hs : ¬ nI r.st = 0 := fun z => hB (Or.inl z)
  have hq : nI r.qu ≤ 0 := Decidable.not_not.mp (fun z => hB (Or.inr z))
  obtain ⟨j, hj, ej⟩ := nI_of h0
  rw [ej] at hR h0 h1 ⊢
  clear ej hA
  have hR : ∀ (ad : Nat → Nat) (cs : Nat → va_E), kw_J ad 19 → kRof ad dI dZ cs r → kw_mi l y_R_limit w_R_limit (kr 0) D kc (ktR dI dZ) ad 19 cs [.ref (ad 0), .int (nI j)] (fun r9 c9 => r9 = kv_R_limit r.st r.qu j ∧ kRof ad dI dZ c9 (kq_limit r j)) := fun ad cs hJ h => c_R_limit l hJ (Nat.le_refl _) h
  have hj1 : j ≤ 128 := (nI_leI (b := 128) hj (by decide)).mp h1
  obtain ⟨z1, z2, z3⟩ := hZ.limit hj1 hs hq
  refine ⟨0, km_limit x j, kL_b 1, kq_limit r j, kv_R_limit r.st r.qu j, z2, fun _ => by rw [z3], z1, fun ad cs ao o sz hJ hap hao hM => ?_, hR⟩
  have e0 := kM_0 hM
  refine kLc_0 (x := x) (f := kL_b) rfl rfl hJ (fun r9 c9 hp => hp) (c_L_limit_0 l hJ hap (by omega) e0 (post := fun r9 c9 => r9 = 1 ∧ kMof ad cI cB cJ cQ cW c9 (km_limit x j)) ?_)
  refine kL_mono (c_M_limit l hJ (by omega) e0 hj1 (by rw [cst]; exact hs) (by rw [cqu]; exact hq)) (fun a st oc t _ hQ => ?_) (fun q h => h)
  obtain ⟨⟨r9, u, w1, ⟨w2, w3⟩, w4⟩, w5⟩ := hQ
  refine ⟨⟨r9, u, w1, ⟨w2, ?_⟩, w4⟩, w5⟩
  rw [w3]
  exact kM_u0 (bo1 := j) hM
theorem kp_isrg {v : Int32} (h : ¬ kv_M_isRegister v = 0) : ∃ j, j < 8 ∧ v = nI j := by
  unfold kv_M_isRegister at h
  by_cases h0 : v < 0
  · rw [if_pos h0] at h; exact absurd rfl h
  · rw [if_neg h0] at h
    by_cases h1 : 8 ≤ v
    · rw [if_pos h1] at h; exact absurd rfl h
    · obtain ⟨j, hj, rfl⟩ := nI_of h0
      exact ⟨j, Nat.not_le.mp (fun z => h1 ((nI_leI (a := 8) (by decide) hj).mpr z)), rfl⟩
theorem kO_put (l : Launch) (htr : ∀ e : Env, l.admits e → e.platform.stackTraces = false) (hZ : kZ x r) (u1 u2 u3 u4 v5 v6 : Int32) (hm : v6 = 0 ∨ v6 = 1) : kOp l D cI cB cJ cQ cW dI dZ y_L_put w_L_put y_R_put w_R_put 1 (fun b => b.toInt64) [.int u1, .int u2, .int u3, .int u4, .int v5, .int v6] x r := by
  have cC := hZ.2.1.1
  have cma : x.ma = r.ma := cC.2.1
  have cst : x.st = r.st := cC.2.2.2.1
  have hma := hZ.1.1.1
  have hR : ∀ (o9 d9 a9 b9 : Nat) (ad : Nat → Nat) (cs : Nat → va_E), kw_J ad 19 → kRof ad dI dZ cs r → kw_mi l y_R_put w_R_put (kr 1) D kc (ktR dI dZ) ad 19 cs [.ref (ad 0), .int (nI o9), .int (nI d9), .int (nI a9), .int (nI b9), .int v5, .int v6] (fun r9 c9 => r9 = kv_R_put r.st r.ma o9 d9 a9 b9 v5 ∧ kRof ad dI dZ c9 (kq_put r o9 d9 a9 b9 v5 v6)) := fun o9 d9 a9 b9 ad cs hJ h => c_R_put l hJ (Nat.le_refl _) h hma
  by_cases hG : kpGd u1 u2 u3 u4 v5
  · obtain ⟨g1, g2, g3, g4, g5, g6⟩ := id hG
    obtain ⟨o9, ho, rfl⟩ := nI_of g1
    obtain ⟨d9, hd, rfl⟩ := kp_isrg g3
    obtain ⟨a9, ha, rfl⟩ := kp_isrg g4
    obtain ⟨b9, hb, rfl⟩ := kp_isrg g5
    have ho2 : o9 ≤ 20 := Nat.not_lt.mp (fun z => g2 ((nI_ltI (a := 20) (by decide) ho).mpr z))
    by_cases hB : nI r.ma = 40 ∨ nI r.st = 0
    · have e : kq_put r o9 d9 a9 b9 v5 v6 = kq_th r 2 := kZ.putS hG hB
      refine ⟨2, x, 0, kq_put r o9 d9 a9 b9 v5 v6, _, by rw [e]; rfl, fun z => absurd z (by decide), by rw [e]; exact hZ.tho 2, fun ad cs ao o sz hJ hap hao hM => ?_, hR o9 d9 a9 b9⟩
      have e0 := kM_0 hM
      exact kLc_X (by decide) rfl hJ hM (c_L_put_S l hao (by omega) e0 (x_M_put_S l htr (q0 := 0) (by omega) e0 rfl rfl rfl g1 g2 g3 g4 g5 g6 (by
        rw [cst, cma]
        rcases hB with z | z
        · exact Or.inr (by rw [z]; decide)
        · exact Or.inl z)))
    have hs : ¬ nI r.st = 0 := fun z => hB (Or.inr z)
    have hm4 : r.ma < 40 := Nat.lt_of_le_of_ne hma (fun z => hB (Or.inl (by rw [z]; rfl)))
    obtain ⟨z1, z2, z3⟩ := hZ.put ho2 hd ha hb hm hG hm4 hs (by rcases hm with rfl | rfl <;> rfl)
    refine ⟨0, km_put x o9 d9 a9 b9 v5 v6, (nI x.ma).toInt64, kq_put r o9 d9 a9 b9 v5 v6, kv_R_put r.st r.ma o9 d9 a9 b9 v5, z2, fun _ => by rw [z3, cma], z1, fun ad cs ao o sz hJ hap hao hM => ?_, hR o9 d9 a9 b9⟩
    have e0 := kM_0 hM
    refine kLc_put (x := x) rfl rfl (fun r9 u hp => hp) (c_L_put_0 l hJ hap hao (by omega) e0 (post := fun r9 u => r9 = nI x.ma ∧ kMof u.1 cI cB cJ cQ cW u.2 (km_put x o9 d9 a9 b9 v5 v6) ∧ kw_J u.1 (22 + x.ma + 1) ∧ (∀ k, k < 22 + x.ma → u.1 k = ad k) ∧ sz ≤ u.1 (22 + x.ma)) (fun r9 u hp => ⟨hp.2.2.1, hp.2.2.2.1, hp.2.2.2.2⟩) ?_)
    refine kL_mono (c_M_put l hJ hM ho2 hd ha hb hm g6 (by rw [cst]; exact hs) (by rw [cma]; exact hm4)) (fun a st oc t _ hQ => ?_) (fun q h => h)
    obtain ⟨⟨r9, u, w1, ⟨w2, w3, w4, w5, w6⟩, w7⟩, w8⟩ := hQ
    exact ⟨⟨r9, u, w1, ⟨w2, w6, w5, w3, w4⟩, w7⟩, w8⟩
  · obtain ⟨o9, rfl⟩ := kp_any u1
    obtain ⟨d9, rfl⟩ := kp_any u2
    obtain ⟨a9, rfl⟩ := kp_any u3
    obtain ⟨b9, rfl⟩ := kp_any u4
    have e : kq_put r o9 d9 a9 b9 v5 v6 = kq_th r 1 := kZ.putA hG
    refine ⟨1, x, 0, kq_put r o9 d9 a9 b9 v5 v6, _, by rw [e]; rfl, fun z => absurd z (by decide), by rw [e]; exact hZ.tho 1, fun ad cs ao o sz hJ hap hao hM => ?_, hR o9 d9 a9 b9⟩
    have e0 := kM_0 hM
    refine kLc_X (by decide) rfl hJ hM (c_L_put_A l hao (by omega) e0 (x_M_put_A l htr (q0 := 0) (by omega) e0 rfl rfl rfl ?_))
    by_cases q1 : nI o9 < 0
    · exact Or.inl q1
    by_cases q2 : 20 < nI o9
    · exact Or.inr (Or.inl q2)
    by_cases q3 : kv_M_isRegister (nI d9) = 0
    · exact Or.inr (Or.inr (Or.inl q3))
    by_cases q4 : kv_M_isRegister (nI a9) = 0
    · exact Or.inr (Or.inr (Or.inr (Or.inl q4)))
    by_cases q5 : kv_M_isRegister (nI b9) = 0
    · exact Or.inr (Or.inr (Or.inr (Or.inr (Or.inl q5))))
    refine Or.inr (Or.inr (Or.inr (Or.inr (Or.inr ?_))))
    by_cases q6 : nI o9 = 6
    · by_cases q7 : kv_S_isCode v5 = 0
      · exact ⟨q6, q7⟩
      · exact absurd ⟨q1, q2, q3, q4, q5, fun _ => q7⟩ hG
    · exact absurd ⟨q1, q2, q3, q4, q5, fun z => absurd z q6⟩ hG
end KO2
