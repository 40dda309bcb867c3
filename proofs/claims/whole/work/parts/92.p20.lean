/-! pure part: P20 -/
theorem kp_m1ne {n : Nat} (h : n < 2 ^ 31) : ¬ nI n = -1 := by
  intro z
  have h1 : (-1 : Int32) < 0 := by decide
  rw [← z] at h1
  exact kp_pos h h1
theorem kp_st0 {sa en o : Nat} (ho : o < 21) (h1 : sa ≤ en) (h2 : en ≤ 64) : kv_K_steps sa en (nI o) ≤ 0 ↔ en ≤ sa := by
  by_cases h14 : o = 14
  · by_cases h : sa < en
    · rw [kp_stepsS h14 h h2]
      constructor
      · intro z; exact absurd z (by decide)
      · intro z; omega
    · have he : en = sa := by omega
      subst he
      unfold kv_K_steps
      rw [h14, if_pos (show nI 14 = 14 from rfl), Int32.sub_self]
      constructor
      · intro _; omega
      · intro _; decide
  · rw [kp_stepsN ho h14 h1 h2]
    have h3 : nI (en - sa) ≤ 0 ↔ en - sa ≤ 0 := nI_leI (b := 0) (by omega) (by decide)
    rw [h3]; omega
theorem kp_kns {sa en o : Nat} (ho : o < 21) (h1 : sa ≤ en) (h2 : en ≤ 64) : kn_s o en sa = (if en ≤ sa then 0 else if o = 14 then 1 else en - sa) := by
  unfold kn_s
  have hlt : nI sa < nI en ↔ sa < en := nI_ltI (by omega) (by omega)
  by_cases h : sa < en
  · rw [if_pos (hlt.mpr h), if_neg (show ¬ en ≤ sa by omega)]
    by_cases h14 : o = 14
    · rw [if_pos h14, h14]; rfl
    · rw [if_neg h14, if_neg (show ¬ nI o = 14 from fun z => h14 (kp_inj (b := 14) (by omega) (by decide) z))]
  · rw [if_neg (fun z => h (hlt.mp z)), if_pos (by omega)]
theorem kp_bw : ∀ bo, bo < 4 → ∀ w, w < 5 → bo < w → nI bo - nI w < 0 := by decide +kernel
theorem kp_inr {p : Int32} {bo w : Nat} (hw : w < 5) (hbo : bo ≤ 128) (h1 : ¬ p < 0) (h2 : p ≤ nI bo - nI w) : p = nI p.toNatClampNeg ∧ p.toNatClampNeg + w ≤ 128 := by
  obtain ⟨j, hj, rfl⟩ := nI_of h1
  rw [nI_clamp hj]
  refine ⟨rfl, ?_⟩
  by_cases h : w ≤ bo
  · rw [pk_sub h, nI_leI hj (by omega)] at h2
    omega
  · exact absurd (Int32.lt_of_le_of_lt h2 (kp_bw bo (by omega) w hw (by omega))) h1
theorem kp_needb {x : kMS} {r : kRS} {k kk : Nat} (hI : kI r) (hC : kC x r) (hkm : k < r.ma) (hG : kpG (r.po k) (r.pd k) (r.pa k) (r.pb k) (r.pm k) r.wi r.gp) (hkk : kk < 64) (h : (¬ r.pm k = 0 ∧ kk < 8) ∨ (r.po k = 19 ∧ 8 * r.pb k ≤ kk ∧ kk < 8 * r.pb k + 8 * r.gp)) : kpb (kv_R_needs r.gp r.po r.pb r.pm k) kk = true := by
  obtain ⟨c1, c2, c3, c4, c5, c6, c7, c8, c9, c10, c11, c12, c13, c14, c15, c16, c17⟩ := hC.1
  obtain ⟨p1, p2, p3, p4, p5, p6⟩ := hI.1.2 k hkm
  clear p6
  have i4 := hI.2.1.2.2.2.1
  have hg5 := kp_w5 i4
  rw [← kp_need c10 c12 p1 p4 (fun h => hG.2.1 (by omega))]
  unfold kv_M_need
  have b1 : kpb (kv_K_span 0 8) kk = decide (0 ≤ kk ∧ kk < 0 + 8) := kpb_bytes (a := 0) (c := 8) (by decide) (by decide) hkk
  by_cases h19 : r.po k = 19
  · have e : nI (r.po k) = 19 := by rw [h19]; rfl
    have hb8 : r.pb k + r.gp ≤ 8 := by
      have := hG.2.1 (Or.inr (Or.inr (Or.inr (Or.inr h19))))
      rcases i4 with z | z | z <;> rw [z] at this ⊢ <;> omega
    have b2 : kpb (kv_K_span (8 * nI (r.pb k)) (8 * kv_S_group (nI x.gp))) kk = decide (8 * r.pb k ≤ kk ∧ kk < 8 * r.pb k + 8 * r.gp) := by
      rw [kp_grp _ c10, c12, show (8 : Int32) = nI 8 from rfl, pk_mul, pk_mul]
      exact kpb_bytes (by omega) (by omega) hkk
    rw [if_pos e, kpb_or, b2]
    rcases h with ⟨h1, h2⟩ | ⟨h1, h2, h3⟩
    · rw [if_neg h1, b1]; simp [h2]
    · simp [h2, h3]
  · have e : ¬ nI (r.po k) = 19 := fun z => h19 (kp_inj (b := 19) (by omega) (by decide) z)
    rw [if_neg e]
    rcases h with ⟨h1, h2⟩ | ⟨h1, h2, h3⟩
    · rw [if_neg h1, b1]; simp [h2]
    · exact absurd h1 h19
set_option maxHeartbeats 1000000 in
/-- a hand-out in both -/
theorem kp_hand {x : kMS} {r : kRS} {k : Nat} (hI : kI r) (hC : kC x r) (hk : r.nx = nI k) (hkm : k < r.ma) (h8 : 8 ≤ r.po k) (hq4 : r.qu < 4) (hG : kpG (r.po k) (r.pd k) (r.pa k) (r.pb k) (r.pm k) r.wi r.gp)
    (hheld : 17 ≤ r.po k → ∀ q, q < r.qu → ∀ j, r.dn q ≤ j → j < r.sp q → kv_R_writes r.po r.pd r.wh r.wd r.fr q j &&& kv_R_needs r.gp r.po r.pb r.pm k = 0) : kI (kq_ho r k) ∧ kC (km_ho x (k + 1) (x.wk x.qu)) (kq_ho r k) := by
  obtain ⟨c1, c2, c3, c4, c5, c6, c7, c8, c9, c10, c11, c12, c13, c14, c15, c16, c17⟩ := hC.1
  obtain ⟨i1, i2, i3, i4, i5, i6, i7, i8⟩ := hI.2.1
  obtain ⟨d1, d2, d3, d4, d5, d6⟩ := hC.2.1.2 k hkm
  obtain ⟨p1, p2, p3, p4, p5, p6⟩ := hI.1.2 k hkm
  clear p6
  have hm := kp_most i4 i3
  have sa := kp_sca c15 p3
  have sb := kp_sca c15 p4
  have hEN := kp_en hI hC hkm h8 hG rfl
  -- fields by their names
  have hqx : x.qu = r.qu := c3
  generalize hk0 : x.wk x.qu = k0
  have hk0' : x.wk r.qu = k0 := by rw [← hqx]; exact hk0
  have hinj := hC.2.2.2
  have hne : ∀ q, q < r.qu → x.wk q ≠ k0 := fun q hq z => by
    have := hinj q r.qu (by omega) (by omega) (by rw [z, hk0'])
    omega
  have hbE : ∃ bad, bad = kv_M_bad x.wp x.sa x.ln (kv_M_scalar (nI (x.pa (k + 1))) x.X) (kv_M_scalar (nI (x.pb (k + 1))) x.X) (nI (x.po (k + 1))) (nI (x.pb (k + 1))) (x.pm (k + 1)) x.F x.bo := ⟨_, rfl⟩
  obtain ⟨bad, hbad⟩ := hbE
  rw [← hbad] at hEN
  have heE : ∃ en, en = kn_e r.F r.po r.pb r.pm (va_up r.wh r.qu k) (va_up r.wd r.qu r.wi) (upd r.XA r.qu ((if (nI (r.po k)) = 14 then (nI r.vl) else (r.X (r.pa k)) : Int32))) (upd r.XB r.qu (r.X (r.pb k))) r.wi r.vl r.sa r.bo r.qu k := ⟨_, rfl⟩
  obtain ⟨en, hen⟩ := heE
  have hen2 : kpEn r k = en := by rw [hen]; rfl
  rw [hen2] at hEN
  obtain ⟨hcase, hmem⟩ := hEN
  have hse : r.sa ≤ en ∧ en ≤ r.vl := by
    rcases hcase with ⟨z1, z2⟩ | ⟨z0, z1, z2, z3⟩ <;> omega
  have e64 : en ≤ 64 := by omega
  have hks := kp_kns p1 hse.1 e64
  have hs0 := kp_st0 (sa := r.sa) p1 hse.1 e64
  -- the class's end
  have hT : (bad = -1 ∧ en = r.vl) ∨ (¬ bad = -1 ∧ bad.toNatClampNeg = en) := by
    rcases hcase with ⟨z1, z2⟩ | ⟨z0, z1, z2, z3⟩
    · exact Or.inl ⟨z1, z2⟩
    · exact Or.inr ⟨by rw [z1]; exact kp_m1ne (by omega), by rw [z1, nI_clamp (by omega)]⟩
  have tqu : kv_M_handOut_qu x.qu x.ln x.sa x.po (k + 1) bad = if en ≤ r.sa then r.qu else r.qu + 1 := by
    unfold kv_M_handOut_qu
    rw [d1, c13, c14, c3]
    rcases hT with ⟨z1, z2⟩ | ⟨z1, z2⟩
    · rw [if_pos z1, ← z2]
      by_cases h : en ≤ r.sa
      · rw [if_pos (hs0.mpr h), if_pos h]
      · rw [if_neg (fun z => h (hs0.mp z)), if_neg h]
    · rw [if_neg z1, z2]
      by_cases h : en ≤ r.sa
      · rw [if_pos (hs0.mpr h), if_pos h]
      · rw [if_neg (fun z => h (hs0.mp z)), if_neg h]
  have ttt : kv_M_handOut_tt x.ln x.tt k0 bad = va_up x.tt k0 en := by
    unfold kv_M_handOut_tt
    rcases hT with ⟨z1, z2⟩ | ⟨z1, z2⟩
    · rw [if_pos z1, c13, z2]
    · rw [if_neg z1, z2]
  -- cut, or not
  have hcut : ((if (nI (r.po k)) < 17 then 0 else if (nI r.vl) ≤ (nI en) then 0 else 1 : Int32) = 0 ∧ bad = -1 ∧ en = r.vl) ∨ (¬ (if (nI (r.po k)) < 17 then 0 else if (nI r.vl) ≤ (nI en) then 0 else 1 : Int32) = 0 ∧ ¬ bad = -1 ∧ bad = nI en ∧ en < r.vl) := by
    rcases hcase with ⟨z1, z2⟩ | ⟨z0, z1, z2, z3⟩
    · refine Or.inl ⟨?_, z1, z2⟩
      split
      · rfl
      · rw [if_pos (by rw [z2]; exact Int32.le_refl _)]
    · refine Or.inr ⟨?_, by rw [z1]; exact kp_m1ne (by omega), z1, z3⟩
      rw [if_neg (show ¬ nI (r.po k) < 17 from fun z => by have := (nI_ltI (b := 17) (by omega) (by decide)).mp z; omega), if_neg (show ¬ nI r.vl ≤ nI en from fun z => by have := (nI_leI (by omega) (by omega)).mp z; omega)]
      decide
  have hb0 : bad ≤ 0 ↔ ¬ 0 < en ∨ bad = -1 := by
    rcases hcut with ⟨-, z1, z2⟩ | ⟨-, z1, z2, z3⟩
    · rw [z1]; exact ⟨fun _ => Or.inr rfl, fun _ => by decide⟩
    · rw [z2]
      have h3 : nI en ≤ 0 ↔ en ≤ 0 := nI_leI (b := 0) (by omega) (by decide)
      rw [h3]
      constructor
      · intro z; exact Or.inl (by omega)
      · intro z
        rcases z with z | z
        · omega
        · exact absurd z (kp_m1ne (by omega))
  have h0e : 0 < nI en ↔ 0 < en := nI_ltI (a := 0) (by decide) (by omega)
  have scal : kv_M_handOut_st x.st x.po (k + 1) bad = kv_R_handsOut_st r.st r.vl r.po k en ∧ kv_M_handOut_nx x.nx x.po (k + 1) bad = kv_R_handsOut_nx (nI k) r.vl r.po k en ∧ kv_M_handOut_ln x.ln x.po (k + 1) bad = kv_R_handsOut_vl r.vl r.po k en ∧ kv_M_handOut_sa x.po (k + 1) bad = kv_R_handsOut_sa r.vl r.po k en ∧ kv_R_handsOut_vl r.vl r.po k en ≤ r.vl ∧ kv_R_handsOut_sa r.vl r.po k en ≤ kv_R_handsOut_vl r.vl r.po k en := by
    unfold kv_M_handOut_st kv_M_handOut_nx kv_M_handOut_ln kv_M_handOut_sa kv_R_handsOut_st kv_R_handsOut_nx kv_R_handsOut_vl kv_R_handsOut_sa
    rw [d1, c4, c5, c13, hk]
    rcases hcut with ⟨z0, z1, z2⟩ | ⟨z0, z1, z2, z3⟩
    · simp only [if_pos z0, if_pos z1]
      exact ⟨trivial, trivial, trivial, trivial, Nat.le_refl _, Nat.zero_le _⟩
    · simp only [if_neg z0, if_neg z1]
      have ec : bad.toNatClampNeg = en := by rw [z2, nI_clamp (by omega)]
      by_cases h20 : nI (r.po k) = 20
      · simp only [if_pos h20]
        by_cases he : 0 < en
        · have hb : ¬ bad ≤ 0 := fun z => by rcases hb0.mp z with y | y; exact y he; exact z1 y
          simp only [if_neg hb, if_pos (h0e.mpr he), ec]
          exact ⟨trivial, trivial, trivial, trivial, by omega, Nat.zero_le _⟩
        · have hb : bad ≤ 0 := hb0.mpr (Or.inl he)
          simp only [if_pos hb, if_neg (fun z => he (h0e.mp z)), ec]
          exact ⟨trivial, trivial, trivial, trivial, Nat.le_refl _, by omega⟩
      · simp only [if_neg h20, ec]
        exact ⟨trivial, trivial, trivial, trivial, Nat.le_refl _, by omega⟩
  obtain ⟨sc1, sc2, sc3, sc4, sc5, sc6⟩ := scal
  have rqu : kv_R_handsOut_qu r.sa r.qu r.po r.sp k en = if en ≤ r.sa then r.qu else r.qu + 1 := by
    unfold kv_R_handsOut_qu
    rw [va_up_self, hks]
    by_cases h : en ≤ r.sa
    · rw [if_pos h, if_pos h, if_pos (by decide)]; rfl
    · rw [if_neg h, if_neg h]
      have : ¬ nI (if r.po k = 14 then 1 else en - r.sa) ≤ 0 := fun z => by
        have := (nI_leI (b := 0) (by split <;> omega) (by decide)).mp z
        revert this
        split <;> omega
      rw [if_neg this]
  have trF : kv_M_handOut_rF x.X x.wp x.gp x.ln x.sa x.po x.pd x.pa x.pb x.pm x.rF x.wF (k + 1) k0 bad = if en ≤ r.sa then x.rF else va_up x.rF k0 (kv_fo r.wi r.sa en (nI r.gp) (nI (8 * r.gp / r.wi)) (r.X (r.pb k)) (nI (r.po k)) (nI (r.pd k)) (nI (r.pa k)) (nI (r.pb k)) (r.pm k) 33 0 0 (x.rF k0) (x.wF k0)).1 := by
    unfold kv_M_handOut_rF
    rw [d1, d2, d3, d4, d6, sb, c13, c14, c11, kp_grp _ c10, kp_mst _ c9 _ c10, c12, c11]
    rcases hT with ⟨z1, z2⟩ | ⟨z1, z2⟩
    · rw [if_pos z1, ← z2]
      by_cases h : en ≤ r.sa
      · rw [if_pos (hs0.mpr h), if_pos h]
      · rw [if_neg (fun z => h (hs0.mp z)), if_neg h]
    · rw [if_neg z1, z2]
      by_cases h : en ≤ r.sa
      · rw [if_pos (hs0.mpr h), if_pos h]
      · rw [if_neg (fun z => h (hs0.mp z)), if_neg h]
  have twF : kv_M_handOut_wF x.X x.wp x.gp x.ln x.sa x.po x.pd x.pa x.pb x.pm x.rF x.wF (k + 1) k0 bad = if en ≤ r.sa then x.wF else va_up x.wF k0 (kv_fo r.wi r.sa en (nI r.gp) (nI (8 * r.gp / r.wi)) (r.X (r.pb k)) (nI (r.po k)) (nI (r.pd k)) (nI (r.pa k)) (nI (r.pb k)) (r.pm k) 33 0 0 (x.rF k0) (x.wF k0)).2 := by
    unfold kv_M_handOut_wF
    rw [d1, d2, d3, d4, d6, sb, c13, c14, c11, kp_grp _ c10, kp_mst _ c9 _ c10, c12, c11]
    rcases hT with ⟨z1, z2⟩ | ⟨z1, z2⟩
    · rw [if_pos z1, ← z2]
      by_cases h : en ≤ r.sa
      · rw [if_pos (hs0.mpr h), if_pos h]
      · rw [if_neg (fun z => h (hs0.mp z)), if_neg h]
    · rw [if_neg z1, z2]
      by_cases h : en ≤ r.sa
      · rw [if_pos (hs0.mpr h), if_pos h]
      · rw [if_neg (fun z => h (hs0.mp z)), if_neg h]
  -- the reference's new rows, by names
  have hex : ∃ S wh wd rg fr sp dn XA XB, S = kn_s (r.po k) en r.sa ∧ wh = va_up r.wh r.qu k ∧ wd = va_up r.wd r.qu r.wi ∧ rg = va_up r.rg r.qu r.gp ∧ fr = va_up r.fr r.qu r.sa ∧ sp = va_up r.sp r.qu S ∧ dn = va_up r.dn r.qu 0 ∧ XA = upd r.XA r.qu ((if (nI (r.po k)) = 14 then (nI r.vl) else (r.X (r.pa k)) : Int32)) ∧ XB = upd r.XB r.qu (r.X (r.pb k)) := ⟨_, _, _, _, _, _, _, _, _, rfl, rfl, rfl, rfl, rfl, rfl, rfl, rfl, rfl⟩
  obtain ⟨S, wh, wd, rg, fr, sp, dn, XA, XB, eS, ewh, ewd, erg, efr, esp, edn, eXA, eXB⟩ := hex
  have hR : ∀ q, q < r.qu → kpR wh wd rg fr sp dn XA XB q r.wh r.wd r.rg r.fr r.sp r.dn r.XA r.XB q := by
    intro q hq
    have hn : q ≠ r.qu := by omega
    refine ⟨?_, ?_, ?_, ?_, ?_, ?_, ?_, ?_⟩
    · rw [ewh, va_up_ne _ _ hn]
    · rw [ewd, va_up_ne _ _ hn]
    · rw [erg, va_up_ne _ _ hn]
    · rw [efr, va_up_ne _ _ hn]
    · rw [esp, va_up_ne _ _ hn]
    · rw [edn, va_up_ne _ _ hn]
    · rw [eXA]; unfold upd; rw [if_neg hn]
    · rw [eXB]; unfold upd; rw [if_neg hn]
  have n1 : wh r.qu = k := by rw [ewh, va_up_self]
  have n2 : wd r.qu = r.wi := by rw [ewd, va_up_self]
  have n3 : rg r.qu = r.gp := by rw [erg, va_up_self]
  have n4 : fr r.qu = r.sa := by rw [efr, va_up_self]
  have n5 : sp r.qu = S := by rw [esp, va_up_self]
  have n6 : dn r.qu = 0 := by rw [edn, va_up_self]
  have n7 : XA r.qu = (if (nI (r.po k)) = 14 then (nI r.vl) else (r.X (r.pa k)) : Int32) := by rw [eXA]; unfold upd; rw [if_pos rfl]
  have n8 : XB r.qu = r.X (r.pb k) := by rw [eXB]; unfold upd; rw [if_pos rfl]
  have eS2 : S = if en ≤ r.sa then 0 else if r.po k = 14 then 1 else en - r.sa := by rw [eS]; exact hks
  have hvl14 : r.po k = 14 → en = r.vl := by
    intro h
    rcases hcase with ⟨z1, z2⟩ | ⟨z0, z1, z2, z3⟩
    · exact z2
    · omega
  -- the new entry
  have newS : ¬ en ≤ r.sa → kpS r.po r.pd r.pa r.pb r.pm wh wd rg fr sp XA r.qu ∧ 0 < S ∧ S ≤ 32 ∧ kv_K_steps r.sa en (nI (r.po k)) = nI S := by
    intro hgt
    have hS1 : S = if r.po k = 14 then 1 else en - r.sa := by rw [eS2, if_neg hgt]
    have hSb : 0 < S ∧ r.sa + S ≤ 8 * r.gp / r.wi := by
      rw [hS1]; split <;> omega
    refine ⟨?_, hSb.1, by omega, ?_⟩
    · unfold kpS
      rw [n1, n2, n3, n4, n5]
      refine ⟨i3, i4, p1, h8, p2, p3, p4, hSb.2, fun h => ?_, hG.1, hG.2.1, fun a b c => ?_, fun h => ?_, hG.2.2.2.2.1⟩
      · have e14 : nI (r.po k) = 14 := by rw [h]; rfl
        rw [n7, if_pos e14, nI_clamp (by omega)]
        have := hvl14 h
        refine ⟨rfl, by omega, i5, ?_⟩
        rw [hS1, if_pos h]
      · have := hG.2.2.1 a c
        rw [if_neg b] at this
        exact this
      · have h1 := hG.2.2.1 (by omega) (by omega)
        rw [if_pos h] at h1
        exact ⟨h1, (hG.2.2.2.1 h).1, (hG.2.2.2.1 h).2.1⟩
    · by_cases h14 : r.po k = 14
      · rw [hS1, if_pos h14]; exact kp_stepsS h14 (by omega) e64
      · rw [hS1, if_neg h14]; exact kp_stepsN p1 h14 hse.1 e64
  obtain ⟨j1, j2, j3, j4, j5⟩ := hI.2.2.2
  have hq' : ∀ q, q < (if en ≤ r.sa then r.qu else r.qu + 1) → q < r.qu ∨ (q = r.qu ∧ ¬ en ≤ r.sa) := by
    intro q hq
    by_cases h : en ≤ r.sa
    · rw [if_pos h] at hq; exact Or.inl hq
    · rw [if_neg h] at hq
      by_cases hqq : q < r.qu
      · exact Or.inl hqq
      · exact Or.inr ⟨by omega, h⟩
  have hJ : kpJ r.po r.pd r.pb r.pm wh wd rg fr sp (fun _ => 0) XA XB (if en ≤ r.sa then r.qu else r.qu + 1) r.F r.M dn := by
    refine ⟨j1, j2, fun q hq => ⟨Nat.zero_le _, ?_⟩, fun q hq h17 t ht1 ht2 hon => ?_, fun q hq h17 p hp t ht1 ht2 kk hkk hw => ?_⟩
    · rcases hq' q hq with h | ⟨h, -⟩
      · obtain ⟨r1, r2, r3, r4, r5, r6, r7, r8⟩ := hR q h
        rw [r5, r6]; exact (j3 q h).2
      · rw [h, n6]; exact Nat.zero_le _
    · rcases hq' q hq with h | ⟨h, hgt⟩
      · have R := hR q h
        rw [R.pl]
        rw [R.1] at h17 hon
        rw [R.2.2.2.2.2.1] at ht1
        rw [R.2.2.2.2.1] at ht2
        rw [R.2.2.2.1] at hon ⊢
        rw [R.2.1]
        exact j4 q h h17 t ht1 ht2 hon
      · subst h
        rw [n1] at h17 hon
        rw [n5] at ht2
        rw [n4] at hon ⊢
        have hS1 : S = en - r.sa := by rw [eS2, if_neg hgt, if_neg (by omega)]
        obtain ⟨a1, a2⟩ := hmem h17 (r.sa + t) (by omega) (by omega) hon
        have ep : kv_R_place r.F r.po r.pb (kpWh r k) (kpWd r) (kpXA r k) (kpXB r k) r.qu (r.sa + t) = kv_R_place r.F r.po r.pb wh wd XA XB r.qu (r.sa + t) := by rw [ewh, ewd, eXA, eXB]; rfl
        rw [ep] at a1 a2
        rw [n2]
        exact kp_inr (kp_w5 i3).2 i7 a1 a2
    · have hp0 : p < r.qu := by
        rcases hq' q hq with h | ⟨h, -⟩ <;> omega
      have R' := hR p hp0
      rw [R'.wr] at hw
      rw [R'.2.2.2.2.2.1] at ht1
      rw [R'.2.2.2.2.1] at ht2
      rcases hq' q hq with h | ⟨h, hgt⟩
      · have R := hR q h
        rw [R.N]
        rw [R.1] at h17
        exact j5 q h h17 p hp t ht1 ht2 kk hkk hw
      · subst h
        rw [n1] at h17
        intro hN
        unfold kpN at hN
        rw [n1, n3] at hN
        exact kpb_and (hheld h17 p hp0 t ht1 ht2) kk hw (kp_needb hI hC hkm hG hkk hN)
  refine ⟨⟨?_, ?_, ?_⟩, ?_, ?_, ?_⟩
  · refine hI.1.of ?_ ?_ ?_ ?_ ?_ ?_ ?_ <;> simp only [kq_ho_la, kq_ho_th, kq_ho_st, kq_ho_nx, kq_ho_wi, kq_ho_gp, kq_ho_vl, kq_ho_sa, kq_ho_bo, kq_ho_cy, kq_ho_sd, kq_ho_ma, kq_ho_qu, kq_ho_X, kq_ho_F, kq_ho_M, kq_ho_po, kq_ho_pd, kq_ho_pa, kq_ho_pb, kq_ho_pn, kq_ho_pm, kq_ho_wh, kq_ho_wd, kq_ho_rg, kq_ho_fr, kq_ho_sp, kq_ho_dn, kq_ho_bf, kq_ho_XA, kq_ho_XB]
  · unfold kIs
    simp only [kq_ho_la, kq_ho_th, kq_ho_st, kq_ho_nx, kq_ho_wi, kq_ho_gp, kq_ho_vl, kq_ho_sa, kq_ho_bo, kq_ho_cy, kq_ho_sd, kq_ho_ma, kq_ho_qu, kq_ho_X, kq_ho_F, kq_ho_M, kq_ho_po, kq_ho_pd, kq_ho_pa, kq_ho_pb, kq_ho_pn, kq_ho_pm, kq_ho_wh, kq_ho_wd, kq_ho_rg, kq_ho_fr, kq_ho_sp, kq_ho_dn, kq_ho_bf, kq_ho_XA, kq_ho_XB]
    rw [← hen, rqu]
    refine ⟨i1, ?_, i3, i4, Nat.le_trans sc5 i5, sc6, i7, i8⟩
    split <;> omega
  · unfold kIq
    simp only [kq_ho_la, kq_ho_th, kq_ho_st, kq_ho_nx, kq_ho_wi, kq_ho_gp, kq_ho_vl, kq_ho_sa, kq_ho_bo, kq_ho_cy, kq_ho_sd, kq_ho_ma, kq_ho_qu, kq_ho_X, kq_ho_F, kq_ho_M, kq_ho_po, kq_ho_pd, kq_ho_pa, kq_ho_pb, kq_ho_pn, kq_ho_pm, kq_ho_wh, kq_ho_wd, kq_ho_rg, kq_ho_fr, kq_ho_sp, kq_ho_dn, kq_ho_bf, kq_ho_XA, kq_ho_XB]
    rw [← hen, rqu]
    unfold kv_R_handsOut_wh kv_R_handsOut_wd kv_R_handsOut_rg kv_R_handsOut_fr kv_R_handsOut_sp kv_R_handsOut_dn kv_R_handsOut_XA kv_R_handsOut_XB
    rw [← eS, ← ewh, ← ewd, ← erg, ← efr, ← esp, ← edn, ← eXA, ← eXB]
    refine ⟨fun q hq => ?_, hJ⟩
    rcases hq' q hq with h | ⟨h, hgt⟩
    · obtain ⟨w1, S1, w2⟩ := hI.2.2.1 q h
      have R := hR q h
      exact ⟨by rw [R.1]; exact w1, R.S S1, by rw [R.2.2.2.2.1]; exact w2⟩
    · subst h
      obtain ⟨z1, z2, z3, z4⟩ := newS hgt
      exact ⟨by rw [n1]; exact hkm, z1, by rw [n5]; exact z2⟩
  · unfold kCs
    simp only [kq_ho_la, kq_ho_th, kq_ho_st, kq_ho_nx, kq_ho_wi, kq_ho_gp, kq_ho_vl, kq_ho_sa, kq_ho_bo, kq_ho_cy, kq_ho_sd, kq_ho_ma, kq_ho_qu, kq_ho_X, kq_ho_F, kq_ho_M, kq_ho_po, kq_ho_pd, kq_ho_pa, kq_ho_pb, kq_ho_pn, kq_ho_pm, kq_ho_wh, kq_ho_wd, kq_ho_rg, kq_ho_fr, kq_ho_sp, kq_ho_dn, kq_ho_bf, kq_ho_XA, kq_ho_XB, km_ho_la, km_ho_ma, km_ho_qu, km_ho_st, km_ho_nx, km_ho_bo, km_ho_cy, km_ho_sd, km_ho_X, km_ho_F, km_ho_G, km_ho_wp, km_ho_gp, km_ho_ln, km_ho_sa, km_ho_wk, km_ho_po, km_ho_pd, km_ho_pa, km_ho_pb, km_ho_pn, km_ho_pm, km_ho_ww, km_ho_gr, km_ho_mo, km_ho_xa, km_ho_xb, km_ho_fr, km_ho_wi, km_ho_nu, km_ho_tt, km_ho_dn, km_ho_db, km_ho_rF, km_ho_wF]
    rw [← hen, ← hbad, rqu, tqu]
    exact ⟨c1, c2, rfl, sc1, sc2, c6, c7, c8, c9, c10, c11, c12, sc3, sc4, c15, c16, c17⟩
  · refine hC.2.1.of ?_ ?_ ?_ ?_ ?_ ?_ ?_ ?_ ?_ ?_ ?_ ?_ ?_ <;> simp only [kq_ho_la, kq_ho_th, kq_ho_st, kq_ho_nx, kq_ho_wi, kq_ho_gp, kq_ho_vl, kq_ho_sa, kq_ho_bo, kq_ho_cy, kq_ho_sd, kq_ho_ma, kq_ho_qu, kq_ho_X, kq_ho_F, kq_ho_M, kq_ho_po, kq_ho_pd, kq_ho_pa, kq_ho_pb, kq_ho_pn, kq_ho_pm, kq_ho_wh, kq_ho_wd, kq_ho_rg, kq_ho_fr, kq_ho_sp, kq_ho_dn, kq_ho_bf, kq_ho_XA, kq_ho_XB, km_ho_la, km_ho_ma, km_ho_qu, km_ho_st, km_ho_nx, km_ho_bo, km_ho_cy, km_ho_sd, km_ho_X, km_ho_F, km_ho_G, km_ho_wp, km_ho_gp, km_ho_ln, km_ho_sa, km_ho_wk, km_ho_po, km_ho_pd, km_ho_pa, km_ho_pb, km_ho_pn, km_ho_pm, km_ho_ww, km_ho_gr, km_ho_mo, km_ho_xa, km_ho_xb, km_ho_fr, km_ho_wi, km_ho_nu, km_ho_tt, km_ho_dn, km_ho_db, km_ho_rF, km_ho_wF]
  · unfold kCq kCe
    simp only [kq_ho_la, kq_ho_th, kq_ho_st, kq_ho_nx, kq_ho_wi, kq_ho_gp, kq_ho_vl, kq_ho_sa, kq_ho_bo, kq_ho_cy, kq_ho_sd, kq_ho_ma, kq_ho_qu, kq_ho_X, kq_ho_F, kq_ho_M, kq_ho_po, kq_ho_pd, kq_ho_pa, kq_ho_pb, kq_ho_pn, kq_ho_pm, kq_ho_wh, kq_ho_wd, kq_ho_rg, kq_ho_fr, kq_ho_sp, kq_ho_dn, kq_ho_bf, kq_ho_XA, kq_ho_XB, km_ho_la, km_ho_ma, km_ho_qu, km_ho_st, km_ho_nx, km_ho_bo, km_ho_cy, km_ho_sd, km_ho_X, km_ho_F, km_ho_G, km_ho_wp, km_ho_gp, km_ho_ln, km_ho_sa, km_ho_wk, km_ho_po, km_ho_pd, km_ho_pa, km_ho_pb, km_ho_pn, km_ho_pm, km_ho_ww, km_ho_gr, km_ho_mo, km_ho_xa, km_ho_xb, km_ho_fr, km_ho_wi, km_ho_nu, km_ho_tt, km_ho_dn, km_ho_db, km_ho_rF, km_ho_wF]
    rw [← hen, ← hbad, rqu, ttt, trF, twF]
    unfold kv_R_handsOut_wh kv_R_handsOut_wd kv_R_handsOut_rg kv_R_handsOut_fr kv_R_handsOut_sp kv_R_handsOut_dn kv_R_handsOut_XA kv_R_handsOut_XB kv_M_handOut_wi kv_M_handOut_nu kv_M_handOut_ww kv_M_handOut_gr kv_M_handOut_mo kv_M_handOut_xa kv_M_handOut_xb kv_M_handOut_fr kv_M_handOut_dn
    rw [← eS, ← ewh, ← ewd, ← erg, ← efr, ← esp, ← edn, ← eXA, ← eXB]
    refine ⟨fun q hq => ?_, hinj⟩
    rcases hq' q hq with h | ⟨h, hgt⟩
    · have hE := hC.2.2.1 q h
      unfold kCe at hE
      obtain ⟨e1, e2, e3, e4, e5, e6, e7, e8, e9, e10, e11⟩ := hE
      have R := hR q h
      have R0 := R
      obtain ⟨r1, r2, r3, r4, r5, r6, r7, r8⟩ := R0
      have hn := hne q h
      simp only [va_up_ne _ _ hn]
      rw [r1, r2, r3, r4, r5, r6, r7, r8]
      refine ⟨e1, e2, e3, e4, e5, e6, e7, e8, e9, e10, fun s hs => ?_⟩
      have h11 := e11 s hs
      have f1 : (if en ≤ r.sa then x.rF else va_up x.rF k0 (kv_fo r.wi r.sa en (nI r.gp) (nI (8 * r.gp / r.wi)) (r.X (r.pb k)) (nI (r.po k)) (nI (r.pd k)) (nI (r.pa k)) (nI (r.pb k)) (r.pm k) 33 0 0 (x.rF k0) (x.wF k0)).1) (x.wk q) = x.rF (x.wk q) := by
        split
        · rfl
        · rw [va_up_ne _ _ hn]
      have f2 : (if en ≤ r.sa then x.wF else va_up x.wF k0 (kv_fo r.wi r.sa en (nI r.gp) (nI (8 * r.gp / r.wi)) (r.X (r.pb k)) (nI (r.po k)) (nI (r.pd k)) (nI (r.pa k)) (nI (r.pb k)) (r.pm k) 33 0 0 (x.rF k0) (x.wF k0)).2) (x.wk q) = x.wF (x.wk q) := by
        split
        · rfl
        · rw [va_up_ne _ _ hn]
      rw [f1, f2, h11.1, h11.2]
      constructor
      · congr 1
        funext t
        exact (R.rd t _).symm
      · congr 1
        funext t
        exact (R.wr t).symm
    · subst h
      obtain ⟨z1, z2, z3, z4⟩ := newS hgt
      rw [hk0']
      simp only [va_up_self, if_neg hgt]
      rw [n1, n2, n3, n4, n5, n6, n7, n8, d3, d4, sa, sb, c14, c11, kp_grp _ c10, kp_mst _ c9 _ c10, c12, c11, c5, hk]
      refine ⟨rfl, rfl, rfl, rfl, rfl, rfl, rfl, fun h14 => ?_, fun h14 => ?_, rfl, fun s hs => ?_⟩
      · have n14 : ¬ nI (r.po k) = 14 := fun z => h14 (kp_inj (b := 14) (by omega) (by decide) z)
        rw [if_neg n14, eS2, if_neg hgt, if_neg h14]
        exact ⟨rfl, by omega⟩
      · have e14 : nI (r.po k) = 14 := by rw [h14]; rfl
        rw [if_pos e14, nI_clamp (by omega)]
        exact hvl14 h14
      · have hfo := kp_fo (w := r.wi) (fr := r.sa) (tt := en) (gr := nI r.gp) (mo := nI (8 * r.gp / r.wi)) (xb := r.X (r.pb k)) (op := nI (r.po k)) (rd := nI (r.pd k)) (ra := nI (r.pa k)) (rb := nI (r.pb k)) (mk := r.pm k) z4 (by omega) 33 0 0 (x.rF k0) (x.wF k0) (Nat.le_refl _) (by rw [show S - 33 = 0 by omega]; rfl) (by rw [show S - 33 = 0 by omega]; rfl) (fun s h1 h2 => by omega) (fun s h1 h2 => by omega) s hs
        rw [hfo.1, hfo.2]
        have key : ∀ t, kv_K_readsOf r.wi r.sa en (nI r.gp) (nI (8 * r.gp / r.wi)) (r.X (r.pb k)) (nI (r.po k)) (nI (r.pd k)) (nI (r.pa k)) (nI (r.pb k)) (r.pm k) (nI t) = kv_R_reads r.po r.pd r.pa r.pb r.pm wh wd rg fr XB r.qu t (XA r.qu).toNatClampNeg := by
          intro t
          have h := kp_rd (po := r.po) (pd := r.pd) (pa := r.pa) (pb := r.pb) (pm := r.pm) (wh := wh) (wd := wd) (rg := rg) (fr := fr) (XB := XB) (q := r.qu) (t := t) (tt := en) (vq := (XA r.qu).toNatClampNeg) (by rw [n1]; exact p1) (by rw [n1]; exact h8) (by rw [n3]; exact i4) (by rw [n2]; exact i3) (by
            rw [n1, n3]
            intro h
            have := hG.1 (by omega)
            rcases i4 with z | z | z <;> rw [z] at this ⊢ <;> omega) (by
            rw [n1, n7]
            intro h
            have e14 : nI (r.po k) = 14 := by rw [h]; rfl
            rw [if_pos e14, nI_clamp (by omega)]
            exact hvl14 h)
          rw [n1, n2, n3, n4, n8] at h
          exact h
        have key2 : ∀ t, kv_K_writesOf r.wi r.sa (nI (r.po k)) (nI (r.pd k)) (nI t) = kv_R_writes r.po r.pd wh wd fr r.qu t := by
          intro t
          have h := kp_wr (po := r.po) (pd := r.pd) (wh := wh) (wd := wd) (fr := fr) (q := r.qu) (t := t)
          rw [n1, n2, n4] at h
          exact h
        rw [n7] at key
        constructor
        · congr 1
          funext t
          exact key t
        · congr 1
          funext t
          exact key2 t
