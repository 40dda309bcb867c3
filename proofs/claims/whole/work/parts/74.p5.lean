/-! pure part: P5 -/
theorem kp_sm {f F : Nat → Int32} {pa : Nat → Nat} {pm : Nat → Int32} {wh wd : Nat → Nat} {q : Nat} (hw : kp_w (wd q)) (hF : kp_eq 64 f F) : ∀ (k i : Nat) (u v : Int32), (v = 0 ∨ v = 1) → i + k ≤ 64 → (∀ j, j < i + k → 8 * pa (wh q) + j * wd q + wd q ≤ 64) →
    kv_sm (wd q) (pm (wh q)) (nI (pa (wh q))) f k i u v = kv_su F pa pm wh wd q k i u v := by
  intro k
  induction k with
  | zero => intro i u v _ _ _; rfl
  | succ k ih =>
    intro i u v hv hik hb
    rw [kv_sm, kv_su, kp_work hF (by omega)]
    generalize hz : (if pm (wh q) = 0 then 1 else if kv_R_bit F 0 i = 0 then 0 else 1 : Int32) = z
    by_cases h : z = 0
    · rw [if_pos h, if_pos h, if_pos h, Int32.add_zero]
      have hv2 : (if v = 0 then (0 : Int32) else 1) = v := by
        rcases hv with rfl | rfl <;> decide
      rw [hv2]
      exact ih _ _ _ hv (by omega) (fun j hj => hb j (by omega))
    · rw [if_neg h, if_neg h, if_neg h, kp_elem hw hF (hb i (by omega))]
      have hv2 : (if v = 0 then (1 : Int32) else 1) = 1 := by split <;> rfl
      rw [hv2]
      exact ih _ _ _ (Or.inr rfl) (by omega) (fun j hj => hb j (by omega))
theorem kp_sum {f F : Nat → Int32} {pd pa pb : Nat → Nat} {pm : Nat → Int32} {wh wd fr : Nat → Nat} {q vq : Nat} (hw : kp_w (wd q)) (hF : kp_eq 64 f F) (hfv : fr q ≤ vq) (hv : vq ≤ 64) (h1 : 8 * pb (wh q) + 0 * wd q + wd q ≤ 64) (h2 : 8 * pd (wh q) + 0 * wd q + wd q ≤ 64) (h3 : ∀ i, i < vq → 8 * pa (wh q) + i * wd q + wd q ≤ 64) :
    kp_eq 64 (kv_K_writeSum_q3 (wd q) (fr q) vq (nI (pd (wh q))) (nI (pa (wh q))) (nI (pb (wh q))) (pm (wh q)) f) (kv_R_sums F pd pa pb pm wh wd fr q vq) := by
  unfold kv_K_writeSum_q3 kv_R_sums
  have e1 : kv_K_element (wd q) f (nI (pb (wh q))) 0 = kv_R_element F (pb (wh q)) 0 (wd q) := kp_elem (i := 0) hw hF h1
  have e2 : kv_K_placeOf (wd q) (nI (pd (wh q))) 0 = nI (8 * pd (wh q) + 0 * wd q) := kp_place (wd q) (pd (wh q)) 0
  rw [e1, e2, kp_sm hw hF _ _ _ _ (Or.inl rfl) (by omega) (fun j hj => h3 j (by omega))]
  by_cases h : (kv_su F pa pm wh wd q (vq - fr q) (fr q) (kv_R_element F (pb (wh q)) 0 (wd q)) 0).2 = 0
  · rw [if_pos h, if_pos h]; exact hF
  · rw [if_neg h, if_neg h]
    exact kp_write hF h2 (by decide)
theorem kp_pl {f F : Nat → Int32} {po pb wh wd : Nat → Nat} {XA XB : Nat → Int32} {q i : Nat} (ho : po (wh q) < 21) (hw : kp_w (wd q)) (hF : kp_eq 64 f F) (hb : po (wh q) = 19 → 8 * pb (wh q) + i * wd q + wd q ≤ 64) : kv_K_placeInMemory (wd q) (XA q) (XB q) (nI (po (wh q))) (nI (pb (wh q))) f (nI i) = kv_R_place F po pb wh wd XA XB q i := by
  unfold kv_K_placeInMemory kv_R_place
  by_cases h : nI (po (wh q)) = 19
  · rw [if_pos h, if_pos h]
    have hb := hb (kp_inj (by omega) (by decide) (b := 19) h)
    rw [kp_place, kp_bare hb (by decide), kv_R_element, kp_plain F hw, kp_un32, kp_bNc (wd q) 0 (fun j hj => hF _ (by omega))]
  · rw [if_neg h, if_neg h]
theorem kp_add (a b : Nat) : nI a + nI b = nI (a + b) := nI_add a b
/-- a number of the class and its way into a row: one step's write of the registers -/
theorem kp_doesF {f g F M : Nat → Int32} {po pd pa pb : Nat → Nat} {pm : Nat → Int32} {wh wd rg fr : Nat → Nat} {XA XB : Nat → Int32} {q t tt : Nat} {xa : Int32}
    (hD : kD F po pd pa pb pm wh wd rg fr XA XB q t) (h8 : 8 ≤ po (wh q)) (hw : kp_w (wd q)) (hF : kp_eq 64 f F) (hG : kp_eq 128 g M) (hM : ∀ k, k < 128 → kp_by (M k)) (hxa : po (wh q) ≠ 14 → xa = XA q) (htt : po (wh q) = 14 → tt = (XA q).toNatClampNeg) :
    kp_eq 64 (kv_K_doNextStep_q3 (wd q) (fr q) tt t (nI (8 * rg q / wd q)) xa (XB q) (nI (po (wh q))) (nI (pd (wh q))) (nI (pa (wh q))) (nI (pb (wh q))) (pm (wh q)) f g) (kv_R_does_2 F M po pd pa pb pm wh wd rg fr XA XB q t (XA q).toNatClampNeg) := by
  obtain ⟨ho, hrg, hw0, hw5, hft, hS, hPA, hPB, hPD, hWD, hLS, hSG, hMEM⟩ := hD
  have hwork := kp_work (mk := pm (wh q)) (i := fr q + t) hF (by omega)
  unfold kv_K_doNextStep_q3 kv_R_does_2
  rw [nI_add]
  by_cases h14 : po (wh q) = 14
  · have e : nI (po (wh q)) = 14 := by rw [h14]; rfl
    have e12 : ¬ nI (po (wh q)) = 12 := by rw [h14]; decide
    have e13 : ¬ nI (po (wh q)) = 13 := by rw [h14]; decide
    obtain ⟨-, s2, s3, s4, s5, s6⟩ := hS h14
    rw [if_pos e, if_pos e, if_neg e12, if_neg e13, if_pos e, htt h14]
    exact kp_sum hw hF s2 s3 s4 s5 s6
  have n14 : ¬ nI (po (wh q)) = 14 := fun e => h14 (kp_inj (by omega) (by decide) (b := 14) e)
  rw [hxa h14]
  simp only [if_neg n14]
  rw [hwork]
  -- the step is worked on, or it isn't
  by_cases hz : (if pm (wh q) = 0 then 1 else if kv_R_bit F 0 (fr q + t) = 0 then 0 else 1 : Int32) = 0
  · rw [if_pos hz]
    by_cases hm : pm (wh q) = 0
    · rw [if_pos hm] at hz; exact absurd hz (by decide)
    · rw [if_neg hm] at hz ⊢
      by_cases hb : kv_R_bit F 0 (fr q + t) = 0
      · rw [if_pos hb]; exact hF
      · rw [if_neg hb] at hz; exact absurd hz (by decide)
  rw [if_neg hz]
  have hon : pm (wh q) = 0 ∨ ¬ kv_R_bit F 0 (fr q + t) = 0 := by
    by_cases hm : pm (wh q) = 0
    · exact Or.inl hm
    · rw [if_neg hm] at hz
      exact Or.inr (fun hb => hz (by rw [if_pos hb]))
  have hpick : ∀ X Y Z : Nat → Int32, (if pm (wh q) = 0 then X else if kv_R_bit F 0 (fr q + t) = 0 then Y else X) = X := by
    intro X Y Z
    rcases hon with h | h
    · rw [if_pos h]
    · rw [if_neg h, ite_self]
  rw [hpick _ _ F]
  by_cases h12 : po (wh q) = 12
  · have e : nI (po (wh q)) = 12 := by rw [h12]; rfl
    rw [if_pos e, if_pos e, kp_elem hw hF (hPB (by omega) (by omega) (by omega) (by omega)), kp_elem hw hF (hPA (by omega) (by omega))]
    by_cases hl : kv_R_element F (pb (wh q)) (fr q + t) (wd q) ≤ kv_R_element F (pa (wh q)) (fr q + t) (wd q)
    · rw [if_pos hl, if_pos hl]; exact kp_mask hF (hLS h12) (by omega)
    · rw [if_neg hl, if_neg hl]; exact kp_mask hF (hLS h12) (by omega)
  have n12 : ¬ nI (po (wh q)) = 12 := fun e => h12 (kp_inj (by omega) (by decide) (b := 12) e)
  rw [if_neg n12, if_neg n12]
  by_cases h13 : po (wh q) = 13
  · have e : nI (po (wh q)) = 13 := by rw [h13]; rfl
    have eR : kv_K_result (wd q) (nI (8 * rg q / wd q)) (XA q) (XB q) (nI (po (wh q))) (nI (pa (wh q))) (nI (pb (wh q))) f g (nI (fr q + t)) = kv_R_pairs F po pa pb wh wd XB q (fr q + t) := by
      unfold kv_K_result kv_R_pairs
      rw [h13]
      simp (decide := true) only [if_true, if_false]
      rw [kp_elem hw hF (hPB (by omega) (by omega) (by omega) (by omega)), kp_elem hw hF (hPA (by omega) (by omega))]
    have eP : (8 * nI (pd (wh q)) + 2 * nI (fr q + t) * nI (wd q) : Int32) = nI (8 * pd (wh q) + (fr q + t) * (2 * wd q)) := by
      rw [show (8 : Int32) = nI 8 from rfl, show (2 : Int32) = nI 2 from rfl, pk_mul, pk_mul, pk_mul, nI_add, Nat.mul_comm 2 (fr q + t), Nat.mul_assoc]
    rw [if_pos e, if_pos e, eR, eP]
    exact kp_write hF (hWD h13) (by decide)
  have n13 : ¬ nI (po (wh q)) = 13 := fun e => h13 (kp_inj (by omega) (by decide) (b := 13) e)
  rw [if_neg n13, if_neg n13]
  by_cases h17 : po (wh q) < 17
  · have e : nI (po (wh q)) < 17 := (nI_ltI (b := 17) (by omega) (by decide)).mpr h17
    have n18 : ¬ nI (po (wh q)) = 18 := fun e => absurd (kp_inj (by omega) (by decide) (b := 18) e) (by omega)
    rw [if_pos e, if_neg n18, kp_place]
    have eR : kv_K_result (wd q) (nI (8 * rg q / wd q)) (XA q) (XB q) (nI (po (wh q))) (nI (pa (wh q))) (nI (pb (wh q))) f g (nI (fr q + t)) = (if (nI (po (wh q))) < 15 then (kv_R_pairs F po pa pb wh wd XB q (fr q + t)) else (kv_R_picks F po pa pb wh wd rg XB q (fr q + t)) : Int32) := by
      unfold kv_K_result
      by_cases h15 : po (wh q) < 15
      · have ee : nI (po (wh q)) < 15 := (nI_ltI (b := 15) (by omega) (by decide)).mpr h15
        rw [if_pos ee]
        unfold kv_R_pairs
        have hc : po (wh q) = 8 ∨ po (wh q) = 9 ∨ po (wh q) = 10 ∨ po (wh q) = 11 := by omega
        have hA := kp_elem hw hF (hPA (by omega) (by omega))
        rcases hc with hc | hc | hc | hc
        · have hB := kp_elem hw hF (hPB (by omega) (by omega) (by omega) (by omega))
          rw [hc]; simp (decide := true) only [if_true, if_false]; rw [hA, hB]
        · have hB := kp_elem hw hF (hPB (by omega) (by omega) (by omega) (by omega))
          rw [hc]; simp (decide := true) only [if_true, if_false]; rw [hA, hB]
        · have hB := kp_elem hw hF (hPB (by omega) (by omega) (by omega) (by omega))
          rw [hc]; simp (decide := true) only [if_true, if_false]; rw [hA, hB]
        · rw [hc]; simp (decide := true) only [if_true, if_false]; rw [hA]
      · have ee : ¬ nI (po (wh q)) < 15 := fun z => h15 ((nI_ltI (b := 15) (by omega) (by decide)).mp z)
        rw [if_neg ee]
        unfold kv_R_picks
        have hmost : 8 * rg q / wd q < 2 ^ 20 := by have := Nat.div_le_self (8 * rg q) (wd q); omega
        have hc : po (wh q) = 15 ∨ po (wh q) = 16 := by omega
        rcases hc with hc | hc
        · rw [hc]
          simp (decide := true) only [if_true, if_false]
          exact kp_pick hw hF hmost (hSG (Or.inl hc)) (Or.inl rfl)
        · have hB := hPB (by omega) (by omega) (by omega) (by omega)
          rw [hc]
          simp (decide := true) only [if_true, if_false]
          rw [kp_place, kp_bare hB (by decide), kp_bNc (wd q) 0 (fun j hj => hF _ (by omega)), kv_R_element, kp_plain F hw]
          exact kp_pick hw hF hmost (hSG (Or.inr hc)) (Or.inr rfl)
    rw [eR]
    exact kp_write hF (hPD h12 h13 h14) (by decide)
  · have e : ¬ nI (po (wh q)) < 17 := fun z => h17 ((nI_ltI (b := 17) (by omega) (by decide)).mp z)
    rw [if_neg e]
    unfold kv_R_movesF
    by_cases h18 : nI (po (wh q)) = 18
    · rw [if_pos h18, if_pos h18]; exact hF
    · rw [if_neg h18, if_neg h18, kp_place]
      obtain ⟨m1, m2⟩ := hMEM (by omega) hon
      have hpl := kp_pl (XA := XA) (XB := XB) (f := f) (F := F) (po := po) (pb := pb) (i := fr q + t) ho hw hF (fun h19 => hPB (by omega) (by omega) (by omega) (Or.inr h19))
      generalize hpp : (kv_R_place F po pb wh wd XA XB q (fr q + t)).toNatClampNeg = pp at m1 m2 ⊢
      have eR : kv_K_result (wd q) (nI (8 * rg q / wd q)) (XA q) (XB q) (nI (po (wh q))) (nI (pa (wh q))) (nI (pb (wh q))) f g (nI (fr q + t)) = kv_R_signed (kv_el M pp (wd q) 0) (nI (wd q)) := by
        rw [← kp_numL hw hG m2 (by decide), ← m1, ← hpl]
        unfold kv_K_result
        have hc : po (wh q) = 17 ∨ po (wh q) = 19 ∨ po (wh q) = 20 := by
          have : po (wh q) ≠ 18 := fun z => h18 (by rw [z]; rfl)
          omega
        rcases hc with hc | hc | hc <;> (rw [hc]; simp (decide := true) only [if_true, if_false])
      rw [eR]
      intro j hj
      rw [kp_write hF (hPD h12 h13 h14) (by decide) j hj, kp_mv hw (fun j hj => hM _ (by omega)) _ _ _ (by omega)]
theorem kp_doesM {f g F M : Nat → Int32} {po pd pa pb : Nat → Nat} {pm : Nat → Int32} {wh wd rg fr : Nat → Nat} {XA XB : Nat → Int32} {q t : Nat} {xa : Int32}
    (hD : kD F po pd pa pb pm wh wd rg fr XA XB q t) (h8 : 8 ≤ po (wh q)) (hw : kp_w (wd q)) (hF : kp_eq 64 f F) (hG : kp_eq 128 g M) (hFb : ∀ k, k < 64 → kp_by (F k)) (hxa : po (wh q) ≠ 14 → xa = XA q) :
    kp_eq 128 (kv_K_doNextStep_q5 (wd q) (fr q) t xa (XB q) (nI (po (wh q))) (nI (pd (wh q))) (nI (pb (wh q))) (pm (wh q)) f g) (kv_R_does_3 F M po pd pb pm wh wd fr XA XB q t) := by
  obtain ⟨ho, hrg, hw0, hw5, hft, hS, hPA, hPB, hPD, hWD, hLS, hSG, hMEM⟩ := hD
  have hwork := kp_work (mk := pm (wh q)) (i := fr q + t) hF (by omega)
  unfold kv_K_doNextStep_q5 kv_R_does_3
  rw [nI_add]
  by_cases h14 : po (wh q) = 14
  · have e : nI (po (wh q)) = 14 := by rw [h14]; rfl
    have e12 : ¬ nI (po (wh q)) = 12 := by rw [h14]; decide
    have e13 : ¬ nI (po (wh q)) = 13 := by rw [h14]; decide
    rw [if_pos e, if_pos e, if_neg e12, if_neg e13, if_pos e]
    exact hG
  have n14 : ¬ nI (po (wh q)) = 14 := fun e => h14 (kp_inj (by omega) (by decide) (b := 14) e)
  rw [hxa h14]
  simp only [if_neg n14]
  rw [hwork]
  by_cases hz : (if pm (wh q) = 0 then 1 else if kv_R_bit F 0 (fr q + t) = 0 then 0 else 1 : Int32) = 0
  · rw [if_pos hz]
    by_cases hm : pm (wh q) = 0
    · rw [if_pos hm] at hz; exact absurd hz (by decide)
    · rw [if_neg hm] at hz ⊢
      by_cases hb : kv_R_bit F 0 (fr q + t) = 0
      · rw [if_pos hb]; exact hG
      · rw [if_neg hb] at hz; exact absurd hz (by decide)
  rw [if_neg hz]
  have hon : pm (wh q) = 0 ∨ ¬ kv_R_bit F 0 (fr q + t) = 0 := by
    by_cases hm : pm (wh q) = 0
    · exact Or.inl hm
    · rw [if_neg hm] at hz
      exact Or.inr (fun hb => hz (by rw [if_pos hb]))
  have hpick : ∀ X Y : Nat → Int32, (if pm (wh q) = 0 then X else if kv_R_bit F 0 (fr q + t) = 0 then Y else X) = X := by
    intro X Y
    rcases hon with h | h
    · rw [if_pos h]
    · rw [if_neg h, ite_self]
  rw [hpick _ _]
  by_cases h12 : nI (po (wh q)) = 12
  · rw [if_pos h12, if_pos h12]; exact hG
  rw [if_neg h12, if_neg h12]
  by_cases h13 : nI (po (wh q)) = 13
  · rw [if_pos h13, if_pos h13]; exact hG
  rw [if_neg h13, if_neg h13]
  by_cases h17 : po (wh q) < 17
  · have e : nI (po (wh q)) < 17 := (nI_ltI (b := 17) (by omega) (by decide)).mpr h17
    have n18 : ¬ nI (po (wh q)) = 18 := fun e => absurd (kp_inj (by omega) (by decide) (b := 18) e) (by omega)
    rw [if_pos e, if_neg n18]; exact hG
  · have e : ¬ nI (po (wh q)) < 17 := fun z => h17 ((nI_ltI (b := 17) (by omega) (by decide)).mp z)
    rw [if_neg e]
    unfold kv_R_movesM
    by_cases h18 : nI (po (wh q)) = 18
    · rw [if_pos h18, if_pos h18]
      have o18 : po (wh q) = 18 := kp_inj (by omega) (by decide) (b := 18) h18
      obtain ⟨m1, m2⟩ := hMEM (by omega) hon
      have hpl := kp_pl (XA := XA) (XB := XB) (f := f) (F := F) (po := po) (pb := pb) (i := fr q + t) ho hw hF (fun h19 => absurd h19 (by omega))
      have hd := hPD (by omega) (by omega) h14
      rw [hpl, kp_elem hw hF hd]
      generalize hpp : (kv_R_place F po pb wh wd XA XB q (fr q + t)).toNatClampNeg = pp at m1 m2 ⊢
      rw [m1]
      intro j hj
      rw [kp_write hG m2 (by decide) j hj, kv_R_element, kp_mv hw (fun j hj => hFb _ (by omega)) _ _ _ (by omega)]
    · rw [if_neg h18, if_neg h18]; exact hG
