/-! pure part: P9 -/
/-- byte k is in the set -/
def kpb (s : Int64) (k : Nat) : Bool := s.toBitVec.getLsbD k
theorem kpb_and {s m : Int64} (h : s &&& m = 0) (k : Nat) (h1 : kpb s k = true) (h2 : kpb m k = true) : False := by
  have h3 := congrArg (fun v => v.toBitVec.getLsbD k) h
  simp only [Int64.toBitVec_and, BitVec.getLsbD_and, show (0 : Int64).toBitVec = 0#64 from rfl, BitVec.getLsbD_zero] at h3
  unfold kpb at h1 h2
  rw [h1, h2] at h3
  exact absurd h3 (by decide)
theorem kpb_and' {s m : Int64} (h : ∀ k, k < 64 → kpb s k = true → kpb m k = true → False) : s &&& m = 0 := by
  apply Int64.toBitVec_inj.mp
  simp only [Int64.toBitVec_and, show (0 : Int64).toBitVec = 0#64 from rfl]
  apply BitVec.eq_of_getLsbD_eq
  intro i hi
  rw [BitVec.getLsbD_and, BitVec.getLsbD_zero]
  have h1 := h i hi
  unfold kpb at h1
  revert h1
  cases s.toBitVec.getLsbD i <;> cases m.toBitVec.getLsbD i <;> simp
theorem kpb_or (a b : Int64) (k : Nat) : kpb (a ||| b) k = (kpb a k || kpb b k) := by
  unfold kpb
  rw [Int64.toBitVec_or, BitVec.getLsbD_or]
theorem kpb_0 (k : Nat) : kpb 0 k = false := by
  unfold kpb
  rw [show (0 : Int64).toBitVec = 0#64 from rfl, BitVec.getLsbD_zero]
theorem kp_sm64 {a : Nat} (ha : a < 64) : ((nI a).toInt64 &&& 63).toBitVec.smod 64 = BitVec.ofNat 64 a := by
  have key : ∀ a, a < 64 → ((nI a).toInt64 &&& 63).toBitVec.smod 64 = BitVec.ofNat 64 a := by decide +kernel
  exact key a ha
theorem kpb_bytes {a c k : Nat} (ha : a < 64) (hc : c < 64) (hk : k < 64) : kpb (kv_R_bytes (nI a) (nI c)) k = decide (a ≤ k ∧ k < a + c) := by
  unfold kpb kv_R_bytes
  rw [Int64.toBitVec_shiftLeft, kp_sm64 ha, Int64.toBitVec_sub, Int64.toBitVec_shiftLeft, kp_sm64 hc, show (1 : Int64).toBitVec = 1#64 from rfl]
  have e1 : (BitVec.ofNat 64 a).toNat = a := by simp; omega
  have e2 : (BitVec.ofNat 64 c).toNat = c := by simp; omega
  rw [BitVec.shiftLeft_eq', BitVec.shiftLeft_eq', e1, e2, BitVec.getLsbD_shiftLeft]
  have e3 : (1#64 <<< c - 1#64).getLsbD (k - a) = decide (k - a < c) := by
    have e4 : (1#64 <<< c - 1#64).toNat = 2 ^ c - 1 := by
      have hp : 2 ^ c < 2 ^ 64 := Nat.pow_lt_pow_right (by decide) hc
      have hp1 : 1 ≤ 2 ^ c := Nat.one_le_two_pow
      rw [BitVec.toNat_sub, BitVec.toNat_shiftLeft, Nat.shiftLeft_eq]
      simp only [BitVec.toNat_ofNat]
      omega
    show Nat.testBit (1#64 <<< c - 1#64).toNat (k - a) = _
    rw [e4, Nat.testBit_two_pow_sub_one]
  rw [e3]
  by_cases h1 : a ≤ k
  · simp [hk, h1, show ¬ k < a by omega]
    omega
  · simp [h1, show k < a by omega]
/-- what the write of bytes leaves -/
theorem kp_se_ne {v : Int32} {q0 : Nat} : ∀ (k i : Nat) (F : Nat → Int32) (j : Nat), ¬ (q0 + i ≤ j ∧ j < q0 + i + k) → kv_se v q0 k i F j = F j := by
  intro k
  induction k with
  | zero => intro i F j _; rfl
  | succ k ih =>
    intro i F j h
    rw [kv_se, ih _ _ _ (by omega)]
    unfold upd
    rw [if_neg (by omega)]
theorem kp_mv_ne {H : Nat → Int32} {d s : Nat} : ∀ (k i : Nat) (G : Nat → Int32) (j : Nat), ¬ (d + i ≤ j ∧ j < d + i + k) → kv_mv H d s k i G j = G j := by
  intro k
  induction k with
  | zero => intro i F j _; rfl
  | succ k ih =>
    intro i F j h
    rw [kv_mv, ih _ _ _ (by omega)]
    unfold upd
    rw [if_neg (by omega)]
theorem kp_se_by {v : Int32} {q0 L : Nat} : ∀ (k i : Nat) (F : Nat → Int32), (∀ j, j < L → kp_by (F j)) → ∀ j, j < L → kp_by (kv_se v q0 k i F j) := by
  intro k
  induction k with
  | zero => intro i F h; exact h
  | succ k ih =>
    intro i F h
    rw [kv_se]
    apply ih
    intro j hj
    unfold upd
    by_cases h1 : j = q0 + i
    · rw [if_pos h1, kp_b8]; exact kp_by8 _
    · rw [if_neg h1]; exact h j hj
theorem kp_mv_by {H : Nat → Int32} {d s L : Nat} : ∀ (k i : Nat) (G : Nat → Int32), (∀ j, i ≤ j → j < i + k → kp_by (H (s + j))) → (∀ j, j < L → kp_by (G j)) → ∀ j, j < L → kp_by (kv_mv H d s k i G j) := by
  intro k
  induction k with
  | zero => intro i G _ h; exact h
  | succ k ih =>
    intro i G hH h
    rw [kv_mv]
    apply ih _ _ (fun j h1 h2 => hH j (by omega) (by omega))
    intro j hj
    unfold upd
    by_cases h1 : j = d + i
    · rw [if_pos h1]; exact hH i (by omega) (by omega)
    · rw [if_neg h1]; exact h j hj
section
variable {po pd pa pb : Nat → Nat} {pm : Nat → Int32} {wh wd rg fr : Nat → Nat} {XA XB : Nat → Int32}
/-- a step changes the bytes of its set alone, and they stay bytes -/
theorem kp_does2 {F M : Nat → Int32} {q t : Nat} (hD : kD F po pd pa pb pm wh wd rg fr XA XB q t) (hF : ∀ i, i < 64 → kp_by (F i)) (hM : ∀ i, i < 128 → kp_by (M i)) :
    (∀ k, k < 64 → ¬ kpb (kv_R_writes po pd wh wd fr q t) k = true → kv_R_does_2 F M po pd pa pb pm wh wd rg fr XA XB q t (XA q).toNatClampNeg k = F k) ∧ (∀ k, k < 64 → kp_by (kv_R_does_2 F M po pd pa pb pm wh wd rg fr XA XB q t (XA q).toNatClampNeg k)) := by
  obtain ⟨ho, hrg, hw0, hw5, hft, hS, hPA, hPB, hPD, hWD, hLS, hSG, hMEM⟩ := hD
  have e8 : ∀ a : Nat, (8 : Int32) * nI a = nI (8 * a) := fun a => by rw [show (8 : Int32) = nI 8 from rfl, pk_mul]
  unfold kv_R_does_2
  by_cases h14 : po (wh q) = 14
  · have e : nI (po (wh q)) = 14 := by rw [h14]; rfl
    obtain ⟨-, s2, s3, s4, s5, s6⟩ := hS h14
    have hwr : kv_R_writes po pd wh wd fr q t = kv_R_bytes (nI (8 * pd (wh q))) (nI (wd q)) := by
      unfold kv_R_writes
      rw [if_neg (by rw [e]; decide), if_neg (by rw [e]; decide), if_pos e, e8]
    rw [if_pos e, hwr]
    unfold kv_R_sums
    split
    · exact ⟨fun _ _ _ => rfl, hF⟩
    · refine ⟨fun k hk hn => ?_, kp_se_by _ _ _ hF⟩
      rw [kpb_bytes (by omega) (by omega) hk] at hn
      exact kp_se_ne _ _ _ _ (by simpa using hn)
  have n14 : ¬ nI (po (wh q)) = 14 := fun e => h14 (kp_inj (by omega) (by decide) (b := 14) e)
  rw [if_neg n14]
  -- worked on or not
  have hred : ∀ (X : Nat → Int32), (pm (wh q) = 0 ∨ ¬ kv_R_bit F 0 (fr q + t) = 0 → (∀ k, k < 64 → ¬ kpb (kv_R_writes po pd wh wd fr q t) k = true → X k = F k) ∧ (∀ k, k < 64 → kp_by (X k))) →
      (∀ k, k < 64 → ¬ kpb (kv_R_writes po pd wh wd fr q t) k = true → (if pm (wh q) = 0 then X else if kv_R_bit F 0 (fr q + t) = 0 then F else X) k = F k) ∧ (∀ k, k < 64 → kp_by ((if pm (wh q) = 0 then X else if kv_R_bit F 0 (fr q + t) = 0 then F else X) k)) := by
    intro X hX
    by_cases hm : pm (wh q) = 0
    · rw [if_pos hm]; exact hX (Or.inl hm)
    · rw [if_neg hm]
      by_cases hb : kv_R_bit F 0 (fr q + t) = 0
      · rw [if_pos hb]; exact ⟨fun _ _ _ => rfl, hF⟩
      · rw [if_neg hb]; exact hX (Or.inr hb)
  refine hred _ (fun hon => ?_)
  by_cases h12 : po (wh q) = 12
  · have e : nI (po (wh q)) = 12 := by rw [h12]; rfl
    have hl := hLS h12
    have hwr : kv_R_writes po pd wh wd fr q t = kv_R_bytes (nI (8 * pd (wh q) + (fr q + t) / 8)) (nI 1) := by
      unfold kv_R_writes
      rw [if_neg (by rw [e]; decide), if_pos e, e8, nI_add, show (8 : Int32) = nI 8 from rfl, pk_div (by omega) (by decide) (by decide), nI_add]; rfl
    rw [if_pos e, hwr]
    refine ⟨fun k hk hn => ?_, fun k hk => ?_⟩
    · rw [kpb_bytes (by omega) (by omega) hk] at hn
      unfold upd
      rw [if_neg (by simp at hn; omega)]
    · unfold upd
      split
      · rw [kp_b8]; exact kp_by8 _
      · exact hF k hk
  have n12 : ¬ nI (po (wh q)) = 12 := fun e => h12 (kp_inj (by omega) (by decide) (b := 12) e)
  rw [if_neg n12]
  by_cases h13 : po (wh q) = 13
  · have e : nI (po (wh q)) = 13 := by rw [h13]; rfl
    have hl := hWD h13
    have hwr : kv_R_writes po pd wh wd fr q t = kv_R_bytes (nI (8 * pd (wh q) + (fr q + t) * (2 * wd q))) (nI (2 * wd q)) := by
      unfold kv_R_writes
      rw [if_neg (by rw [e]; decide), if_neg n12, if_neg n14, if_pos e, e8, nI_add, show (2 : Int32) = nI 2 from rfl, pk_mul, pk_mul, pk_mul, nI_add, Nat.mul_comm 2 (fr q + t), Nat.mul_assoc]
    rw [if_pos e, hwr]
    refine ⟨fun k hk hn => ?_, kp_se_by _ _ _ hF⟩
    rw [kpb_bytes (by omega) (by omega) hk] at hn
    exact kp_se_ne _ _ _ _ (by simpa using hn)
  have n13 : ¬ nI (po (wh q)) = 13 := fun e => h13 (kp_inj (by omega) (by decide) (b := 13) e)
  have hl := hPD h12 h13 h14
  rw [if_neg n13]
  have hwr : po (wh q) ≠ 18 → kv_R_writes po pd wh wd fr q t = kv_R_bytes (nI (8 * pd (wh q) + (fr q + t) * wd q)) (nI (wd q)) := by
    intro h18
    unfold kv_R_writes
    rw [if_neg (show ¬ nI (po (wh q)) = 18 from fun e => h18 (kp_inj (by omega) (by decide) (b := 18) e)), if_neg n12, if_neg n14, if_neg n13, e8, nI_add, pk_mul, nI_add]
  by_cases h17 : po (wh q) < 17
  · have e : nI (po (wh q)) < 17 := (nI_ltI (b := 17) (by omega) (by decide)).mpr h17
    rw [if_pos e, hwr (by omega)]
    refine ⟨fun k hk hn => ?_, kp_se_by _ _ _ hF⟩
    rw [kpb_bytes (by omega) (by omega) hk] at hn
    exact kp_se_ne _ _ _ _ (by simpa using hn)
  · have e : ¬ nI (po (wh q)) < 17 := fun z => h17 ((nI_ltI (b := 17) (by omega) (by decide)).mp z)
    rw [if_neg e]
    unfold kv_R_movesF
    by_cases h18 : nI (po (wh q)) = 18
    · rw [if_pos h18]; exact ⟨fun _ _ _ => rfl, hF⟩
    · rw [if_neg h18, hwr (fun z => h18 (by rw [z]; rfl))]
      obtain ⟨m1, m2⟩ := hMEM (by omega) hon
      refine ⟨fun k hk hn => ?_, kp_mv_by _ _ _ (fun j h1 h2 => hM _ (by omega)) hF⟩
      rw [kpb_bytes (by omega) (by omega) hk] at hn
      exact kp_mv_ne _ _ _ _ (by simpa using hn)
theorem kp_does3 {F M : Nat → Int32} {q t : Nat} (hD : kD F po pd pa pb pm wh wd rg fr XA XB q t) (hF : ∀ i, i < 64 → kp_by (F i)) (hM : ∀ i, i < 128 → kp_by (M i)) : ∀ k, k < 128 → kp_by (kv_R_does_3 F M po pd pb pm wh wd fr XA XB q t k) := by
  obtain ⟨ho, hrg, hw0, hw5, hft, hS, hPA, hPB, hPD, hWD, hLS, hSG, hMEM⟩ := hD
  unfold kv_R_does_3 kv_R_movesM
  intro k hk
  have hmv : po (wh q) = 18 → kp_by (kv_mv F (kv_R_place F po pb wh wd XA XB q (fr q + t)).toNatClampNeg (8 * pd (wh q) + (fr q + t) * wd q) (wd q) 0 M k) := by
    intro h18
    have hl := hPD (by omega) (by omega) (by omega)
    exact kp_mv_by _ _ _ (fun j h1 h2 => hF _ (by omega)) hM k hk
  repeat' split
  all_goals first
    | exact hM k hk
    | exact hmv (kp_inj (by omega) (by decide) (b := 18) (by assumption))
end
