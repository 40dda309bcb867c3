/-! pure part: P3 -/
theorem kp_inj {a b : Nat} (ha : a < 2 ^ 31) (hb : b < 2 ^ 31) (h : nI a = nI b) : a = b := by
  have h1 := congrArg Int32.toNatClampNeg h
  rw [nI_clamp ha, nI_clamp hb] at h1
  exact h1
theorem kp_bN1 (F : Nat → Int32) (q : Nat) : kv_bN F q 1 0 = F q &&& 255 := by
  rw [kv_bN, kv_bN, show (0 : Int32) <<< (8 &&& 31 : Int32) = 0 from by decide]
  apply Int32.toBitVec_inj.mp
  rw [Int32.toBitVec_or, show (0 : Int32).toBitVec = 0#32 from rfl]
  simp
/-- the word of two bytes stays below 65536 -/
theorem kp_bN2 (F : Nat → Int32) (q : Nat) : kv_bN F q 2 0 = ((F (q + 1) &&& 255) <<< (8 &&& 31)) ||| (F q &&& 255) := by
  rw [kv_bN, kv_bN, kv_bN, show (0 : Int32) <<< (8 &&& 31 : Int32) = 0 from by decide]
  congr 2
  apply Int32.toBitVec_inj.mp
  rw [Int32.toBitVec_or, show (0 : Int32).toBitVec = 0#32 from rfl]
  simp
theorem kp_t255 (i : Nat) : (Int32.toBitVec 255).getLsbD i = decide (i < 8) := by
  show Nat.testBit 255 i = _
  rw [show 255 = 2 ^ 8 - 1 from rfl, Nat.testBit_two_pow_sub_one]
theorem kp_t255L (i : Nat) : (Int64.toBitVec 255).getLsbD i = decide (i < 8) := by
  show Nat.testBit 255 i = _
  rw [show 255 = 2 ^ 8 - 1 from rfl, Nat.testBit_two_pow_sub_one]
theorem kp_t65535L (i : Nat) : (Int64.toBitVec 65535).getLsbD i = decide (i < 16) := by
  show Nat.testBit 65535 i = _
  rw [show 65535 = 2 ^ 16 - 1 from rfl, Nat.testBit_two_pow_sub_one]
theorem kp_tffL (i : Nat) : (Int64.toBitVec 4294967295).getLsbD i = decide (i < 32) := by
  show Nat.testBit 4294967295 i = _
  rw [show 4294967295 = 2 ^ 32 - 1 from rfl, Nat.testBit_two_pow_sub_one]
/-- the unsigned number of an element, as a long -/
def kp_un (F : Nat → Int32) (q w : Nat) : Int64 := (kv_bN F q w 0).toInt64 &&& 4294967295
theorem kp_plain (F : Nat → Int32) {w : Nat} (hw : kp_w w) (q : Nat) : kv_R_plain (kv_R_signed (kv_el F q w 0) (nI w)) (nI w) = kp_un F q w := by
  rw [← kp_num F hw q]
  unfold kp_un
  rcases hw with rfl | rfl | rfl
  · rw [kv_R_plain, if_neg (by decide), if_neg (by decide), kp_bN1, show ((32 - 8 * nI 1) &&& 31 : Int32) = 24 from by decide]
    apply Int64.toBitVec_inj.mp
    simp only [Int64.toBitVec_and, Int32.toBitVec_toInt64, Int32.toBitVec_shiftRight, Int32.toBitVec_shiftLeft, Int32.toBitVec_and]
    have h : ((24 : Int32).toBitVec.smod 32) = 24#32 := by decide
    rw [h]
    apply BitVec.eq_of_getLsbD_eq
    intro i hi
    simp only [BitVec.getLsbD_and, BitVec.getLsbD_signExtend, BitVec.sshiftRight_eq', BitVec.getLsbD_sshiftRight, BitVec.shiftLeft_eq', BitVec.getLsbD_shiftLeft, BitVec.msb_eq_getLsbD_last, kp_t255, kp_t255L, kp_tffL, show (24#32).toNat = 24 from rfl]
    by_cases h8 : i < 8
    · simp [h8, show 24 + i < 32 by omega, show i < 32 by omega, show ¬ 24 + i < 24 by omega, show 24 + i - 24 = i by omega, show ¬ 32 ≤ i by omega, hi]
    · by_cases h32 : i < 32 <;> simp [h8, h32, hi]
  · rw [kv_R_plain, if_neg (by decide), if_pos (by decide), kp_bN2, show ((32 - 8 * nI 2) &&& 31 : Int32) = 16 from by decide]
    apply Int64.toBitVec_inj.mp
    simp only [Int64.toBitVec_and, Int32.toBitVec_toInt64, Int32.toBitVec_shiftRight, Int32.toBitVec_shiftLeft, Int32.toBitVec_and, Int32.toBitVec_or]
    have h : ((16 : Int32).toBitVec.smod 32) = 16#32 := by decide
    have h' : (((8 : Int32).toBitVec &&& (31 : Int32).toBitVec).smod 32) = 8#32 := by decide
    rw [h, h']
    apply BitVec.eq_of_getLsbD_eq
    intro i hi
    simp only [BitVec.getLsbD_and, BitVec.getLsbD_or, BitVec.getLsbD_signExtend, BitVec.sshiftRight_eq', BitVec.getLsbD_sshiftRight, BitVec.shiftLeft_eq', BitVec.getLsbD_shiftLeft, BitVec.msb_eq_getLsbD_last, kp_t255, kp_t65535L, kp_tffL, show (16#32).toNat = 16 from rfl, show (8#32).toNat = 8 from rfl]
    by_cases h8 : i < 16
    · simp [h8, show 16 + i < 32 by omega, show i < 32 by omega, show ¬ 16 + i < 16 by omega, show 16 + i - 16 = i by omega, show ¬ 32 ≤ i by omega, hi]
    · by_cases h32 : i < 32 <;> simp [h8, h32, hi, show ¬ i < 8 by omega, show ¬ i - 8 < 8 by omega]
  · rw [kv_R_plain, if_pos (by decide), show ((32 - 8 * nI 4) &&& 31 : Int32) = 0 from by decide]
    have h : (kv_bN F q 4 0 <<< (0 : Int32)) >>> (0 : Int32) = kv_bN F q 4 0 := by
      apply Int32.toBitVec_inj.mp
      simp [Int32.toBitVec_shiftRight, Int32.toBitVec_shiftLeft]
    rw [h]
theorem kp_un32 (F : Nat → Int32) (q w : Nat) : (kp_un F q w).toInt32 = kv_bN F q w 0 := by
  unfold kp_un
  apply Int32.toBitVec_inj.mp
  simp only [Int64.toBitVec_toInt32, Int64.toBitVec_and, Int32.toBitVec_toInt64]
  apply BitVec.eq_of_getLsbD_eq
  intro i hi
  simp only [BitVec.getLsbD_setWidth, BitVec.getLsbD_and, BitVec.getLsbD_signExtend, kp_tffL]
  simp [hi, show i < 64 by omega]
/-- a word that is not negative is its own unsigned number -/
theorem kp_unP {x : Int32} (h : ¬ x < 0) : x.toInt64 &&& 4294967295 = x.toInt64 := by
  obtain ⟨j, hj, rfl⟩ := nI_of h
  apply Int64.toBitVec_inj.mp
  simp only [Int64.toBitVec_and, Int32.toBitVec_toInt64]
  apply BitVec.eq_of_getLsbD_eq
  intro i hi
  have hm : (nI j).toBitVec.getLsbD 31 = false := by
    show Nat.testBit (j % 2 ^ 32) 31 = false
    rw [Nat.mod_eq_of_lt (by omega)]
    exact Nat.testBit_lt_two_pow hj
  simp only [BitVec.getLsbD_and, BitVec.getLsbD_signExtend, BitVec.msb_eq_getLsbD_last, kp_tffL, show 32 - 1 = 31 from rfl, hm]
  by_cases h32 : i < 32 <;> simp [h32]
theorem kp_unZ (x : Int32) : (x.toInt64 &&& 4294967295).toInt = (x.toBitVec.toNat : Int) := by
  have h : (x.toInt64 &&& 4294967295).toBitVec = x.toBitVec.setWidth 64 := by
    simp only [Int64.toBitVec_and, Int32.toBitVec_toInt64]
    apply BitVec.eq_of_getLsbD_eq
    intro i hi
    simp only [BitVec.getLsbD_setWidth, BitVec.getLsbD_and, BitVec.getLsbD_signExtend, kp_tffL]
    by_cases h32 : i < 32
    · simp [h32, hi]
    · rw [BitVec.getLsbD_of_ge x.toBitVec i (by omega)]; simp [h32, hi]
  show (x.toInt64 &&& 4294967295).toBitVec.toInt = _
  rw [h, BitVec.toInt_eq_toNat_of_lt, BitVec.toNat_setWidth, Nat.mod_eq_of_lt]
  · have := x.toBitVec.isLt; omega
  · rw [BitVec.toNat_setWidth, Nat.mod_eq_of_lt]
    · have := x.toBitVec.isLt; omega
    · have := x.toBitVec.isLt; omega
theorem kp_negN {x : Int32} (h : x < 0) : 2 ^ 31 ≤ x.toBitVec.toNat := by
  have h1 : x.toInt < 0 := by rw [Int32.lt_iff_toInt_lt] at h; simpa using h
  have h2 : x.toBitVec.toInt < 0 := h1
  rw [BitVec.toInt_eq_toNat_cond] at h2
  split at h2 <;> omega
/-- a negative word's unsigned number is large -/
theorem kp_unN {x : Int32} (h : x < 0) : ¬ (x.toInt64 &&& 4294967295) < 0 ∧ ∀ m : Nat, m < 2 ^ 20 → ¬ (x.toInt64 &&& 4294967295) < (nI m).toInt64 := by
  have h1 := kp_negN h
  constructor
  · rw [Int64.lt_iff_toInt_lt, kp_unZ]
    simp only [show (0 : Int64).toInt = 0 from rfl]
    omega
  · intro m hm
    rw [Int64.lt_iff_toInt_lt, kp_unZ, Int32.toInt_toInt64, nI_toInt (by omega)]
    omega
theorem kp_cmpn {x y : Int64} : (lg_cmp x y < 0) ↔ x < y := by
  unfold lg_cmp
  by_cases h1 : x > y
  · rw [if_pos h1]
    constructor
    · intro h; exact absurd h (by decide)
    · intro h; exact absurd h (Int64.lt_asymm h1)
  · rw [if_neg h1]
    by_cases h2 : x = y
    · rw [if_pos h2]
      constructor
      · intro h; exact absurd h (by decide)
      · intro h; subst h2; exact absurd h h1
    · rw [if_neg h2]
      constructor
      · intro _
        rcases Int64.lt_or_eq_of_le (Int64.not_lt.mp h1) with h | h
        · exact h
        · exact absurd h h2
      · intro _; decide
theorem kp_cmp0 {x y : Int64} : (lg_cmp x y = 0) ↔ x = y := by
  unfold lg_cmp
  by_cases h1 : x > y
  · rw [if_pos h1]
    constructor
    · intro h; exact absurd h (by decide)
    · intro h; subst h; exact absurd h1 (Int64.lt_irrefl)
  · rw [if_neg h1]
    by_cases h2 : x = y
    · rw [if_pos h2]; simp [h2]
    · rw [if_neg h2]
      constructor
      · intro h; exact absurd h (by decide)
      · intro h; exact absurd h h2
/-- an element of the group at a, or 0: the class's way and the reference's -/
theorem kp_pick {f F : Nat → Int32} {w a m : Nat} {y : Int32} {e : Int64} (hw : kp_w w) (hF : kp_eq 64 f F) (hm : m < 2 ^ 20) (hb : ∀ j, j < m → 8 * a + j * w + w ≤ 64) (he : e = y.toInt64 ∨ e = y.toInt64 &&& 4294967295) :
    kv_K_elementOrZero w (nI m) f (nI a) y = (if lg_cmp e 0 < 0 then 0 else if lg_cmp e (nI m).toInt64 < 0 then kv_R_element F a e.toInt32.toNatClampNeg w else 0) := by
  unfold kv_K_elementOrZero kv_K_isInGroup
  have h32 : (y.toInt64 &&& 4294967295).toInt32 = y := by
    apply Int32.toBitVec_inj.mp
    simp only [Int64.toBitVec_toInt32, Int64.toBitVec_and, Int32.toBitVec_toInt64]
    apply BitVec.eq_of_getLsbD_eq
    intro i hi
    simp only [BitVec.getLsbD_setWidth, BitVec.getLsbD_and, BitVec.getLsbD_signExtend, kp_tffL]
    simp [hi, show i < 64 by omega]
  by_cases h0 : y < 0
  · rw [if_pos h0, if_pos rfl]
    rcases he with rfl | rfl
    · rw [if_pos]
      rw [kp_cmpn, Int64.lt_iff_toInt_lt, Int32.toInt_toInt64]
      rw [Int32.lt_iff_toInt_lt] at h0
      exact h0
    · rw [if_neg (by rw [kp_cmpn]; exact (kp_unN h0).1), if_neg (by rw [kp_cmpn]; exact (kp_unN h0).2 m hm)]
  · have he' : e = y.toInt64 := by
      rcases he with h | h
      · exact h
      · rw [h]; exact kp_unP h0
    subst he'
    rw [if_neg h0]
    obtain ⟨j, hj, rfl⟩ := nI_of h0
    have h1 : ¬ lg_cmp (nI j).toInt64 0 < 0 := by
      rw [kp_cmpn, Int64.lt_iff_toInt_lt, Int32.toInt_toInt64, nI_toInt hj]
      simp only [show (0 : Int64).toInt = 0 from rfl]
      omega
    have h2 : lg_cmp (nI j).toInt64 (nI m).toInt64 < 0 ↔ j < m := by
      rw [kp_cmpn, Int64.lt_iff_toInt_lt, Int32.toInt_toInt64, Int32.toInt_toInt64, nI_toInt hj, nI_toInt (by omega)]
      omega
    have h4 : nI m ≤ nI j ↔ m ≤ j := nI_leI (by omega) hj
    rw [if_neg h1]
    by_cases h3 : j < m
    · have hc : (if nI m ≤ nI j then (0 : Int32) else 1) = 1 := if_neg (fun h => by have := h4.mp h; omega)
      rw [hc, if_neg (by decide), if_pos (h2.mpr h3), Int32.toInt32_toInt64, nI_clamp hj]
      exact kp_elem hw hF (hb j h3)
    · have hc : (if nI m ≤ nI j then (0 : Int32) else 1) = 0 := if_pos (h4.mpr (by omega))
      rw [hc, if_pos rfl, if_neg (fun h => h3 (h2.mp h))]
