/-! pure part: P1 -/
theorem kp_b8 (x : Int32) : (x <<< (24 &&& 31)) >>> (24 &&& 31) = x.toInt8.toInt32 := by
  apply Int32.toBitVec_inj.mp
  simp only [Int32.toBitVec_shiftRight, Int32.toBitVec_shiftLeft, Int8.toBitVec_toInt32, Int32.toBitVec_toInt8]
  have h : ((24 &&& 31 : Int32).toBitVec.smod 32) = 24#32 := by decide
  rw [h]
  apply BitVec.eq_of_getLsbD_eq
  intro i hi
  simp only [BitVec.sshiftRight_eq', BitVec.getLsbD_sshiftRight, BitVec.getLsbD_signExtend, BitVec.shiftLeft_eq', BitVec.getLsbD_shiftLeft, BitVec.msb_eq_getLsbD_last, show (24#32).toNat = 24 from rfl]
  by_cases h8 : i < 8
  · have h1 : 24 + i < 32 := by omega
    simp [h8, h1, hi, Nat.not_le.mpr hi, show ¬ (24 + i < 24) by omega, show 24 + i - 24 = i by omega]
  · have h1 : ¬ 24 + i < 32 := by omega
    simp [h8, h1, hi, Nat.not_le.mpr hi]
/-- a byte -/
def kp_by (x : Int32) : Prop := x.toInt8.toInt32 = x
theorem kp_by8 (x : Int32) : kp_by x.toInt8.toInt32 := by
  unfold kp_by
  rw [Int8.toInt8_toInt32]
/-- the shifted word with a byte -/
theorem kp_or8 (v x : Int32) : (v <<< (8 &&& 31)) ||| (x &&& 255) = v * 256 + (x &&& 255) := by
  apply Int32.toBitVec_inj.mp
  rw [Int32.toBitVec_or, Int32.toBitVec_add, Int32.toBitVec_mul, Int32.toBitVec_shiftLeft, show (x &&& 255).toBitVec = x.toBitVec &&& (255 : Int32).toBitVec from rfl]
  have h : ((8 &&& 31 : Int32).toBitVec.smod 32) = 8#32 := by decide
  have h2 : (256 : Int32).toBitVec = BitVec.twoPow 32 8 := by decide
  have h3 : (255 : Int32).toBitVec = 255#32 := by decide
  rw [h, h2, h3, BitVec.shiftLeft_eq', show (8#32).toNat = 8 from rfl, ← BitVec.shiftLeft_eq_mul_twoPow]
  symm
  apply BitVec.add_eq_or_of_and_eq_zero
  apply BitVec.eq_of_getLsbD_eq
  intro i hi
  by_cases h8 : i < 8
  · simp [BitVec.getLsbD_shiftLeft, h8]
  · have h5 : (255#32).getLsbD i = false := by
      show Nat.testBit 255 i = false
      rw [show 255 = 2 ^ 8 - 1 from rfl, Nat.testBit_two_pow_sub_one]
      simp [h8]
    simp [BitVec.getLsbD_shiftLeft, h8, h5]
theorem kp_255 (x : Int32) : (x &&& 255).toInt64.toInt32 = x &&& 255 := by
  rw [Int32.toInt32_toInt64]
theorem kp_el (F : Nat → Int32) (q : Nat) : ∀ (w : Nat) (v : Int64), (kv_el F q w v).toInt32 = kv_bN F q w v.toInt32 := by
  intro w
  induction w with
  | zero => intro v; rfl
  | succ j ih =>
    intro v
    rw [kv_el, kv_bN, ih, kp_or8, Int64.toInt32_add, Int64.toInt32_mul, kp_255]
    rfl
theorem kp_sx48 (v : Int64) : ((v <<< ((48 : Int32).toInt64 &&& 63)) >>> ((48 : Int32).toInt64 &&& 63)).toInt32 = (v.toInt32 <<< (16 : Int32)) >>> (16 : Int32) := by
  apply Int32.toBitVec_inj.mp
  simp only [Int64.toBitVec_toInt32, Int64.toBitVec_shiftRight, Int64.toBitVec_shiftLeft, Int32.toBitVec_shiftRight, Int32.toBitVec_shiftLeft]
  have h : (((48 : Int32).toInt64 &&& 63).toBitVec.smod 64) = 48#64 := by decide
  have h2 : ((16 : Int32).toBitVec.smod 32) = 16#32 := by decide
  rw [h, h2]
  apply BitVec.eq_of_getLsbD_eq
  intro i hi
  simp only [BitVec.sshiftRight_eq', BitVec.getLsbD_sshiftRight, BitVec.getLsbD_signExtend, BitVec.shiftLeft_eq', BitVec.getLsbD_shiftLeft, BitVec.msb_eq_getLsbD_last, show (48#64).toNat = 48 from rfl, show (16#32).toNat = 16 from rfl, BitVec.getLsbD_setWidth]
  by_cases h8 : i < 16
  · have h1 : 48 + i < 64 := by omega
    have h1' : 16 + i < 32 := by omega
    simp [h8, h1, h1', hi, Nat.not_le.mpr hi, show ¬ (64 ≤ i) by omega, show i < 64 by omega, show ¬ (48 + i < 48) by omega, show 48 + i - 48 = i by omega, show ¬ (16 + i < 16) by omega, show 16 + i - 16 = i by omega]
  · have h1 : ¬ 48 + i < 64 := by omega
    have h1' : ¬ 16 + i < 32 := by omega
    simp [h8, h1, h1', hi, Nat.not_le.mpr hi, show ¬ (64 ≤ i) by omega]
theorem kp_sx56 (v : Int64) : ((v <<< ((56 : Int32).toInt64 &&& 63)) >>> ((56 : Int32).toInt64 &&& 63)).toInt32 = (v.toInt32 <<< (24 : Int32)) >>> (24 : Int32) := by
  apply Int32.toBitVec_inj.mp
  simp only [Int64.toBitVec_toInt32, Int64.toBitVec_shiftRight, Int64.toBitVec_shiftLeft, Int32.toBitVec_shiftRight, Int32.toBitVec_shiftLeft]
  have h : (((56 : Int32).toInt64 &&& 63).toBitVec.smod 64) = 56#64 := by decide
  have h2 : ((24 : Int32).toBitVec.smod 32) = 24#32 := by decide
  rw [h, h2]
  apply BitVec.eq_of_getLsbD_eq
  intro i hi
  simp only [BitVec.sshiftRight_eq', BitVec.getLsbD_sshiftRight, BitVec.getLsbD_signExtend, BitVec.shiftLeft_eq', BitVec.getLsbD_shiftLeft, BitVec.msb_eq_getLsbD_last, show (56#64).toNat = 56 from rfl, show (24#32).toNat = 24 from rfl, BitVec.getLsbD_setWidth]
  by_cases h8 : i < 8
  · have h1 : 56 + i < 64 := by omega
    have h1' : 24 + i < 32 := by omega
    simp [h8, h1, h1', hi, Nat.not_le.mpr hi, show ¬ (64 ≤ i) by omega, show i < 64 by omega, show ¬ (56 + i < 56) by omega, show 56 + i - 56 = i by omega, show ¬ (24 + i < 24) by omega, show 24 + i - 24 = i by omega]
  · have h1 : ¬ 56 + i < 64 := by omega
    have h1' : ¬ 24 + i < 32 := by omega
    simp [h8, h1, h1', hi, Nat.not_le.mpr hi, show ¬ (64 ≤ i) by omega]
/-- a width -/
def kp_w (w : Nat) : Prop := w = 1 ∨ w = 2 ∨ w = 4
theorem kp_num (F : Nat → Int32) {w : Nat} (hw : kp_w w) (q : Nat) : ((kv_bN F q w 0) <<< ((32 - (8 * (nI w))) &&& 31)) >>> ((32 - (8 * (nI w))) &&& 31) = kv_R_signed (kv_el F q w 0) (nI w) := by
  have h := kp_el F q w 0
  rw [show (0 : Int64).toInt32 = 0 from rfl] at h
  rw [← h]
  rcases hw with rfl | rfl | rfl
  · rw [kv_R_signed, if_neg (by decide), if_neg (by decide), kp_sx56]; rfl
  · rw [kv_R_signed, if_neg (by decide), if_pos (by decide), kp_sx48]; rfl
  · rw [kv_R_signed, if_pos (by decide), show ((32 - (8 * (nI 4))) &&& 31 : Int32) = 0 from by decide]
    apply Int32.toBitVec_inj.mp
    simp [Int32.toBitVec_shiftRight, Int32.toBitVec_shiftLeft]
