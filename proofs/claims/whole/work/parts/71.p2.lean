/-! pure part: P2 -/
/-- rows alike up to L -/
def kp_eq (L : Nat) (f F : Nat → Int32) : Prop := ∀ k, k < L → f k = F k
theorem kp_pos {n : Nat} (h : n < 2 ^ 31) : ¬ nI n < 0 := by
  intro h1
  have h2 := (nI_ltI (b := 0) h (by decide)).mp h1
  omega
theorem kp_bNc {f F : Nat → Int32} {q : Nat} : ∀ (w : Nat) (v : Int32), (∀ j, j < w → f (q + j) = F (q + j)) → kv_bN f q w v = kv_bN F q w v := by
  intro w
  induction w with
  | zero => intro v _; rfl
  | succ j ih =>
    intro v h
    rw [kv_bN, kv_bN, h j (by omega)]
    exact ih _ (fun k hk => h k (by omega))
theorem kp_bare {f : Nat → Int32} {L q w : Nat} (h : q + w ≤ L) (hL : L < 2 ^ 30) : kv_bare f L (nI q) w = kv_bN f q w 0 := by
  unfold kv_bare
  rw [if_neg (kp_pos (by omega)), pk_sub (by omega), if_neg, nI_clamp (by omega)]
  rw [nI_ltI (by omega) (by omega)]
  omega
theorem kp_place (w r i : Nat) : kv_K_placeOf w (nI r) (nI i) = nI (8 * r + i * w) := by
  unfold kv_K_placeOf
  rw [show (8 : Int32) = nI 8 from rfl, pk_mul, pk_mul, nI_add]
theorem kp_elem {f F : Nat → Int32} {w r i : Nat} (hw : kp_w w) (hF : kp_eq 64 f F) (h : 8 * r + i * w + w ≤ 64) : kv_K_element w f (nI r) (nI i) = kv_R_element F r i w := by
  unfold kv_K_element kv_B_number kv_R_element
  rw [kp_place, kp_bare h (by decide), kp_bNc w 0 (fun j hj => hF _ (by omega))]
  exact kp_num F hw _
theorem kp_by1 (v : Int32) : vp_nar .byte v.toInt8.toInt32 = v.toInt8.toInt32 := by
  show v.toInt8.toInt32.toInt8.toInt32 = _
  rw [Int8.toInt8_toInt32]
theorem kp_wN {L q : Nat} {v : Int32} : ∀ (k i : Nat) (f F : Nat → Int32), kp_eq L f F → kp_eq L (kv_wN v q k i f) (kv_se v q k i F) := by
  intro k
  induction k with
  | zero => intro i f F h; exact h
  | succ k ih =>
    intro i f F h
    rw [kv_wN, kv_se]
    apply ih
    intro j hj
    rw [kp_by1, kp_b8]
    unfold upd
    by_cases hq : j = q + i
    · rw [if_pos hq, if_pos hq]
    · rw [if_neg hq, if_neg hq]; exact h j hj
theorem kp_write {f F : Nat → Int32} {L q w : Nat} {v : Int32} (hF : kp_eq L f F) (h : q + w ≤ L) (hL : L < 2 ^ 30) : kp_eq L (kv_write f L (nI q) w v) (kv_se v q w 0 F) := by
  unfold kv_write
  rw [if_neg (kp_pos (by omega)), pk_sub (by omega), if_neg, nI_clamp (by omega)]
  · exact kp_wN _ _ _ _ hF
  · rw [nI_ltI (by omega) (by omega)]
    omega
theorem kp_mod8 {i : Nat} (h : i < 2 ^ 20) : nI i - nI i / 8 * 8 = nI (i % 8) := by
  rw [show (8 : Int32) = nI 8 from rfl, pk_div (by omega) (by decide) (by decide), pk_mul, pk_sub (by omega)]
  congr 1
  omega
/-- the bit of a byte, signed or not -/
theorem kp_bit8 (x : Int32) : ∀ s, s < 8 → ((((0 : Int32) <<< (8 &&& 31)) ||| (x &&& 255)) >>> (nI s &&& 31)) &&& 1 = (x >>> (nI s &&& 31)) &&& 1 := by
  intro s hs
  apply Int32.toBitVec_inj.mp
  have h0 : ((0 : Int32) <<< (8 &&& 31 : Int32)) = 0 := by decide
  have h1 : (nI s &&& 31) = nI s := by
    have h1 : s = 0 ∨ s = 1 ∨ s = 2 ∨ s = 3 ∨ s = 4 ∨ s = 5 ∨ s = 6 ∨ s = 7 := by omega
    rcases h1 with rfl | rfl | rfl | rfl | rfl | rfl | rfl | rfl <;> decide
  have h2 : (nI s).toBitVec.smod 32 = BitVec.ofNat 32 s := by
    have h1 : s = 0 ∨ s = 1 ∨ s = 2 ∨ s = 3 ∨ s = 4 ∨ s = 5 ∨ s = 6 ∨ s = 7 := by omega
    rcases h1 with rfl | rfl | rfl | rfl | rfl | rfl | rfl | rfl <;> decide
  have h3 : (BitVec.ofNat 32 s).toNat = s := by simp; omega
  rw [h0, h1, Int32.toBitVec_and, Int32.toBitVec_and, Int32.toBitVec_shiftRight, Int32.toBitVec_shiftRight, h2, Int32.toBitVec_or, Int32.toBitVec_and]
  apply BitVec.eq_of_getLsbD_eq
  intro i hi
  have h4 : (1 : Int32).toBitVec = 1#32 := rfl
  have h5 : (0 : Int32).toBitVec = 0#32 := rfl
  rw [h4, h5]
  simp only [BitVec.getLsbD_and, BitVec.sshiftRight_eq', BitVec.getLsbD_sshiftRight, h3]
  by_cases hz : i = 0
  · subst hz
    have h6 : (Int32.toBitVec 255).getLsbD (s + 0) = true := by
      show Nat.testBit 255 (s + 0) = true
      rw [show 255 = 2 ^ 8 - 1 from rfl, Nat.testBit_two_pow_sub_one]
      simp; omega
    have h7 : s + 0 < 32 := by omega
    simp only [h7, if_true, BitVec.getLsbD_or, BitVec.getLsbD_and, h6]
    simp
  · have h6 : (1#32).getLsbD i = false := by
      show Nat.testBit 1 i = false
      rw [show 1 = 2 ^ 1 - 1 from rfl, Nat.testBit_two_pow_sub_one]
      simp; omega
    rw [h6]; simp
theorem kp_work {f F : Nat → Int32} {mk : Int32} {i : Nat} (hF : kp_eq 64 f F) (h : i < 512) : kv_K_isWorkedOn mk f (nI i) = (if mk = 0 then 1 else if kv_R_bit F 0 i = 0 then 0 else 1) := by
  unfold kv_K_isWorkedOn kv_R_bit
  by_cases hm : mk = 0
  · rw [if_pos hm, if_pos hm]
  rw [if_neg hm, if_neg hm, kp_mod8 (by omega)]
  rw [show nI i / 8 = nI (i / 8) from by rw [show (8 : Int32) = nI 8 from rfl, pk_div (by omega) (by decide) (by decide)]]
  rw [kp_bare (by omega) (by decide), kv_bN, kv_bN, show i / 8 + 0 = i / 8 from rfl, kp_bit8 _ _ (by omega), hF (i / 8) (by omega), show 8 * 0 + i / 8 = i / 8 by omega]
  split <;> simp
