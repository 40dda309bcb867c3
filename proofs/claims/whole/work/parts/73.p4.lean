/-! pure part: P4 -/
theorem kp_bNbit (F : Nat → Int32) (q : Nat) : ∀ (w : Nat) (v : Int32) (i : Nat), i < 32 → (kv_bN F q w v).toBitVec.getLsbD i = if i < 8 * w then (F (q + i / 8)).toBitVec.getLsbD (i % 8) else v.toBitVec.getLsbD (i - 8 * w) := by
  intro w
  induction w with
  | zero => intro v i hi; simp [kv_bN]
  | succ j ih =>
    intro v i hi
    rw [kv_bN, ih _ _ hi]
    by_cases h1 : i < 8 * j
    · rw [if_pos h1, if_pos (by omega)]
    · rw [if_neg h1]
      rw [Int32.toBitVec_or, Int32.toBitVec_shiftLeft, show (F (q + j) &&& 255).toBitVec = (F (q + j)).toBitVec &&& (255 : Int32).toBitVec from rfl]
      have h : ((8 &&& 31 : Int32).toBitVec.smod 32) = 8#32 := by decide
      rw [h]
      simp only [BitVec.getLsbD_or, BitVec.shiftLeft_eq', BitVec.getLsbD_shiftLeft, BitVec.getLsbD_and, kp_t255, show (8#32).toNat = 8 from rfl]
      by_cases h2 : i < 8 * (j + 1)
      · rw [if_pos h2]
        have h3 : i - 8 * j < 8 := by omega
        have h4 : i / 8 = j := by omega
        have h5 : i % 8 = i - 8 * j := by omega
        simp [h3, h4, h5]
      · rw [if_neg h2]
        have h3 : ¬ i - 8 * j < 8 := by omega
        have h4 : i - 8 * (j + 1) = i - 8 * j - 8 := by omega
        simp [h3, h4, show i - 8 * j < 32 by omega]
theorem kp_sh8 {j : Nat} (hj : j < 4) : ((8 * nI j) &&& 31 : Int32) = nI (8 * j) ∧ (nI (8 * j)).toBitVec.smod 32 = BitVec.ofNat 32 (8 * j) := by
  have h1 : j = 0 ∨ j = 1 ∨ j = 2 ∨ j = 3 := by omega
  rcases h1 with rfl | rfl | rfl | rfl <;> decide
theorem kp_numbit (F : Nat → Int32) {w : Nat} (hw : kp_w w) (q i : Nat) (hi : i < 8 * w) : (kv_R_signed (kv_el F q w 0) (nI w)).toBitVec.getLsbD i = (F (q + i / 8)).toBitVec.getLsbD (i % 8) := by
  have hi32 : i < 32 := by rcases hw with rfl | rfl | rfl <;> omega
  have hB := kp_bNbit F q w 0 i hi32
  rw [if_pos hi] at hB
  rw [← kp_num F hw q, ← hB]
  have hs : ∃ s, s + 8 * w = 32 ∧ ((32 - 8 * nI w) &&& 31 : Int32).toBitVec.smod 32 = BitVec.ofNat 32 s ∧ s < 32 := by
    rcases hw with rfl | rfl | rfl
    · exact ⟨24, by decide, by decide, by decide⟩
    · exact ⟨16, by decide, by decide, by decide⟩
    · exact ⟨0, by decide, by decide, by decide⟩
  obtain ⟨s, h1, h2, h3⟩ := hs
  rw [Int32.toBitVec_shiftRight, Int32.toBitVec_shiftLeft, h2]
  have h4 : (BitVec.ofNat 32 s).toNat = s := by simp; omega
  simp only [BitVec.sshiftRight_eq', BitVec.getLsbD_sshiftRight, BitVec.shiftLeft_eq', BitVec.getLsbD_shiftLeft, h4]
  simp [show s + i < 32 by omega, show ¬ 32 ≤ i by omega, show ¬ s + i < s by omega, show s + i - s = i by omega]
theorem kp_nb (F : Nat → Int32) {w : Nat} (hw : kp_w w) (q : Nat) {j : Nat} (hj : j < w) : ((kv_R_signed (kv_el F q w 0) (nI w)) >>> ((8 * nI j) &&& 31)).toInt8 = (F (q + j)).toInt8 := by
  have hj4 : j < 4 := by rcases hw with rfl | rfl | rfl <;> omega
  apply Int8.toBitVec_inj.mp
  rw [Int32.toBitVec_toInt8, Int32.toBitVec_toInt8, Int32.toBitVec_shiftRight, (kp_sh8 hj4).1, (kp_sh8 hj4).2]
  have h4 : (BitVec.ofNat 32 (8 * j)).toNat = 8 * j := by simp; omega
  apply BitVec.eq_of_getLsbD_eq
  intro i hi
  have hn := kp_numbit F hw q (8 * j + i) (by omega)
  rw [show (8 * j + i) / 8 = j by omega, show (8 * j + i) % 8 = i by omega] at hn
  simp only [BitVec.getLsbD_signExtend, BitVec.sshiftRight_eq', BitVec.getLsbD_sshiftRight, h4]
  rw [decide_eq_true hi, if_pos (show i < 32 by omega), if_pos (show i < 32 by omega), decide_eq_false (show ¬ 32 ≤ i by omega), if_pos (show 8 * j + i < 32 by omega), hn]
  rfl
/-- writing a number that was read copies its bytes -/
theorem kp_mv {M : Nat → Int32} {w dst pp : Nat} (hw : kp_w w) (hM : ∀ j, j < w → kp_by (M (pp + j))) : ∀ (k i : Nat) (G : Nat → Int32), i + k ≤ w → kv_se (kv_R_signed (kv_el M pp w 0) (nI w)) dst k i G = kv_mv M dst pp k i G := by
  intro k
  induction k with
  | zero => intro i G _; rfl
  | succ k ih =>
    intro i G h
    rw [kv_se, kv_mv, kp_b8, kp_nb M hw pp (by omega), show (M (pp + i)).toInt8.toInt32 = M (pp + i) from hM i (by omega)]
    exact ih _ _ (by omega)
theorem kp_numL {f F : Nat → Int32} {L w q : Nat} (hw : kp_w w) (hF : kp_eq L f F) (h : q + w ≤ L) (hL : L < 2 ^ 30) : kv_B_number L w (nI q) f = kv_R_signed (kv_el F q w 0) (nI w) := by
  unfold kv_B_number
  rw [kp_bare h hL, kp_bNc w 0 (fun j hj => hF _ (by omega))]
  exact kp_num F hw _
theorem kp_wr1 {f F : Nat → Int32} {L q : Nat} {v y : Int32} (hF : kp_eq L f F) (h : q + 1 ≤ L) (hL : L < 2 ^ 30) (hv : v.toInt8 = y.toInt8) : kp_eq L (kv_write f L (nI q) 1 v) (upd F q ((y <<< (24 &&& 31)) >>> (24 &&& 31))) := by
  intro j hj
  rw [kp_write hF h hL j hj, kv_se, kv_se, kp_b8, kp_b8]
  have h0 : v >>> ((8 * nI 0) &&& 31) = v := by
    apply Int32.toBitVec_inj.mp
    rw [Int32.toBitVec_shiftRight, show ((8 * nI 0) &&& 31 : Int32).toBitVec.smod 32 = 0#32 from by decide]
    simp
  rw [h0, hv]
  rfl
theorem kp_one {s : Nat} (hs : s < 8) (i : Nat) (hi : i < 32) : ((1 : Int32) <<< (nI s &&& 31)).toBitVec.getLsbD i = decide (i = s) := by
  have h1 : s = 0 ∨ s = 1 ∨ s = 2 ∨ s = 3 ∨ s = 4 ∨ s = 5 ∨ s = 6 ∨ s = 7 := by omega
  have key : ∀ s, s < 8 → ∀ i, i < 32 → ((1 : Int32) <<< (nI s &&& 31)).toBitVec.getLsbD i = decide (i = s) := by decide +kernel
  exact key s hs i hi
theorem kp_m1 (i : Nat) (hi : i < 32) : (-1 : Int32).toBitVec.getLsbD i = true := by
  have key : ∀ i, i < 32 → (-1 : Int32).toBitVec.getLsbD i = true := by decide +kernel
  exact key i hi
theorem kp_less0 {x : Int32} {s : Nat} (hs : s < 8) : ((x &&& 255) &&& (((1 : Int32) <<< (nI s &&& 31)) ^^^ (-1))).toInt8 = (x &&& (((1 : Int32) <<< (nI s &&& 31)) ^^^ (-1))).toInt8 := by
  apply Int8.toBitVec_inj.mp
  rw [Int32.toBitVec_toInt8, Int32.toBitVec_toInt8]
  apply BitVec.eq_of_getLsbD_eq
  intro i hi
  simp only [BitVec.getLsbD_signExtend, Int32.toBitVec_and, BitVec.getLsbD_and, kp_t255]
  simp [hi, show i < 32 by omega]
theorem kp_less1 {x : Int32} {s : Nat} (hs : s < 8) : (((x &&& 255) &&& (((1 : Int32) <<< (nI s &&& 31)) ^^^ (-1))) ||| ((1 : Int32) <<< (nI s &&& 31))).toInt8 = (x ||| ((1 : Int32) <<< (nI s &&& 31))).toInt8 := by
  apply Int8.toBitVec_inj.mp
  rw [Int32.toBitVec_toInt8, Int32.toBitVec_toInt8]
  apply BitVec.eq_of_getLsbD_eq
  intro i hi
  have h1 := kp_one hs i (by omega)
  have h2 := kp_m1 i (by omega)
  have h3 : i < 32 := by omega
  simp only [BitVec.getLsbD_signExtend, h3, if_true, show ∀ a b : Int32, (a ||| b).toBitVec = a.toBitVec ||| b.toBitVec from fun _ _ => rfl, show ∀ a b : Int32, (a &&& b).toBitVec = a.toBitVec &&& b.toBitVec from fun _ _ => rfl, show ∀ a b : Int32, (a ^^^ b).toBitVec = a.toBitVec ^^^ b.toBitVec from fun _ _ => rfl, BitVec.getLsbD_and, BitVec.getLsbD_or, BitVec.getLsbD_xor, kp_t255, h2]
  generalize ho : ((1 : Int32) <<< (nI s &&& 31)).toBitVec.getLsbD i = o
  simp [hi]
  cases o <;> cases x.toBitVec.getLsbD i <;> simp
theorem kp_mask {f F : Nat → Int32} {d i : Nat} {y : Int32} (hF : kp_eq 64 f F) (h : 8 * d + i / 8 < 64) (hi : i < 512) : kp_eq 64 (kv_K_writeMaskBit_q3 (nI d) f (nI i) y) (upd F (8 * d + i / 8) ((((if y = 0 then ((F (8 * d + i / 8)) &&& (((1 : Int32) <<< (((nI i) - (nI i) / 8 * 8) &&& 31)) ^^^ ((-1)))) else ((F (8 * d + i / 8)) ||| ((1 : Int32) <<< (((nI i) - (nI i) / 8 * 8) &&& 31))) : Int32)) <<< (24 &&& 31)) >>> (24 &&& 31))) := by
  unfold kv_K_writeMaskBit_q3
  have h1 : nI i / 8 = nI (i / 8) := by rw [show (8 : Int32) = nI 8 from rfl, pk_div (by omega) (by decide) (by decide)]
  have h2 : (8 : Int32) * nI d + nI (i / 8) = nI (8 * d + i / 8) := by rw [show (8 : Int32) = nI 8 from rfl, pk_mul, nI_add]
  rw [kp_mod8 (by omega), h1, h2, kp_bare (by omega) (by decide), kp_bN1, hF _ h]
  by_cases hy : y = 0
  · rw [if_pos hy, if_pos hy]
    exact kp_wr1 hF (by omega) (by decide) (kp_less0 (by omega))
  · rw [if_neg hy, if_neg hy]
    exact kp_wr1 hF (by omega) (by decide) (kp_less1 (by omega))
