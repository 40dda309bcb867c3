/-! pure part: P6 -/
theorem kp_span (x y : Int32) : kv_K_span x y = kv_R_bytes x y := rfl
theorem kp_orc (a b : Int64) : a ||| b = b ||| a := by
  apply Int64.toBitVec_inj.mp; simp [BitVec.or_comm]
theorem kp_ora (a b c : Int64) : a ||| b ||| c = a ||| (b ||| c) := by
  apply Int64.toBitVec_inj.mp; simp [BitVec.or_assoc]
theorem kp_or0 (a : Int64) : a ||| 0 = a := by
  apply Int64.toBitVec_inj.mp; simp
theorem kp_0or (a : Int64) : 0 ||| a = a := by
  apply Int64.toBitVec_inj.mp; simp
theorem kp_wr {po pd wh wd fr : Nat → Nat} {q t : Nat} : kv_K_writesOf (wd q) (fr q) (nI (po (wh q))) (nI (pd (wh q))) (nI t) = kv_R_writes po pd wh wd fr q t := by
  unfold kv_K_writesOf kv_R_writes kv_K_placeOf
  rw [show (0 : Int32) * nI (wd q) = 0 from Int32.zero_mul, Int32.add_zero]
  by_cases h12 : nI (po (wh q)) = 12
  · rw [if_pos h12, if_neg (by rw [h12]; decide), if_pos h12]; rfl
  rw [if_neg h12, if_neg h12]
  by_cases h13 : nI (po (wh q)) = 13
  · rw [if_pos h13, if_neg (by rw [h13]; decide), if_neg (by rw [h13]; decide), if_pos h13]; rfl
  rw [if_neg h13, if_neg h13]
  by_cases h14 : nI (po (wh q)) = 14
  · rw [if_pos h14, if_neg (by rw [h14]; decide), if_pos h14]; rfl
  rw [if_neg h14, if_neg h14]
  rfl
theorem kp_mb (mk x : Int32) (h : ¬ mk = 0) : kv_K_maskByte mk x = kv_R_bytes (x / 8) 1 := by
  unfold kv_K_maskByte kv_R_bytes
  rw [if_neg h, show ((1 : Int64) <<< ((1 : Int32).toInt64 &&& 63)) - 1 = 1 from by decide]
theorem kp_mb0 (mk x : Int32) (h : mk = 0) : kv_K_maskByte mk x = 0 := by
  unfold kv_K_maskByte
  rw [if_pos h]
theorem kp_rs {a w f0 : Nat} {z : Int32} : ∀ (k e : Nat) (v : Int64), kv_rS w z (nI a) k (f0 + e) v = kv_rs a w f0 z k e v := by
  intro k
  induction k with
  | zero => intro e v; rfl
  | succ k ih =>
    intro e v
    rw [kv_rS, kv_rs, show f0 + e + 1 = f0 + (e + 1) from rfl, kv_K_placeOf, ← nI_add]
    by_cases h : z = 0
    · rw [if_pos h, ih, kp_mb0 z _ h, kp_0or]; rfl
    · rw [if_neg h, ih, kp_mb z _ h, kp_orc (kv_R_bytes ((nI f0 + nI e) / 8) 1), ← kp_ora]; rfl
theorem kp_rg : ∀ a, a < 8 → ∀ g, g < 5 → (g = 1 ∨ g = 2 ∨ g = 4) → a + g ≤ 8 → kv_rg a (8 * g) 0 0 = kv_R_bytes (8 * nI a) (8 * nI g) := by decide +kernel
theorem kp_rd {po pd pa pb : Nat → Nat} {pm : Nat → Int32} {wh wd rg fr : Nat → Nat} {XB : Nat → Int32} {q t tt vq : Nat} (ho : po (wh q) < 21) (h8 : 8 ≤ po (wh q)) (hrg : kp_w (rg q)) (hw : kp_w (wd q)) (ha : po (wh q) = 16 → pa (wh q) + rg q ≤ 8) (htt : po (wh q) = 14 → tt = vq) :
    kv_K_readsOf (wd q) (fr q) tt (nI (rg q)) (nI (8 * rg q / wd q)) (XB q) (nI (po (wh q))) (nI (pd (wh q))) (nI (pa (wh q))) (nI (pb (wh q))) (pm (wh q)) (nI t) = kv_R_reads po pd pa pb pm wh wd rg fr XB q t vq := by
  unfold kv_K_readsOf kv_R_reads
  have hrg5 : rg q ≤ 4 := by rcases hrg with h | h | h <;> omega
  have hw1 : 0 < wd q := by rcases hw with h | h | h <;> omega
  have hw4 : wd q ≤ 4 := by rcases hw with h | h | h <;> omega
  have hdiv : (8 * nI (rg q)) / nI (wd q) = nI (8 * rg q / wd q) := by
    rw [show (8 : Int32) = nI 8 from rfl, pk_mul, pk_div (by omega) hw1 (by omega)]
  by_cases h14 : po (wh q) = 14
  · have e : nI (po (wh q)) = 14 := by rw [h14]; rfl
    rw [if_pos e, if_pos e, htt h14, kv_K_readsOfSum, kv_K_placeOf, show (0 : Int32) * nI (wd q) = 0 from Int32.zero_mul, Int32.add_zero]
    exact kp_rs (f0 := fr q) _ 0 _
  have n14 : ¬ nI (po (wh q)) = 14 := fun e => h14 (kp_inj (by omega) (by decide) (b := 14) e)
  rw [if_neg n14, if_neg n14]
  unfold kv_K_sourcesOf kv_K_placeOf kv_K_isInGroup
  generalize hx : nI (fr q) + nI t = x
  have hc : po (wh q) = 8 ∨ po (wh q) = 9 ∨ po (wh q) = 10 ∨ po (wh q) = 11 ∨ po (wh q) = 12 ∨ po (wh q) = 13 ∨ po (wh q) = 15 ∨ po (wh q) = 16 ∨ po (wh q) = 17 ∨ po (wh q) = 18 ∨ po (wh q) = 19 ∨ po (wh q) = 20 := by omega
  by_cases hm : pm (wh q) = 0
  · rw [kp_mb0 _ _ hm, kp_0or]
    simp only [if_pos hm]
    rcases hc with h | h | h | h | h | h | h | h | h | h | h | h
    all_goals (rw [h]; simp (decide := true) only [if_true, if_false])
    all_goals try rfl
    · rw [hdiv]
      by_cases h0 : x + XB q < 0
      · rw [if_pos h0, if_pos rfl, if_pos h0]
      · rw [if_neg h0, if_neg h0]
        by_cases h1 : nI (8 * rg q / wd q) ≤ x + XB q
        · rw [if_pos h1, if_pos rfl, if_pos h1]
        · rw [if_neg h1, if_neg (by decide), if_neg h1]; rfl
    · rw [kp_rg _ (by have := ha h; rcases hrg with z | z | z <;> omega) _ (by omega) hrg (ha h), show (0 : Int32) * nI (wd q) = 0 from Int32.zero_mul, Int32.add_zero]; rfl
  · rw [kp_mb _ _ hm, kp_orc (kv_R_bytes (x / 8) 1)]
    simp only [if_neg hm]
    rcases hc with h | h | h | h | h | h | h | h | h | h | h | h
    all_goals (rw [h]; simp (decide := true) only [if_true, if_false])
    all_goals try rfl
    · rw [hdiv]
      by_cases h0 : x + XB q < 0
      · rw [if_pos h0, if_pos rfl, if_pos h0]
      · rw [if_neg h0, if_neg h0]
        by_cases h1 : nI (8 * rg q / wd q) ≤ x + XB q
        · rw [if_pos h1, if_pos rfl, if_pos h1]
        · rw [if_neg h1, if_neg (by decide), if_neg h1]; rfl
    · rw [kp_rg _ (by have := ha h; rcases hrg with z | z | z <;> omega) _ (by omega) hrg (ha h), show (0 : Int32) * nI (wd q) = 0 from Int32.zero_mul, Int32.add_zero]; rfl
