/-! pure part: P15 -/
/-- an instruction that may be handed out, in width w and groups of g -/
def kpG (o d a b : Nat) (m : Int32) (w g : Nat) : Prop := (o ≤ 16 → a % g = 0) ∧ (o ≤ 10 ∨ o = 12 ∨ o = 13 ∨ o = 16 ∨ o = 19 → b % g = 0) ∧ (o ≠ 12 → o ≠ 14 → d % (if o = 13 then 2 * g else g) = 0) ∧ (o = 13 → w ≠ 4 ∧ g ≠ 4 ∧ ¬ (d ≤ a ∧ a < d + 2 * g) ∧ ¬ (d ≤ b ∧ b < d + 2 * g)) ∧ (¬ m = 0 → o ≠ 12 → o ≠ 18 → d ≠ 0) ∧ (o = 15 ∨ o = 16 → d ≠ a) ∧ (o = 16 → d ≠ b)
theorem kp_odd : ∀ r, r < 8 → ∀ g, g < 9 → (g = 1 ∨ g = 2 ∨ g = 4 ∨ g = 8) → (kv_R_odd (nI r) (nI g) = 0 ↔ r % g = 0) := by decide +kernel
theorem kp_mul : ∀ r, r < 8 → ∀ p, p ≤ 2 → (kv_S_isMultiple (nI r) (kv_S_group (nI p)) = 0 ↔ ¬ r % 2 ^ p = 0) := by decide +kernel
theorem kp_mul2 : ∀ r, r < 8 → ∀ p, p ≤ 2 → (kv_S_isMultiple (nI r) (2 * kv_S_group (nI p)) = 0 ↔ ¬ r % (2 * 2 ^ p) = 0) := by decide +kernel
theorem kp_grp : ∀ p, p ≤ 2 → kv_S_group (nI p) = nI (2 ^ p) := by decide +kernel
theorem kp_wdt : ∀ p, p ≤ 2 → kv_S_width (nI p) = nI (2 ^ p) := by decide +kernel
theorem kp_mst : ∀ p, p ≤ 2 → ∀ q, q ≤ 2 → kv_S_most (nI p) (nI q) = nI (8 * 2 ^ q / 2 ^ p) := by decide +kernel
theorem kp_pw {p : Nat} (h : p ≤ 2) : kp_w (2 ^ p) := by
  have : p = 0 ∨ p = 1 ∨ p = 2 := by omega
  rcases this with rfl | rfl | rfl
  · exact Or.inl rfl
  · exact Or.inr (Or.inl rfl)
  · exact Or.inr (Or.inr rfl)
set_option maxHeartbeats 2000000 in
theorem kp_ill {po pd pa pb : Nat → Nat} {pm : Nat → Int32} {wi gp k : Nat} (hw : kp_w wi) (hg : kp_w gp) (ho : po k < 21) (h8 : 8 ≤ po k) (hd : pd k < 8) (ha : pa k < 8) (hb : pb k < 8) : kv_R_illegal wi gp po pd pa pb pm k = 0 ↔ kpG (po k) (pd k) (pa k) (pb k) (pm k) wi gp := by
  have hg5 := kp_w5 hg
  have hw5 := kp_w5 hw
  have oa : kv_R_odd (nI (pa k)) (nI gp) = 0 ↔ pa k % gp = 0 := kp_odd _ ha _ (by omega) (by rcases hg with h | h | h <;> omega)
  have ob : kv_R_odd (nI (pb k)) (nI gp) = 0 ↔ pb k % gp = 0 := kp_odd _ hb _ (by omega) (by rcases hg with h | h | h <;> omega)
  have od : kv_R_odd (nI (pd k)) (nI gp) = 0 ↔ pd k % gp = 0 := kp_odd _ hd _ (by omega) (by rcases hg with h | h | h <;> omega)
  have od2 : kv_R_odd (nI (pd k)) (2 * nI gp) = 0 ↔ pd k % (2 * gp) = 0 := by
    rw [show (2 : Int32) = nI 2 from rfl, pk_mul]
    exact kp_odd _ hd _ (by omega) (by rcases hg with h | h | h <;> omega)
  have e2 : nI (pd k) + 2 * nI gp = nI (pd k + 2 * gp) := by rw [show (2 : Int32) = nI 2 from rfl, pk_mul, nI_add]
  have l1 : nI (pa k) < nI (pd k) ↔ pa k < pd k := nI_ltI (by omega) (by omega)
  have l2 : nI (pb k) < nI (pd k) ↔ pb k < pd k := nI_ltI (by omega) (by omega)
  have l3 : nI (pa k) < nI (pd k + 2 * gp) ↔ pa k < pd k + 2 * gp := nI_ltI (by omega) (by omega)
  have l4 : nI (pd k + 2 * gp) ≤ nI (pb k) ↔ pd k + 2 * gp ≤ pb k := nI_leI (by omega) (by omega)
  have i1 : nI (pd k) = nI (pa k) ↔ pd k = pa k := ⟨kp_inj (by omega) (by omega), fun h => by rw [h]⟩
  have i2 : nI (pd k) = nI (pb k) ↔ pd k = pb k := ⟨kp_inj (by omega) (by omega), fun h => by rw [h]⟩
  have i3 : nI (pd k) = 0 ↔ pd k = 0 := ⟨kp_inj (b := 0) (by omega) (by omega), fun h => by rw [h]; rfl⟩
  have i4 : nI wi = 4 ↔ wi = 4 := ⟨kp_inj (b := 4) (by omega) (by omega), fun h => by rw [h]; rfl⟩
  have i5 : nI gp = 4 ↔ gp = 4 := ⟨kp_inj (b := 4) (by omega) (by omega), fun h => by rw [h]; rfl⟩
  unfold kv_R_illegal kv_R_illegal_152 kv_R_illegal_241 kv_R_illegal_273 kpG
  have hc : po k = 8 ∨ po k = 9 ∨ po k = 10 ∨ po k = 11 ∨ po k = 12 ∨ po k = 13 ∨ po k = 14 ∨ po k = 15 ∨ po k = 16 ∨ po k = 17 ∨ po k = 18 ∨ po k = 19 ∨ po k = 20 := by omega
  rcases hc with h | h | h | h | h | h | h | h | h | h | h | h | h
  all_goals rw [h]
  all_goals simp (decide := true) only [if_true, if_false, e2, oa, ob, od, od2, l1, l2, l3, l4, i1, i2, i3, i4, i5]
  all_goals clear oa ob od od2 e2 l1 l2 l3 l4 i1 i2 i3 i4 i5
  all_goals simp (decide := true) only [true_and, and_true, false_and, and_false, true_implies, false_implies, implies_true, not_true, not_false_iff, ne_eq, forall_const, true_or, or_true, false_or, or_false, if_true, if_false]
  all_goals (repeat' split)
  all_goals simp_all (decide := true)
  all_goals omega
