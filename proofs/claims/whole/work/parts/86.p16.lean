/-! pure part: P16 -/
set_option maxHeartbeats 2000000 in
theorem kp_forb {o d a b wp gp : Nat} {m : Int32} (hw : wp ≤ 2) (hg : gp ≤ 2) (ho : o < 21) (h8 : 8 ≤ o) (hd : d < 8) (ha : a < 8) (hb : b < 8) : kv_S_forbids (nI wp) (nI gp) (nI o) (nI d) (nI a) (nI b) m = 0 ↔ kpG o d a b m (2 ^ wp) (2 ^ gp) := by
  have hg5 := kp_w5 (kp_pw hg)
  have hw5 := kp_w5 (kp_pw hw)
  have oa := kp_mul a ha gp hg
  have ob := kp_mul b hb gp hg
  have od := kp_mul d hd gp hg
  have od2 := kp_mul2 d hd gp hg
  have ew := kp_wdt wp hw
  have eg := kp_grp gp hg
  have e2 : nI d + 2 * kv_S_group (nI gp) = nI (d + 2 * 2 ^ gp) := by rw [eg, show (2 : Int32) = nI 2 from rfl, pk_mul, nI_add]
  have l1 : nI a < nI d ↔ a < d := nI_ltI (by omega) (by omega)
  have l2 : nI b < nI d ↔ b < d := nI_ltI (by omega) (by omega)
  have l3 : nI (d + 2 * 2 ^ gp) ≤ nI a ↔ d + 2 * 2 ^ gp ≤ a := nI_leI (by omega) (by omega)
  have l4 : nI (d + 2 * 2 ^ gp) ≤ nI b ↔ d + 2 * 2 ^ gp ≤ b := nI_leI (by omega) (by omega)
  have i1 : nI d = nI a ↔ d = a := ⟨kp_inj (by omega) (by omega), fun h => by rw [h]⟩
  have i2 : nI d = nI b ↔ d = b := ⟨kp_inj (by omega) (by omega), fun h => by rw [h]⟩
  have i3 : nI d = 0 ↔ d = 0 := ⟨kp_inj (b := 0) (by omega) (by omega), fun h => by rw [h]; rfl⟩
  have i4 : kv_S_width (nI wp) = 4 ↔ 2 ^ wp = 4 := by rw [ew]; exact ⟨kp_inj (b := 4) (by omega) (by omega), fun h => by rw [h]; rfl⟩
  have i5 : kv_S_group (nI gp) = 4 ↔ 2 ^ gp = 4 := by rw [eg]; exact ⟨kp_inj (b := 4) (by omega) (by omega), fun h => by rw [h]; rfl⟩
  unfold kv_S_forbids kv_I_isVector kv_S_isMisplaced kv_I_hasGroupAtD kv_I_hasGroupAtA kv_I_hasGroupAtB kv_S_spoilsMask kv_S_spoilsSources kv_S_isInWideGroup kv_S_isTooWide kpG
  have hc : o = 8 ∨ o = 9 ∨ o = 10 ∨ o = 11 ∨ o = 12 ∨ o = 13 ∨ o = 14 ∨ o = 15 ∨ o = 16 ∨ o = 17 ∨ o = 18 ∨ o = 19 ∨ o = 20 := by omega
  rcases hc with h | h | h | h | h | h | h | h | h | h | h | h | h
  all_goals rw [h]
  all_goals simp (decide := true) only [if_true, if_false, e2, oa, ob, od, od2, l1, l2, l3, l4, i1, i2, i3, i4, i5]
  all_goals clear oa ob od od2 e2 l1 l2 l3 l4 i1 i2 i3 i4 i5 ew eg
  all_goals simp (decide := true) only [true_and, and_true, false_and, and_false, true_implies, false_implies, implies_true, not_true, not_false_iff, ne_eq, forall_const, true_or, or_true, false_or, or_false, if_true, if_false]
  all_goals generalize 2 ^ gp = g at *
  all_goals generalize 2 ^ wp = w at *
  all_goals (repeat' split)
  all_goals simp_all (decide := true)
  all_goals omega
