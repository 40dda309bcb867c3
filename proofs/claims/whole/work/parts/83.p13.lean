/-! pure part: P13 -/
/-- entry i of the rows is entry j of the rows 0 -/
def kpR (wh wd rg fr sp dn : Nat → Nat) (XA XB : Nat → Int32) (i : Nat) (wh0 wd0 rg0 fr0 sp0 dn0 : Nat → Nat) (XA0 XB0 : Nat → Int32) (j : Nat) : Prop :=
  wh i = wh0 j ∧ wd i = wd0 j ∧ rg i = rg0 j ∧ fr i = fr0 j ∧ sp i = sp0 j ∧ dn i = dn0 j ∧ XA i = XA0 j ∧ XB i = XB0 j
theorem kp_upn {α : Type} (f : Nat → α) (k : Nat) (v : α) (i : Nat) : va_up f k v i = if i = k then v else f i := rfl
theorem kp_swap {wk : Nat → Nat} {a b : Nat} (h5 : ∀ i j, i < 4 → j < 4 → wk i = wk j → i = j) (ha : a < 4) (hb : b < 4) : ∀ i j, i < 4 → j < 4 → va_up (va_up wk b (wk a)) a (wk b) i = va_up (va_up wk b (wk a)) a (wk b) j → i = j := by
  have hW : ∀ i, va_up (va_up wk b (wk a)) a (wk b) i = wk (if i = a then b else if i = b then a else i) := by
    intro i
    rw [kp_upn, kp_upn]
    by_cases h1 : i = a
    · rw [if_pos h1, if_pos h1]
    · rw [if_neg h1, if_neg h1]
      by_cases h2 : i = b
      · rw [if_pos h2, if_pos h2]
      · rw [if_neg h2, if_neg h2]
  intro i j hi hj h
  rw [hW, hW] at h
  have z := h5 _ _ (by split <;> (try split) <;> omega) (by split <;> (try split) <;> omega) h
  revert z
  split <;> (try split) <;> (try split) <;> (try split) <;> intro z <;> omega
theorem kp_lv {wh0 wd0 rg0 fr0 sp0 dn0 : Nat → Nat} {XA0 XB0 : Nat → Int32} {wk0 : Nat → Nat} {qu : Nat} {cpo cfr wi tt cdn : Nat → Nat} (hqu : qu ≤ 4) (hs : ∀ i, i < qu → sp0 i < 2 ^ 31 ∧ dn0 i < 2 ^ 31)
    (hdone : ∀ i, i < qu → (kv_K_isDone (cfr (wk0 i)) (tt (wk0 i)) (cdn (wk0 i)) (nI (cpo (wi (wk0 i)))) = 0 ↔ dn0 i < sp0 i)) :
    ∀ (k b a : Nat) (wh wd rg fr sp dn bf : Nat → Nat) (XA XB : Nat → Int32) (wk m : Nat → Nat), b + k = qu → a ≤ b → (∀ i, i < a → m i < b) → (∀ i j, i < j → j < a → m i < m j) → (∀ i, i < a → kpR wh wd rg fr sp dn XA XB i wh0 wd0 rg0 fr0 sp0 dn0 XA0 XB0 (m i) ∧ wk i = wk0 (m i) ∧ dn0 (m i) < sp0 (m i)) →
    (∀ i, b ≤ i → i < qu → kpR wh wd rg fr sp dn XA XB i wh0 wd0 rg0 fr0 sp0 dn0 XA0 XB0 i ∧ wk i = wk0 i) → (∀ i j, i < 4 → j < 4 → wk i = wk j → i = j) →
    ∀ A B, A = kv_df cpo cfr wi tt cdn k b a wk → B = kv_lv k b a wh wd rg fr sp dn bf XA XB →
    A.2 = B.1 ∧ B.1 ≤ qu ∧ (∀ i j, i < 4 → j < 4 → A.1 i = A.1 j → i = j) ∧ ∃ m : Nat → Nat, (∀ i, i < B.1 → m i < qu) ∧ (∀ i j, i < j → j < B.1 → m i < m j) ∧
      ∀ i, i < B.1 → kpR B.2.1 B.2.2.1 B.2.2.2.1 B.2.2.2.2.1 B.2.2.2.2.2.1 B.2.2.2.2.2.2.1 B.2.2.2.2.2.2.2.2.1 B.2.2.2.2.2.2.2.2.2 i wh0 wd0 rg0 fr0 sp0 dn0 XA0 XB0 (m i) ∧ A.1 i = wk0 (m i) ∧ dn0 (m i) < sp0 (m i) := by
  intro k
  induction k with
  | zero =>
    intro b a wh wd rg fr sp dn bf XA XB wk m hb hab h1 h2 h3 h4 h5 A B hA hB
    rw [kv_df] at hA
    rw [kv_lv] at hB
    subst hA; subst hB
    exact ⟨rfl, by show a ≤ qu; omega, h5, m, fun i hi => by have := h1 i hi; omega, h2, h3⟩
  | succ k ih =>
    intro b a wh wd rg fr sp dn bf XA XB wk m hb hab h1 h2 h3 h4 h5 A B hA hB
    have hbq : b < qu := by omega
    obtain ⟨⟨r1, r2, r3, r4, r5, r6, r7, r8⟩, w1⟩ := h4 b (Nat.le_refl _) hbq
    have hd := hdone b hbq
    have hle : nI (sp b) ≤ nI (dn b) ↔ sp0 b ≤ dn0 b := by rw [r5, r6]; exact nI_leI (hs b hbq).1 (hs b hbq).2
    rw [kv_df, w1] at hA
    rw [kv_lv] at hB
    by_cases hk : dn0 b < sp0 b
    · rw [if_pos (hd.mpr hk)] at hA
      rw [if_neg (fun z => by have := hle.mp z; omega)] at hB
      refine ih (b + 1) (a + 1) _ _ _ _ _ _ _ _ _ _ (va_up m a b) (by omega) (by omega) ?_ ?_ ?_ ?_ ?_ A B hA hB
      · intro i hi
        by_cases hia : i = a
        · subst hia; rw [va_up_self]; omega
        · rw [va_up_ne _ _ hia]; have := h1 i (by omega); omega
      · intro i j hij hj
        by_cases hja : j = a
        · subst hja; rw [va_up_self, va_up_ne _ _ (by omega)]; exact h1 i (by omega)
        · rw [va_up_ne _ _ hja, va_up_ne _ _ (by omega)]; exact h2 i j hij (by omega)
      · intro i hi
        by_cases hia : i = a
        · subst hia
          simp only [kpR, va_up_self, upd, if_pos]
          exact ⟨⟨r1, r2, r3, r4, r5, r6, r7, r8⟩, trivial, hk⟩
        · obtain ⟨z1, z2, z3⟩ := h3 i (by omega)
          simp only [kpR, va_up_ne _ _ hia, upd, if_neg hia]
          refine ⟨z1, ?_, z3⟩
          rw [va_up_ne _ _ (by omega : i ≠ b)]
          exact z2
      · intro i hi1 hi2
        have hia : i ≠ a := by omega
        have hib : i ≠ b := by omega
        obtain ⟨z1, z2⟩ := h4 i (by omega) hi2
        simp only [kpR, va_up_ne _ _ hia, va_up_ne _ _ hib, upd, if_neg hia]
        exact ⟨z1, z2⟩
      · rw [← w1]
        exact kp_swap h5 (by omega) (by omega)
    · rw [if_neg (fun z => hk (hd.mp z))] at hA
      rw [if_pos (hle.mpr (by omega))] at hB
      refine ih (b + 1) a _ _ _ _ _ _ _ _ _ _ m (by omega) (by omega) (fun i hi => by have := h1 i hi; omega) h2 h3 (fun i hi1 hi2 => h4 i (by omega) hi2) h5 A B hA hB
