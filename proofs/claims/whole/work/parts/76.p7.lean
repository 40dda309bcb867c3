/-! pure part: P7 -/
theorem kp_ando (a b m : Int64) : (a ||| b) &&& m = 0 ↔ a &&& m = 0 ∧ b &&& m = 0 := by
  rw [← Int64.toBitVec_inj, ← Int64.toBitVec_inj, ← Int64.toBitVec_inj]
  simp only [Int64.toBitVec_and, Int64.toBitVec_or, show (0 : Int64).toBitVec = 0#64 from rfl]
  generalize a.toBitVec = x; generalize b.toBitVec = y; generalize m.toBitVec = z
  constructor
  · intro h
    constructor
    · apply BitVec.eq_of_getLsbD_eq
      intro i hi
      have h1 := congrArg (fun v => v.getLsbD i) h
      simp only [BitVec.getLsbD_and, BitVec.getLsbD_or, BitVec.getLsbD_zero] at h1 ⊢
      revert h1; cases x.getLsbD i <;> cases y.getLsbD i <;> cases z.getLsbD i <;> simp
    · apply BitVec.eq_of_getLsbD_eq
      intro i hi
      have h1 := congrArg (fun v => v.getLsbD i) h
      simp only [BitVec.getLsbD_and, BitVec.getLsbD_or, BitVec.getLsbD_zero] at h1 ⊢
      revert h1; cases x.getLsbD i <;> cases y.getLsbD i <;> cases z.getLsbD i <;> simp
  · rintro ⟨h1, h2⟩
    apply BitVec.eq_of_getLsbD_eq
    intro i hi
    have h1 := congrArg (fun v => v.getLsbD i) h1
    have h2 := congrArg (fun v => v.getLsbD i) h2
    simp only [BitVec.getLsbD_and, BitVec.getLsbD_or, BitVec.getLsbD_zero] at h1 h2 ⊢
    revert h1 h2; cases x.getLsbD i <;> cases y.getLsbD i <;> cases z.getLsbD i <;> simp
theorem kp_andc (a b : Int64) : a &&& b = b &&& a := by
  apply Int64.toBitVec_inj.mp; simp [BitVec.and_comm]
theorem kp_0and (a : Int64) : 0 &&& a = 0 := by
  apply Int64.toBitVec_inj.mp; simp
/-- all steps from s on, n of them -/
def kpo (f : Nat → Int64) : Nat → Nat → Int64
  | 0, _ => 0
  | n + 1, s => f s ||| kpo f n (s + 1)
theorem kpo_and {f : Nat → Int64} {m : Int64} : ∀ (n s : Nat), kpo f n s &&& m = 0 ↔ ∀ t, s ≤ t → t < s + n → f t &&& m = 0 := by
  intro n
  induction n with
  | zero => intro s; rw [kpo, kp_0and]; simp; omega
  | succ n ih =>
    intro s
    rw [kpo, kp_ando, ih]
    constructor
    · rintro ⟨h1, h2⟩ t ht1 ht2
      by_cases h : t = s
      · rw [h]; exact h1
      · exact h2 t (by omega) (by omega)
    · intro h
      exact ⟨h s (by omega) (by omega), fun t h1 h2 => h t (by omega) (by omega)⟩
theorem kpo_congr {f g : Nat → Int64} : ∀ (n s : Nat), (∀ t, s ≤ t → t < s + n → f t = g t) → kpo f n s = kpo g n s := by
  intro n
  induction n with
  | zero => intro s _; rfl
  | succ n ih =>
    intro s h
    rw [kpo, kpo, h s (by omega) (by omega), ih _ (fun t h1 h2 => h t (by omega) (by omega))]
theorem kp_fo {w fr tt S : Nat} {gr mo xb op rd ra rb mk : Int32} (hS : kv_K_steps fr tt op = nI S) (hS2 : S < 2 ^ 31) : ∀ (k : Nat) (u v : Int64) (a b : Nat → Int64), k ≤ 33 →
    u = kpo (fun t => kv_K_readsOf w fr tt gr mo xb op rd ra rb mk (nI t)) (S - k) k → v = kpo (fun t => kv_K_writesOf w fr op rd (nI t)) (S - k) k →
    (∀ s, k ≤ s → s ≤ 32 → a s = kpo (fun t => kv_K_readsOf w fr tt gr mo xb op rd ra rb mk (nI t)) (S - s) s) → (∀ s, k ≤ s → s ≤ 32 → b s = kpo (fun t => kv_K_writesOf w fr op rd (nI t)) (S - s) s) →
    ∀ s, s ≤ 32 → (kv_fo w fr tt gr mo xb op rd ra rb mk k u v a b).1 s = kpo (fun t => kv_K_readsOf w fr tt gr mo xb op rd ra rb mk (nI t)) (S - s) s ∧ (kv_fo w fr tt gr mo xb op rd ra rb mk k u v a b).2 s = kpo (fun t => kv_K_writesOf w fr op rd (nI t)) (S - s) s := by
  intro k
  induction k with
  | zero => intro u v a b _ _ _ ha hb s hs; exact ⟨ha s (by omega) hs, hb s (by omega) hs⟩
  | succ k ih =>
    intro u v a b hk hu hv ha hb s hs
    rw [kv_fo, hS]
    have hle : nI S ≤ nI k ↔ S ≤ k := nI_leI hS2 (by omega)
    by_cases h : S ≤ k
    · rw [if_pos (hle.mpr h)]
      have e1 : S - k = 0 := by omega
      have e2 : S - (k + 1) = 0 := by omega
      refine ih _ _ _ _ (by omega) ?_ ?_ ?_ ?_ s hs
      · rw [hu, e1, e2, kpo, kpo]
      · rw [hv, e1, e2, kpo, kpo]
      · intro s2 h1 h2
        unfold vp_updL
        by_cases h3 : s2 = k
        · rw [if_pos h3, hu, h3, e1, e2, kpo, kpo]
        · rw [if_neg h3]; exact ha s2 (by omega) h2
      · intro s2 h1 h2
        unfold vp_updL
        by_cases h3 : s2 = k
        · rw [if_pos h3, hv, h3, e1, e2, kpo, kpo]
        · rw [if_neg h3]; exact hb s2 (by omega) h2
    · rw [if_neg (fun z => h (hle.mp z))]
      have e1 : S - k = (S - (k + 1)) + 1 := by omega
      refine ih _ _ _ _ (by omega) ?_ ?_ ?_ ?_ s hs
      · rw [e1, kpo, hu, kp_orc]
      · rw [e1, kpo, hv, kp_orc]
      · intro s2 h1 h2
        unfold vp_updL
        by_cases h3 : s2 = k
        · rw [if_pos h3, h3, e1, kpo, hu, kp_orc]
        · rw [if_neg h3]; exact ha s2 (by omega) h2
      · intro s2 h1 h2
        unfold vp_updL
        by_cases h3 : s2 = k
        · rw [if_pos h3, h3, e1, kpo, hv, kp_orc]
        · rw [if_neg h3]; exact hb s2 (by omega) h2
section
variable {po pd pa pb : Nat → Nat} {pm : Nat → Int32} {wh wd rg fr sp bf : Nat → Nat} {XA XB : Nat → Int32}
theorem kp_fi {u v : Int64} {b : Nat} : ∀ (k i : Nat) (z : Int32), ¬ kv_fi po pd pa pb pm wh wd rg fr XA XB u v b k i z = 0 ↔ ¬ z = 0 ∧ ∀ j, i ≤ j → j < i + k → kv_R_writes po pd wh wd fr b j &&& (u ||| v) = 0 ∧ kv_R_reads po pd pa pb pm wh wd rg fr XB b j (XA b).toNatClampNeg &&& v = 0 := by
  intro k
  induction k with
  | zero => intro i z; rw [kv_fi]; constructor
            · intro h; exact ⟨h, fun j h1 h2 => by omega⟩
            · intro h; exact h.1
  | succ k ih =>
    intro i z
    rw [kv_fi, ih]
    constructor
    · rintro ⟨h1, h2⟩
      by_cases hz : z = 0
      · rw [if_pos hz] at h1; exact absurd rfl h1
      · rw [if_neg hz] at h1
        by_cases hw : lg_cmp (kv_R_writes po pd wh wd fr b i &&& (u ||| v)) 0 = 0
        · rw [if_pos hw] at h1
          by_cases hr : lg_cmp (kv_R_reads po pd pa pb pm wh wd rg fr XB b i (XA b).toNatClampNeg &&& v) 0 = 0
          · refine ⟨hz, fun j hj1 hj2 => ?_⟩
            by_cases hji : j = i
            · subst hji; exact ⟨kp_cmp0.mp hw, kp_cmp0.mp hr⟩
            · exact h2 j (by omega) (by omega)
          · rw [if_neg hr] at h1; exact absurd rfl h1
        · rw [if_neg hw] at h1; exact absurd rfl h1
    · rintro ⟨hz, h⟩
      obtain ⟨h1, h2⟩ := h i (by omega) (by omega)
      refine ⟨?_, fun j hj1 hj2 => h j (by omega) (by omega)⟩
      rw [if_neg hz, if_pos (kp_cmp0.mpr h1), if_pos (kp_cmp0.mpr h2)]
      decide
theorem kp_fu {u v : Int64} : ∀ (k b : Nat) (z : Int32), ¬ kv_fu po pd pa pb pm wh wd rg fr sp bf XA XB u v k b z = 0 ↔ ¬ z = 0 ∧ ∀ p, b ≤ p → p < b + k → ∀ j, bf p ≤ j → j < bf p + (sp p - bf p) → kv_R_writes po pd wh wd fr p j &&& (u ||| v) = 0 ∧ kv_R_reads po pd pa pb pm wh wd rg fr XB p j (XA p).toNatClampNeg &&& v = 0 := by
  intro k
  induction k with
  | zero => intro b z; rw [kv_fu]; constructor
            · intro h; exact ⟨h, fun p h1 h2 => by omega⟩
            · intro h; exact h.1
  | succ k ih =>
    intro b z
    rw [kv_fu, ih, kp_fi]
    constructor
    · rintro ⟨⟨h1, h2⟩, h3⟩
      refine ⟨h1, fun p hp1 hp2 => ?_⟩
      by_cases hpb : p = b
      · subst hpb; exact h2
      · exact h3 p (by omega) (by omega)
    · rintro ⟨h1, h2⟩
      exact ⟨⟨h1, h2 b (by omega) (by omega)⟩, fun p hp1 hp2 => h2 p (by omega) (by omega)⟩
theorem kp_free {q t : Nat} : ¬ kv_R_free po pd pa pb pm wh wd rg fr sp bf XA XB q t = 0 ↔ ∀ p, p < q → ∀ j, bf p ≤ j → j < bf p + (sp p - bf p) →
    kv_R_writes po pd wh wd fr p j &&& (kv_R_reads po pd pa pb pm wh wd rg fr XB q t (XA q).toNatClampNeg ||| kv_R_writes po pd wh wd fr q t) = 0 ∧ kv_R_reads po pd pa pb pm wh wd rg fr XB p j (XA p).toNatClampNeg &&& kv_R_writes po pd wh wd fr q t = 0 := by
  unfold kv_R_free
  rw [kp_fu]
  constructor
  · rintro ⟨-, h⟩ p hp; exact h p (by omega) (by omega)
  · intro h; exact ⟨by decide, fun p _ hp => h p (by omega)⟩
end
