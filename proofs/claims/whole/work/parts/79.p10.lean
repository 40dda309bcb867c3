/-! pure part: P10 -/
theorem kp_al {a g w i : Nat} (hg : kp_w g) (hw : kp_w w) (ha : a < 8) (hm : a % g = 0) (hi : i < 8 * g / w) : 8 * a + i * w + w ≤ 64 := by
  rcases hg with rfl | rfl | rfl <;> rcases hw with rfl | rfl | rfl <;> omega
theorem kp_al2 {a g w i : Nat} (hg : kp_w g) (hw : kp_w w) (hg4 : g ≠ 4) (hw4 : w ≠ 4) (ha : a < 8) (hm : a % (2 * g) = 0) (hi : i < 8 * g / w) : 8 * a + i * (2 * w) + 2 * w ≤ 64 := by
  rcases hg with rfl | rfl | rfl <;> rcases hw with rfl | rfl | rfl <;> omega
theorem kp_most {g w : Nat} (hg : kp_w g) (hw : kp_w w) : 8 * g / w ≤ 32 := by
  rcases hg with rfl | rfl | rfl <;> rcases hw with rfl | rfl | rfl <;> decide
theorem kp_own {d b g w i i' k : Nat} (hg : kp_w g) (hw : kp_w w) (hd : d % g = 0) (hb : b % g = 0) (hi : i < i') (hi' : i' < 8 * g / w) (h1 : 8 * d + i * w ≤ k) (h2 : k < 8 * d + i * w + w) (h3 : 8 * b + i' * w ≤ k) (h4 : k < 8 * b + i' * w + w) : False := by
  rcases hg with rfl | rfl | rfl <;> rcases hw with rfl | rfl | rfl <;> omega
theorem kp_w5 {w : Nat} (hw : kp_w w) : 0 < w ∧ w < 5 := by
  rcases hw with rfl | rfl | rfl <;> decide
section
variable {po pd pa pb : Nat → Nat} {pm : Nat → Int32} {wh wd rg fr sp bf : Nat → Nat} {XA XB : Nat → Int32} {qu : Nat}
/-- byte k is needed by the checks of places of q -/
def kpN (po pb : Nat → Nat) (pm : Nat → Int32) (wh rg : Nat → Nat) (q k : Nat) : Prop := (¬ pm (wh q) = 0 ∧ k < 8) ∨ (po (wh q) = 19 ∧ 8 * pb (wh q) ≤ k ∧ k < 8 * pb (wh q) + 8 * rg q)
/-- an entry as its hand-out left it -/
def kpS (po pd pa pb : Nat → Nat) (pm : Nat → Int32) (wh wd rg fr sp : Nat → Nat) (XA : Nat → Int32) (q : Nat) : Prop :=
  kp_w (wd q) ∧ kp_w (rg q) ∧ po (wh q) < 21 ∧ 8 ≤ po (wh q) ∧ pd (wh q) < 8 ∧ pa (wh q) < 8 ∧ pb (wh q) < 8 ∧ fr q + sp q ≤ 8 * rg q / wd q ∧
  (po (wh q) = 14 → XA q = nI (XA q).toNatClampNeg ∧ fr q < (XA q).toNatClampNeg ∧ (XA q).toNatClampNeg ≤ 8 * rg q / wd q ∧ sp q = 1) ∧
  (po (wh q) ≤ 16 → pa (wh q) % rg q = 0) ∧ (po (wh q) ≤ 10 ∨ po (wh q) = 12 ∨ po (wh q) = 13 ∨ po (wh q) = 16 ∨ po (wh q) = 19 → pb (wh q) % rg q = 0) ∧
  (po (wh q) ≠ 12 → po (wh q) ≠ 13 → po (wh q) ≠ 14 → pd (wh q) % rg q = 0) ∧ (po (wh q) = 13 → pd (wh q) % (2 * rg q) = 0 ∧ wd q ≠ 4 ∧ rg q ≠ 4) ∧ (¬ pm (wh q) = 0 → po (wh q) ≠ 12 → po (wh q) ≠ 18 → pd (wh q) ≠ 0)
/-- what the units keep -/
def kpJ (po pd pb : Nat → Nat) (pm : Nat → Int32) (wh wd rg fr sp bf : Nat → Nat) (XA XB : Nat → Int32) (qu : Nat) (F M : Nat → Int32) (dn : Nat → Nat) : Prop :=
  (∀ i, i < 64 → kp_by (F i)) ∧ (∀ i, i < 128 → kp_by (M i)) ∧ (∀ q, q < qu → bf q ≤ dn q ∧ dn q ≤ sp q) ∧
  (∀ q, q < qu → 17 ≤ po (wh q) → ∀ t, dn q ≤ t → t < sp q → (pm (wh q) = 0 ∨ ¬ kv_R_bit F 0 (fr q + t) = 0) → kv_R_place F po pb wh wd XA XB q (fr q + t) = nI (kv_R_place F po pb wh wd XA XB q (fr q + t)).toNatClampNeg ∧ (kv_R_place F po pb wh wd XA XB q (fr q + t)).toNatClampNeg + wd q ≤ 128) ∧
  (∀ q, q < qu → 17 ≤ po (wh q) → ∀ p, p < q → ∀ t, dn p ≤ t → t < sp p → ∀ k, k < 64 → kpb (kv_R_writes po pd wh wd fr p t) k = true → ¬ kpN po pb pm wh rg q k)
theorem kp_elc {F F' : Nat → Int32} {q : Nat} : ∀ (w : Nat) (v : Int64), (∀ j, j < w → F' (q + j) = F (q + j)) → kv_el F' q w v = kv_el F q w v := by
  intro w
  induction w with
  | zero => intro v _; rfl
  | succ j ih =>
    intro v h
    rw [kv_el, kv_el, h j (by omega)]
    exact ih _ (fun k hk => h k (by omega))
theorem kp_D {F M : Nat → Int32} {dn : Nat → Nat} {q t : Nat} (hS : kpS po pd pa pb pm wh wd rg fr sp XA q) (hJ : kpJ po pd pb pm wh wd rg fr sp bf XA XB qu F M dn) (hq : q < qu) (h1 : dn q ≤ t) (h2 : t < sp q) : kD F po pd pa pb pm wh wd rg fr XA XB q t := by
  obtain ⟨s1, s2, s3, s4, s5, s6, s7, s8, s9, s10, s11, s12, s13, s14⟩ := hS
  have hm := kp_most s2 s1
  have hw := kp_w5 s1
  have hg := kp_w5 s2
  have hi : fr q + t < 8 * rg q / wd q := by omega
  refine ⟨s3, hg.2, hw.1, hw.2, by omega, fun h => ?_, fun a b => kp_al s2 s1 s6 (s10 (by omega)) hi, fun a b c d => kp_al s2 s1 s7 (s11 (by omega)) hi, fun a b c => kp_al s2 s1 s5 (s12 a b c) hi, fun a => ?_, fun a => by omega, fun a j hj => kp_al s2 s1 s6 (s10 (by omega)) hj, fun a b => hJ.2.2.2.1 q hq a t h1 h2 b⟩
  · obtain ⟨a, b, c, d⟩ := s9 h
    refine ⟨a, by omega, by omega, ?_, ?_, fun i hi => kp_al s2 s1 s6 (s10 (by omega)) (by omega)⟩
    · omega
    · omega
  · obtain ⟨b, c, d⟩ := s13 a
    exact kp_al2 s2 s1 d c s5 b hi
/-- what a memory instruction's step reads of the mask and of the index -/
theorem kp_rdm {q t : Nat} (ho : po (wh q) < 21) (h17 : 17 ≤ po (wh q)) (hft : fr q + t < 64) (hm : ¬ pm (wh q) = 0) : kpb (kv_R_reads po pd pa pb pm wh wd rg fr XB q t (XA q).toNatClampNeg) ((fr q + t) / 8) = true := by
  have hb : kpb (kv_R_bytes ((nI (fr q) + nI t) / 8) 1) ((fr q + t) / 8) = true := by
    rw [nI_add, show (8 : Int32) = nI 8 from rfl, pk_div (by omega) (by decide) (by decide), show (1 : Int32) = nI 1 from rfl, kpb_bytes (by omega) (by omega) (by omega)]
    simp
  unfold kv_R_reads
  simp only [if_neg hm]
  have hc : po (wh q) = 17 ∨ po (wh q) = 18 ∨ po (wh q) = 19 ∨ po (wh q) = 20 := by omega
  rcases hc with h | h | h | h <;> (rw [h]; simp (decide := true) only [if_true, if_false]; rw [kpb_or, hb, Bool.or_true])
theorem kp_rdx {q t k : Nat} (h19 : po (wh q) = 19) (hl : 8 * pb (wh q) + (fr q + t) * wd q + wd q ≤ 64) (hw : 0 < wd q) (hw5 : wd q < 5) (h1 : 8 * pb (wh q) + (fr q + t) * wd q ≤ k) (h2 : k < 8 * pb (wh q) + (fr q + t) * wd q + wd q) : kpb (kv_R_reads po pd pa pb pm wh wd rg fr XB q t (XA q).toNatClampNeg) k = true := by
  have hb : kpb (kv_R_bytes (8 * nI (pb (wh q)) + (nI (fr q) + nI t) * nI (wd q)) (nI (wd q))) k = true := by
    rw [nI_add, show (8 : Int32) = nI 8 from rfl, pk_mul, pk_mul, nI_add, kpb_bytes (by omega) (by omega) (by omega)]
    simp [h1, h2]
  unfold kv_R_reads
  rw [h19]
  simp (decide := true) only [if_true, if_false]
  split
  · exact hb
  · rw [kpb_or, hb]; rfl
theorem kp_U (hS : ∀ q, q < qu → kpS po pd pa pb pm wh wd rg fr sp XA q) : kU po pd pa pb pm wh wd rg fr sp bf XA XB qu (kpJ po pd pb pm wh wd rg fr sp bf XA XB qu) := by
  refine ⟨fun F M dn q hJ hq hlt hfree => ?_, fun F M dn q hJ hq => ?_⟩
  · have hD := kp_D (hS q hq) hJ hq (Nat.le_refl _) hlt
    refine ⟨hD, ?_⟩
    have hJ0 := hJ
    obtain ⟨j1, j2, j3, j4, j5⟩ := hJ0
    obtain ⟨c1, c2⟩ := kp_does2 (M := M) hD j1 j2
    have c3 := kp_does3 hD j1 j2
    have hfr := kp_free.mp hfree
    generalize kv_R_does_2 F M po pd pa pb pm wh wd rg fr XA XB q (dn q) (XA q).toNatClampNeg = F' at c1 c2 ⊢
    generalize kv_R_does_3 F M po pd pb pm wh wd fr XA XB q (dn q) = M' at c3 ⊢
    have hdn : ∀ p, p < qu → dn p ≤ va_up dn q (dn q + 1) p := by
      intro p hp
      by_cases h : p = q
      · subst h; rw [va_up_self]; omega
      · rw [va_up_ne _ _ h]; exact Nat.le_refl _
    refine ⟨c2, c3, fun p hp => ?_, fun p hp h17 t ht1 ht2 hon => ?_, fun p hp h17 p' hp' t ht1 ht2 => j5 p hp h17 p' hp' t (Nat.le_trans (hdn p' (by omega)) ht1) ht2⟩
    · have h := j3 p hp
      by_cases hpq : p = q
      · subst hpq; rw [va_up_self]; omega
      · rw [va_up_ne _ _ hpq]; exact h
    · -- the bytes that the check of places sees are as they were
      have S := hS p hp
      obtain ⟨s1, s2, s3, s4, s5, s6, s7, s8, s9, s10, s11, s12, s13, s14⟩ := S
      have hm := kp_most s2 s1
      have hw := kp_w5 s1
      have ht0 : dn p ≤ t := Nat.le_trans (hdn p hp) ht1
      have hi : fr p + t < 8 * rg p / wd p := by omega
      have keep : ∀ k, k < 64 → (¬ pm (wh p) = 0 ∧ k = (fr p + t) / 8) ∨ (po (wh p) = 19 ∧ 8 * pb (wh p) + (fr p + t) * wd p ≤ k ∧ k < 8 * pb (wh p) + (fr p + t) * wd p + wd p) → F' k = F k := by
        intro k hk hc
        apply c1 k hk
        intro hwr
        rcases Nat.lt_trichotomy p q with hpq | hpq | hpq
        · -- q is behind p
          have h1 := (hfr p hpq t (Nat.le_trans (j3 p hp).1 ht0) (by have := (j3 p hp); omega)).2
          refine kpb_and h1 k ?_ hwr
          rcases hc with ⟨hc1, hc2⟩ | ⟨hc1, hc2, hc3⟩
          · rw [hc2]; exact kp_rdm s3 h17 (by omega) hc1
          · exact kp_rdx hc1 (kp_al s2 s1 s7 (s11 (by omega)) hi) hw.1 hw.2 hc2 hc3
        · -- its own step
          subst hpq
          rw [va_up_self] at ht1
          have n12 : ¬ nI (po (wh p)) = 12 := fun e => absurd (kp_inj (by omega) (by decide) (b := 12) e) (by omega)
          have n13 : ¬ nI (po (wh p)) = 13 := fun e => absurd (kp_inj (by omega) (by decide) (b := 13) e) (by omega)
          have n14 : ¬ nI (po (wh p)) = 14 := fun e => absurd (kp_inj (by omega) (by decide) (b := 14) e) (by omega)
          have hd := kp_al s2 s1 s5 (s12 (by omega) (by omega) (by omega)) (i := fr p + dn p) (by omega)
          unfold kv_R_writes at hwr
          by_cases h18 : nI (po (wh p)) = 18
          · rw [if_pos h18, kpb_0] at hwr; exact absurd hwr (by decide)
          · have h18' : po (wh p) ≠ 18 := fun z => h18 (by rw [z]; rfl)
            rw [if_neg h18, if_neg n12, if_neg n14, if_neg n13, nI_add, show (8 : Int32) = nI 8 from rfl, pk_mul, pk_mul, nI_add, kpb_bytes (by omega) (by omega) hk] at hwr
            simp at hwr
            rcases hc with ⟨hc1, hc2⟩ | ⟨hc1, hc2, hc3⟩
            · have hd0 := s14 hc1 (by omega) h18'
              omega
            · have hb := s11 (Or.inr (Or.inr (Or.inr (Or.inr hc1))))
              have hdd := s12 (by omega) (by omega) (by omega)
              exact kp_own s2 s1 hdd hb (by omega : fr p + dn p < fr p + t) hi hwr.1 hwr.2 hc2 hc3
        · -- q is ahead of p
          refine j5 p hp h17 q hpq (dn q) (Nat.le_refl _) hlt k hk hwr ?_
          rcases hc with ⟨hc1, hc2⟩ | ⟨hc1, hc2, hc3⟩
          · exact Or.inl ⟨hc1, by omega⟩
          · refine Or.inr ⟨hc1, by omega, ?_⟩
            have := Nat.div_mul_le_self (8 * rg p) (wd p)
            have h3 : (fr p + t + 1) * wd p ≤ 8 * rg p / wd p * wd p := Nat.mul_le_mul_right _ (by omega)
            rw [Nat.add_mul, Nat.one_mul] at h3
            omega
      have ebit : ¬ pm (wh p) = 0 → kv_R_bit F' 0 (fr p + t) = kv_R_bit F 0 (fr p + t) := by
        intro hpm
        unfold kv_R_bit
        rw [keep (8 * 0 + (fr p + t) / 8) (by omega) (Or.inl ⟨hpm, by omega⟩)]
      have epl : kv_R_place F' po pb wh wd XA XB p (fr p + t) = kv_R_place F po pb wh wd XA XB p (fr p + t) := by
        unfold kv_R_place
        by_cases h : nI (po (wh p)) = 19
        · have h19 : po (wh p) = 19 := kp_inj (by omega) (by decide) (b := 19) h
          have hl := kp_al s2 s1 s7 (s11 (by omega)) hi
          rw [if_pos h, if_pos h, kv_R_element, kv_R_element, kp_elc (wd p) 0 (fun j hj => keep _ (by omega) (Or.inr ⟨h19, by omega, by omega⟩))]
        · rw [if_neg h, if_neg h]
      have hon' : pm (wh p) = 0 ∨ ¬ kv_R_bit F 0 (fr p + t) = 0 := by
        by_cases hpm : pm (wh p) = 0
        · exact Or.inl hpm
        · rcases hon with h | h
          · exact absurd h hpm
          · rw [ebit hpm] at h; exact Or.inr h
      rw [epl]
      exact j4 p hp h17 t ht0 ht2 hon'
  · have h := hJ.2.2.1 q hq
    have hS' := hS q hq
    have := kp_most hS'.2.1 hS'.1
    have h8 := hS'.2.2.2.2.2.2.2.1
    omega
end
