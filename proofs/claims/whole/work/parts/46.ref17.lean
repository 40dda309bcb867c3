/-! the reference: units, the values -/
/-- what a step t of the instruction q in the queue needs -/
def kD (F : Nat → Int32) (po pd pa pb : Nat → Nat) (pm : Nat → Int32) (wh wd rg fr : Nat → Nat) (XA XB : Nat → Int32) (q t : Nat) : Prop := (po (wh q) < 21) ∧ (rg q < 5) ∧ (0 < wd q) ∧ (wd q < 5) ∧ (fr q + t < 64) ∧ (po (wh q) = 14 → XA q = nI (XA q).toNatClampNeg ∧ fr q ≤ (XA q).toNatClampNeg ∧ (XA q).toNatClampNeg ≤ 64 ∧ 8 * pb (wh q) + 0 * wd q + wd q ≤ 64 ∧ 8 * pd (wh q) + 0 * wd q + wd q ≤ 64 ∧ ∀ i, i < (XA q).toNatClampNeg → 8 * pa (wh q) + i * wd q + wd q ≤ 64) ∧ (po (wh q) < 15 → po (wh q) ≠ 14 → 8 * pa (wh q) + (fr q + t) * wd q + wd q ≤ 64) ∧ (po (wh q) ≠ 11 → po (wh q) ≠ 14 → po (wh q) ≠ 15 → po (wh q) < 17 ∨ po (wh q) = 19 → 8 * pb (wh q) + (fr q + t) * wd q + wd q ≤ 64) ∧ (po (wh q) ≠ 12 → po (wh q) ≠ 13 → po (wh q) ≠ 14 → 8 * pd (wh q) + (fr q + t) * wd q + wd q ≤ 64) ∧ (po (wh q) = 13 → 8 * pd (wh q) + (fr q + t) * (2 * wd q) + 2 * wd q ≤ 64) ∧ (po (wh q) = 12 → 8 * pd (wh q) + (fr q + t) / 8 < 64) ∧ (po (wh q) = 15 ∨ po (wh q) = 16 → ∀ j, j < 8 * rg q / wd q → 8 * pa (wh q) + j * wd q + wd q ≤ 64) ∧ (17 ≤ po (wh q) → (pm (wh q) = 0 ∨ ¬ kv_R_bit F 0 (fr q + t) = 0) → kv_R_place F po pb wh wd XA XB q (fr q + t) = nI (kv_R_place F po pb wh wd XA XB q (fr q + t)).toNatClampNeg ∧ (kv_R_place F po pb wh wd XA XB q (fr q + t)).toNatClampNeg + wd q ≤ 128)

def kv_ub (dn : Nat → Nat) : Nat → Nat → (Nat → Nat) → Nat → Nat
  | 0, _, bf => bf
  | k + 1, b, bf => kv_ub dn k (b + 1) (va_up bf b (dn b))
def kv_fq (po wh : Nat → Nat) (u : Nat) : Nat → Nat → Nat
  | 0, b => b
  | k + 1, b => if kv_R_unit (nI (po (wh b))) = nI u then b else kv_fq po wh u k (b + 1)
def kv_ul (po pd pa pb : Nat → Nat) (pm : Nat → Int32) (wh wd rg fr sp bf : Nat → Nat) (XA XB : Nat → Int32) (q : Nat) : Nat → Int32 → Int32 → (Nat → Int32) → (Nat → Int32) → (Nat → Nat) → Int32 × (Nat → Int32) × (Nat → Int32) × (Nat → Nat)
  | 0, _, sd, F, M, dn => (sd, F, M, dn)
  | k + 1, z, sd, F, M, dn => if z = 0 then (sd, F, M, dn) else if (if nI (sp q) ≤ nI (dn q) then 0 else if kv_R_free po pd pa pb pm wh wd rg fr sp bf XA XB q (dn q) = 0 then 0 else 1 : Int32) = 0 then kv_ul po pd pa pb pm wh wd rg fr sp bf XA XB q k (if nI (sp q) ≤ nI (dn q) then 0 else if kv_R_free po pd pa pb pm wh wd rg fr sp bf XA XB q (dn q) = 0 then 0 else 1 : Int32) sd F M dn
    else kv_ul po pd pa pb pm wh wd rg fr sp bf XA XB q k (if nI (sp q) ≤ nI (dn q) then 0 else if kv_R_free po pd pa pb pm wh wd rg fr sp bf XA XB q (dn q) = 0 then 0 else 1 : Int32) (sd + 1) (kv_R_does_2 F M po pd pa pb pm wh wd rg fr XA XB q (dn q) (XA q).toNatClampNeg) (kv_R_does_3 F M po pd pb pm wh wd fr XA XB q (dn q)) (va_up dn q (dn q + 1))
def kv_uu (po pd pa pb : Nat → Nat) (pm : Nat → Int32) (wh wd rg fr sp bf : Nat → Nat) (XA XB : Nat → Int32) (la qu : Nat) : Nat → Nat → Int32 → (Nat → Int32) → (Nat → Int32) → (Nat → Nat) → Int32 × (Nat → Int32) × (Nat → Int32) × (Nat → Nat)
  | 0, _, sd, F, M, dn => (sd, F, M, dn)
  | k + 1, u, sd, F, M, dn => kv_uu po pd pa pb pm wh wd rg fr sp bf XA XB la qu k (u + 1) (kv_ul po pd pa pb pm wh wd rg fr sp bf XA XB (kv_fq po wh u qu 0) la (if nI qu ≤ nI (kv_fq po wh u qu 0) then 0 else 1) sd F M dn).1 (kv_ul po pd pa pb pm wh wd rg fr sp bf XA XB (kv_fq po wh u qu 0) la (if nI qu ≤ nI (kv_fq po wh u qu 0) then 0 else 1) sd F M dn).2.1 (kv_ul po pd pa pb pm wh wd rg fr sp bf XA XB (kv_fq po wh u qu 0) la (if nI qu ≤ nI (kv_fq po wh u qu 0) then 0 else 1) sd F M dn).2.2.1 (kv_ul po pd pa pb pm wh wd rg fr sp bf XA XB (kv_fq po wh u qu 0) la (if nI qu ≤ nI (kv_fq po wh u qu 0) then 0 else 1) sd F M dn).2.2.2
/-- what the units may rely on, and what each step keeps -/
def kU (po pd pa pb : Nat → Nat) (pm : Nat → Int32) (wh wd rg fr sp bf : Nat → Nat) (XA XB : Nat → Int32) (qu : Nat) (J : (Nat → Int32) → (Nat → Int32) → (Nat → Nat) → Prop) : Prop :=
  (∀ F M dn q, J F M dn → q < qu → dn q < sp q → ¬ kv_R_free po pd pa pb pm wh wd rg fr sp bf XA XB q (dn q) = 0 → kD F po pd pa pb pm wh wd rg fr XA XB q (dn q) ∧ J (kv_R_does_2 F M po pd pa pb pm wh wd rg fr XA XB q (dn q) (XA q).toNatClampNeg) (kv_R_does_3 F M po pd pb pm wh wd fr XA XB q (dn q)) (va_up dn q (dn q + 1))) ∧ (∀ F M dn q, J F M dn → q < qu → dn q < 2 ^ 20 ∧ sp q < 2 ^ 20)
theorem kv_fq_le (po wh : Nat → Nat) (u : Nat) : ∀ (k b : Nat), kv_fq po wh u k b ≤ b + k := by
  intro k
  induction k with
  | zero => intro b; exact Nat.le_refl _
  | succ k ih =>
    intro b
    rw [kv_fq]
    split
    · omega
    · have := ih (b + 1); omega
theorem kv_ul_J {po pd pa pb : Nat → Nat} {pm : Nat → Int32} {wh wd rg fr sp bf : Nat → Nat} {XA XB : Nat → Int32} {qu q : Nat} {J : (Nat → Int32) → (Nat → Int32) → (Nat → Nat) → Prop} (hU : kU po pd pa pb pm wh wd rg fr sp bf XA XB qu J) :
    ∀ (k : Nat) (z sd : Int32) (F M : Nat → Int32) (dn : Nat → Nat), (¬ z = 0 → q < qu) → J F M dn → J (kv_ul po pd pa pb pm wh wd rg fr sp bf XA XB q k z sd F M dn).2.1 (kv_ul po pd pa pb pm wh wd rg fr sp bf XA XB q k z sd F M dn).2.2.1 (kv_ul po pd pa pb pm wh wd rg fr sp bf XA XB q k z sd F M dn).2.2.2 := by
  intro k
  induction k with
  | zero => intro z sd F M dn _ h; exact h
  | succ k ih =>
    intro z sd F M dn hz h
    rw [kv_ul]
    by_cases h0 : z = 0
    · rw [if_pos h0]; exact h
    · rw [if_neg h0]
      have hq := hz h0
      by_cases h1 : (if nI (sp q) ≤ nI (dn q) then 0 else if kv_R_free po pd pa pb pm wh wd rg fr sp bf XA XB q (dn q) = 0 then 0 else 1 : Int32) = 0
      · rw [if_pos h1]; exact ih _ _ _ _ _ (fun _ => hq) h
      · rw [if_neg h1]
        have hb := hU.2 F M dn q h hq
        have h2 : dn q < sp q := by
          refine Nat.not_le.mp fun z9 => h1 ?_
          rw [if_pos (nI_le z9 (by omega))]
        have h3 : ¬ kv_R_free po pd pa pb pm wh wd rg fr sp bf XA XB q (dn q) = 0 := fun z9 => h1 (by rw [if_neg (nI_ge h2 (by omega)), if_pos z9])
        exact ih _ _ _ _ _ (fun _ => hq) (hU.1 F M dn q h hq h2 h3).2
