/-! pure part: P8 -/
section
variable {la : Nat} {wk cpo cpd cpa cpb : Nat → Nat} {cpm : Nat → Int32} {ww : Nat → Nat} {gr mo xa xb : Nat → Int32} {cfr wi tt db : Nat → Nat} {rF wF : Nat → Nat → Int64}
variable {po pd pa pb : Nat → Nat} {pm : Nat → Int32} {wh wd rg fr sp bf : Nat → Nat} {XA XB : Nat → Int32} {qu : Nat}
/-- an entry of the reference's queue that is as it must be -/
def kpV (po pa wh wd rg sp bf : Nat → Nat) (q : Nat) : Prop := po (wh q) < 21 ∧ 8 ≤ po (wh q) ∧ kp_w (rg q) ∧ kp_w (wd q) ∧ (po (wh q) = 16 → pa (wh q) + rg q ≤ 8) ∧ bf q ≤ sp q ∧ sp q ≤ 32
/-- the Work k is the entry q -/
def kpQ (cpo cpd cpa cpb : Nat → Nat) (cpm : Nat → Int32) (ww : Nat → Nat) (gr mo xa xb : Nat → Int32) (cfr wi tt : Nat → Nat) (po pd pa pb : Nat → Nat) (pm : Nat → Int32) (wh wd rg fr sp : Nat → Nat) (XA XB : Nat → Int32) (k q : Nat) : Prop :=
  cpo (wi k) = po (wh q) ∧ cpd (wi k) = pd (wh q) ∧ cpa (wi k) = pa (wh q) ∧ cpb (wi k) = pb (wh q) ∧ cpm (wi k) = pm (wh q) ∧ ww k = wd q ∧ gr k = nI (rg q) ∧ mo k = nI (8 * rg q / wd q) ∧ xb k = XB q ∧ cfr k = fr q ∧
  (po (wh q) ≠ 14 → xa k = XA q) ∧ (po (wh q) = 14 → tt k = (XA q).toNatClampNeg) ∧ kv_K_steps (fr q) (tt k) (nI (po (wh q))) = nI (sp q)
theorem kv_ul0 {q : Nat} : ∀ (n : Nat) (sd : Int32) (F M : Nat → Int32) (dn : Nat → Nat), kv_ul po pd pa pb pm wh wd rg fr sp bf XA XB q n 0 sd F M dn = (sd, F, M, dn) := by
  intro n sd F M dn
  cases n with
  | zero => rfl
  | succ n => rw [kv_ul, if_pos rfl]
/-- the lanes of a unit on one instruction -/
theorem kp_wl {J : (Nat → Int32) → (Nat → Int32) → (Nat → Nat) → Prop} {k q : Nat} {u v : Int64} (hV : kpV po pa wh wd rg sp bf q) (hQ : kpQ cpo cpd cpa cpb cpm ww gr mo xa xb cfr wi tt po pd pa pb pm wh wd rg fr sp XA XB k q) (hq : q < qu)
    (hfree : ∀ t, (v &&& (kv_R_reads po pd pa pb pm wh wd rg fr XB q t (XA q).toNatClampNeg ||| kv_R_writes po pd wh wd fr q t) = 0 ∧ u &&& kv_R_writes po pd wh wd fr q t = 0) ↔ ¬ kv_R_free po pd pa pb pm wh wd rg fr sp bf XA XB q t = 0)
    (hU : kU po pd pa pb pm wh wd rg fr sp bf XA XB qu J) (hJb : ∀ F M dn, J F M dn → (∀ i, i < 64 → kp_by (F i)) ∧ (∀ i, i < 128 → kp_by (M i))) :
    ∀ (n : Nat) (cdn : Nat → Nat) (f g : Nat → Int32) (sd : Int32) (F M : Nat → Int32) (dn : Nat → Nat), kp_eq 64 f F → kp_eq 128 g M → cdn k = dn q → J F M dn →
    ∀ A B, A = kv_wl cpo cpd cpa cpb cpm ww gr mo xa xb cfr wi tt k u v n cdn f g sd → B = kv_ul po pd pa pb pm wh wd rg fr sp bf XA XB q n 1 sd F M dn →
    kp_eq 64 A.2.1 B.2.1 ∧ kp_eq 128 A.2.2.1 B.2.2.1 ∧ A.2.2.2 = B.1 ∧ A.1 k = B.2.2.2 q ∧ (∀ j, j ≠ k → A.1 j = cdn j) ∧ (∀ p, p ≠ q → B.2.2.2 p = dn p) ∧ J B.2.1 B.2.2.1 B.2.2.2 := by
  intro n
  induction n with
  | zero =>
    intro cdn f g sd F M dn hf hg hdn hJ A B hA hB
    rw [kv_wl] at hA
    rw [kv_ul] at hB
    subst hA; subst hB
    exact ⟨hf, hg, rfl, hdn, fun _ _ => rfl, fun _ _ => rfl, hJ⟩
  | succ n ih =>
    intro cdn f g sd F M dn hf hg hdn hJ A B hA hB
    obtain ⟨v1, v2, v3, v4, v5, v6, v7⟩ := hV
    obtain ⟨q1, q2, q3, q4, q5, q6, q7, q8, q9, q10, q11, q12, q13⟩ := hQ
    rw [kv_wl, q1, q2, q3, q4, q5, q6, q7, q8, q9, q10, hdn] at hA
    rw [kv_ul, if_neg (by decide)] at hB
    have hr := kp_rd (po := po) (pd := pd) (pa := pa) (pb := pb) (pm := pm) (wh := wh) (wd := wd) (rg := rg) (fr := fr) (XB := XB) (q := q) (t := dn q) (tt := tt k) (vq := (XA q).toNatClampNeg) v1 v2 v3 v4 v5 q12
    have hlt := (hU.2 F M dn q hJ hq)
    have hle : nI (sp q) ≤ nI (dn q) ↔ sp q ≤ dn q := nI_leI (by omega) (by omega)
    have hlt2 : nI (dn q) < nI (sp q) ↔ dn q < sp q := nI_ltI (by omega) (by omega)
    unfold kv_K_isNextStepFree kv_K_isDone at hA
    rw [q13, hr, kp_wr] at hA
    by_cases hd : sp q ≤ dn q
    · rw [if_pos (hle.mpr hd), if_pos rfl, kv_ul0] at hB
      rw [if_neg (show ¬ nI (dn q) < nI (sp q) from fun z => by have := hlt2.mp z; omega), if_neg (show ¬ (1 : Int32) = 0 by decide), if_pos (show (0 : Int32) = 0 from rfl)] at hA
      subst hA; subst hB
      exact ⟨hf, hg, rfl, hdn, fun _ _ => rfl, fun _ _ => rfl, hJ⟩
    · rw [if_neg (fun z => hd (hle.mp z))] at hB
      rw [if_pos (hlt2.mpr (by omega)), if_pos (show (0 : Int32) = 0 from rfl)] at hA
      by_cases hfr : kv_R_free po pd pa pb pm wh wd rg fr sp bf XA XB q (dn q) = 0
      · rw [if_pos hfr, if_pos rfl, kv_ul0] at hB
        have hno : ¬ (v &&& (kv_R_reads po pd pa pb pm wh wd rg fr XB q (dn q) (XA q).toNatClampNeg ||| kv_R_writes po pd wh wd fr q (dn q)) = 0 ∧ u &&& kv_R_writes po pd wh wd fr q (dn q) = 0) := fun z => (hfree _).mp z hfr
        have hz : (if lg_cmp (v &&& (kv_R_reads po pd pa pb pm wh wd rg fr XB q (dn q) (XA q).toNatClampNeg ||| kv_R_writes po pd wh wd fr q (dn q))) 0 = 0 then (if lg_cmp (u &&& kv_R_writes po pd wh wd fr q (dn q)) 0 = 0 then (1 : Int32) else 0) else 0) = 0 := by
          by_cases h1 : lg_cmp (v &&& (kv_R_reads po pd pa pb pm wh wd rg fr XB q (dn q) (XA q).toNatClampNeg ||| kv_R_writes po pd wh wd fr q (dn q))) 0 = 0
          · rw [if_pos h1, if_neg (fun z => hno ⟨kp_cmp0.mp h1, kp_cmp0.mp z⟩)]
          · rw [if_neg h1]
        rw [if_pos hz] at hA
        subst hA; subst hB
        exact ⟨hf, hg, rfl, hdn, fun _ _ => rfl, fun _ _ => rfl, hJ⟩
      · obtain ⟨h1, h2⟩ := (hfree (dn q)).mpr hfr
        rw [if_neg hfr, if_neg (by decide)] at hB
        rw [if_pos (kp_cmp0.mpr h1), if_pos (kp_cmp0.mpr h2), if_neg (show ¬ (1 : Int32) = 0 by decide)] at hA
        obtain ⟨hD, hJ1⟩ := hU.1 F M dn q hJ hq (by omega) hfr
        obtain ⟨b1, b2⟩ := hJb F M dn hJ
        have dF := kp_doesF (tt := tt k) (xa := xa k) hD v2 v4 hf hg b2 q11 q12
        have dM := kp_doesM (xa := xa k) hD v2 v4 hf hg b1 q11
        obtain ⟨r1, r2, r3, r4, r5, r6, r7⟩ := ih _ _ _ _ _ _ _ dF dM (by rw [va_up_self, va_up_self]) hJ1 A B hA hB
        refine ⟨r1, r2, r3, r4, fun j hj => ?_, fun p hp => ?_, r7⟩
        · rw [r5 j hj, va_up_ne _ _ hj]
        · rw [r6 p hp, va_up_ne _ _ hp]
/-- one unit -/
theorem kp_wo {J : (Nat → Int32) → (Nat → Int32) → (Nat → Nat) → Prop} {y : Nat} (hy : y < 2 ^ 31) (hqu : qu ≤ 4) (hV : ∀ q, q < qu → kpV po pa wh wd rg sp bf q) (hQ : ∀ q, q < qu → kpQ cpo cpd cpa cpb cpm ww gr mo xa xb cfr wi tt po pd pa pb pm wh wd rg fr sp XA XB (wk q) q)
    (hdb : ∀ q, q < qu → db (wk q) = bf q)
    (hrF : ∀ q, q < qu → rF (wk q) (bf q) = kpo (fun t => kv_R_reads po pd pa pb pm wh wd rg fr XB q t (XA q).toNatClampNeg) (sp q - bf q) (bf q)) (hwF : ∀ q, q < qu → wF (wk q) (bf q) = kpo (fun t => kv_R_writes po pd wh wd fr q t) (sp q - bf q) (bf q))
    (hU : kU po pd pa pb pm wh wd rg fr sp bf XA XB qu J) (hJb : ∀ F M dn, J F M dn → (∀ i, i < 64 → kp_by (F i)) ∧ (∀ i, i < 128 → kp_by (M i)))
    {cdn : Nat → Nat} {f g : Nat → Int32} {sd : Int32} {F M : Nat → Int32} {dn : Nat → Nat} (hf : kp_eq 64 f F) (hg : kp_eq 128 g M) (hdn : ∀ q, q < qu → cdn (wk q) = dn q) (hJ : J F M dn) (hinj : ∀ i j, i < qu → j < qu → wk i = wk j → i = j) :
    ∀ (n i : Nat) (u v : Int64), i + n = qu → (∀ m, u &&& m = 0 ↔ ∀ p, p < i → ∀ j, bf p ≤ j → j < bf p + (sp p - bf p) → kv_R_reads po pd pa pb pm wh wd rg fr XB p j (XA p).toNatClampNeg &&& m = 0) → (∀ m, v &&& m = 0 ↔ ∀ p, p < i → ∀ j, bf p ≤ j → j < bf p + (sp p - bf p) → kv_R_writes po pd wh wd fr p j &&& m = 0) →
    ∀ A B, A = kv_wo la wk cpo cpd cpa cpb cpm ww gr mo xa xb cfr wi tt db rF wF (nI y) cdn f g sd n i u v → B = kv_ul po pd pa pb pm wh wd rg fr sp bf XA XB (kv_fq po wh y n i) la (if nI qu ≤ nI (kv_fq po wh y n i) then 0 else 1) sd F M dn →
    kp_eq 64 A.2.1 B.2.1 ∧ kp_eq 128 A.2.2.1 B.2.2.1 ∧ A.2.2.2 = B.1 ∧ (∀ q, q < qu → A.1 (wk q) = B.2.2.2 q) ∧ J B.2.1 B.2.2.1 B.2.2.2 := by
  intro n
  induction n with
  | zero =>
    intro i u v hi hu hv A B hA hB
    rw [kv_wo] at hA
    rw [kv_fq, if_pos ((nI_leI (by omega) (by omega)).mpr (by omega)), kv_ul0] at hB
    subst hA; subst hB
    exact ⟨hf, hg, rfl, hdn, hJ⟩
  | succ n ih =>
    intro i u v hi hu hv A B hA hB
    have hiq : i < qu := by omega
    have Q := hQ i hiq
    rw [kv_wo, Q.1] at hA
    rw [kv_fq] at hB
    by_cases hun : kv_R_unit (nI (po (wh i))) = nI y
    · have hun' : kv_I_unit (nI (po (wh i))) = nI y := hun
      rw [if_pos hun'] at hA
      rw [if_pos hun, if_neg (fun z => by have := (nI_leI (by omega) (by omega)).mp z; omega)] at hB
      obtain ⟨r1, r2, r3, r4, r5, r6, r7⟩ := kp_wl (hV i hiq) Q hiq (fun t => by
        rw [hv, hu, kp_free]
        constructor
        · rintro ⟨h1, h2⟩ p hp j hj1 hj2
          exact ⟨h1 p hp j hj1 hj2, h2 p hp j hj1 hj2⟩
        · intro h
          exact ⟨fun p hp j hj1 hj2 => (h p hp j hj1 hj2).1, fun p hp j hj1 hj2 => (h p hp j hj1 hj2).2⟩) hU hJb la cdn f g sd F M dn hf hg (hdn i hiq) hJ A B hA hB
      refine ⟨r1, r2, r3, fun q hq => ?_, r7⟩
      by_cases hqi : q = i
      · subst hqi; exact r4
      · rw [r5 _ (fun z => hqi (hinj q i hq hiq z)), r6 q hqi]; exact hdn q hq
    · have hun' : ¬ kv_I_unit (nI (po (wh i))) = nI y := hun
      rw [if_neg hun', hdb i hiq] at hA
      rw [if_neg hun] at hB
      refine ih (i + 1) _ _ (by omega) ?_ ?_ A B hA hB
      · intro m
        rw [kp_ando, hu, hrF i hiq, kpo_and]
        constructor
        · rintro ⟨h1, h2⟩ p hp j hj1 hj2
          by_cases hpi : p = i
          · subst hpi; exact h2 j hj1 hj2
          · exact h1 p (by omega) j hj1 hj2
        · intro h
          exact ⟨fun p hp => h p (by omega), h i (by omega)⟩
      · intro m
        rw [kp_ando, hv, hwF i hiq, kpo_and]
        constructor
        · rintro ⟨h1, h2⟩ p hp j hj1 hj2
          by_cases hpi : p = i
          · subst hpi; exact h2 j hj1 hj2
          · exact h1 p (by omega) j hj1 hj2
        · intro h
          exact ⟨fun p hp => h p (by omega), h i (by omega)⟩
end
