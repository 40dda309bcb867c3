/-! pure part: P19 -/
/-- the first element that may not be reached, in both -/
theorem kp_fbd {f F : Nat → Int32} {po pb : Nat → Nat} {pm : Nat → Int32} {wh wd : Nat → Nat} {XA XB : Nat → Int32} {vl bo q : Nat} (ho : po (wh q) < 21) (hw : kp_w (wd q)) (hF : kp_eq 64 f F) (hvl : vl ≤ 64) (hb : po (wh q) = 19 → ∀ i, i < vl → 8 * pb (wh q) + i * wd q + wd q ≤ 64) :
    ∀ (n i : Nat), i + n = vl → ∀ A B, A = kv_fb (wd q) (XA q) (XB q) (nI (po (wh q))) (nI (pb (wh q))) (pm (wh q)) f (nI bo) n i → B = kv_bd F po pb pm wh wd XA XB (wd q) vl bo q n i →
    ((A = -1 ∧ B = vl) ∨ (A = nI B ∧ i ≤ B ∧ B < vl)) ∧ ∀ t, i ≤ t → t < B → (pm (wh q) = 0 ∨ ¬ kv_R_bit F 0 t = 0) → ¬ kv_R_place F po pb wh wd XA XB q t < 0 ∧ kv_R_place F po pb wh wd XA XB q t ≤ nI bo - nI (wd q) := by
  intro n
  induction n with
  | zero =>
    intro i hi A B hA hB
    rw [kv_fb] at hA
    rw [kv_bd] at hB
    exact ⟨Or.inl ⟨hA, hB⟩, fun t h1 h2 => by omega⟩
  | succ n ih =>
    intro i hi A B hA hB
    have hpl := kp_pl (XA := XA) (XB := XB) (i := i) ho hw hF (fun h => hb h i (by omega))
    have hwk := kp_work (mk := pm (wh q)) (i := i) hF (by omega)
    rw [kv_fb, hpl, hwk] at hA
    rw [kv_bd] at hB
    -- goes on, or ends here
    have on : (pm (wh q) = 0 ∨ ¬ kv_R_bit F 0 i = 0 → ¬ kv_R_place F po pb wh wd XA XB q i < 0 ∧ kv_R_place F po pb wh wd XA XB q i ≤ nI bo - nI (wd q)) → A = kv_fb (wd q) (XA q) (XB q) (nI (po (wh q))) (nI (pb (wh q))) (pm (wh q)) f (nI bo) n (i + 1) → B = kv_bd F po pb pm wh wd XA XB (wd q) vl bo q n (i + 1) →
        ((A = -1 ∧ B = vl) ∨ (A = nI B ∧ i ≤ B ∧ B < vl)) ∧ ∀ t, i ≤ t → t < B → (pm (wh q) = 0 ∨ ¬ kv_R_bit F 0 t = 0) → ¬ kv_R_place F po pb wh wd XA XB q t < 0 ∧ kv_R_place F po pb wh wd XA XB q t ≤ nI bo - nI (wd q) := by
      intro hok h1 h2
      obtain ⟨a1, a2⟩ := ih (i + 1) (by omega) A B h1 h2
      refine ⟨?_, fun t ht1 ht2 hon => ?_⟩
      · rcases a1 with a1 | a1
        · exact Or.inl a1
        · exact Or.inr ⟨a1.1, by omega, a1.2.2⟩
      · by_cases hti : t = i
        · subst hti; exact hok hon
        · exact a2 t (by omega) ht2 hon
    have ends : A = nI i → B = i → ((A = -1 ∧ B = vl) ∨ (A = nI B ∧ i ≤ B ∧ B < vl)) ∧ ∀ t, i ≤ t → t < B → (pm (wh q) = 0 ∨ ¬ kv_R_bit F 0 t = 0) → ¬ kv_R_place F po pb wh wd XA XB q t < 0 ∧ kv_R_place F po pb wh wd XA XB q t ≤ nI bo - nI (wd q) := by
      intro h1 h2
      exact ⟨Or.inr ⟨by rw [h1, h2], by omega, by omega⟩, fun t ht1 ht2 => by omega⟩
    by_cases hm : pm (wh q) = 0
    · rw [if_pos hm] at hA hB
      by_cases h0 : kv_R_place F po pb wh wd XA XB q i < 0
      · rw [if_pos h0, if_neg (show ¬ (1 : Int32) = 0 by decide)] at hA
        rw [if_pos h0] at hB
        exact ends hA hB
      · rw [if_neg h0] at hA hB
        by_cases h1 : kv_R_place F po pb wh wd XA XB q i ≤ nI bo - nI (wd q)
        · rw [if_pos h1] at hA hB
          exact on (fun _ => ⟨h0, h1⟩) hA hB
        · rw [if_neg h1, if_neg (show ¬ (1 : Int32) = 0 by decide)] at hA
          rw [if_neg h1] at hB
          exact ends hA hB
    · rw [if_neg hm] at hA hB
      by_cases hbit : kv_R_bit F 0 i = 0
      · rw [if_pos hbit] at hA hB
        rw [if_pos (show (0 : Int32) = 0 from rfl)] at hA
        have hA' : A = kv_fb (wd q) (XA q) (XB q) (nI (po (wh q))) (nI (pb (wh q))) (pm (wh q)) f (nI bo) n (i + 1) := by
          rw [hA]
          split
          · rfl
          · split <;> rfl
        exact on (fun h => by rcases h with h | h; exact absurd h hm; exact absurd hbit h) hA' hB
      · rw [if_neg hbit] at hA hB
        by_cases h0 : kv_R_place F po pb wh wd XA XB q i < 0
        · rw [if_pos h0, if_neg (show ¬ (1 : Int32) = 0 by decide)] at hA
          rw [if_pos h0] at hB
          exact ends hA hB
        · rw [if_neg h0] at hA hB
          by_cases h1 : kv_R_place F po pb wh wd XA XB q i ≤ nI bo - nI (wd q)
          · rw [if_pos h1] at hA hB
            exact on (fun _ => ⟨h0, h1⟩) hA hB
          · rw [if_neg h1, if_neg (show ¬ (1 : Int32) = 0 by decide)] at hA
            rw [if_neg h1] at hB
            exact ends hA hB
/-- the new entry's rows -/
def kpWh (r : kRS) (k : Nat) : Nat → Nat := va_up r.wh r.qu k
def kpWd (r : kRS) : Nat → Nat := va_up r.wd r.qu r.wi
def kpXA (r : kRS) (k : Nat) : Nat → Int32 := upd r.XA r.qu (if (nI (r.po k)) = 14 then (nI r.vl) else (r.X (r.pa k)) : Int32)
def kpXB (r : kRS) (k : Nat) : Nat → Int32 := upd r.XB r.qu (r.X (r.pb k))
/-- the end of the new entry -/
def kpEn (r : kRS) (k : Nat) : Nat := kn_e r.F r.po r.pb r.pm (kpWh r k) (kpWd r) (kpXA r k) (kpXB r k) r.wi r.vl r.sa r.bo r.qu k
theorem kp_en {x : kMS} {r : kRS} {k : Nat} (hI : kI r) (hC : kC x r) (hkm : k < r.ma) (h8 : 8 ≤ r.po k) (hG : kpG (r.po k) (r.pd k) (r.pa k) (r.pb k) (r.pm k) r.wi r.gp) {bad : Int32} (hbad : bad = kv_M_bad x.wp x.sa x.ln (kv_M_scalar (nI (x.pa (k + 1))) x.X) (kv_M_scalar (nI (x.pb (k + 1))) x.X) (nI (x.po (k + 1))) (nI (x.pb (k + 1))) (x.pm (k + 1)) x.F x.bo) :
    ((bad = -1 ∧ kpEn r k = r.vl) ∨ (17 ≤ r.po k ∧ bad = nI (kpEn r k) ∧ r.sa ≤ kpEn r k ∧ kpEn r k < r.vl)) ∧ (17 ≤ r.po k → ∀ t, r.sa ≤ t → t < kpEn r k → (r.pm k = 0 ∨ ¬ kv_R_bit r.F 0 t = 0) → ¬ kv_R_place r.F r.po r.pb (kpWh r k) (kpWd r) (kpXA r k) (kpXB r k) r.qu t < 0 ∧ kv_R_place r.F r.po r.pb (kpWh r k) (kpWd r) (kpXA r k) (kpXB r k) r.qu t ≤ nI r.bo - nI r.wi) := by
  obtain ⟨c1, c2, c3, c4, c5, c6, c7, c8, c9, c10, c11, c12, c13, c14, c15, c16, c17⟩ := hC.1
  obtain ⟨i1, i2, i3, i4, i5, i6, i7, i8⟩ := hI.2.1
  obtain ⟨d1, d2, d3, d4, d5, d6⟩ := hC.2.1.2 k hkm
  have hpk := hI.1.2 k hkm
  have hm := kp_most i4 i3
  have sa := kp_sca c15 hpk.2.2.1
  have sb := kp_sca c15 hpk.2.2.2.1
  unfold kv_M_bad at hbad
  rw [d1, d3, d4, d6, sa, sb, c11, c14, c13, c6] at hbad
  have ewh : kpWh r k r.qu = k := va_up_self _ _ _
  have ewd : kpWd r r.qu = r.wi := va_up_self _ _ _
  have exb : kpXB r k r.qu = r.X (r.pb k) := by unfold kpXB upd; rw [if_pos rfl]
  unfold kpEn kn_e
  by_cases h17 : r.po k < 17
  · have e : nI (r.po k) < 17 := (nI_ltI (b := 17) (by omega) (by decide)).mpr h17
    have hu : ¬ kv_I_unit (nI (r.po k)) = 2 := by
      unfold kv_I_unit
      rw [if_pos e]
      split
      · decide
      · split <;> decide
    rw [if_neg hu] at hbad
    rw [if_pos e]
    exact ⟨Or.inl ⟨hbad, rfl⟩, fun h => by omega⟩
  · have e : ¬ nI (r.po k) < 17 := fun z => h17 ((nI_ltI (b := 17) (by omega) (by decide)).mp z)
    have hu : kv_I_unit (nI (r.po k)) = 2 := by unfold kv_I_unit; rw [if_neg e]
    have n14 : ¬ nI (r.po k) = 14 := fun z => absurd (kp_inj (b := 14) (by omega) (by decide) z) (by omega)
    have exa : kpXA r k r.qu = r.X (r.pa k) := by unfold kpXA upd; rw [if_pos rfl, if_neg n14]
    rw [if_pos hu] at hbad
    rw [if_neg e]
    unfold kv_K_firstBad at hbad
    have hL := kp_fbd (f := x.F) (F := r.F) (po := r.po) (pb := r.pb) (pm := r.pm) (wh := kpWh r k) (wd := kpWd r) (XA := kpXA r k) (XB := kpXB r k) (vl := r.vl) (bo := r.bo) (q := r.qu) (by rw [ewh]; exact hpk.1) (by rw [ewd]; exact i3) c16 (by omega) (fun h i hi => by
      rw [ewh] at h ⊢
      rw [ewd]
      exact kp_al i4 i3 hpk.2.2.2.1 (hG.2.1 (by omega)) (by omega)) (r.vl - r.sa) r.sa (by omega) bad _ (by rw [ewh, ewd, exa, exb]; exact hbad) rfl
    rw [ewh, ewd] at hL
    obtain ⟨a1, a2⟩ := hL
    refine ⟨?_, fun _ => a2⟩
    rcases a1 with a1 | a1
    · exact Or.inl a1
    · exact Or.inr ⟨by omega, a1.1, a1.2.1, a1.2.2⟩
