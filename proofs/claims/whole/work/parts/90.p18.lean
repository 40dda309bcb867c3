/-! pure part: P18 -/
theorem kp_hn : ∀ b, b < 8 → ∀ g, g < 5 → (g = 1 ∨ g = 2 ∨ g = 4) → b + g ≤ 8 → kv_hn 19 b (8 * g) 0 0 = kv_K_span (8 * nI b) (8 * nI g) ∧ kv_hn 19 b (8 * g) 0 (kv_R_bytes 0 8) = kv_K_span 0 8 ||| kv_K_span (8 * nI b) (8 * nI g) := by decide +kernel
theorem kp_hnO {o b : Nat} (h : ¬ nI o = 19) : ∀ n e v, kv_hn o b n e v = v := by
  intro n
  cases n with
  | zero => intro e v; rfl
  | succ n => intro e v; rw [kv_hn, if_neg h]
theorem kp_need {po pb : Nat → Nat} {pm : Nat → Int32} {k gp g : Nat} (hg : gp ≤ 2) (hgg : 2 ^ gp = g) (ho : po k < 21) (hb : pb k < 8) (hbg : po k = 19 → pb k % g = 0) : kv_M_need gp (nI (po k)) (nI (pb k)) (pm k) = kv_R_needs g po pb pm k := by
  unfold kv_M_need kv_R_needs
  by_cases h : po k = 19
  · have e : nI (po k) = 19 := by rw [h]; rfl
    have hw := kp_pw hg
    have hb8 : pb k + g ≤ 8 := by
      have := hbg h
      rw [hgg] at hw
      rcases hw with z | z | z <;> rw [z] at this ⊢ <;> omega
    have hg5 := kp_w5 hw
    rw [hgg] at hw hg5
    obtain ⟨z1, z2⟩ := kp_hn (pb k) hb g (by omega) hw hb8
    rw [if_pos e, h, kp_grp gp hg, hgg]
    by_cases hm : pm k = 0
    · rw [if_pos hm, if_pos hm, z1, kp_0or]
    · rw [if_neg hm, if_neg hm, z2]
  · have e : ¬ nI (po k) = 19 := fun z => h (kp_inj (b := 19) (by omega) (by decide) z)
    rw [if_neg e, kp_hnO e]
    rfl
section
variable {po pd pb : Nat → Nat} {pm : Nat → Int32} {wh wd fr sp dn : Nat → Nat}
theorem kp_hi {u : Int64} {b : Nat} : ∀ (k i : Nat) (z : Int32), (z = 0 ∨ z = 1) → (kv_hi po pd wh wd fr u b k i z = 0 ∨ kv_hi po pd wh wd fr u b k i z = 1) ∧ (kv_hi po pd wh wd fr u b k i z = 0 ↔ z = 0 ∧ ∀ j, i ≤ j → j < i + k → kv_R_writes po pd wh wd fr b j &&& u = 0) := by
  intro k
  induction k with
  | zero =>
    intro i z hz
    rw [kv_hi]
    exact ⟨hz, fun h => ⟨h, fun j h1 h2 => by omega⟩, fun h => h.1⟩
  | succ k ih =>
    intro i z hz
    rw [kv_hi]
    have hz2 : (if z = 0 then (if lg_cmp (kv_R_writes po pd wh wd fr b i &&& u) 0 = 0 then (0 : Int32) else 1) else 1) = 0 ∨ (if z = 0 then (if lg_cmp (kv_R_writes po pd wh wd fr b i &&& u) 0 = 0 then (0 : Int32) else 1) else 1) = 1 := by
      split
      · split
        · exact Or.inl rfl
        · exact Or.inr rfl
      · exact Or.inr rfl
    obtain ⟨h1, h2⟩ := ih (i + 1) _ hz2
    refine ⟨h1, ?_⟩
    rw [h2]
    constructor
    · rintro ⟨a1, a2⟩
      by_cases hz0 : z = 0
      · rw [if_pos hz0] at a1
        by_cases hw : lg_cmp (kv_R_writes po pd wh wd fr b i &&& u) 0 = 0
        · refine ⟨hz0, fun j hj1 hj2 => ?_⟩
          by_cases hji : j = i
          · subst hji; exact kp_cmp0.mp hw
          · exact a2 j (by omega) (by omega)
        · rw [if_neg hw] at a1; exact absurd a1 (by decide)
      · rw [if_neg hz0] at a1; exact absurd a1 (by decide)
    · rintro ⟨a1, a2⟩
      rw [if_pos a1, if_pos (kp_cmp0.mpr (a2 i (by omega) (by omega)))]
      exact ⟨rfl, fun j hj1 hj2 => a2 j (by omega) (by omega)⟩
theorem kp_ho {u : Int64} : ∀ (k b : Nat) (z : Int32), (z = 0 ∨ z = 1) → (kv_ho po pd wh wd fr sp dn u k b z = 0 ↔ z = 0 ∧ ∀ q, b ≤ q → q < b + k → ¬ kv_R_unit (nI (po (wh q))) = 2 ∧ ∀ j, dn q ≤ j → j < dn q + (sp q - dn q) → kv_R_writes po pd wh wd fr q j &&& u = 0) := by
  intro k
  induction k with
  | zero =>
    intro b z hz
    rw [kv_ho]
    exact ⟨fun h => ⟨h, fun q h1 h2 => by omega⟩, fun h => h.1⟩
  | succ k ih =>
    intro b z hz
    rw [kv_ho]
    have hz2 : (if z = 0 then (if kv_R_unit (nI (po (wh b))) = 2 then (1 : Int32) else 0) else 1) = 0 ∨ (if z = 0 then (if kv_R_unit (nI (po (wh b))) = 2 then (1 : Int32) else 0) else 1) = 1 := by
      split
      · split
        · exact Or.inr rfl
        · exact Or.inl rfl
      · exact Or.inr rfl
    obtain ⟨h1, h2⟩ := kp_hi (po := po) (pd := pd) (wh := wh) (wd := wd) (fr := fr) (u := u) (b := b) (sp b - dn b) (dn b) _ hz2
    rw [ih (b + 1) _ h1, h2]
    constructor
    · rintro ⟨⟨a1, a2⟩, a3⟩
      by_cases hz0 : z = 0
      · rw [if_pos hz0] at a1
        by_cases hu : kv_R_unit (nI (po (wh b))) = 2
        · rw [if_pos hu] at a1; exact absurd a1 (by decide)
        · refine ⟨hz0, fun q hq1 hq2 => ?_⟩
          by_cases hqb : q = b
          · subst hqb; exact ⟨hu, a2⟩
          · exact a3 q (by omega) (by omega)
      · rw [if_neg hz0] at a1; exact absurd a1 (by decide)
    · rintro ⟨a1, a2⟩
      obtain ⟨b1, b2⟩ := a2 b (by omega) (by omega)
      rw [if_pos a1, if_neg b1]
      exact ⟨⟨rfl, b2⟩, fun q hq1 hq2 => a2 q (by omega) (by omega)⟩
end
/-- both wait, or neither -/
theorem kp_held {x : kMS} {r : kRS} {k : Nat} (hI : kI r) (hC : kC x r) (hkm : k < r.ma) (hG : kpG (r.po k) (r.pd k) (r.pa k) (r.pb k) (r.pm k) r.wi r.gp) :
    kv_M_mustWaitForQueue x.qu x.gp x.wk x.po x.pb x.pm x.wi x.dn x.wF (k + 1) = 0 ↔ (kv_R_unit (nI (r.po k)) = 2 → kv_R_held r.gp r.qu r.po r.pd r.pb r.pm r.wh r.wd r.fr r.sp r.dn k = 0) := by
  obtain ⟨c1, c2, c3, c4, c5, c6, c7, c8, c9, c10, c11, c12, c13, c14, c15, c16, c17⟩ := hC.1
  obtain ⟨d1, d2, d3, d4, d5, d6⟩ := hC.2.1.2 k hkm
  have hpk := hI.1.2 k hkm
  unfold kv_M_mustWaitForQueue
  rw [d1, d4, d6, c3]
  by_cases hu : kv_I_unit (nI (r.po k)) = 2
  · have hu' : kv_R_unit (nI (r.po k)) = 2 := hu
    rw [if_pos hu, kp_need c10 c12 hpk.1 hpk.2.2.2.1 (fun h => hG.2.1 (by omega))]
    unfold kv_R_held
    rw [kp_ho _ _ _ (Or.inl rfl)]
    have key : ∀ (n i : Nat), i + n = r.qu → (kv_mw x.wk x.po x.wi x.dn x.wF (kv_R_needs r.gp r.po r.pb r.pm k) n i = 0 ↔ ∀ q, i ≤ q → q < i + n → ¬ kv_R_unit (nI (r.po (r.wh q))) = 2 ∧ ∀ j, r.dn q ≤ j → j < r.dn q + (r.sp q - r.dn q) → kv_R_writes r.po r.pd r.wh r.wd r.fr q j &&& kv_R_needs r.gp r.po r.pb r.pm k = 0) := by
      intro n
      induction n with
      | zero => intro i hi; rw [kv_mw]; exact ⟨fun _ q h1 h2 => by omega, fun _ => rfl⟩
      | succ n ih =>
        intro i hi
        have hiq : i < r.qu := by omega
        obtain ⟨e1, e2, e3, e4, e5, e6, e7, e8, e9, e10, e11⟩ := hC.2.2.1 i hiq
        have hQ := kC.Q hI hC hiq
        have hdn : r.dn i ≤ 32 := by
          have S := (hI.2.2.1 i hiq).2.1
          have := kp_most S.2.1 S.1
          have := S.2.2.2.2.2.2.2.1
          have := (hI.2.2.2.2.2.1 i hiq).2
          omega
        rw [kv_mw, hQ.1, e10, (e11 _ hdn).2]
        by_cases hui : kv_R_unit (nI (r.po (r.wh i))) = 2
        · have hui' : kv_I_unit (nI (r.po (r.wh i))) = 2 := hui
          rw [if_pos hui']
          exact ⟨fun h => absurd h (by decide), fun h => absurd hui (h i (by omega) (by omega)).1⟩
        · have hui' : ¬ kv_I_unit (nI (r.po (r.wh i))) = 2 := hui
          rw [if_neg hui']
          by_cases hl : lg_cmp (kpo (fun t => kv_R_writes r.po r.pd r.wh r.wd r.fr i t) (r.sp i - r.dn i) (r.dn i) &&& kv_R_needs r.gp r.po r.pb r.pm k) 0 = 0
          · rw [if_pos hl, ih (i + 1) (by omega)]
            have hl2 := (kpo_and _ _).mp (kp_cmp0.mp hl)
            constructor
            · intro h q hq1 hq2
              by_cases hqi : q = i
              · subst hqi; exact ⟨hui, hl2⟩
              · exact h q (by omega) (by omega)
            · intro h q hq1 hq2
              exact h q (by omega) (by omega)
          · rw [if_neg hl]
            refine ⟨fun h => absurd h (by decide), fun h => ?_⟩
            exact absurd (kp_cmp0.mpr ((kpo_and _ _).mpr (h i (by omega) (by omega)).2)) hl
    rw [key r.qu 0 (by omega)]
    constructor
    · intro h _; exact ⟨rfl, h⟩
    · intro h; exact (h hu').2
  · rw [if_neg hu]
    exact ⟨fun _ h => absurd h hu, fun _ => rfl⟩
