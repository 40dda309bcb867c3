/-! the way back of put -/
set_option maxRecDepth 100000 in
set_option maxHeartbeats 4000000 in
theorem c_M_put (l : Launch) {D : va_G} {ad : Nat → Nat} {cs : Nat → va_E} {sz : Nat} {cI cB cJ cQ cW : ClassId} {la : Nat} {ma : Nat} {qu : Nat} {st : Nat} {nx : Int32} {bo : Nat} {cy : Int32} {sd : Int32} {X : Nat → Int32} {F : Nat → Int32} {G : Nat → Int32} {wp : Nat} {gp : Nat} {ln : Nat} {sa : Nat} {wk : Nat → Nat} {po : Nat → Nat} {pd : Nat → Nat} {pa : Nat → Nat} {pb : Nat → Nat} {pn : Nat → Int32} {pm : Nat → Int32} {ww : Nat → Nat} {gr : Nat → Int32} {mo : Nat → Int32} {xa : Nat → Int32} {xb : Nat → Int32} {fr : Nat → Nat} {wi : Nat → Nat} {nu : Nat → Int32} {tt : Nat → Nat} {dn : Nat → Nat} {db : Nat → Nat} {rF : Nat → Nat → Int64} {wF : Nat → Nat → Int64} {o9 d9 a9 b9 : Nat} {n9 m9 : Int32} (hJ : kw_J ad (22 + ma)) (hM : kM ad cI cB cJ cQ cW cs la ma qu st nx bo cy sd X F G wp gp ln sa wk po pd pa pb pn pm ww gr mo xa xb fr wi nu tt dn db rF wF) (ho : o9 ≤ 20) (hd : d9 < 8) (ha : a9 < 8) (hb9 : b9 < 8) (hm : m9 = 0 ∨ m9 = 1) (hcode : nI o9 = 6 → ¬ kv_S_isCode n9 = 0) (hst : ¬ nI st = 0) (hma : ma < 40) :
    Met l y_M_put w_M_put { frames := 2, cells := 1, slots := 6, locals := 80 } (va_Pc [.ref (ad 0), .int (nI o9), .int (nI d9), .int (nI a9), .int (nI b9), .int n9, .int m9] (fun U => U.heap.size = sz ∧ kw_Pre D kc (kt cI cB cJ cQ cW) ad (22 + ma) cs U))
      (va_Qi (fun r (u : (Nat → Nat) × (Nat → va_E)) => r = nI ma ∧ (∀ k, k < 22 + ma → u.1 k = ad k) ∧ sz ≤ u.1 (22 + ma) ∧ kw_J u.1 (22 + (ma + 1)) ∧ kM u.1 cI cB cJ cQ cW u.2 la (ma + 1) qu st nx bo cy sd X F G wp gp ln sa wk (va_up po (ma + 1) o9) (va_up pd (ma + 1) d9) (va_up pa (ma + 1) a9) (va_up pb (ma + 1) b9) (va_up pn (ma + 1) n9) (va_up pm (ma + 1) m9) ww gr mo xa xb fr wi nu tt dn db rF wF) (fun u t => kw_Pre D kc (kt cI cB cJ cQ cW) u.1 (22 + (ma + 1)) u.2 t) (kb_A ad (22 + ma) sz)) 1 6 (kb_A ad (22 + ma) sz) := by
  refine Met.ofW (cc := b_M_put) (maxL := 7) (ret := some .int) (by decide) rfl ?_
  intro p e s m args below meth c s₁ B hml hv
  obtain ⟨rfl, hsz, hP, hK⟩ := hv
  have hx := B.exec
  have hb := B.bytes
  have hr := B.returns
  have hts := atoms_spec (ws := w_M_put) B.pre
  have hg : ∀ w9 ∈ kg_G, w9.before [.ref (ad 0), .int (nI o9), .int (nI d9), .int (nI a9), .int (nI b9), .int n9, .int m9].toArray s = true := fun w9 h9 => hts w9 (List.mem_cons_of_mem _ h9)
  have hown : s.vm.findClass "LaneMachine" = some m.cls := findClass_of_methodNamed B.named
  have hlocks := B.notSynchronized
  subst hsz
  obtain ⟨A, hAe⟩ : ∃ z, z = kb_A ad (22 + ma) s.heap.size := ⟨_, rfl⟩
  have hA : ∀ k, k < 22 + ma → A (ad k) := fun k hk => by rw [hAe]; exact Or.inl ⟨k, hk, rfl⟩
  have hA2 : ∀ q : Nat, s.heap.size ≤ q → A q := fun q h => by rw [hAe]; exact Or.inr h
  rw [← hAe]
  have hS : va_S A s.heap s.heap [] := va_S.rf
  have hl := lv_entry ([.ref (ad 0), .int (nI o9), .int (nI d9), .int (nI a9), .int (nI b9), .int n9, .int m9]) (n := 7) (Nat.le_of_ble_eq_true rfl)
  rw [lg_entry_eq]
  generalize (lg_sl ([.ref (ad 0), .int (nI o9), .int (nI d9), .int (nI a9), .int (nI b9), .int n9, .int m9]) ++ List.replicate (7 - (lg_sl ([.ref (ad 0), .int (nI o9), .int (nI d9), .int (nI a9), .int (nI b9), .int n9, .int m9])).length) Slot.unset).toArray = ls at hl ⊢
  have hn : 22 + ma ≤ 22 + ma := Nat.le_refl _
  have hl : lv_has ls 7 [(0, .ref (ad 0)), (1, .int (nI o9)), (2, .int (nI d9)), (3, .int (nI a9)), (4, .int (nI b9)), (5, .int n9), (6, .int m9)] := hl
  refine lv_iload_n hx hb d_M_put_0 rfl (lv_at hl 1 rfl) ?_
  refine lv_if_lt (tgt := 32) hx hb d_M_put_1 (by decide) (fun h1 => absurd h1 (fun z9 => absurd ((nI_ltI (b := 0) (by omega) (by omega)).mp z9) (Nat.not_lt_zero _))) (fun _ => ?_)
  refine lv_iload_n hx hb d_M_put_4 rfl (lv_at hl 1 rfl) ?_
  refine lv_bipush (v := 20) hx hb d_M_put_5 (by decide) ?_
  refine lv_icmp_gt (tgt := 32) hx hb d_M_put_7 (by decide) (fun h2 => absurd h2 (nI_nlt (a := 20) (by omega) (by omega))) (fun _ => ?_)
  refine lv_iload_n hx hb d_M_put_10 rfl (lv_at hl 2 rfl) ?_
  refine kw_callix (kw_rS (As := [.int (nI d9)]) (rest := []) ⟨hx, hb, hml, hown, hg⟩ ⟨callB_of 1 hg (kg_goodG kg_261) rfl rfl rfl (hg _ kg_1) (hg _ kg_259) (by decide +kernel) ⟨by decide, by decide⟩, hg _ kg_260⟩ (c_M_isRegister l  ) hK hP rfl hl.1 rfl (Nat.le_of_ble_eq_true rfl) d_M_put_11 ⟨Nat.zero_le _, Nat.zero_le _⟩) hA hS (fun H locs hP hS => ?_)
  refine lv_if_eq (tgt := 32) hx hb d_M_put_14 (by decide) (fun h3 => absurd h3 (by rw [kn_reg hd]; decide)) (fun _ => ?_)
  refine lv_iload_n hx hb d_M_put_17 rfl (lv_at hl 3 rfl) ?_
  refine kw_callix (kw_rS (As := [.int (nI a9)]) (rest := []) ⟨hx, hb, hml, hown, hg⟩ ⟨callB_of 1 hg (kg_goodG kg_261) rfl rfl rfl (hg _ kg_1) (hg _ kg_259) (by decide +kernel) ⟨by decide, by decide⟩, hg _ kg_260⟩ (c_M_isRegister l  ) hK hP rfl hl.1 rfl (Nat.le_of_ble_eq_true rfl) d_M_put_18 ⟨Nat.zero_le _, Nat.zero_le _⟩) hA hS (fun H locs hP hS => ?_)
  refine lv_if_eq (tgt := 32) hx hb d_M_put_21 (by decide) (fun h4 => absurd h4 (by rw [kn_reg ha]; decide)) (fun _ => ?_)
  refine lv_iload hx hb d_M_put_24 (lv_at hl 4 rfl) ?_
  refine kw_callix (kw_rS (As := [.int (nI b9)]) (rest := []) ⟨hx, hb, hml, hown, hg⟩ ⟨callB_of 1 hg (kg_goodG kg_261) rfl rfl rfl (hg _ kg_1) (hg _ kg_259) (by decide +kernel) ⟨by decide, by decide⟩, hg _ kg_260⟩ (c_M_isRegister l  ) hK hP rfl hl.1 rfl (Nat.le_of_ble_eq_true rfl) d_M_put_26 ⟨Nat.zero_le _, Nat.zero_le _⟩) hA hS (fun H locs hP hS => ?_)
  refine lv_if_ne (tgt := 40) hx hb d_M_put_29 (by decide) (fun _ => ?_) (fun h5 => absurd h5 (by rw [kn_reg hb9]; decide))
  refine lv_iload_n hx hb d_M_put_40 rfl (lv_at hl 1 rfl) ?_
  refine lv_bipush (v := 6) hx hb d_M_put_41 (by decide) ?_
  refine lv_icmp_ne (tgt := 62) hx hb d_M_put_43 (by decide) (fun h6 => ?_) (fun h6 => ?_)
  · refine lv_aload_n hx hb d_M_put_62 rfl (lv_at hl 0 rfl) ?_
    refine kw_get hx hb hg in_M hown hK hP 0 (kM_q hn (by decide : 0 < 22)) (kM_0 hM) rfl 9 (by decide) (hg _ kg_171) rfl rfl d_M_put_63 ?_
    refine lv_if_eq (tgt := 78) hx hb d_M_put_66 (by decide) (fun h7 => absurd h7 (hst)) (fun _ => ?_)
    refine lv_aload_n hx hb d_M_put_69 rfl (lv_at hl 0 rfl) ?_
    refine kw_get hx hb hg in_M hown hK hP 0 (kM_q hn (by decide : 0 < 22)) (kM_0 hM) rfl 7 (by decide) (hg _ kg_169) rfl rfl d_M_put_70 ?_
    refine lv_bipush (v := 40) hx hb d_M_put_73 (by decide) ?_
    refine lv_icmp_lt (tgt := 86) hx hb d_M_put_75 (by decide) (fun _ => ?_) (fun h8 => absurd ((nI_ltI (b := 40) (by omega) (by omega)).mpr hma) h8)
    refine lv_aload_n hx hb d_M_put_86 rfl (lv_at hl 0 rfl) ?_
    refine kw_get hx hb hg in_M hown hK hP 0 (kM_q hn (by decide : 0 < 22)) (kM_0 hM) rfl 5 (by decide) (hg _ kg_167) rfl rfl d_M_put_87 ?_
    refine lv_aload_n hx hb d_M_put_90 rfl (lv_at hl 0 rfl) ?_
    refine kw_get hx hb hg in_M hown hK hP 0 (kM_q hn (by decide : 0 < 22)) (kM_0 hM) rfl 7 (by decide) (hg _ kg_169) rfl rfl d_M_put_91 ?_
    have hD : va_D A (kw_w ad cs (22 + ma)) := kw_D hJ hA
    refine va_new (C := R_I) (T := F_I) (N := 6) (ci := 1) (fs := [.int 0, .int 0, .int 0, .int 0, .int 0, .int 0]) hx hb hg in_I t_I ty_I hown (hg _ kg_62) (hg _ kg_66) (hg _ kg_5) hK hP hD hS hA2 rfl (kb_dI) (Nat.le_of_ble_eq_true rfl) (Nat.le_of_ble_eq_true rfl) d_M_put_94 (fun q H hP hD hS => ?_)
    have hqz : s.heap.size ≤ q := by
      have z9 := hD.2 _ _ kb_last
      rw [hAe] at z9
      rcases z9 with ⟨k9, h9, h8⟩ | h9
      · have z7 := hD.1 k9 (kw_w ad cs (22 + ma)).length _ _ (kb_fst (kw_at h9)) kb_last h8
        have z6 : (kw_w ad cs (22 + ma)).length = 22 + ma := by simp [kw_w]
        omega
      · exact h9
    refine lv_dup hx hb d_M_put_97 rfl ?_
    refine lv_iload_n hx hb d_M_put_98 rfl (lv_at hl 1 rfl) ?_
    refine lv_iload_n hx hb d_M_put_99 rfl (lv_at hl 2 rfl) ?_
    refine lv_iload_n hx hb d_M_put_100 rfl (lv_at hl 3 rfl) ?_
    refine lv_iload hx hb d_M_put_101 (lv_at hl 4 rfl) ?_
    refine lv_iload hx hb d_M_put_103 (lv_at hl 5 rfl) ?_
    refine lv_iload hx hb d_M_put_105 (lv_at hl 6 rfl) ?_
    refine kb_init (As := [.int (nI o9), .int (nI d9), .int (nI a9), .int (nI b9), .int n9, .int m9]) (rest := [.ref q, .int (nI ma), .ref (ad 7)]) (wl := kw_w ad cs (22 + ma)) ⟨hx, hb, hml, hown, hg⟩ ⟨callB_of 6 hg (kg_goodG kg_69) rfl rfl rfl (hg _ kg_5) (hg _ kg_67) (by decide +kernel) ⟨by decide, by decide⟩, rfl, hg _ kg_68⟩ (fun sz => c_I_init l hm) hK hP hD hS hA2 rfl hl.1 rfl (Nat.le_of_ble_eq_true rfl) d_M_put_107 ⟨Nat.le_of_ble_eq_true rfl, Nat.le_of_ble_eq_true rfl⟩ (fun t H locs ht hal hB hj hS => ?_)
    obtain ⟨hP1, -, hD1⟩ := hB
    obtain ⟨hP, hD⟩ := hj _ (by rw [← ht]; exact hP1) hD1
    rw [kw_push] at hP hD
    obtain ⟨ad1, hade⟩ : ∃ z, z = va_up ad (22 + ma) q := ⟨_, rfl⟩
    obtain ⟨cs1, hcse⟩ : ∃ z, z = va_up cs (22 + ma) (.inr (1, [.int (nI o9), .int (nI d9), .int (nI a9), .int (nI b9), .int n9, .int m9])) := ⟨_, rfl⟩
    replace hP : va_P D kc (kw_w ad1 cs1 (22 + (ma + 1))) H := by rw [hade, hcse]; exact hP
    replace hD : va_D A (kw_w ad1 cs1 (22 + (ma + 1))) := by rw [hade, hcse]; exact hD
    have had : ∀ k, k < 22 + ma → ad1 k = ad k := fun k hk => by rw [hade]; exact va_up_ne _ _ (by omega)
    have hcs : ∀ k, k < 22 + ma → cs1 k = cs k := fun k hk => by rw [hcse]; exact va_up_ne _ _ (by omega)
    have hqn : ad1 (22 + ma) = q := by rw [hade]; exact va_up_self _ _ _
    have hin : cs1 (22 + ma) = .inr (1, [.int (nI o9), .int (nI d9), .int (nI a9), .int (nI b9), .int n9, .int m9]) := by rw [hcse]; exact va_up_self _ _ _
    have hJ1 : kw_J ad1 (22 + (ma + 1)) := kw_J.of hD
    have hA1 : ∀ k, k < 22 + (ma + 1) → A (ad1 k) := fun k hk => hD.2 k _ (kw_at hk)
    replace hM := kM_ext hM had hcs
    have h7 := had 7 (by omega)
    have h0 := had 0 (by omega)
    clear hade hcse
    have hl : lv_has ls 7 [(0, .ref (ad1 0)), (1, .int (nI o9)), (2, .int (nI d9)), (3, .int (nI a9)), (4, .int (nI b9)), (5, .int n9), (6, .int m9)] := by rw [h0]; exact hl
    refine W.eq (g2 := F0 m 110 ls [.ref (ad1 (22 + ma)), .int (nI ma), .ref (ad1 7)]) (by rw [h7, hqn]) ?_
    refine kw_astq hx hb hK hP hJ1 hA1 hS 7 3 (22 + ma) 1 (by omega) (by omega) (kM_7 hM) rfl hin rfl ma rfl (by omega) (by omega) d_M_put_110 (fun H locs hP hS => ?_)
    refine lv_aload_n hx hb d_M_put_111 rfl (lv_at hl 0 rfl) ?_
    refine lv_dup hx hb d_M_put_112 rfl ?_
    refine kw_get hx hb hg in_M hown hK hP 0 (by omega) ((va_up_ne _ _ (by decide)).trans (kM_0 hM)) rfl 7 (by decide) (hg _ kg_169) rfl rfl d_M_put_113 ?_
    refine lv_iconst (v := 1) hx hb d_M_put_116 (by decide) ?_
    refine lv_iadd hx hb d_M_put_117 ?_
    refine W.eq (g2 := F0 m 118 ls [.int (nI (ma + 1)), .ref (ad1 0)]) (congrArg (fun z9 => F0 m 118 ls [.int z9, .ref (ad1 0)]) (nI_1 ma)) ?_
    refine kw_put (ty := .int) hx hb hg in_M t_M ty_M nm_M hown hK hP hJ1 hA1 hS 0 (by omega) ((va_up_ne _ _ (by decide)).trans (kM_0 hM)) rfl 7 (by decide) (hg _ kg_169) rfl rfl (by decide +kernel) rfl rfl (Nat.le_of_ble_eq_true rfl) d_M_put_118 (fun H locs hP hS => ?_)
    refine lv_aload_n hx hb d_M_put_121 rfl (lv_at hl 0 rfl) ?_
    refine kw_get hx hb hg in_M hown hK hP 0 (by omega) (va_up_self _ _ _) rfl 7 (by decide) (hg _ kg_169) rfl rfl d_M_put_122 ?_
    refine lv_iconst (v := 1) hx hb d_M_put_125 (by decide) ?_
    refine lv_isub hx hb d_M_put_126 ?_
    have hqz1 : s.heap.size ≤ ad1 (22 + ma) := by rw [hqn]; exact hqz
    exact W.iret hx hb hr (fun t ht hW => ⟨⟨_, (ad1, _), rfl, ⟨nI_pred ma, had, hqz1, hJ1, kM_put hM hin⟩, by rw [ht]; exact hP, va_K.moved hW.alike hK⟩, hS.F ht⟩) hS.2.2 d_M_put_127 hlocks
  · refine lv_iload hx hb d_M_put_46 (lv_at hl 5 rfl) ?_
    refine kw_callix (kw_rS (As := [.int n9]) (rest := []) ⟨hx, hb, hml, hown, hg⟩ ⟨callB_of 1 hg (kg_goodG kg_326) rfl rfl rfl (hg _ kg_4) (hg _ kg_324) (by decide +kernel) ⟨by decide, by decide⟩, hg _ kg_325⟩ (c_S_isCode l  ) hK hP rfl hl.1 rfl (Nat.le_of_ble_eq_true rfl) d_M_put_48 ⟨Nat.zero_le _, Nat.zero_le _⟩) hA hS (fun H locs hP hS => ?_)
    refine lv_if_ne (tgt := 62) hx hb d_M_put_51 (by decide) (fun _ => ?_) (fun h9 => absurd h9 (hcode h6))
    refine lv_aload_n hx hb d_M_put_62 rfl (lv_at hl 0 rfl) ?_
    refine kw_get hx hb hg in_M hown hK hP 0 (kM_q hn (by decide : 0 < 22)) (kM_0 hM) rfl 9 (by decide) (hg _ kg_171) rfl rfl d_M_put_63 ?_
    refine lv_if_eq (tgt := 78) hx hb d_M_put_66 (by decide) (fun h10 => absurd h10 (hst)) (fun _ => ?_)
    refine lv_aload_n hx hb d_M_put_69 rfl (lv_at hl 0 rfl) ?_
    refine kw_get hx hb hg in_M hown hK hP 0 (kM_q hn (by decide : 0 < 22)) (kM_0 hM) rfl 7 (by decide) (hg _ kg_169) rfl rfl d_M_put_70 ?_
    refine lv_bipush (v := 40) hx hb d_M_put_73 (by decide) ?_
    refine lv_icmp_lt (tgt := 86) hx hb d_M_put_75 (by decide) (fun _ => ?_) (fun h11 => absurd ((nI_ltI (b := 40) (by omega) (by omega)).mpr hma) h11)
    refine lv_aload_n hx hb d_M_put_86 rfl (lv_at hl 0 rfl) ?_
    refine kw_get hx hb hg in_M hown hK hP 0 (kM_q hn (by decide : 0 < 22)) (kM_0 hM) rfl 5 (by decide) (hg _ kg_167) rfl rfl d_M_put_87 ?_
    refine lv_aload_n hx hb d_M_put_90 rfl (lv_at hl 0 rfl) ?_
    refine kw_get hx hb hg in_M hown hK hP 0 (kM_q hn (by decide : 0 < 22)) (kM_0 hM) rfl 7 (by decide) (hg _ kg_169) rfl rfl d_M_put_91 ?_
    have hD : va_D A (kw_w ad cs (22 + ma)) := kw_D hJ hA
    refine va_new (C := R_I) (T := F_I) (N := 6) (ci := 1) (fs := [.int 0, .int 0, .int 0, .int 0, .int 0, .int 0]) hx hb hg in_I t_I ty_I hown (hg _ kg_62) (hg _ kg_66) (hg _ kg_5) hK hP hD hS hA2 rfl (kb_dI) (Nat.le_of_ble_eq_true rfl) (Nat.le_of_ble_eq_true rfl) d_M_put_94 (fun q H hP hD hS => ?_)
    have hqz : s.heap.size ≤ q := by
      have z9 := hD.2 _ _ kb_last
      rw [hAe] at z9
      rcases z9 with ⟨k9, h9, h8⟩ | h9
      · have z7 := hD.1 k9 (kw_w ad cs (22 + ma)).length _ _ (kb_fst (kw_at h9)) kb_last h8
        have z6 : (kw_w ad cs (22 + ma)).length = 22 + ma := by simp [kw_w]
        omega
      · exact h9
    refine lv_dup hx hb d_M_put_97 rfl ?_
    refine lv_iload_n hx hb d_M_put_98 rfl (lv_at hl 1 rfl) ?_
    refine lv_iload_n hx hb d_M_put_99 rfl (lv_at hl 2 rfl) ?_
    refine lv_iload_n hx hb d_M_put_100 rfl (lv_at hl 3 rfl) ?_
    refine lv_iload hx hb d_M_put_101 (lv_at hl 4 rfl) ?_
    refine lv_iload hx hb d_M_put_103 (lv_at hl 5 rfl) ?_
    refine lv_iload hx hb d_M_put_105 (lv_at hl 6 rfl) ?_
    refine kb_init (As := [.int (nI o9), .int (nI d9), .int (nI a9), .int (nI b9), .int n9, .int m9]) (rest := [.ref q, .int (nI ma), .ref (ad 7)]) (wl := kw_w ad cs (22 + ma)) ⟨hx, hb, hml, hown, hg⟩ ⟨callB_of 6 hg (kg_goodG kg_69) rfl rfl rfl (hg _ kg_5) (hg _ kg_67) (by decide +kernel) ⟨by decide, by decide⟩, rfl, hg _ kg_68⟩ (fun sz => c_I_init l hm) hK hP hD hS hA2 rfl hl.1 rfl (Nat.le_of_ble_eq_true rfl) d_M_put_107 ⟨Nat.le_of_ble_eq_true rfl, Nat.le_of_ble_eq_true rfl⟩ (fun t H locs ht hal hB hj hS => ?_)
    obtain ⟨hP1, -, hD1⟩ := hB
    obtain ⟨hP, hD⟩ := hj _ (by rw [← ht]; exact hP1) hD1
    rw [kw_push] at hP hD
    obtain ⟨ad1, hade⟩ : ∃ z, z = va_up ad (22 + ma) q := ⟨_, rfl⟩
    obtain ⟨cs1, hcse⟩ : ∃ z, z = va_up cs (22 + ma) (.inr (1, [.int (nI o9), .int (nI d9), .int (nI a9), .int (nI b9), .int n9, .int m9])) := ⟨_, rfl⟩
    replace hP : va_P D kc (kw_w ad1 cs1 (22 + (ma + 1))) H := by rw [hade, hcse]; exact hP
    replace hD : va_D A (kw_w ad1 cs1 (22 + (ma + 1))) := by rw [hade, hcse]; exact hD
    have had : ∀ k, k < 22 + ma → ad1 k = ad k := fun k hk => by rw [hade]; exact va_up_ne _ _ (by omega)
    have hcs : ∀ k, k < 22 + ma → cs1 k = cs k := fun k hk => by rw [hcse]; exact va_up_ne _ _ (by omega)
    have hqn : ad1 (22 + ma) = q := by rw [hade]; exact va_up_self _ _ _
    have hin : cs1 (22 + ma) = .inr (1, [.int (nI o9), .int (nI d9), .int (nI a9), .int (nI b9), .int n9, .int m9]) := by rw [hcse]; exact va_up_self _ _ _
    have hJ1 : kw_J ad1 (22 + (ma + 1)) := kw_J.of hD
    have hA1 : ∀ k, k < 22 + (ma + 1) → A (ad1 k) := fun k hk => hD.2 k _ (kw_at hk)
    replace hM := kM_ext hM had hcs
    have h7 := had 7 (by omega)
    have h0 := had 0 (by omega)
    clear hade hcse
    have hl : lv_has ls 7 [(0, .ref (ad1 0)), (1, .int (nI o9)), (2, .int (nI d9)), (3, .int (nI a9)), (4, .int (nI b9)), (5, .int n9), (6, .int m9)] := by rw [h0]; exact hl
    refine W.eq (g2 := F0 m 110 ls [.ref (ad1 (22 + ma)), .int (nI ma), .ref (ad1 7)]) (by rw [h7, hqn]) ?_
    refine kw_astq hx hb hK hP hJ1 hA1 hS 7 3 (22 + ma) 1 (by omega) (by omega) (kM_7 hM) rfl hin rfl ma rfl (by omega) (by omega) d_M_put_110 (fun H locs hP hS => ?_)
    refine lv_aload_n hx hb d_M_put_111 rfl (lv_at hl 0 rfl) ?_
    refine lv_dup hx hb d_M_put_112 rfl ?_
    refine kw_get hx hb hg in_M hown hK hP 0 (by omega) ((va_up_ne _ _ (by decide)).trans (kM_0 hM)) rfl 7 (by decide) (hg _ kg_169) rfl rfl d_M_put_113 ?_
    refine lv_iconst (v := 1) hx hb d_M_put_116 (by decide) ?_
    refine lv_iadd hx hb d_M_put_117 ?_
    refine W.eq (g2 := F0 m 118 ls [.int (nI (ma + 1)), .ref (ad1 0)]) (congrArg (fun z9 => F0 m 118 ls [.int z9, .ref (ad1 0)]) (nI_1 ma)) ?_
    refine kw_put (ty := .int) hx hb hg in_M t_M ty_M nm_M hown hK hP hJ1 hA1 hS 0 (by omega) ((va_up_ne _ _ (by decide)).trans (kM_0 hM)) rfl 7 (by decide) (hg _ kg_169) rfl rfl (by decide +kernel) rfl rfl (Nat.le_of_ble_eq_true rfl) d_M_put_118 (fun H locs hP hS => ?_)
    refine lv_aload_n hx hb d_M_put_121 rfl (lv_at hl 0 rfl) ?_
    refine kw_get hx hb hg in_M hown hK hP 0 (by omega) (va_up_self _ _ _) rfl 7 (by decide) (hg _ kg_169) rfl rfl d_M_put_122 ?_
    refine lv_iconst (v := 1) hx hb d_M_put_125 (by decide) ?_
    refine lv_isub hx hb d_M_put_126 ?_
    have hqz1 : s.heap.size ≤ ad1 (22 + ma) := by rw [hqn]; exact hqz
    exact W.iret hx hb hr (fun t ht hW => ⟨⟨_, (ad1, _), rfl, ⟨nI_pred ma, had, hqz1, hJ1, kM_put hM hin⟩, by rw [ht]; exact hP, va_K.moved hW.alike hK⟩, hS.F ht⟩) hS.2.2 d_M_put_127 hlocks
