/-! Bytes -/
abbrev kt (cI cB cJ cQ cW : ClassId) : List (ClassId × FieldType) := [(cI, .int), (cB, .byte), (cJ, .long), (cQ, .object "LaneMachine$Instruction"), (cW, .object "LaneMachine$Work")]
theorem kw_m1 (x : Int32) : x + Int32.ofInt (-1) = x - 1 := by
  rw [Int32.sub_eq_add_neg]
  exact congrArg (x + ·) (by decide)
theorem kw_from {p : Int32} {L w : Nat} (h1 : ¬ p < 0) (h2 : ¬ nI L - nI w < p) (hw : w ≤ L) (hL : L < 2 ^ 30) : ∃ q : Nat, q + w ≤ L ∧ p = nI q := by
  obtain ⟨q, hq, rfl⟩ := nI_of h1
  refine ⟨q, ?_, rfl⟩
  rw [pk_sub hw, nI_ltI (by omega) hq] at h2
  omega
def kv_bN (f : Nat → Int32) (q : Nat) : Nat → Int32 → Int32
  | 0, v => v
  | j + 1, v => kv_bN f q j ((v <<< (8 &&& 31)) ||| (f (q + j) &&& 255))
def kv_bare (f : Nat → Int32) (L : Nat) (p : Int32) (w : Nat) : Int32 := if p < 0 then 0 else if nI L - nI w < p then 0 else kv_bN f p.toNatClampNeg w 0

set_option maxRecDepth 100000 in
set_option maxHeartbeats 4000000 in
theorem c_B_bareNumber (l : Launch) {D : va_G} {ad : Nat → Nat} {n : Nat} {cs : Nat → va_E} {cI : ClassId} {cB : ClassId} {cJ : ClassId} {cQ : ClassId} {cW : ClassId} {q2 : Nat} {q3 : Nat} {L : Nat} {w : Nat} {x : Int32} {f : Nat → Int32} (hq2 : q2 < n) (e2 : cs q2 = .inr (0, [.ref (ad q3)])) (hq3 : q3 < n) (e3 : cs q3 = .inl (cB, L, .inl (f))) (hw : w ≤ L) (hL : L < 2 ^ 30) : kw_mi l y_B_bareNumber w_B_bareNumber (kr 0) D kc (kt cI cB cJ cQ cW) ad n cs [.ref (ad q2), .int x, .int (nI w)] (fun r9 c9 => r9 = kv_bare f L x w ∧ c9 = cs) := by
  refine kw_of (cc := b_B_bareNumber) (maxL := 5) (ret := (some .int)) (by decide) rfl (Nat.le_of_ble_eq_true rfl) ?_
  intro p e s m below meth c ls hx hb hr hml hown hts hlocks hP hK hl
  have hg : ∀ w9 ∈ kg_G, w9.before [.ref (ad q2), .int x, .int (nI w)].toArray s = true := fun w9 h9 => hts w9 (List.mem_cons_of_mem _ h9)
  have hown : s.vm.findClass "LaneMachine$Bytes" = some m.cls := hown
  have hA : ∀ k, k < n → kw_A ad n (ad k) := fun k hk => ⟨k, hk, rfl⟩
  have hS : va_S (kw_A ad n) s.heap s.heap [] := va_S.rf
  have hl : lv_has ls 5 [(0, .ref (ad q2)), (1, .int x), (2, .int (nI w))] := hl
  refine lv_iconst (v := 0) hx hb d_B_bareNumber_0 (by decide) ?_
  refine lv_istore_n (lv' := [(3, .int 0), (0, .ref (ad q2)), (1, .int x), (2, .int (nI w))]) hx hb d_B_bareNumber_1 rfl hl (by decide) rfl (fun ls hl => ?_)
  refine lv_iload_n hx hb d_B_bareNumber_2 rfl (lv_at hl 2 rfl) ?_
  refine lv_if_lt (tgt := 52) hx hb d_B_bareNumber_3 (by decide) (fun h1 => ?_) (fun h1 => ?_)
  · refine lv_iload_n hx hb d_B_bareNumber_52 rfl (lv_at hl 0 rfl) ?_
    exact kw_iret hx hb hr hlocks hP hK hS ⟨by rw [kv_bare, if_pos h1], rfl⟩ d_B_bareNumber_53
  · refine lv_iload_n hx hb d_B_bareNumber_6 rfl (lv_at hl 2 rfl) ?_
    refine lv_aload_n hx hb d_B_bareNumber_7 rfl (lv_at hl 1 rfl) ?_
    refine kw_get hx hb hg in_B hown hK hP q2 hq2 e2 rfl 0 (by decide) (hg _ kg_33) rfl rfl d_B_bareNumber_8 ?_
    refine kw_alen (v := nI L) hx hb hK hP q3 1 hq3 e3 rfl rfl d_B_bareNumber_11 ?_
    refine lv_iload_n hx hb d_B_bareNumber_12 rfl (lv_at hl 3 rfl) ?_
    refine lv_isub hx hb d_B_bareNumber_13 ?_
    refine lv_icmp_gt (tgt := 52) hx hb d_B_bareNumber_14 (by decide) (fun h2 => ?_) (fun h2 => ?_)
    · refine lv_iload_n hx hb d_B_bareNumber_52 rfl (lv_at hl 0 rfl) ?_
      exact kw_iret hx hb hr hlocks hP hK hS ⟨by rw [kv_bare, if_neg h1, if_pos h2], rfl⟩ d_B_bareNumber_53
    · obtain ⟨q, hqL, hpq⟩ := kw_from h1 h2 hw hL
      have hv0 : kv_bare f L x w = kv_bN f q w 0 := by rw [kv_bare, if_neg h1, if_neg h2, hpq, nI_clamp (by omega)]
      refine lv_iload_n hx hb d_B_bareNumber_17 rfl (lv_at hl 3 rfl) ?_
      refine lv_iconst (v := 1) hx hb d_B_bareNumber_18 (by decide) ?_
      refine lv_isub hx hb d_B_bareNumber_19 ?_
      refine lv_istore (lv' := [(4, .int ((nI w) - 1)), (3, .int 0), (0, .ref (ad q2)), (1, .int x), (2, .int (nI w))]) hx hb d_B_bareNumber_20 hl (by decide) rfl (fun ls hl => ?_)
      have loop : ∀ (kk : Nat) (v : Int32) (H : Heap) (locs : List Loc) (ls : Array Slot), kk ≤ w → kv_bare f L x w = kv_bN f q kk v → va_P D kc (kw_w ad cs n) H → va_S (kw_A ad n) s.heap H locs → lv_has ls 5 [(4, .int (nI kk - 1)), (3, .int v), (0, .ref (ad q2)), (1, .int x), (2, .int (nI w))] → W p l e (kr 0) s m [.ref (ad q2), .int x, .int (nI w)].toArray below meth c H locs 0 0 (MQ below (va_Qi (fun r9 c9 => r9 = kv_bare f L x w ∧ c9 = cs) (kw_Pre D kc (kt cI cB cJ cQ cW) ad n) (kw_A ad n)) [.ref (ad q2), .int x, .int (nI w)].toArray s 0 0 (kw_A ad n)) (F0 m 22 ls []) := by
        intro kk
        induction kk with
        | zero =>
          intro v H locs ls hk hv hP hS hl
          refine lv_iload hx hb d_B_bareNumber_22 (lv_at hl 0 rfl) ?_
          refine lv_if_lt (tgt := 52) hx hb d_B_bareNumber_24 (by decide) (fun _ => ?_) (fun h3 => absurd (by decide) h3)
          refine lv_iload_n hx hb d_B_bareNumber_52 rfl (lv_at hl 1 rfl) ?_
          exact kw_iret hx hb hr hlocks hP hK hS ⟨hv.symm, rfl⟩ d_B_bareNumber_53
        | succ j ih =>
          intro v H locs ls hk hv hP hS hl
          refine lv_iload hx hb d_B_bareNumber_22 (lv_at hl 0 rfl) ?_
          refine lv_if_lt (tgt := 52) hx hb d_B_bareNumber_24 (by decide) (fun h4 => absurd h4 (by rw [nI_pred]; exact nI_pos (by omega))) (fun _ => ?_)
          refine lv_iload_n hx hb d_B_bareNumber_27 rfl (lv_at hl 1 rfl) ?_
          refine lv_bipush (v := 8) hx hb d_B_bareNumber_28 (by decide) ?_
          refine lv_ishl hx hb d_B_bareNumber_30 ?_
          refine lv_aload_n hx hb d_B_bareNumber_31 rfl (lv_at hl 2 rfl) ?_
          refine kw_get hx hb hg in_B hown hK hP q2 hq2 e2 rfl 0 (by decide) (hg _ kg_33) rfl rfl d_B_bareNumber_32 ?_
          refine lv_iload_n hx hb d_B_bareNumber_35 rfl (lv_at hl 3 rfl) ?_
          refine lv_iload hx hb d_B_bareNumber_36 (lv_at hl 0 rfl) ?_
          refine lv_iadd hx hb d_B_bareNumber_38 ?_
          refine kw_bald hx hb hK hP q3 1 hq3 e3 rfl (q + j) (by rw [hpq, nI_pred, nI_add]) (by omega) (by omega) d_B_bareNumber_39 ?_
          refine lv_sipush (v := 255) hx hb d_B_bareNumber_40 (by decide) ?_
          refine lv_iand hx hb d_B_bareNumber_43 ?_
          refine lv_ior hx hb d_B_bareNumber_44 ?_
          refine lv_istore_n (lv' := [(3, .int ((v <<< (8 &&& 31)) ||| ((f (q + j)) &&& 255))), (4, .int (nI (j + 1) - 1)), (0, .ref (ad q2)), (1, .int x), (2, .int (nI w))]) hx hb d_B_bareNumber_45 rfl hl (by decide) rfl (fun ls hl => ?_)
          refine lv_iinc (k := 1) (v := nI j - 1) (lv' := [(4, .int (nI j - 1)), (3, .int ((v <<< (8 &&& 31)) ||| ((f (q + j)) &&& 255))), (0, .ref (ad q2)), (1, .int x), (2, .int (nI w))]) hx hb d_B_bareNumber_46 hl rfl (by rw [nI_pred]; exact kw_m1 _) (by decide) rfl (fun ls hl => ?_)
          refine lv_goto (tgt := 22) hx hb d_B_bareNumber_49 (by decide) ?_
          exact ih _ _ _ _ (by omega) (hv) (hP) hS (lv_sub hl [0, 1, 2, 3, 4] rfl)
      exact loop w 0 _ _ _ (Nat.le_refl _) (hv0) (hP) hS (lv_sub hl [0, 1, 2, 3, 4] rfl)

def kv_B_number (L : Nat) (w : Nat) (x : Int32) (f : Nat → Int32) : Int32 := ((kv_bare f L x w) <<< ((32 - (8 * (nI w))) &&& 31)) >>> ((32 - (8 * (nI w))) &&& 31)
set_option maxRecDepth 100000 in
set_option maxHeartbeats 4000000 in
theorem c_B_number (l : Launch) {D : va_G} {ad : Nat → Nat} {n : Nat} {cs : Nat → va_E} {cI : ClassId} {cB : ClassId} {cJ : ClassId} {cQ : ClassId} {cW : ClassId} {q2 : Nat} {q3 : Nat} {L : Nat} {w : Nat} {x : Int32} {f : Nat → Int32} (hq2 : q2 < n) (e2 : cs q2 = .inr (0, [.ref (ad q3)])) (hq3 : q3 < n) (e3 : cs q3 = .inl (cB, L, .inl (f))) (hw : w ≤ L) (hL : L < 2 ^ 30) : kw_mi l y_B_number w_B_number (kr 1) D kc (kt cI cB cJ cQ cW) ad n cs [.ref (ad q2), .int x, .int (nI w)] (fun r9 c9 => r9 = kv_B_number L w x f ∧ c9 = cs) := by
  refine kw_of (cc := b_B_number) (maxL := 4) (ret := (some .int)) (by decide) rfl (Nat.le_of_ble_eq_true rfl) ?_
  intro p e s m below meth c ls hx hb hr hml hown hts hlocks hP hK hl
  have hg : ∀ w9 ∈ kg_G, w9.before [.ref (ad q2), .int x, .int (nI w)].toArray s = true := fun w9 h9 => hts w9 (List.mem_cons_of_mem _ h9)
  have hown : s.vm.findClass "LaneMachine$Bytes" = some m.cls := hown
  have hA : ∀ k, k < n → kw_A ad n (ad k) := fun k hk => ⟨k, hk, rfl⟩
  have hS : va_S (kw_A ad n) s.heap s.heap [] := va_S.rf
  have hl : lv_has ls 4 [(0, .ref (ad q2)), (1, .int x), (2, .int (nI w))] := hl
  refine lv_bipush (v := 32) hx hb d_B_number_0 (by decide) ?_
  refine lv_bipush (v := 8) hx hb d_B_number_2 (by decide) ?_
  refine lv_iload_n hx hb d_B_number_4 rfl (lv_at hl 2 rfl) ?_
  refine lv_imul hx hb d_B_number_5 ?_
  refine lv_isub hx hb d_B_number_6 ?_
  refine lv_istore_n (lv' := [(3, .int (32 - (8 * (nI w)))), (0, .ref (ad q2)), (1, .int x), (2, .int (nI w))]) hx hb d_B_number_7 rfl hl (by decide) rfl (fun ls hl => ?_)
  refine lv_aload_n hx hb d_B_number_8 rfl (lv_at hl 1 rfl) ?_
  refine lv_iload_n hx hb d_B_number_9 rfl (lv_at hl 2 rfl) ?_
  refine lv_iload_n hx hb d_B_number_10 rfl (lv_at hl 3 rfl) ?_
  refine kw_callix (kw_rV (As := [.int x, .int (nI w)]) (rest := []) (q0 := q2) ⟨hx, hb, hml, hown, hg⟩ ⟨callB_of 2 hg (kg_goodG kg_220) rfl rfl rfl (hg _ kg_3) (hg _ kg_217) (by decide +kernel) ⟨by decide, by decide⟩, hg _ kg_218, hg _ kg_219⟩ (c_B_bareNumber l hq2 e2 hq3 e3 hw hL ) hK hP hq2 e2 rfl rfl hl.1 rfl (Nat.le_of_ble_eq_true rfl) d_B_number_11 ⟨Nat.zero_le _, Nat.zero_le _⟩) hA hS (fun H locs hP hS => ?_)
  refine lv_iload_n hx hb d_B_number_14 rfl (lv_at hl 0 rfl) ?_
  refine lv_ishl hx hb d_B_number_15 ?_
  refine lv_iload_n hx hb d_B_number_16 rfl (lv_at hl 0 rfl) ?_
  refine lv_ishr hx hb d_B_number_17 ?_
  exact kw_iret hx hb hr hlocks hP hK hS ⟨by rw [kv_B_number], rfl⟩ d_B_number_18

theorem kw_id {cs : Nat → va_E} {k : Nat} {e : va_E} (h : cs k = e) : va_up cs k e = cs := funext fun j => by
  by_cases hj : j = k
  · subst hj; rw [va_up_self, h]
  · rw [va_up_ne _ _ hj]
def kv_wN (v : Int32) (q : Nat) : Nat → Nat → (Nat → Int32) → Nat → Int32
  | 0, _, f => f
  | k + 1, i, f => kv_wN v q k (i + 1) (upd f (q + i) (vp_nar .byte ((v >>> ((8 * nI i) &&& 31)).toInt8.toInt32)))
def kv_write (f : Nat → Int32) (L : Nat) (x : Int32) (w : Nat) (v : Int32) : Nat → Int32 := if x < 0 then f else if nI L - nI w < x then f else kv_wN v x.toNatClampNeg w 0 f

set_option maxRecDepth 100000 in
set_option maxHeartbeats 4000000 in
theorem c_B_write (l : Launch) {D : va_G} {ad : Nat → Nat} {n : Nat} {cs : Nat → va_E} (hJ : kw_J ad n) {cI : ClassId} {cB : ClassId} {cJ : ClassId} {cQ : ClassId} {cW : ClassId} {q2 : Nat} {q3 : Nat} {L : Nat} {w : Nat} {x : Int32} {v : Int32} {f : Nat → Int32} (hq2 : q2 < n) (e2 : cs q2 = .inr (0, [.ref (ad q3)])) (hq3 : q3 < n) (e3 : cs q3 = .inl (cB, L, .inl (f))) (hw : w ≤ L) (hL : L < 2 ^ 30) : kw_mv l y_B_write w_B_write (kr 0) D kc (kt cI cB cJ cQ cW) ad n cs [.ref (ad q2), .int x, .int (nI w), .int v] (fun c9 => c9 = va_up cs q3 (.inl (cB, L, .inl (kv_write f L x w v)))) := by
  refine kw_of (cc := b_B_write) (maxL := 5) (ret := none) (by decide) rfl (Nat.le_of_ble_eq_true rfl) ?_
  intro p e s m below meth c ls hx hb hr hml hown hts hlocks hP hK hl
  have hg : ∀ w9 ∈ kg_G, w9.before [.ref (ad q2), .int x, .int (nI w), .int v].toArray s = true := fun w9 h9 => hts w9 (List.mem_cons_of_mem _ h9)
  have hown : s.vm.findClass "LaneMachine$Bytes" = some m.cls := hown
  have hA : ∀ k, k < n → kw_A ad n (ad k) := fun k hk => ⟨k, hk, rfl⟩
  have hS : va_S (kw_A ad n) s.heap s.heap [] := va_S.rf
  have hl : lv_has ls 5 [(0, .ref (ad q2)), (1, .int x), (2, .int (nI w)), (3, .int v)] := hl
  have hn23 : q2 ≠ q3 := fun h => by rw [h, e3] at e2; cases e2
  refine lv_iload_n hx hb d_B_write_0 rfl (lv_at hl 1 rfl) ?_
  refine lv_if_lt (tgt := 47) hx hb d_B_write_1 (by decide) (fun h1 => ?_) (fun h1 => ?_)
  · exact kw_vret hx hb hr hlocks hP hK hS ((by rw [kv_write, if_pos h1]; exact (kw_id e3).symm)) d_B_write_47
  · refine lv_iload_n hx hb d_B_write_4 rfl (lv_at hl 1 rfl) ?_
    refine lv_aload_n hx hb d_B_write_5 rfl (lv_at hl 0 rfl) ?_
    refine kw_get hx hb hg in_B hown hK hP q2 hq2 e2 rfl 0 (by decide) (hg _ kg_33) rfl rfl d_B_write_6 ?_
    refine kw_alen (v := nI L) hx hb hK hP q3 1 hq3 e3 rfl rfl d_B_write_9 ?_
    refine lv_iload_n hx hb d_B_write_10 rfl (lv_at hl 2 rfl) ?_
    refine lv_isub hx hb d_B_write_11 ?_
    refine lv_icmp_gt (tgt := 47) hx hb d_B_write_12 (by decide) (fun h2 => ?_) (fun h2 => ?_)
    · exact kw_vret hx hb hr hlocks hP hK hS ((by rw [kv_write, if_neg h1, if_pos h2]; exact (kw_id e3).symm)) d_B_write_47
    · obtain ⟨q, hqL, hpq⟩ := kw_from h1 h2 hw hL
      have hv0 : kv_write f L x w v = kv_wN v q w 0 f := by rw [kv_write, if_neg h1, if_neg h2, hpq, nI_clamp (by omega)]
      refine lv_iconst (v := 0) hx hb d_B_write_15 (by decide) ?_
      refine lv_istore (lv' := [(4, .int 0), (0, .ref (ad q2)), (1, .int x), (2, .int (nI w)), (3, .int v)]) hx hb d_B_write_16 hl (by decide) rfl (fun ls hl => ?_)
      have loop : ∀ (kk : Nat) (i : Nat) (f1 : Nat → Int32) (H : Heap) (locs : List Loc) (ls : Array Slot), i + kk = w → kv_write f L x w v = kv_wN v q kk i f1 → va_P D kc (kw_w ad (va_up cs q3 (.inl (cB, L, .inl (f1)))) n) H → va_S (kw_A ad n) s.heap H locs → lv_has ls 5 [(4, .int (nI i)), (0, .ref (ad q2)), (1, .int x), (2, .int (nI w)), (3, .int v)] → W p l e (kr 0) s m [.ref (ad q2), .int x, .int (nI w), .int v].toArray below meth c H locs 0 0 (MQ below (va_Qv (fun c9 => c9 = va_up cs q3 (.inl (cB, L, .inl (kv_write f L x w v)))) (kw_Pre D kc (kt cI cB cJ cQ cW) ad n) (kw_A ad n)) [.ref (ad q2), .int x, .int (nI w), .int v].toArray s 0 0 (kw_A ad n)) (F0 m 18 ls []) := by
        intro kk
        induction kk with
        | zero =>
          intro i f1 H locs ls hik hv hP hS hl
          have e2 : (va_up cs q3 (.inl (cB, L, .inl (f1)))) q2 = .inr (0, [.ref (ad q3)]) := (va_up_ne _ _ hn23).trans e2
          have e3 : (va_up cs q3 (.inl (cB, L, .inl (f1)))) q3 = .inl (cB, L, .inl (f1)) := va_up_self _ _ _
          refine lv_iload hx hb d_B_write_18 (lv_at hl 0 rfl) ?_
          refine lv_iload_n hx hb d_B_write_20 rfl (lv_at hl 3 rfl) ?_
          refine lv_icmp_ge (tgt := 47) hx hb d_B_write_21 (by decide) (fun _ => ?_) (fun h3 => absurd (nI_le (by omega) (by omega)) h3)
          exact kw_vret hx hb hr hlocks hP hK hS (by rw [hv, kv_wN]) d_B_write_47
        | succ j ih =>
          intro i f1 H locs ls hik hv hP hS hl
          have e2 : (va_up cs q3 (.inl (cB, L, .inl (f1)))) q2 = .inr (0, [.ref (ad q3)]) := (va_up_ne _ _ hn23).trans e2
          have e3 : (va_up cs q3 (.inl (cB, L, .inl (f1)))) q3 = .inl (cB, L, .inl (f1)) := va_up_self _ _ _
          refine lv_iload hx hb d_B_write_18 (lv_at hl 0 rfl) ?_
          refine lv_iload_n hx hb d_B_write_20 rfl (lv_at hl 3 rfl) ?_
          refine lv_icmp_ge (tgt := 47) hx hb d_B_write_21 (by decide) (fun h4 => absurd h4 (nI_ge (by omega) (by omega))) (fun _ => ?_)
          refine lv_aload_n hx hb d_B_write_24 rfl (lv_at hl 1 rfl) ?_
          refine kw_get hx hb hg in_B hown hK hP q2 hq2 e2 rfl 0 (by decide) (hg _ kg_33) rfl rfl d_B_write_25 ?_
          refine lv_iload_n hx hb d_B_write_28 rfl (lv_at hl 2 rfl) ?_
          refine lv_iload hx hb d_B_write_29 (lv_at hl 0 rfl) ?_
          refine lv_iadd hx hb d_B_write_31 ?_
          refine lv_iload_n hx hb d_B_write_32 rfl (lv_at hl 4 rfl) ?_
          refine lv_bipush (v := 8) hx hb d_B_write_33 (by decide) ?_
          refine lv_iload hx hb d_B_write_35 (lv_at hl 0 rfl) ?_
          refine lv_imul hx hb d_B_write_37 ?_
          refine lv_ishr hx hb d_B_write_38 ?_
          refine lv_i2b hx hb d_B_write_39 rfl ?_
          refine kw_bast hx hb hK hP hJ hA hS q3 1 hq3 e3 rfl (q + i) (by rw [hpq, nI_add]) (by omega) (by omega) d_B_write_40 (fun H locs hP hS => ?_)
          have e2 : (va_up (va_up cs q3 (.inl (cB, L, .inl (f1)))) q3 (.inl (cB, L, .inl (upd f1 (q + i) (vp_nar .byte ((v >>> ((8 * (nI i)) &&& 31)).toInt8.toInt32)))))) q2 = .inr (0, [.ref (ad q3)]) := (va_up_ne _ _ (hn23)).trans e2
          have e3 : (va_up (va_up cs q3 (.inl (cB, L, .inl (f1)))) q3 (.inl (cB, L, .inl (upd f1 (q + i) (vp_nar .byte ((v >>> ((8 * (nI i)) &&& 31)).toInt8.toInt32)))))) q3 = .inl (cB, L, .inl (upd f1 (q + i) (vp_nar .byte ((v >>> ((8 * (nI i)) &&& 31)).toInt8.toInt32)))) := va_up_self _ _ _
          refine lv_iinc (k := 0) (v := nI (i + 1)) (lv' := [(4, .int (nI (i + 1))), (0, .ref (ad q2)), (1, .int x), (2, .int (nI w)), (3, .int v)]) hx hb d_B_write_41 hl rfl ((nI_succ i).symm) (by decide) rfl (fun ls hl => ?_)
          refine lv_goto (tgt := 18) hx hb d_B_write_44 (by decide) ?_
          exact ih ((i + 1)) _ _ _ _ (by omega) (hv) (by rw [bx_uu] at hP; exact hP) hS (lv_sub hl [0, 1, 2, 3, 4] rfl)
      exact loop w 0 f _ _ _ (by omega) (hv0) (by rw [kw_id e3]; exact hP) hS (lv_sub hl [0, 1, 2, 3, 4] rfl)
