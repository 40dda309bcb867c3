/-! Bytes -/
abbrev kt (cI cB cJ cQ cW : ClassId) : List (ClassId × FieldType) := [(cI, .int), (cB, .byte), (cJ, .long), (cQ, .object "LaneMachine$Instruction"), (cW, .object "LaneMachine$Work")]
theorem kw_m1 (x : Int32) : x + Int32.ofInt (-1) = x - 1 := by
  rw [Int32.sub_eq_add_neg]
  exact congrArg (x + ·) (by decide)
theorem kw_from {p : Int32} {L w : Nat} (h1 : ¬ p < 0) (h2 : ¬ nI L - nI w < p) (hw : w ≤ L) (hL : L < 2 ^ 30) : ∃ q : Nat, q + w ≤ L ∧ p = nI q := by
  obtain ⟨q, hq, rfl⟩ := nI_of h1
  refine ⟨q, ?_, rfl⟩
  rw [pk_sub hw, nI_ltI (by omega) hq] at h2
  omega
def kv_bN (f : Nat → Int32) (q : Nat) : Nat → Int32 → Int32
  | 0, v => v
  | j + 1, v => kv_bN f q j ((v <<< (8 &&& 31)) ||| (f (q + j) &&& 255))
def kv_bare (f : Nat → Int32) (L : Nat) (p : Int32) (w : Nat) : Int32 := if p < 0 then 0 else if nI L - nI w < p then 0 else kv_bN f p.toNatClampNeg w 0

set_option maxRecDepth 100000 in
set_option maxHeartbeats 4000000 in
theorem c_B_bareNumber (l : Launch) {D : va_G} {ad : Nat → Nat} {n : Nat} {cs : Nat → va_E} {cI cB cJ cQ cW : ClassId} {q2 q3 L w : Nat} {x : Int32} {f : Nat → Int32} (hq2 : q2 < n) (e2 : cs q2 = .inr (0, [.ref (ad q3)])) (hq3 : q3 < n) (e3 : cs q3 = .inl (cB, L, .inl (f))) (hw : w ≤ L) (hL : L < 2 ^ 30) : kw_mi l y_B_bareNumber w_B_bareNumber (kr 0) D kc (kt cI cB cJ cQ cW) ad n cs [.ref (ad q2), .int x, .int (nI w)] (fun r c => r = kv_bare f L x w ∧ c = cs) := by
  refine kw_of (cc := b_B_bareNumber) (maxL := 5) (ret := (some .int)) (by decide) rfl (Nat.le_of_ble_eq_true rfl) ?_
  intro p e s m below meth c ls hx hb hr hml hown hts hlocks hP hK hl
  have hg : ∀ w9 ∈ kg_G, w9.before [.ref (ad q2), .int x, .int (nI w)].toArray s = true := fun w9 h9 => hts w9 (List.mem_cons_of_mem _ h9)
  have hown : s.vm.findClass "LaneMachine$Bytes" = some m.cls := hown
  have hA : ∀ k, k < n → kw_A ad n (ad k) := fun k hk => ⟨k, hk, rfl⟩
  have hS : va_S (kw_A ad n) s.heap s.heap [] := va_S.rf
  have hl : lv_has ls 5 [(0, .ref (ad q2)), (1, .int x), (2, .int (nI w))] := hl
  refine lv_iconst (v := 0) hx hb d_B_bareNumber_0 (by decide) ?_
  refine lv_istore_n (lv' := [(3, .int 0), (0, .ref (ad q2)), (1, .int x), (2, .int (nI w))]) hx hb d_B_bareNumber_1 rfl hl (by decide) rfl (fun ls hl => ?_)
  refine lv_iload_n hx hb d_B_bareNumber_2 rfl (lv_at hl 2 rfl) ?_
  refine lv_if_lt (tgt := 52) hx hb d_B_bareNumber_3 (by decide) (fun h1 => ?_) (fun h1 => ?_)
  · refine lv_iload_n hx hb d_B_bareNumber_52 rfl (lv_at hl 0 rfl) ?_
    exact kw_iret hx hb hr hlocks hP hK hS ⟨by rw [kv_bare, if_pos h1], rfl⟩ d_B_bareNumber_53
  · refine lv_iload_n hx hb d_B_bareNumber_6 rfl (lv_at hl 2 rfl) ?_
    refine lv_aload_n hx hb d_B_bareNumber_7 rfl (lv_at hl 1 rfl) ?_
    refine kw_get hx hb hg in_B hown hK hP q2 hq2 e2 rfl 0 (by decide) (hg _ kg_33) rfl rfl d_B_bareNumber_8 ?_
    refine kw_alen (v := nI L) hx hb hK hP q3 1 hq3 e3 rfl rfl d_B_bareNumber_11 ?_
    refine lv_iload_n hx hb d_B_bareNumber_12 rfl (lv_at hl 3 rfl) ?_
    refine lv_isub hx hb d_B_bareNumber_13 ?_
    refine lv_icmp_gt (tgt := 52) hx hb d_B_bareNumber_14 (by decide) (fun h2 => ?_) (fun h2 => ?_)
    · refine lv_iload_n hx hb d_B_bareNumber_52 rfl (lv_at hl 0 rfl) ?_
      exact kw_iret hx hb hr hlocks hP hK hS ⟨by rw [kv_bare, if_neg h1, if_pos h2], rfl⟩ d_B_bareNumber_53
    · obtain ⟨q, hqL, hpq⟩ := kw_from h1 h2 hw hL
      have hv0 : kv_bare f L x w = kv_bN f q w 0 := by rw [kv_bare, if_neg h1, if_neg h2, hpq, nI_clamp (by omega)]
      refine lv_iload_n hx hb d_B_bareNumber_17 rfl (lv_at hl 3 rfl) ?_
      refine lv_iconst (v := 1) hx hb d_B_bareNumber_18 (by decide) ?_
      refine lv_isub hx hb d_B_bareNumber_19 ?_
      refine lv_istore (lv' := [(4, .int ((nI w) - 1)), (3, .int 0), (0, .ref (ad q2)), (1, .int x), (2, .int (nI w))]) hx hb d_B_bareNumber_20 hl (by decide) rfl (fun ls hl => ?_)
      have loop : ∀ (kk : Nat) (v : Int32) (H : Heap) (locs : List Loc) (ls : Array Slot), kk ≤ w → kv_bare f L x w = kv_bN f q kk v → va_P D kc (kw_w ad cs n) H → va_S (kw_A ad n) s.heap H locs → lv_has ls 5 [(4, .int (nI kk - 1)), (3, .int v), (0, .ref (ad q2)), (1, .int x), (2, .int (nI w))] → W p l e (kr 0) s m [.ref (ad q2), .int x, .int (nI w)].toArray below meth c H locs 0 0 (MQ below (va_Qi (fun r c => r = kv_bare f L x w ∧ c = cs) (kw_Pre D kc (kt cI cB cJ cQ cW) ad n) (kw_A ad n)) [.ref (ad q2), .int x, .int (nI w)].toArray s 0 0 (kw_A ad n)) (F0 m 22 ls []) := by
        intro kk
        induction kk with
        | zero =>
          intro v H locs ls hk hv hP hS hl
          refine lv_iload hx hb d_B_bareNumber_22 (lv_at hl 0 rfl) ?_
          refine lv_if_lt (tgt := 52) hx hb d_B_bareNumber_24 (by decide) (fun _ => ?_) (fun h3 => absurd (by decide) h3)
          refine lv_iload_n hx hb d_B_bareNumber_52 rfl (lv_at hl 1 rfl) ?_
          exact kw_iret hx hb hr hlocks hP hK hS ⟨hv.symm, rfl⟩ d_B_bareNumber_53
        | succ j ih =>
          intro v H locs ls hk hv hP hS hl
          refine lv_iload hx hb d_B_bareNumber_22 (lv_at hl 0 rfl) ?_
          refine lv_if_lt (tgt := 52) hx hb d_B_bareNumber_24 (by decide) (fun h4 => absurd h4 (by rw [nI_pred]; exact nI_pos (by omega))) (fun _ => ?_)
          refine lv_iload_n hx hb d_B_bareNumber_27 rfl (lv_at hl 1 rfl) ?_
          refine lv_bipush (v := 8) hx hb d_B_bareNumber_28 (by decide) ?_
          refine lv_ishl hx hb d_B_bareNumber_30 ?_
          refine lv_aload_n hx hb d_B_bareNumber_31 rfl (lv_at hl 2 rfl) ?_
          refine kw_get hx hb hg in_B hown hK hP q2 hq2 e2 rfl 0 (by decide) (hg _ kg_33) rfl rfl d_B_bareNumber_32 ?_
          refine lv_iload_n hx hb d_B_bareNumber_35 rfl (lv_at hl 3 rfl) ?_
          refine lv_iload hx hb d_B_bareNumber_36 (lv_at hl 0 rfl) ?_
          refine lv_iadd hx hb d_B_bareNumber_38 ?_
          refine kw_bald hx hb hK hP q3 1 hq3 e3 rfl (q + j) (by rw [hpq, nI_pred, nI_add]) (by omega) (by omega) d_B_bareNumber_39 ?_
          refine lv_sipush (v := 255) hx hb d_B_bareNumber_40 (by decide) ?_
          refine lv_iand hx hb d_B_bareNumber_43 ?_
          refine lv_ior hx hb d_B_bareNumber_44 ?_
          refine lv_istore_n (lv' := [(3, .int ((v <<< (8 &&& 31)) ||| ((f (q + j)) &&& 255))), (4, .int (nI (j + 1) - 1)), (0, .ref (ad q2)), (1, .int x), (2, .int (nI w))]) hx hb d_B_bareNumber_45 rfl hl (by decide) rfl (fun ls hl => ?_)
          refine lv_iinc (k := 1) (v := nI j - 1) (lv' := [(4, .int (nI j - 1)), (3, .int ((v <<< (8 &&& 31)) ||| ((f (q + j)) &&& 255))), (0, .ref (ad q2)), (1, .int x), (2, .int (nI w))]) hx hb d_B_bareNumber_46 hl rfl (by rw [nI_pred]; exact kw_m1 _) (by decide) rfl (fun ls hl => ?_)
          refine lv_goto (tgt := 22) hx hb d_B_bareNumber_49 (by decide) ?_
          exact ih _ _ _ _ (by omega) (hv) hP hS (lv_sub hl [0, 1, 2, 3, 4] rfl)
      exact loop w 0 _ _ _ (Nat.le_refl _) (hv0) hP hS (lv_sub hl [0, 1, 2, 3, 4] rfl)
