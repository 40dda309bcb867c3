/-! Work: what writes -/
def kv_fb (w : Nat) (xa xb op rb mk : Int32) (f : Nat → Int32) (x : Int32) : Nat → Nat → Int32
  | 0, _ => -1
  | k + 1, i => if kv_K_placeInMemory w xa xb op rb f (nI i) < 0 then (if kv_K_isWorkedOn mk f (nI i) = 0 then kv_fb w xa xb op rb mk f x k (i + 1) else nI i)
    else if kv_K_placeInMemory w xa xb op rb f (nI i) ≤ (x - nI w) then kv_fb w xa xb op rb mk f x k (i + 1) else if kv_K_isWorkedOn mk f (nI i) = 0 then kv_fb w xa xb op rb mk f x k (i + 1) else nI i
def kv_K_firstBad (w fr tt : Nat) (xa xb op rb mk : Int32) (f : Nat → Int32) (x : Int32) : Int32 := kv_fb w xa xb op rb mk f x (tt - fr) fr

set_option maxRecDepth 100000 in
set_option maxHeartbeats 4000000 in
theorem c_K_firstBad (l : Launch) {D : va_G} {ad : Nat → Nat} {n : Nat} {cs : Nat → va_E} {cI : ClassId} {cB : ClassId} {cJ : ClassId} {cQ : ClassId} {cW : ClassId} {qk : Nat} {q1 : Nat} {q2 : Nat} {q3 : Nat} {q4 : Nat} {q6 : Nat} {q7 : Nat} {w : Nat} {fr : Nat} {tt : Nat} {dn : Nat} {db : Nat} {gr : Int32} {mo : Int32} {xa : Int32} {xb : Int32} {nu : Int32} {op : Int32} {rd : Int32} {ra : Int32} {rb : Int32} {rn : Int32} {mk : Int32} {f : Nat → Int32} {x : Int32} (hqk : qk < n) (ek : cs qk = .inr (3, [.ref (ad q2), .ref (ad q4), .ref (ad q6), .ref (ad q7), .int (nI w), .int gr, .int mo, .int xa, .int xb, .int (nI fr), .ref (ad q1), .int nu, .int (nI tt), .int (nI dn), .int (nI db)])) (hq1 : q1 < n) (e1 : cs q1 = .inr (1, [.int op, .int rd, .int ra, .int rb, .int rn, .int mk])) (hq2 : q2 < n) (e2 : cs q2 = .inr (0, [.ref (ad q3)])) (hq3 : q3 < n) (e3 : cs q3 = .inl (cB, 64, .inl (f))) (hw : w ≤ 64) (hft : fr ≤ tt) (htt : tt < 2 ^ 30) : kw_mi l y_K_firstBad w_K_firstBad (kr 2) D kc (kt cI cB cJ cQ cW) ad n cs [.ref (ad qk), .int x] (fun r9 c9 => r9 = kv_K_firstBad w fr tt xa xb op rb mk f x ∧ c9 = cs) := by
  refine kw_of (cc := b_K_firstBad) (maxL := 4) (ret := (some .int)) (by decide) rfl (Nat.le_of_ble_eq_true rfl) ?_
  intro p e s m below meth c ls hx hb hr hml hown hts hlocks hP hK hl
  have hg : ∀ w9 ∈ kg_G, w9.before [.ref (ad qk), .int x].toArray s = true := fun w9 h9 => hts w9 (List.mem_cons_of_mem _ h9)
  have hown : s.vm.findClass "LaneMachine$Work" = some m.cls := hown
  have hA : ∀ k, k < n → kw_A ad n (ad k) := fun k hk => ⟨k, hk, rfl⟩
  have hS : va_S (kw_A ad n) s.heap s.heap [] := va_S.rf
  have hl : lv_has ls 4 [(0, .ref (ad qk)), (1, .int x)] := hl
  refine lv_aload_n hx hb d_K_firstBad_0 rfl (lv_at hl 0 rfl) ?_
  refine kw_get hx hb hg in_K hown hK hP qk hqk ek rfl 9 (by decide) (hg _ kg_120) rfl rfl d_K_firstBad_1 ?_
  refine lv_istore_n (lv' := [(2, .int (nI fr)), (0, .ref (ad qk)), (1, .int x)]) hx hb d_K_firstBad_4 rfl hl (by decide) rfl (fun ls hl => ?_)
  have loop : ∀ (kk : Nat) (i : Nat) (H : Heap) (locs : List Loc) (ls : Array Slot), i + kk = tt → kv_K_firstBad w fr tt xa xb op rb mk f x = kv_fb w xa xb op rb mk f x kk i → va_P D kc (kw_w ad cs n) H → va_S (kw_A ad n) s.heap H locs → lv_has ls 4 [(2, .int (nI i)), (0, .ref (ad qk)), (1, .int x)] → W p l e (kr 2) s m [.ref (ad qk), .int x].toArray below meth c H locs 0 0 (MQ below (va_Qi (fun r9 c9 => r9 = kv_K_firstBad w fr tt xa xb op rb mk f x ∧ c9 = cs) (kw_Pre D kc (kt cI cB cJ cQ cW) ad n) (kw_A ad n)) [.ref (ad qk), .int x].toArray s 0 0 (kw_A ad n)) (F0 m 5 ls []) := by
    intro kk
    induction kk with
    | zero =>
      intro i H locs ls hik hv hP hS hl
      refine lv_iload_n hx hb d_K_firstBad_5 rfl (lv_at hl 0 rfl) ?_
      refine lv_aload_n hx hb d_K_firstBad_6 rfl (lv_at hl 1 rfl) ?_
      refine kw_get hx hb hg in_K hown hK hP qk hqk ek rfl 12 (by decide) (hg _ kg_125) rfl rfl d_K_firstBad_7 ?_
      refine lv_icmp_ge (tgt := 49) hx hb d_K_firstBad_10 (by decide) (fun _ => ?_) (fun h1 => absurd (nI_le (by omega) (by omega)) h1)
      refine lv_iconst (v := (-1)) hx hb d_K_firstBad_49 (by decide) ?_
      exact kw_iret hx hb hr hlocks hP hK hS ⟨hv.symm, rfl⟩ d_K_firstBad_50
    | succ j ih =>
      intro i H locs ls hik hv hP hS hl
      refine lv_iload_n hx hb d_K_firstBad_5 rfl (lv_at hl 0 rfl) ?_
      refine lv_aload_n hx hb d_K_firstBad_6 rfl (lv_at hl 1 rfl) ?_
      refine kw_get hx hb hg in_K hown hK hP qk hqk ek rfl 12 (by decide) (hg _ kg_125) rfl rfl d_K_firstBad_7 ?_
      refine lv_icmp_ge (tgt := 49) hx hb d_K_firstBad_10 (by decide) (fun h2 => absurd h2 (nI_ge (by omega) (by omega))) (fun _ => ?_)
      refine lv_aload_n hx hb d_K_firstBad_13 rfl (lv_at hl 1 rfl) ?_
      refine lv_iload_n hx hb d_K_firstBad_14 rfl (lv_at hl 0 rfl) ?_
      refine kw_callix (kw_rV (As := [.int (nI i)]) (rest := []) (q0 := qk) ⟨hx, hb, hml, hown, hg⟩ ⟨callB_of 1 hg (kg_goodG kg_452) rfl rfl rfl (hg _ kg_6) (hg _ kg_449) (by decide +kernel) ⟨by decide, by decide⟩, hg _ kg_451, hg _ (kg_sel (q := (y_K_placeInMemory, 15)) (by decide +kernel))⟩ (c_K_placeInMemory l hqk ek hq1 e1 hq2 e2 hq3 e3 hw ) hK hP hqk ek rfl rfl hl.1 rfl (Nat.le_of_ble_eq_true rfl) d_K_firstBad_15 ⟨Nat.zero_le _, Nat.zero_le _⟩) hA hS (fun H locs hP hS => ?_)
      refine lv_istore_n (lv' := [(3, .int (kv_K_placeInMemory w xa xb op rb f (nI i))), (2, .int (nI i)), (0, .ref (ad qk)), (1, .int x)]) hx hb d_K_firstBad_18 rfl hl (by decide) rfl (fun ls hl => ?_)
      refine lv_iload_n hx hb d_K_firstBad_19 rfl (lv_at hl 0 rfl) ?_
      refine lv_if_lt (tgt := 33) hx hb d_K_firstBad_20 (by decide) (fun h3 => ?_) (fun h3 => ?_)
      · refine lv_aload_n hx hb d_K_firstBad_33 rfl (lv_at hl 2 rfl) ?_
        refine lv_iload_n hx hb d_K_firstBad_34 rfl (lv_at hl 1 rfl) ?_
        refine kw_callix (kw_rV (As := [.int (nI i)]) (rest := []) (q0 := qk) ⟨hx, hb, hml, hown, hg⟩ ⟨callB_of 1 hg (kg_goodG kg_422) rfl rfl rfl (hg _ kg_6) (hg _ kg_419) (by decide +kernel) ⟨by decide, by decide⟩, hg _ kg_421, hg _ (kg_sel (q := (y_K_isWorkedOn, 15)) (by decide +kernel))⟩ (c_K_isWorkedOn l hqk ek hq1 e1 hq2 e2 hq3 e3 ) hK hP hqk ek rfl rfl hl.1 rfl (Nat.le_of_ble_eq_true rfl) d_K_firstBad_35 ⟨Nat.zero_le _, Nat.zero_le _⟩) hA hS (fun H locs hP hS => ?_)
        refine lv_if_eq (tgt := 43) hx hb d_K_firstBad_38 (by decide) (fun h4 => ?_) (fun h4 => ?_)
        · refine lv_iinc (k := 1) (v := nI (i + 1)) (lv' := [(2, .int (nI (i + 1))), (3, .int (kv_K_placeInMemory w xa xb op rb f (nI i))), (0, .ref (ad qk)), (1, .int x)]) hx hb d_K_firstBad_43 hl rfl ((nI_succ i).symm) (by decide) rfl (fun ls hl => ?_)
          refine lv_goto (tgt := 5) hx hb d_K_firstBad_46 (by decide) ?_
          exact ih ((i + 1)) _ _ _ (by omega) (by rw [hv, kv_fb, if_pos h3, if_pos h4]) (hP) hS (lv_sub hl [0, 2, 3] rfl)
        · refine lv_iload_n hx hb d_K_firstBad_41 rfl (lv_at hl 1 rfl) ?_
          exact kw_iret hx hb hr hlocks hP hK hS ⟨by rw [hv, kv_fb, if_pos h3, if_neg h4], rfl⟩ d_K_firstBad_42
      · refine lv_iload_n hx hb d_K_firstBad_23 rfl (lv_at hl 0 rfl) ?_
        refine lv_iload_n hx hb d_K_firstBad_24 rfl (lv_at hl 3 rfl) ?_
        refine lv_aload_n hx hb d_K_firstBad_25 rfl (lv_at hl 2 rfl) ?_
        refine kw_get hx hb hg in_K hown hK hP qk hqk ek rfl 4 (by decide) (hg _ kg_115) rfl rfl d_K_firstBad_26 ?_
        refine lv_isub hx hb d_K_firstBad_29 ?_
        refine lv_icmp_le (tgt := 43) hx hb d_K_firstBad_30 (by decide) (fun h5 => ?_) (fun h5 => ?_)
        · refine lv_iinc (k := 1) (v := nI (i + 1)) (lv' := [(2, .int (nI (i + 1))), (3, .int (kv_K_placeInMemory w xa xb op rb f (nI i))), (0, .ref (ad qk)), (1, .int x)]) hx hb d_K_firstBad_43 hl rfl ((nI_succ i).symm) (by decide) rfl (fun ls hl => ?_)
          refine lv_goto (tgt := 5) hx hb d_K_firstBad_46 (by decide) ?_
          exact ih ((i + 1)) _ _ _ (by omega) (by rw [hv, kv_fb, if_neg h3, if_pos h5]) (hP) hS (lv_sub hl [0, 2, 3] rfl)
        · refine lv_aload_n hx hb d_K_firstBad_33 rfl (lv_at hl 2 rfl) ?_
          refine lv_iload_n hx hb d_K_firstBad_34 rfl (lv_at hl 1 rfl) ?_
          refine kw_callix (kw_rV (As := [.int (nI i)]) (rest := []) (q0 := qk) ⟨hx, hb, hml, hown, hg⟩ ⟨callB_of 1 hg (kg_goodG kg_422) rfl rfl rfl (hg _ kg_6) (hg _ kg_419) (by decide +kernel) ⟨by decide, by decide⟩, hg _ kg_421, hg _ (kg_sel (q := (y_K_isWorkedOn, 15)) (by decide +kernel))⟩ (c_K_isWorkedOn l hqk ek hq1 e1 hq2 e2 hq3 e3 ) hK hP hqk ek rfl rfl hl.1 rfl (Nat.le_of_ble_eq_true rfl) d_K_firstBad_35 ⟨Nat.zero_le _, Nat.zero_le _⟩) hA hS (fun H locs hP hS => ?_)
          refine lv_if_eq (tgt := 43) hx hb d_K_firstBad_38 (by decide) (fun h6 => ?_) (fun h6 => ?_)
          · refine lv_iinc (k := 1) (v := nI (i + 1)) (lv' := [(2, .int (nI (i + 1))), (3, .int (kv_K_placeInMemory w xa xb op rb f (nI i))), (0, .ref (ad qk)), (1, .int x)]) hx hb d_K_firstBad_43 hl rfl ((nI_succ i).symm) (by decide) rfl (fun ls hl => ?_)
            refine lv_goto (tgt := 5) hx hb d_K_firstBad_46 (by decide) ?_
            exact ih ((i + 1)) _ _ _ (by omega) (by rw [hv, kv_fb, if_neg h3, if_neg h5, if_pos h6]) (hP) hS (lv_sub hl [0, 2, 3] rfl)
          · refine lv_iload_n hx hb d_K_firstBad_41 rfl (lv_at hl 1 rfl) ?_
            exact kw_iret hx hb hr hlocks hP hK hS ⟨by rw [hv, kv_fb, if_neg h3, if_neg h5, if_neg h6], rfl⟩ d_K_firstBad_42
  exact loop (tt - fr) fr _ _ _ (by omega) (rfl) (hP) hS (lv_sub hl [0, 1, 2] rfl)

def kv_K_writeMaskBit_q3 (rd : Int32) (f : Nat → Int32) (x : Int32) (y : Int32) : Nat → Int32 := if y = 0 then (kv_write f 64 ((8 * rd) + (x / 8)) 1 ((kv_bare f 64 ((8 * rd) + (x / 8)) 1) &&& (((1 : Int32) <<< ((x - x / 8 * 8) &&& 31)) ^^^ ((-1))))) else (kv_write f 64 ((8 * rd) + (x / 8)) 1 (((kv_bare f 64 ((8 * rd) + (x / 8)) 1) &&& (((1 : Int32) <<< ((x - x / 8 * 8) &&& 31)) ^^^ ((-1)))) ||| ((1 : Int32) <<< ((x - x / 8 * 8) &&& 31))))
set_option maxRecDepth 100000 in
set_option maxHeartbeats 4000000 in
theorem c_K_writeMaskBit (l : Launch) {D : va_G} {ad : Nat → Nat} {n : Nat} {cs : Nat → va_E} (hJ : kw_J ad n) {cI : ClassId} {cB : ClassId} {cJ : ClassId} {cQ : ClassId} {cW : ClassId} {qk : Nat} {q1 : Nat} {q2 : Nat} {q3 : Nat} {q4 : Nat} {q6 : Nat} {q7 : Nat} {w : Nat} {fr : Nat} {tt : Nat} {dn : Nat} {db : Nat} {gr : Int32} {mo : Int32} {xa : Int32} {xb : Int32} {nu : Int32} {op : Int32} {rd : Int32} {ra : Int32} {rb : Int32} {rn : Int32} {mk : Int32} {f : Nat → Int32} {x : Int32} {y : Int32} (hqk : qk < n) (ek : cs qk = .inr (3, [.ref (ad q2), .ref (ad q4), .ref (ad q6), .ref (ad q7), .int (nI w), .int gr, .int mo, .int xa, .int xb, .int (nI fr), .ref (ad q1), .int nu, .int (nI tt), .int (nI dn), .int (nI db)])) (hq1 : q1 < n) (e1 : cs q1 = .inr (1, [.int op, .int rd, .int ra, .int rb, .int rn, .int mk])) (hq2 : q2 < n) (e2 : cs q2 = .inr (0, [.ref (ad q3)])) (hq3 : q3 < n) (e3 : cs q3 = .inl (cB, 64, .inl (f)))  : kw_mv l y_K_writeMaskBit w_K_writeMaskBit (kr 1) D kc (kt cI cB cJ cQ cW) ad n cs [.ref (ad qk), .int x, .int y] (fun c9 => c9 = va_up cs q3 (.inl (cB, 64, .inl (kv_K_writeMaskBit_q3 rd f x y)))) := by
  refine kw_of (cc := b_K_writeMaskBit) (maxL := 6) (ret := none) (by decide) rfl (Nat.le_of_ble_eq_true rfl) ?_
  intro p e s m below meth c ls hx hb hr hml hown hts hlocks hP hK hl
  have hg : ∀ w9 ∈ kg_G, w9.before [.ref (ad qk), .int x, .int y].toArray s = true := fun w9 h9 => hts w9 (List.mem_cons_of_mem _ h9)
  have hown : s.vm.findClass "LaneMachine$Work" = some m.cls := hown
  have hA : ∀ k, k < n → kw_A ad n (ad k) := fun k hk => ⟨k, hk, rfl⟩
  have hS : va_S (kw_A ad n) s.heap s.heap [] := va_S.rf
  have hl : lv_has ls 6 [(0, .ref (ad qk)), (1, .int x), (2, .int y)] := hl
  have hn_qk_q1 : qk ≠ q1 := fun h => by rw [h, e1] at ek; simp at ek
  have hn_qk_q2 : qk ≠ q2 := fun h => by rw [h, e2] at ek; simp at ek
  have hn_qk_q3 : qk ≠ q3 := fun h => by rw [h, e3] at ek; simp at ek
  have hn_q1_q2 : q1 ≠ q2 := fun h => by rw [h, e2] at e1; simp at e1
  have hn_q1_q3 : q1 ≠ q3 := fun h => by rw [h, e3] at e1; simp at e1
  have hn_q2_q3 : q2 ≠ q3 := fun h => by rw [h, e3] at e2; simp at e2
  refine lv_bipush (v := 8) hx hb d_K_writeMaskBit_0 (by decide) ?_
  refine lv_aload_n hx hb d_K_writeMaskBit_2 rfl (lv_at hl 0 rfl) ?_
  refine kw_get hx hb hg in_K hown hK hP qk hqk ek rfl 10 (by decide) (hg _ kg_121) rfl rfl d_K_writeMaskBit_3 ?_
  refine kw_get hx hb hg in_I hown hK hP q1 hq1 e1 rfl 1 (by decide) (hg _ kg_77) rfl rfl d_K_writeMaskBit_6 ?_
  refine lv_imul hx hb d_K_writeMaskBit_9 ?_
  refine lv_iload_n hx hb d_K_writeMaskBit_10 rfl (lv_at hl 1 rfl) ?_
  refine lv_bipush (v := 8) hx hb d_K_writeMaskBit_11 (by decide) ?_
  refine lv_idiv hx hb d_K_writeMaskBit_13 (by decide) ?_
  refine lv_iadd hx hb d_K_writeMaskBit_14 ?_
  refine lv_istore_n (lv' := [(3, .int ((8 * rd) + (x / 8))), (0, .ref (ad qk)), (1, .int x), (2, .int y)]) hx hb d_K_writeMaskBit_15 rfl hl (by decide) rfl (fun ls hl => ?_)
  refine lv_iconst (v := 1) hx hb d_K_writeMaskBit_16 (by decide) ?_
  refine lv_iload_n hx hb d_K_writeMaskBit_17 rfl (lv_at hl 2 rfl) ?_
  refine lv_bipush (v := 8) hx hb d_K_writeMaskBit_18 (by decide) ?_
  refine lv_irem hx hb d_K_writeMaskBit_20 (by decide) ?_
  refine lv_ishl hx hb d_K_writeMaskBit_21 ?_
  refine lv_istore (lv' := [(4, .int ((1 : Int32) <<< ((x - x / 8 * 8) &&& 31))), (3, .int ((8 * rd) + (x / 8))), (0, .ref (ad qk)), (1, .int x), (2, .int y)]) hx hb d_K_writeMaskBit_22 hl (by decide) rfl (fun ls hl => ?_)
  refine lv_aload_n hx hb d_K_writeMaskBit_24 rfl (lv_at hl 2 rfl) ?_
  refine kw_get hx hb hg in_K hown hK hP qk hqk ek rfl 0 (by decide) (hg _ kg_111) rfl rfl d_K_writeMaskBit_25 ?_
  refine lv_iload_n hx hb d_K_writeMaskBit_28 rfl (lv_at hl 1 rfl) ?_
  refine lv_iconst (v := 1) hx hb d_K_writeMaskBit_29 (by decide) ?_
  refine kw_callix (kw_rV (As := [.int ((8 * rd) + (x / 8)), .int 1]) (rest := []) (q0 := q2) ⟨hx, hb, hml, hown, hg⟩ ⟨callB_of 2 hg (kg_goodG kg_220) rfl rfl rfl (hg _ kg_3) (hg _ kg_423) (by decide +kernel) ⟨by decide, by decide⟩, hg _ kg_218, hg _ kg_219⟩ (c_B_bareNumber l hq2 e2 hq3 e3 (by decide) (by decide) (w := 1)) hK hP hq2 e2 rfl rfl hl.1 rfl (Nat.le_of_ble_eq_true rfl) d_K_writeMaskBit_30 ⟨Nat.zero_le _, Nat.zero_le _⟩) hA hS (fun H locs hP hS => ?_)
  refine lv_iload hx hb d_K_writeMaskBit_33 (lv_at hl 0 rfl) ?_
  refine lv_iconst (v := (-1)) hx hb d_K_writeMaskBit_35 (by decide) ?_
  refine lv_ixor hx hb d_K_writeMaskBit_36 ?_
  refine lv_iand hx hb d_K_writeMaskBit_37 ?_
  refine lv_istore (lv' := [(5, .int ((kv_bare f 64 ((8 * rd) + (x / 8)) 1) &&& (((1 : Int32) <<< ((x - x / 8 * 8) &&& 31)) ^^^ ((-1))))), (4, .int ((1 : Int32) <<< ((x - x / 8 * 8) &&& 31))), (3, .int ((8 * rd) + (x / 8))), (0, .ref (ad qk)), (1, .int x), (2, .int y)]) hx hb d_K_writeMaskBit_38 hl (by decide) rfl (fun ls hl => ?_)
  refine lv_aload_n hx hb d_K_writeMaskBit_40 rfl (lv_at hl 3 rfl) ?_
  refine kw_get hx hb hg in_K hown hK hP qk hqk ek rfl 0 (by decide) (hg _ kg_111) rfl rfl d_K_writeMaskBit_41 ?_
  refine lv_iload_n hx hb d_K_writeMaskBit_44 rfl (lv_at hl 2 rfl) ?_
  refine lv_iconst (v := 1) hx hb d_K_writeMaskBit_45 (by decide) ?_
  refine lv_iload_n hx hb d_K_writeMaskBit_46 rfl (lv_at hl 5 rfl) ?_
  refine lv_if_eq (tgt := 58) hx hb d_K_writeMaskBit_47 (by decide) (fun h1 => ?_) (fun h1 => ?_)
  · refine lv_iload hx hb d_K_writeMaskBit_58 (lv_at hl 0 rfl) ?_
    refine kw_callvx (kw_rV (As := [.int ((8 * rd) + (x / 8)), .int 1, .int ((kv_bare f 64 ((8 * rd) + (x / 8)) 1) &&& (((1 : Int32) <<< ((x - x / 8 * 8) &&& 31)) ^^^ ((-1))))]) (rest := []) (q0 := q2) ⟨hx, hb, hml, hown, hg⟩ ⟨callB_of 3 hg (kg_goodG kg_436) rfl rfl rfl (hg _ kg_3) (hg _ kg_433) (by decide +kernel) ⟨by decide, by decide⟩, hg _ kg_434, hg _ kg_435⟩ (c_B_write l hJ hq2 e2 hq3 e3 (by decide) (by decide) (w := 1)) hK hP hq2 e2 rfl rfl hl.1 rfl (Nat.le_of_ble_eq_true rfl) d_K_writeMaskBit_60 ⟨Nat.zero_le _, Nat.zero_le _⟩) hA hS (fun H locs hP hS => ?_)
    have ek : (va_up cs q3 (.inl (cB, 64, .inl (kv_write f 64 ((8 * rd) + (x / 8)) 1 ((kv_bare f 64 ((8 * rd) + (x / 8)) 1) &&& (((1 : Int32) <<< ((x - x / 8 * 8) &&& 31)) ^^^ ((-1)))))))) qk = .inr (3, [.ref (ad q2), .ref (ad q4), .ref (ad q6), .ref (ad q7), .int (nI w), .int gr, .int mo, .int xa, .int xb, .int (nI fr), .ref (ad q1), .int nu, .int (nI tt), .int (nI dn), .int (nI db)]) := (va_up_ne _ _ (hn_qk_q3)).trans ek
    have e1 : (va_up cs q3 (.inl (cB, 64, .inl (kv_write f 64 ((8 * rd) + (x / 8)) 1 ((kv_bare f 64 ((8 * rd) + (x / 8)) 1) &&& (((1 : Int32) <<< ((x - x / 8 * 8) &&& 31)) ^^^ ((-1)))))))) q1 = .inr (1, [.int op, .int rd, .int ra, .int rb, .int rn, .int mk]) := (va_up_ne _ _ (hn_q1_q3)).trans e1
    have e2 : (va_up cs q3 (.inl (cB, 64, .inl (kv_write f 64 ((8 * rd) + (x / 8)) 1 ((kv_bare f 64 ((8 * rd) + (x / 8)) 1) &&& (((1 : Int32) <<< ((x - x / 8 * 8) &&& 31)) ^^^ ((-1)))))))) q2 = .inr (0, [.ref (ad q3)]) := (va_up_ne _ _ (hn_q2_q3)).trans e2
    have e3 : (va_up cs q3 (.inl (cB, 64, .inl (kv_write f 64 ((8 * rd) + (x / 8)) 1 ((kv_bare f 64 ((8 * rd) + (x / 8)) 1) &&& (((1 : Int32) <<< ((x - x / 8 * 8) &&& 31)) ^^^ ((-1)))))))) q3 = .inl (cB, 64, .inl (kv_write f 64 ((8 * rd) + (x / 8)) 1 ((kv_bare f 64 ((8 * rd) + (x / 8)) 1) &&& (((1 : Int32) <<< ((x - x / 8 * 8) &&& 31)) ^^^ ((-1)))))) := va_up_self _ _ _
    exact kw_vret hx hb hr hlocks hP hK hS (by rw [show kv_K_writeMaskBit_q3 rd f x y = kv_write f 64 ((8 * rd) + (x / 8)) 1 ((kv_bare f 64 ((8 * rd) + (x / 8)) 1) &&& (((1 : Int32) <<< ((x - x / 8 * 8) &&& 31)) ^^^ ((-1)))) from (by rw [kv_K_writeMaskBit_q3, if_pos h1])]) d_K_writeMaskBit_63
  · refine lv_iload hx hb d_K_writeMaskBit_50 (lv_at hl 0 rfl) ?_
    refine lv_iload hx hb d_K_writeMaskBit_52 (lv_at hl 1 rfl) ?_
    refine lv_ior hx hb d_K_writeMaskBit_54 ?_
    refine lv_goto (tgt := 60) hx hb d_K_writeMaskBit_55 (by decide) ?_
    refine kw_callvx (kw_rV (As := [.int ((8 * rd) + (x / 8)), .int 1, .int (((kv_bare f 64 ((8 * rd) + (x / 8)) 1) &&& (((1 : Int32) <<< ((x - x / 8 * 8) &&& 31)) ^^^ ((-1)))) ||| ((1 : Int32) <<< ((x - x / 8 * 8) &&& 31)))]) (rest := []) (q0 := q2) ⟨hx, hb, hml, hown, hg⟩ ⟨callB_of 3 hg (kg_goodG kg_436) rfl rfl rfl (hg _ kg_3) (hg _ kg_433) (by decide +kernel) ⟨by decide, by decide⟩, hg _ kg_434, hg _ kg_435⟩ (c_B_write l hJ hq2 e2 hq3 e3 (by decide) (by decide) (w := 1)) hK hP hq2 e2 rfl rfl hl.1 rfl (Nat.le_of_ble_eq_true rfl) d_K_writeMaskBit_60 ⟨Nat.zero_le _, Nat.zero_le _⟩) hA hS (fun H locs hP hS => ?_)
    have ek : (va_up cs q3 (.inl (cB, 64, .inl (kv_write f 64 ((8 * rd) + (x / 8)) 1 (((kv_bare f 64 ((8 * rd) + (x / 8)) 1) &&& (((1 : Int32) <<< ((x - x / 8 * 8) &&& 31)) ^^^ ((-1)))) ||| ((1 : Int32) <<< ((x - x / 8 * 8) &&& 31))))))) qk = .inr (3, [.ref (ad q2), .ref (ad q4), .ref (ad q6), .ref (ad q7), .int (nI w), .int gr, .int mo, .int xa, .int xb, .int (nI fr), .ref (ad q1), .int nu, .int (nI tt), .int (nI dn), .int (nI db)]) := (va_up_ne _ _ (hn_qk_q3)).trans ek
    have e1 : (va_up cs q3 (.inl (cB, 64, .inl (kv_write f 64 ((8 * rd) + (x / 8)) 1 (((kv_bare f 64 ((8 * rd) + (x / 8)) 1) &&& (((1 : Int32) <<< ((x - x / 8 * 8) &&& 31)) ^^^ ((-1)))) ||| ((1 : Int32) <<< ((x - x / 8 * 8) &&& 31))))))) q1 = .inr (1, [.int op, .int rd, .int ra, .int rb, .int rn, .int mk]) := (va_up_ne _ _ (hn_q1_q3)).trans e1
    have e2 : (va_up cs q3 (.inl (cB, 64, .inl (kv_write f 64 ((8 * rd) + (x / 8)) 1 (((kv_bare f 64 ((8 * rd) + (x / 8)) 1) &&& (((1 : Int32) <<< ((x - x / 8 * 8) &&& 31)) ^^^ ((-1)))) ||| ((1 : Int32) <<< ((x - x / 8 * 8) &&& 31))))))) q2 = .inr (0, [.ref (ad q3)]) := (va_up_ne _ _ (hn_q2_q3)).trans e2
    have e3 : (va_up cs q3 (.inl (cB, 64, .inl (kv_write f 64 ((8 * rd) + (x / 8)) 1 (((kv_bare f 64 ((8 * rd) + (x / 8)) 1) &&& (((1 : Int32) <<< ((x - x / 8 * 8) &&& 31)) ^^^ ((-1)))) ||| ((1 : Int32) <<< ((x - x / 8 * 8) &&& 31))))))) q3 = .inl (cB, 64, .inl (kv_write f 64 ((8 * rd) + (x / 8)) 1 (((kv_bare f 64 ((8 * rd) + (x / 8)) 1) &&& (((1 : Int32) <<< ((x - x / 8 * 8) &&& 31)) ^^^ ((-1)))) ||| ((1 : Int32) <<< ((x - x / 8 * 8) &&& 31))))) := va_up_self _ _ _
    exact kw_vret hx hb hr hlocks hP hK hS (by rw [show kv_K_writeMaskBit_q3 rd f x y = kv_write f 64 ((8 * rd) + (x / 8)) 1 (((kv_bare f 64 ((8 * rd) + (x / 8)) 1) &&& (((1 : Int32) <<< ((x - x / 8 * 8) &&& 31)) ^^^ ((-1)))) ||| ((1 : Int32) <<< ((x - x / 8 * 8) &&& 31))) from (by rw [kv_K_writeMaskBit_q3, if_neg h1])]) d_K_writeMaskBit_63

def kv_sm (w : Nat) (mk ra : Int32) (f : Nat → Int32) : Nat → Nat → Int32 → Int32 → Int32 × Int32
  | 0, _, u, v => (u, v)
  | k + 1, i, u, v => if kv_K_isWorkedOn mk f (nI i) = 0 then kv_sm w mk ra f k (i + 1) u v else kv_sm w mk ra f k (i + 1) (u + kv_K_element w f ra (nI i)) 1
def kv_K_writeSum_q3 (w fr tt : Nat) (rd ra rb mk : Int32) (f : Nat → Int32) : Nat → Int32 := if (kv_sm w mk ra f (tt - fr) fr (kv_K_element w f rb 0) 0).2 = 0 then f else kv_write f 64 (kv_K_placeOf w rd 0) w (kv_sm w mk ra f (tt - fr) fr (kv_K_element w f rb 0) 0).1

set_option maxRecDepth 100000 in
set_option maxHeartbeats 4000000 in
theorem c_K_writeSum (l : Launch) {D : va_G} {ad : Nat → Nat} {n : Nat} {cs : Nat → va_E} (hJ : kw_J ad n) {cI : ClassId} {cB : ClassId} {cJ : ClassId} {cQ : ClassId} {cW : ClassId} {qk : Nat} {q1 : Nat} {q2 : Nat} {q3 : Nat} {q4 : Nat} {q6 : Nat} {q7 : Nat} {w : Nat} {fr : Nat} {tt : Nat} {dn : Nat} {db : Nat} {gr : Int32} {mo : Int32} {xa : Int32} {xb : Int32} {nu : Int32} {op : Int32} {rd : Int32} {ra : Int32} {rb : Int32} {rn : Int32} {mk : Int32} {f : Nat → Int32} (hqk : qk < n) (ek : cs qk = .inr (3, [.ref (ad q2), .ref (ad q4), .ref (ad q6), .ref (ad q7), .int (nI w), .int gr, .int mo, .int xa, .int xb, .int (nI fr), .ref (ad q1), .int nu, .int (nI tt), .int (nI dn), .int (nI db)])) (hq1 : q1 < n) (e1 : cs q1 = .inr (1, [.int op, .int rd, .int ra, .int rb, .int rn, .int mk])) (hq2 : q2 < n) (e2 : cs q2 = .inr (0, [.ref (ad q3)])) (hq3 : q3 < n) (e3 : cs q3 = .inl (cB, 64, .inl (f))) (hw : w ≤ 64) (hft : fr ≤ tt) (htt : tt < 2 ^ 30) : kw_mv l y_K_writeSum w_K_writeSum (kr 3) D kc (kt cI cB cJ cQ cW) ad n cs [.ref (ad qk)] (fun c9 => c9 = va_up cs q3 (.inl (cB, 64, .inl (kv_K_writeSum_q3 w fr tt rd ra rb mk f)))) := by
  refine kw_of (cc := b_K_writeSum) (maxL := 4) (ret := none) (by decide) rfl (Nat.le_of_ble_eq_true rfl) ?_
  intro p e s m below meth c ls hx hb hr hml hown hts hlocks hP hK hl
  have hg : ∀ w9 ∈ kg_G, w9.before [.ref (ad qk)].toArray s = true := fun w9 h9 => hts w9 (List.mem_cons_of_mem _ h9)
  have hown : s.vm.findClass "LaneMachine$Work" = some m.cls := hown
  have hA : ∀ k, k < n → kw_A ad n (ad k) := fun k hk => ⟨k, hk, rfl⟩
  have hS : va_S (kw_A ad n) s.heap s.heap [] := va_S.rf
  have hl : lv_has ls 4 [(0, .ref (ad qk))] := hl
  have hn_qk_q1 : qk ≠ q1 := fun h => by rw [h, e1] at ek; simp at ek
  have hn_qk_q2 : qk ≠ q2 := fun h => by rw [h, e2] at ek; simp at ek
  have hn_qk_q3 : qk ≠ q3 := fun h => by rw [h, e3] at ek; simp at ek
  have hn_q1_q2 : q1 ≠ q2 := fun h => by rw [h, e2] at e1; simp at e1
  have hn_q1_q3 : q1 ≠ q3 := fun h => by rw [h, e3] at e1; simp at e1
  have hn_q2_q3 : q2 ≠ q3 := fun h => by rw [h, e3] at e2; simp at e2
  refine lv_aload_n hx hb d_K_writeSum_0 rfl (lv_at hl 0 rfl) ?_
  refine lv_aload_n hx hb d_K_writeSum_1 rfl (lv_at hl 0 rfl) ?_
  refine kw_get hx hb hg in_K hown hK hP qk hqk ek rfl 10 (by decide) (hg _ kg_121) rfl rfl d_K_writeSum_2 ?_
  refine kw_get hx hb hg in_I hown hK hP q1 hq1 e1 rfl 3 (by decide) (hg _ kg_85) rfl rfl d_K_writeSum_5 ?_
  refine lv_iconst (v := 0) hx hb d_K_writeSum_8 (by decide) ?_
  refine kw_callix (kw_rV (As := [.int rb, .int 0]) (rest := []) (q0 := qk) ⟨hx, hb, hml, hown, hg⟩ ⟨callB_of 2 hg (kg_goodG kg_431) rfl rfl rfl (hg _ kg_6) (hg _ kg_428) (by decide +kernel) ⟨by decide, by decide⟩, hg _ kg_430, hg _ (kg_sel (q := (y_K_element, 15)) (by decide +kernel))⟩ (c_K_element l hqk ek hq1 e1 hq2 e2 hq3 e3 hw ) hK hP hqk ek rfl rfl hl.1 rfl (Nat.le_of_ble_eq_true rfl) d_K_writeSum_9 ⟨Nat.zero_le _, Nat.zero_le _⟩) hA hS (fun H locs hP hS => ?_)
  refine lv_istore_n (lv' := [(1, .int (kv_K_element w f rb 0)), (0, .ref (ad qk))]) hx hb d_K_writeSum_12 rfl hl (by decide) rfl (fun ls hl => ?_)
  refine lv_iconst (v := 0) hx hb d_K_writeSum_13 (by decide) ?_
  refine lv_istore_n (lv' := [(2, .int 0), (1, .int (kv_K_element w f rb 0)), (0, .ref (ad qk))]) hx hb d_K_writeSum_14 rfl hl (by decide) rfl (fun ls hl => ?_)
  refine lv_aload_n hx hb d_K_writeSum_15 rfl (lv_at hl 2 rfl) ?_
  refine kw_get hx hb hg in_K hown hK hP qk hqk ek rfl 9 (by decide) (hg _ kg_120) rfl rfl d_K_writeSum_16 ?_
  refine lv_istore_n (lv' := [(3, .int (nI fr)), (2, .int 0), (1, .int (kv_K_element w f rb 0)), (0, .ref (ad qk))]) hx hb d_K_writeSum_19 rfl hl (by decide) rfl (fun ls hl => ?_)
  have loop : ∀ (kk : Nat) (i : Nat) (u : Int32) (v : Int32) (H : Heap) (locs : List Loc) (ls : Array Slot), i + kk = tt → kv_sm w mk ra f (tt - fr) fr (kv_K_element w f rb 0) 0 = kv_sm w mk ra f kk i u v → va_P D kc (kw_w ad cs n) H → va_S (kw_A ad n) s.heap H locs → lv_has ls 4 [(3, .int (nI i)), (2, .int v), (1, .int u), (0, .ref (ad qk))] → W p l e (kr 3) s m [.ref (ad qk)].toArray below meth c H locs 0 0 (MQ below (va_Qv (fun c9 => c9 = va_up cs q3 (.inl (cB, 64, .inl (kv_K_writeSum_q3 w fr tt rd ra rb mk f)))) (kw_Pre D kc (kt cI cB cJ cQ cW) ad n) (kw_A ad n)) [.ref (ad qk)].toArray s 0 0 (kw_A ad n)) (F0 m 20 ls []) := by
    intro kk
    induction kk with
    | zero =>
      intro i u v H locs ls hik hv hP hS hl
      refine lv_iload_n hx hb d_K_writeSum_20 rfl (lv_at hl 0 rfl) ?_
      refine lv_aload_n hx hb d_K_writeSum_21 rfl (lv_at hl 3 rfl) ?_
      refine kw_get hx hb hg in_K hown hK hP qk hqk ek rfl 12 (by decide) (hg _ kg_125) rfl rfl d_K_writeSum_22 ?_
      refine lv_icmp_ge (tgt := 59) hx hb d_K_writeSum_25 (by decide) (fun _ => ?_) (fun h1 => absurd (nI_le (by omega) (by omega)) h1)
      refine lv_iload_n hx hb d_K_writeSum_59 rfl (lv_at hl 1 rfl) ?_
      refine lv_if_eq (tgt := 87) hx hb d_K_writeSum_60 (by decide) (fun h2 => ?_) (fun h2 => ?_)
      · exact kw_vret hx hb hr hlocks hP hK hS ((by rw [show kv_K_writeSum_q3 w fr tt rd ra rb mk f = f from (by unfold kv_K_writeSum_q3; rw [hv]; exact if_pos h2), kw_id e3])) d_K_writeSum_87
      · refine lv_aload_n hx hb d_K_writeSum_63 rfl (lv_at hl 3 rfl) ?_
        refine kw_get hx hb hg in_K hown hK hP qk hqk ek rfl 0 (by decide) (hg _ kg_111) rfl rfl d_K_writeSum_64 ?_
        refine lv_aload_n hx hb d_K_writeSum_67 rfl (lv_at hl 3 rfl) ?_
        refine lv_aload_n hx hb d_K_writeSum_68 rfl (lv_at hl 3 rfl) ?_
        refine kw_get hx hb hg in_K hown hK hP qk hqk ek rfl 10 (by decide) (hg _ kg_121) rfl rfl d_K_writeSum_69 ?_
        refine kw_get hx hb hg in_I hown hK hP q1 hq1 e1 rfl 1 (by decide) (hg _ kg_77) rfl rfl d_K_writeSum_72 ?_
        refine lv_iconst (v := 0) hx hb d_K_writeSum_75 (by decide) ?_
        refine kw_callix (kw_rV (As := [.int rd, .int 0]) (rest := [.ref (ad q2)]) (q0 := qk) ⟨hx, hb, hml, hown, hg⟩ ⟨callB_of 2 hg (kg_goodG kg_394) rfl rfl rfl (hg _ kg_6) (hg _ kg_391) (by decide +kernel) ⟨by decide, by decide⟩, hg _ kg_393, hg _ (kg_sel (q := (y_K_placeOf, 15)) (by decide +kernel))⟩ (c_K_placeOf l hqk ek ) hK hP hqk ek rfl rfl hl.1 rfl (Nat.le_of_ble_eq_true rfl) d_K_writeSum_76 ⟨Nat.zero_le _, Nat.zero_le _⟩) hA hS (fun H locs hP hS => ?_)
        refine lv_aload_n hx hb d_K_writeSum_79 rfl (lv_at hl 3 rfl) ?_
        refine kw_get hx hb hg in_K hown hK hP qk hqk ek rfl 4 (by decide) (hg _ kg_115) rfl rfl d_K_writeSum_80 ?_
        refine lv_iload_n hx hb d_K_writeSum_83 rfl (lv_at hl 2 rfl) ?_
        refine kw_callvx (kw_rV (As := [.int (kv_K_placeOf w rd 0), .int (nI w), .int u]) (rest := []) (q0 := q2) ⟨hx, hb, hml, hown, hg⟩ ⟨callB_of 3 hg (kg_goodG kg_436) rfl rfl rfl (hg _ kg_3) (hg _ kg_433) (by decide +kernel) ⟨by decide, by decide⟩, hg _ kg_434, hg _ kg_435⟩ (c_B_write l hJ hq2 e2 hq3 e3 hw (by decide) ) hK hP hq2 e2 rfl rfl hl.1 rfl (Nat.le_of_ble_eq_true rfl) d_K_writeSum_84 ⟨Nat.zero_le _, Nat.zero_le _⟩) hA hS (fun H locs hP hS => ?_)
        have ek : (va_up cs q3 (.inl (cB, 64, .inl (kv_write f 64 (kv_K_placeOf w rd 0) w u)))) qk = .inr (3, [.ref (ad q2), .ref (ad q4), .ref (ad q6), .ref (ad q7), .int (nI w), .int gr, .int mo, .int xa, .int xb, .int (nI fr), .ref (ad q1), .int nu, .int (nI tt), .int (nI dn), .int (nI db)]) := (va_up_ne _ _ (hn_qk_q3)).trans ek
        have e1 : (va_up cs q3 (.inl (cB, 64, .inl (kv_write f 64 (kv_K_placeOf w rd 0) w u)))) q1 = .inr (1, [.int op, .int rd, .int ra, .int rb, .int rn, .int mk]) := (va_up_ne _ _ (hn_q1_q3)).trans e1
        have e2 : (va_up cs q3 (.inl (cB, 64, .inl (kv_write f 64 (kv_K_placeOf w rd 0) w u)))) q2 = .inr (0, [.ref (ad q3)]) := (va_up_ne _ _ (hn_q2_q3)).trans e2
        have e3 : (va_up cs q3 (.inl (cB, 64, .inl (kv_write f 64 (kv_K_placeOf w rd 0) w u)))) q3 = .inl (cB, 64, .inl (kv_write f 64 (kv_K_placeOf w rd 0) w u)) := va_up_self _ _ _
        exact kw_vret hx hb hr hlocks hP hK hS ((by rw [show kv_K_writeSum_q3 w fr tt rd ra rb mk f = kv_write f 64 (kv_K_placeOf w rd 0) w u from (by unfold kv_K_writeSum_q3; rw [hv]; exact if_neg h2)])) d_K_writeSum_87
    | succ j ih =>
      intro i u v H locs ls hik hv hP hS hl
      refine lv_iload_n hx hb d_K_writeSum_20 rfl (lv_at hl 0 rfl) ?_
      refine lv_aload_n hx hb d_K_writeSum_21 rfl (lv_at hl 3 rfl) ?_
      refine kw_get hx hb hg in_K hown hK hP qk hqk ek rfl 12 (by decide) (hg _ kg_125) rfl rfl d_K_writeSum_22 ?_
      refine lv_icmp_ge (tgt := 59) hx hb d_K_writeSum_25 (by decide) (fun h3 => absurd h3 (nI_ge (by omega) (by omega))) (fun _ => ?_)
      refine lv_aload_n hx hb d_K_writeSum_28 rfl (lv_at hl 3 rfl) ?_
      refine lv_iload_n hx hb d_K_writeSum_29 rfl (lv_at hl 0 rfl) ?_
      refine kw_callix (kw_rV (As := [.int (nI i)]) (rest := []) (q0 := qk) ⟨hx, hb, hml, hown, hg⟩ ⟨callB_of 1 hg (kg_goodG kg_422) rfl rfl rfl (hg _ kg_6) (hg _ kg_419) (by decide +kernel) ⟨by decide, by decide⟩, hg _ kg_421, hg _ (kg_sel (q := (y_K_isWorkedOn, 15)) (by decide +kernel))⟩ (c_K_isWorkedOn l hqk ek hq1 e1 hq2 e2 hq3 e3 ) hK hP hqk ek rfl rfl hl.1 rfl (Nat.le_of_ble_eq_true rfl) d_K_writeSum_30 ⟨Nat.zero_le _, Nat.zero_le _⟩) hA hS (fun H locs hP hS => ?_)
      refine lv_if_eq (tgt := 53) hx hb d_K_writeSum_33 (by decide) (fun h4 => ?_) (fun h4 => ?_)
      · refine lv_iinc (k := 0) (v := nI (i + 1)) (lv' := [(3, .int (nI (i + 1))), (2, .int v), (1, .int u), (0, .ref (ad qk))]) hx hb d_K_writeSum_53 hl rfl ((nI_succ i).symm) (by decide) rfl (fun ls hl => ?_)
        refine lv_goto (tgt := 20) hx hb d_K_writeSum_56 (by decide) ?_
        exact ih ((i + 1)) _ _ _ _ _ (by omega) (by rw [hv, kv_sm, if_pos h4]) (hP) hS (lv_sub hl [0, 1, 2, 3] rfl)
      · refine lv_iload_n hx hb d_K_writeSum_36 rfl (lv_at hl 2 rfl) ?_
        refine lv_aload_n hx hb d_K_writeSum_37 rfl (lv_at hl 3 rfl) ?_
        refine lv_aload_n hx hb d_K_writeSum_38 rfl (lv_at hl 3 rfl) ?_
        refine kw_get hx hb hg in_K hown hK hP qk hqk ek rfl 10 (by decide) (hg _ kg_121) rfl rfl d_K_writeSum_39 ?_
        refine kw_get hx hb hg in_I hown hK hP q1 hq1 e1 rfl 2 (by decide) (hg _ kg_81) rfl rfl d_K_writeSum_42 ?_
        refine lv_iload_n hx hb d_K_writeSum_45 rfl (lv_at hl 0 rfl) ?_
        refine kw_callix (kw_rV (As := [.int ra, .int (nI i)]) (rest := [.int u]) (q0 := qk) ⟨hx, hb, hml, hown, hg⟩ ⟨callB_of 2 hg (kg_goodG kg_431) rfl rfl rfl (hg _ kg_6) (hg _ kg_428) (by decide +kernel) ⟨by decide, by decide⟩, hg _ kg_430, hg _ (kg_sel (q := (y_K_element, 15)) (by decide +kernel))⟩ (c_K_element l hqk ek hq1 e1 hq2 e2 hq3 e3 hw ) hK hP hqk ek rfl rfl hl.1 rfl (Nat.le_of_ble_eq_true rfl) d_K_writeSum_46 ⟨Nat.zero_le _, Nat.zero_le _⟩) hA hS (fun H locs hP hS => ?_)
        refine lv_iadd hx hb d_K_writeSum_49 ?_
        refine lv_istore_n (lv' := [(1, .int (u + (kv_K_element w f ra (nI i)))), (3, .int (nI i)), (2, .int v), (0, .ref (ad qk))]) hx hb d_K_writeSum_50 rfl hl (by decide) rfl (fun ls hl => ?_)
        refine lv_iconst (v := 1) hx hb d_K_writeSum_51 (by decide) ?_
        refine lv_istore_n (lv' := [(2, .int 1), (1, .int (u + (kv_K_element w f ra (nI i)))), (3, .int (nI i)), (0, .ref (ad qk))]) hx hb d_K_writeSum_52 rfl hl (by decide) rfl (fun ls hl => ?_)
        refine lv_iinc (k := 2) (v := nI (i + 1)) (lv' := [(3, .int (nI (i + 1))), (2, .int 1), (1, .int (u + (kv_K_element w f ra (nI i)))), (0, .ref (ad qk))]) hx hb d_K_writeSum_53 hl rfl ((nI_succ i).symm) (by decide) rfl (fun ls hl => ?_)
        refine lv_goto (tgt := 20) hx hb d_K_writeSum_56 (by decide) ?_
        exact ih ((i + 1)) _ _ _ _ _ (by omega) (by rw [hv, kv_sm, if_neg h4]) (hP) hS (lv_sub hl [0, 1, 2, 3] rfl)
  exact loop (tt - fr) fr _ _ _ _ _ (by omega) (rfl) (hP) hS (lv_sub hl [0, 1, 2, 3] rfl)

def kv_K_doNextStep_q3 (w : Nat) (fr : Nat) (tt : Nat) (dn : Nat) (mo : Int32) (xa : Int32) (xb : Int32) (op : Int32) (rd : Int32) (ra : Int32) (rb : Int32) (mk : Int32) (f : Nat → Int32) (g : Nat → Int32) : Nat → Int32 := if op = 14 then (if op = 12 then (if (kv_K_element w f rb ((nI fr) + (nI dn))) ≤ (kv_K_element w f ra ((nI fr) + (nI dn))) then (kv_K_writeMaskBit_q3 rd f ((nI fr) + (nI dn)) 0) else (kv_K_writeMaskBit_q3 rd f ((nI fr) + (nI dn)) 1)) else if op = 13 then (kv_write f 64 ((8 * rd) + ((2 * ((nI fr) + (nI dn))) * (nI w))) (2 * w) (kv_K_result w mo xa xb op ra rb f g ((nI fr) + (nI dn)))) else if op = 14 then (kv_K_writeSum_q3 w fr tt rd ra rb mk f) else if op = 18 then f else (kv_write f 64 (kv_K_placeOf w rd ((nI fr) + (nI dn))) w (kv_K_result w mo xa xb op ra rb f g ((nI fr) + (nI dn))))) else if (kv_K_isWorkedOn mk f ((nI fr) + (nI dn))) = 0 then f else if op = 12 then (if (kv_K_element w f rb ((nI fr) + (nI dn))) ≤ (kv_K_element w f ra ((nI fr) + (nI dn))) then (kv_K_writeMaskBit_q3 rd f ((nI fr) + (nI dn)) 0) else (kv_K_writeMaskBit_q3 rd f ((nI fr) + (nI dn)) 1)) else if op = 13 then (kv_write f 64 ((8 * rd) + ((2 * ((nI fr) + (nI dn))) * (nI w))) (2 * w) (kv_K_result w mo xa xb op ra rb f g ((nI fr) + (nI dn)))) else if op = 14 then (kv_K_writeSum_q3 w fr tt rd ra rb mk f) else if op = 18 then f else (kv_write f 64 (kv_K_placeOf w rd ((nI fr) + (nI dn))) w (kv_K_result w mo xa xb op ra rb f g ((nI fr) + (nI dn))))
def kv_K_doNextStep_q5 (w : Nat) (fr : Nat) (dn : Nat) (xa : Int32) (xb : Int32) (op : Int32) (rd : Int32) (rb : Int32) (mk : Int32) (f : Nat → Int32) (g : Nat → Int32) : Nat → Int32 := if op = 14 then (if op = 12 then g else if op = 13 then g else if op = 14 then g else if op = 18 then (kv_write g 128 (kv_K_placeInMemory w xa xb op rb f ((nI fr) + (nI dn))) w (kv_K_element w f rd ((nI fr) + (nI dn)))) else g) else if (kv_K_isWorkedOn mk f ((nI fr) + (nI dn))) = 0 then g else if op = 12 then g else if op = 13 then g else if op = 14 then g else if op = 18 then (kv_write g 128 (kv_K_placeInMemory w xa xb op rb f ((nI fr) + (nI dn))) w (kv_K_element w f rd ((nI fr) + (nI dn)))) else g
set_option maxRecDepth 100000 in
set_option maxHeartbeats 4000000 in
theorem c_K_doNextStep (l : Launch) {D : va_G} {ad : Nat → Nat} {n : Nat} {cs : Nat → va_E} (hJ : kw_J ad n) {cI : ClassId} {cB : ClassId} {cJ : ClassId} {cQ : ClassId} {cW : ClassId} {qk : Nat} {q1 : Nat} {q2 : Nat} {q3 : Nat} {q4 : Nat} {q5 : Nat} {q6 : Nat} {q7 : Nat} {w : Nat} {fr : Nat} {tt : Nat} {dn : Nat} {db : Nat} {gr : Int32} {mo : Int32} {xa : Int32} {xb : Int32} {nu : Int32} {op : Int32} {rd : Int32} {ra : Int32} {rb : Int32} {rn : Int32} {mk : Int32} {f : Nat → Int32} {g : Nat → Int32} (hqk : qk < n) (ek : cs qk = .inr (3, [.ref (ad q2), .ref (ad q4), .ref (ad q6), .ref (ad q7), .int (nI w), .int gr, .int mo, .int xa, .int xb, .int (nI fr), .ref (ad q1), .int nu, .int (nI tt), .int (nI dn), .int (nI db)])) (hq1 : q1 < n) (e1 : cs q1 = .inr (1, [.int op, .int rd, .int ra, .int rb, .int rn, .int mk])) (hq2 : q2 < n) (e2 : cs q2 = .inr (0, [.ref (ad q3)])) (hq3 : q3 < n) (e3 : cs q3 = .inl (cB, 64, .inl (f))) (hq4 : q4 < n) (e4 : cs q4 = .inr (0, [.ref (ad q5)])) (hq5 : q5 < n) (e5 : cs q5 = .inl (cB, 128, .inl (g))) (hw : w ≤ 4) (hft : fr ≤ tt) (htt : tt < 2 ^ 30) : kw_mv l y_K_doNextStep w_K_doNextStep (kr 4) D kc (kt cI cB cJ cQ cW) ad n cs [.ref (ad qk)] (fun c9 => c9 = va_up (va_up (va_up cs qk (.inr (3, [.ref (ad q2), .ref (ad q4), .ref (ad q6), .ref (ad q7), .int (nI w), .int gr, .int mo, .int xa, .int xb, .int (nI fr), .ref (ad q1), .int nu, .int (nI tt), .int (nI (dn + 1)), .int (nI db)]))) q3 (.inl (cB, 64, .inl (kv_K_doNextStep_q3 w fr tt dn mo xa xb op rd ra rb mk f g)))) q5 (.inl (cB, 128, .inl (kv_K_doNextStep_q5 w fr dn xa xb op rd rb mk f g)))) := by
  refine kw_of (cc := b_K_doNextStep) (maxL := 2) (ret := none) (by decide) rfl (Nat.le_of_ble_eq_true rfl) ?_
  intro p e s m below meth c ls hx hb hr hml hown hts hlocks hP hK hl
  have hg : ∀ w9 ∈ kg_G, w9.before [.ref (ad qk)].toArray s = true := fun w9 h9 => hts w9 (List.mem_cons_of_mem _ h9)
  have hown : s.vm.findClass "LaneMachine$Work" = some m.cls := hown
  have hA : ∀ k, k < n → kw_A ad n (ad k) := fun k hk => ⟨k, hk, rfl⟩
  have hS : va_S (kw_A ad n) s.heap s.heap [] := va_S.rf
  have hl : lv_has ls 2 [(0, .ref (ad qk))] := hl
  have hn_qk_q1 : qk ≠ q1 := fun h => by rw [h, e1] at ek; simp at ek
  have hn_qk_q2 : qk ≠ q2 := fun h => by rw [h, e2] at ek; simp at ek
  have hn_qk_q3 : qk ≠ q3 := fun h => by rw [h, e3] at ek; simp at ek
  have hn_qk_q4 : qk ≠ q4 := fun h => by rw [h, e4] at ek; simp at ek
  have hn_qk_q5 : qk ≠ q5 := fun h => by rw [h, e5] at ek; simp at ek
  have hn_q1_q2 : q1 ≠ q2 := fun h => by rw [h, e2] at e1; simp at e1
  have hn_q1_q3 : q1 ≠ q3 := fun h => by rw [h, e3] at e1; simp at e1
  have hn_q1_q4 : q1 ≠ q4 := fun h => by rw [h, e4] at e1; simp at e1
  have hn_q1_q5 : q1 ≠ q5 := fun h => by rw [h, e5] at e1; simp at e1
  have hn_q2_q3 : q2 ≠ q3 := fun h => by rw [h, e3] at e2; simp at e2
  have hn_q2_q5 : q2 ≠ q5 := fun h => by rw [h, e5] at e2; simp at e2
  have hn_q3_q4 : q3 ≠ q4 := fun h => by rw [h, e4] at e3; simp at e3
  have hn_q3_q5 : q3 ≠ q5 := fun h => by rw [h, e5] at e3; simp at e3
  have hn_q4_q5 : q4 ≠ q5 := fun h => by rw [h, e5] at e4; simp at e4
  have hn_q2_q4 : q2 ≠ q4 := fun h => by rw [h, e4] at e2; simp at e2; exact hn_q3_q5 (hJ _ _ hq3 hq5 e2.symm)
  refine lv_aload_n hx hb d_K_doNextStep_0 rfl (lv_at hl 0 rfl) ?_
  refine kw_get hx hb hg in_K hown hK hP qk hqk ek rfl 9 (by decide) (hg _ kg_120) rfl rfl d_K_doNextStep_1 ?_
  refine lv_aload_n hx hb d_K_doNextStep_4 rfl (lv_at hl 0 rfl) ?_
  refine kw_get hx hb hg in_K hown hK hP qk hqk ek rfl 13 (by decide) (hg _ kg_127) rfl rfl d_K_doNextStep_5 ?_
  refine lv_iadd hx hb d_K_doNextStep_8 ?_
  refine lv_istore_n (lv' := [(1, .int ((nI fr) + (nI dn))), (0, .ref (ad qk))]) hx hb d_K_doNextStep_9 rfl hl (by decide) rfl (fun ls hl => ?_)
  refine lv_aload_n hx hb d_K_doNextStep_10 rfl (lv_at hl 1 rfl) ?_
  refine lv_dup hx hb d_K_doNextStep_11 rfl ?_
  refine kw_get hx hb hg in_K hown hK hP qk hqk ek rfl 13 (by decide) (hg _ kg_127) rfl rfl d_K_doNextStep_12 ?_
  refine lv_iconst (v := 1) hx hb d_K_doNextStep_15 (by decide) ?_
  refine lv_iadd hx hb d_K_doNextStep_16 ?_
  rw [nI_1]
  refine kw_put (ty := .int) hx hb hg in_K t_K ty_K nm_K hown hK hP hJ hA hS qk hqk ek rfl 13 (by decide) (hg _ kg_127) rfl rfl (by decide +kernel) rfl rfl (Nat.le_of_ble_eq_true rfl) d_K_doNextStep_17 (fun H locs hP hS => ?_)
  have ek : (va_up cs qk (.inr (3, [.ref (ad q2), .ref (ad q4), .ref (ad q6), .ref (ad q7), .int (nI w), .int gr, .int mo, .int xa, .int xb, .int (nI fr), .ref (ad q1), .int nu, .int (nI tt), .int (nI (dn + 1)), .int (nI db)]))) qk = .inr (3, [.ref (ad q2), .ref (ad q4), .ref (ad q6), .ref (ad q7), .int (nI w), .int gr, .int mo, .int xa, .int xb, .int (nI fr), .ref (ad q1), .int nu, .int (nI tt), .int (nI (dn + 1)), .int (nI db)]) := va_up_self _ _ _
  have e1 : (va_up cs qk (.inr (3, [.ref (ad q2), .ref (ad q4), .ref (ad q6), .ref (ad q7), .int (nI w), .int gr, .int mo, .int xa, .int xb, .int (nI fr), .ref (ad q1), .int nu, .int (nI tt), .int (nI (dn + 1)), .int (nI db)]))) q1 = .inr (1, [.int op, .int rd, .int ra, .int rb, .int rn, .int mk]) := (va_up_ne _ _ (hn_qk_q1.symm)).trans e1
  have e2 : (va_up cs qk (.inr (3, [.ref (ad q2), .ref (ad q4), .ref (ad q6), .ref (ad q7), .int (nI w), .int gr, .int mo, .int xa, .int xb, .int (nI fr), .ref (ad q1), .int nu, .int (nI tt), .int (nI (dn + 1)), .int (nI db)]))) q2 = .inr (0, [.ref (ad q3)]) := (va_up_ne _ _ (hn_qk_q2.symm)).trans e2
  have e3 : (va_up cs qk (.inr (3, [.ref (ad q2), .ref (ad q4), .ref (ad q6), .ref (ad q7), .int (nI w), .int gr, .int mo, .int xa, .int xb, .int (nI fr), .ref (ad q1), .int nu, .int (nI tt), .int (nI (dn + 1)), .int (nI db)]))) q3 = .inl (cB, 64, .inl (f)) := (va_up_ne _ _ (hn_qk_q3.symm)).trans e3
  have e4 : (va_up cs qk (.inr (3, [.ref (ad q2), .ref (ad q4), .ref (ad q6), .ref (ad q7), .int (nI w), .int gr, .int mo, .int xa, .int xb, .int (nI fr), .ref (ad q1), .int nu, .int (nI tt), .int (nI (dn + 1)), .int (nI db)]))) q4 = .inr (0, [.ref (ad q5)]) := (va_up_ne _ _ (hn_qk_q4.symm)).trans e4
  have e5 : (va_up cs qk (.inr (3, [.ref (ad q2), .ref (ad q4), .ref (ad q6), .ref (ad q7), .int (nI w), .int gr, .int mo, .int xa, .int xb, .int (nI fr), .ref (ad q1), .int nu, .int (nI tt), .int (nI (dn + 1)), .int (nI db)]))) q5 = .inl (cB, 128, .inl (g)) := (va_up_ne _ _ (hn_qk_q5.symm)).trans e5
  refine lv_aload_n hx hb d_K_doNextStep_20 rfl (lv_at hl 1 rfl) ?_
  refine kw_get hx hb hg in_K hown hK hP qk hqk ek rfl 10 (by decide) (hg _ kg_121) rfl rfl d_K_doNextStep_21 ?_
  refine kw_get hx hb hg in_I hown hK hP q1 hq1 e1 rfl 0 (by decide) (hg _ kg_72) rfl rfl d_K_doNextStep_24 ?_
  refine lv_bipush (v := 14) hx hb d_K_doNextStep_27 (by decide) ?_
  refine lv_icmp_eq (tgt := 41) hx hb d_K_doNextStep_29 (by decide) (fun h1 => ?_) (fun h1 => ?_)
  · refine lv_aload_n hx hb d_K_doNextStep_41 rfl (lv_at hl 1 rfl) ?_
    refine kw_get hx hb hg in_K hown hK hP qk hqk ek rfl 10 (by decide) (hg _ kg_121) rfl rfl d_K_doNextStep_42 ?_
    refine kw_get hx hb hg in_I hown hK hP q1 hq1 e1 rfl 0 (by decide) (hg _ kg_72) rfl rfl d_K_doNextStep_45 ?_
    by_cases h2 : op = 12
    · refine lv_tableIn (tgt := 99) hx hb d_K_doNextStep_48 (by rw [h2]; decide) (by rw [h2]; decide) (by rw [h2]; rfl) (by decide) ?_
      refine lv_aload_n hx hb d_K_doNextStep_99 rfl (lv_at hl 1 rfl) ?_
      refine lv_iload_n hx hb d_K_doNextStep_100 rfl (lv_at hl 0 rfl) ?_
      refine lv_aload_n hx hb d_K_doNextStep_101 rfl (lv_at hl 1 rfl) ?_
      refine lv_aload_n hx hb d_K_doNextStep_102 rfl (lv_at hl 1 rfl) ?_
      refine kw_get hx hb hg in_K hown hK hP qk hqk ek rfl 10 (by decide) (hg _ kg_121) rfl rfl d_K_doNextStep_103 ?_
      refine kw_get hx hb hg in_I hown hK hP q1 hq1 e1 rfl 2 (by decide) (hg _ kg_81) rfl rfl d_K_doNextStep_106 ?_
      refine lv_iload_n hx hb d_K_doNextStep_109 rfl (lv_at hl 0 rfl) ?_
      refine kw_callix (kw_rV (As := [.int ra, .int ((nI fr) + (nI dn))]) (rest := [.int ((nI fr) + (nI dn)), .ref (ad qk)]) (q0 := qk) ⟨hx, hb, hml, hown, hg⟩ ⟨callB_of 2 hg (kg_goodG kg_431) rfl rfl rfl (hg _ kg_6) (hg _ kg_428) (by decide +kernel) ⟨by decide, by decide⟩, hg _ kg_430, hg _ (kg_sel (q := (y_K_element, 15)) (by decide +kernel))⟩ (c_K_element l hqk ek hq1 e1 hq2 e2 hq3 e3 (by omega) ) hK hP hqk ek rfl rfl hl.1 rfl (Nat.le_of_ble_eq_true rfl) d_K_doNextStep_110 ⟨Nat.zero_le _, Nat.zero_le _⟩) hA hS (fun H locs hP hS => ?_)
      refine lv_aload_n hx hb d_K_doNextStep_113 rfl (lv_at hl 1 rfl) ?_
      refine lv_aload_n hx hb d_K_doNextStep_114 rfl (lv_at hl 1 rfl) ?_
      refine kw_get hx hb hg in_K hown hK hP qk hqk ek rfl 10 (by decide) (hg _ kg_121) rfl rfl d_K_doNextStep_115 ?_
      refine kw_get hx hb hg in_I hown hK hP q1 hq1 e1 rfl 3 (by decide) (hg _ kg_85) rfl rfl d_K_doNextStep_118 ?_
      refine lv_iload_n hx hb d_K_doNextStep_121 rfl (lv_at hl 0 rfl) ?_
      refine kw_callix (kw_rV (As := [.int rb, .int ((nI fr) + (nI dn))]) (rest := [.int (kv_K_element w f ra ((nI fr) + (nI dn))), .int ((nI fr) + (nI dn)), .ref (ad qk)]) (q0 := qk) ⟨hx, hb, hml, hown, hg⟩ ⟨callB_of 2 hg (kg_goodG kg_431) rfl rfl rfl (hg _ kg_6) (hg _ kg_428) (by decide +kernel) ⟨by decide, by decide⟩, hg _ kg_430, hg _ (kg_sel (q := (y_K_element, 15)) (by decide +kernel))⟩ (c_K_element l hqk ek hq1 e1 hq2 e2 hq3 e3 (by omega) ) hK hP hqk ek rfl rfl hl.1 rfl (Nat.le_of_ble_eq_true rfl) d_K_doNextStep_122 ⟨Nat.zero_le _, Nat.zero_le _⟩) hA hS (fun H locs hP hS => ?_)
      refine lv_icmp_ge (tgt := 132) hx hb d_K_doNextStep_125 (by decide) (fun h3 => ?_) (fun h3 => ?_)
      · refine lv_iconst (v := 0) hx hb d_K_doNextStep_132 (by decide) ?_
        refine kw_callvx (kw_rV (As := [.int ((nI fr) + (nI dn)), .int 0]) (rest := []) (q0 := qk) ⟨hx, hb, hml, hown, hg⟩ ⟨callB_of 2 hg (kg_goodG kg_440) rfl rfl rfl (hg _ kg_6) (hg _ kg_437) (by decide +kernel) ⟨by decide, by decide⟩, hg _ kg_439, hg _ (kg_sel (q := (y_K_writeMaskBit, 15)) (by decide +kernel))⟩ (c_K_writeMaskBit l hJ hqk ek hq1 e1 hq2 e2 hq3 e3 ) hK hP hqk ek rfl rfl hl.1 rfl (Nat.le_of_ble_eq_true rfl) d_K_doNextStep_133 ⟨Nat.zero_le _, Nat.zero_le _⟩) hA hS (fun H locs hP hS => ?_)
        have ek : (va_up (va_up cs qk (.inr (3, [.ref (ad q2), .ref (ad q4), .ref (ad q6), .ref (ad q7), .int (nI w), .int gr, .int mo, .int xa, .int xb, .int (nI fr), .ref (ad q1), .int nu, .int (nI tt), .int (nI (dn + 1)), .int (nI db)]))) q3 (.inl (cB, 64, .inl (kv_K_writeMaskBit_q3 rd f ((nI fr) + (nI dn)) 0)))) qk = .inr (3, [.ref (ad q2), .ref (ad q4), .ref (ad q6), .ref (ad q7), .int (nI w), .int gr, .int mo, .int xa, .int xb, .int (nI fr), .ref (ad q1), .int nu, .int (nI tt), .int (nI (dn + 1)), .int (nI db)]) := (va_up_ne _ _ (hn_qk_q3)).trans ek
        have e1 : (va_up (va_up cs qk (.inr (3, [.ref (ad q2), .ref (ad q4), .ref (ad q6), .ref (ad q7), .int (nI w), .int gr, .int mo, .int xa, .int xb, .int (nI fr), .ref (ad q1), .int nu, .int (nI tt), .int (nI (dn + 1)), .int (nI db)]))) q3 (.inl (cB, 64, .inl (kv_K_writeMaskBit_q3 rd f ((nI fr) + (nI dn)) 0)))) q1 = .inr (1, [.int op, .int rd, .int ra, .int rb, .int rn, .int mk]) := (va_up_ne _ _ (hn_q1_q3)).trans e1
        have e2 : (va_up (va_up cs qk (.inr (3, [.ref (ad q2), .ref (ad q4), .ref (ad q6), .ref (ad q7), .int (nI w), .int gr, .int mo, .int xa, .int xb, .int (nI fr), .ref (ad q1), .int nu, .int (nI tt), .int (nI (dn + 1)), .int (nI db)]))) q3 (.inl (cB, 64, .inl (kv_K_writeMaskBit_q3 rd f ((nI fr) + (nI dn)) 0)))) q2 = .inr (0, [.ref (ad q3)]) := (va_up_ne _ _ (hn_q2_q3)).trans e2
        have e3 : (va_up (va_up cs qk (.inr (3, [.ref (ad q2), .ref (ad q4), .ref (ad q6), .ref (ad q7), .int (nI w), .int gr, .int mo, .int xa, .int xb, .int (nI fr), .ref (ad q1), .int nu, .int (nI tt), .int (nI (dn + 1)), .int (nI db)]))) q3 (.inl (cB, 64, .inl (kv_K_writeMaskBit_q3 rd f ((nI fr) + (nI dn)) 0)))) q3 = .inl (cB, 64, .inl (kv_K_writeMaskBit_q3 rd f ((nI fr) + (nI dn)) 0)) := va_up_self _ _ _
        have e4 : (va_up (va_up cs qk (.inr (3, [.ref (ad q2), .ref (ad q4), .ref (ad q6), .ref (ad q7), .int (nI w), .int gr, .int mo, .int xa, .int xb, .int (nI fr), .ref (ad q1), .int nu, .int (nI tt), .int (nI (dn + 1)), .int (nI db)]))) q3 (.inl (cB, 64, .inl (kv_K_writeMaskBit_q3 rd f ((nI fr) + (nI dn)) 0)))) q4 = .inr (0, [.ref (ad q5)]) := (va_up_ne _ _ (hn_q3_q4.symm)).trans e4
        have e5 : (va_up (va_up cs qk (.inr (3, [.ref (ad q2), .ref (ad q4), .ref (ad q6), .ref (ad q7), .int (nI w), .int gr, .int mo, .int xa, .int xb, .int (nI fr), .ref (ad q1), .int nu, .int (nI tt), .int (nI (dn + 1)), .int (nI db)]))) q3 (.inl (cB, 64, .inl (kv_K_writeMaskBit_q3 rd f ((nI fr) + (nI dn)) 0)))) q5 = .inl (cB, 128, .inl (g)) := (va_up_ne _ _ (hn_q3_q5.symm)).trans e5
        refine lv_goto (tgt := 238) hx hb d_K_doNextStep_136 (by decide) ?_
        exact kw_vret hx hb hr hlocks hP hK hS (by rw [show kv_K_doNextStep_q3 w fr tt dn mo xa xb op rd ra rb mk f g = kv_K_writeMaskBit_q3 rd f ((nI fr) + (nI dn)) 0 from (by rw [kv_K_doNextStep_q3, if_pos h1, if_pos h2, if_pos h3]), show kv_K_doNextStep_q5 w fr dn xa xb op rd rb mk f g = g from (by rw [kv_K_doNextStep_q5, if_pos h1, if_pos h2]), kw_id (e5)]) d_K_doNextStep_238
      · refine lv_iconst (v := 1) hx hb d_K_doNextStep_128 (by decide) ?_
        refine lv_goto (tgt := 133) hx hb d_K_doNextStep_129 (by decide) ?_
        refine kw_callvx (kw_rV (As := [.int ((nI fr) + (nI dn)), .int 1]) (rest := []) (q0 := qk) ⟨hx, hb, hml, hown, hg⟩ ⟨callB_of 2 hg (kg_goodG kg_440) rfl rfl rfl (hg _ kg_6) (hg _ kg_437) (by decide +kernel) ⟨by decide, by decide⟩, hg _ kg_439, hg _ (kg_sel (q := (y_K_writeMaskBit, 15)) (by decide +kernel))⟩ (c_K_writeMaskBit l hJ hqk ek hq1 e1 hq2 e2 hq3 e3 ) hK hP hqk ek rfl rfl hl.1 rfl (Nat.le_of_ble_eq_true rfl) d_K_doNextStep_133 ⟨Nat.zero_le _, Nat.zero_le _⟩) hA hS (fun H locs hP hS => ?_)
        have ek : (va_up (va_up cs qk (.inr (3, [.ref (ad q2), .ref (ad q4), .ref (ad q6), .ref (ad q7), .int (nI w), .int gr, .int mo, .int xa, .int xb, .int (nI fr), .ref (ad q1), .int nu, .int (nI tt), .int (nI (dn + 1)), .int (nI db)]))) q3 (.inl (cB, 64, .inl (kv_K_writeMaskBit_q3 rd f ((nI fr) + (nI dn)) 1)))) qk = .inr (3, [.ref (ad q2), .ref (ad q4), .ref (ad q6), .ref (ad q7), .int (nI w), .int gr, .int mo, .int xa, .int xb, .int (nI fr), .ref (ad q1), .int nu, .int (nI tt), .int (nI (dn + 1)), .int (nI db)]) := (va_up_ne _ _ (hn_qk_q3)).trans ek
        have e1 : (va_up (va_up cs qk (.inr (3, [.ref (ad q2), .ref (ad q4), .ref (ad q6), .ref (ad q7), .int (nI w), .int gr, .int mo, .int xa, .int xb, .int (nI fr), .ref (ad q1), .int nu, .int (nI tt), .int (nI (dn + 1)), .int (nI db)]))) q3 (.inl (cB, 64, .inl (kv_K_writeMaskBit_q3 rd f ((nI fr) + (nI dn)) 1)))) q1 = .inr (1, [.int op, .int rd, .int ra, .int rb, .int rn, .int mk]) := (va_up_ne _ _ (hn_q1_q3)).trans e1
        have e2 : (va_up (va_up cs qk (.inr (3, [.ref (ad q2), .ref (ad q4), .ref (ad q6), .ref (ad q7), .int (nI w), .int gr, .int mo, .int xa, .int xb, .int (nI fr), .ref (ad q1), .int nu, .int (nI tt), .int (nI (dn + 1)), .int (nI db)]))) q3 (.inl (cB, 64, .inl (kv_K_writeMaskBit_q3 rd f ((nI fr) + (nI dn)) 1)))) q2 = .inr (0, [.ref (ad q3)]) := (va_up_ne _ _ (hn_q2_q3)).trans e2
        have e3 : (va_up (va_up cs qk (.inr (3, [.ref (ad q2), .ref (ad q4), .ref (ad q6), .ref (ad q7), .int (nI w), .int gr, .int mo, .int xa, .int xb, .int (nI fr), .ref (ad q1), .int nu, .int (nI tt), .int (nI (dn + 1)), .int (nI db)]))) q3 (.inl (cB, 64, .inl (kv_K_writeMaskBit_q3 rd f ((nI fr) + (nI dn)) 1)))) q3 = .inl (cB, 64, .inl (kv_K_writeMaskBit_q3 rd f ((nI fr) + (nI dn)) 1)) := va_up_self _ _ _
        have e4 : (va_up (va_up cs qk (.inr (3, [.ref (ad q2), .ref (ad q4), .ref (ad q6), .ref (ad q7), .int (nI w), .int gr, .int mo, .int xa, .int xb, .int (nI fr), .ref (ad q1), .int nu, .int (nI tt), .int (nI (dn + 1)), .int (nI db)]))) q3 (.inl (cB, 64, .inl (kv_K_writeMaskBit_q3 rd f ((nI fr) + (nI dn)) 1)))) q4 = .inr (0, [.ref (ad q5)]) := (va_up_ne _ _ (hn_q3_q4.symm)).trans e4
        have e5 : (va_up (va_up cs qk (.inr (3, [.ref (ad q2), .ref (ad q4), .ref (ad q6), .ref (ad q7), .int (nI w), .int gr, .int mo, .int xa, .int xb, .int (nI fr), .ref (ad q1), .int nu, .int (nI tt), .int (nI (dn + 1)), .int (nI db)]))) q3 (.inl (cB, 64, .inl (kv_K_writeMaskBit_q3 rd f ((nI fr) + (nI dn)) 1)))) q5 = .inl (cB, 128, .inl (g)) := (va_up_ne _ _ (hn_q3_q5.symm)).trans e5
        refine lv_goto (tgt := 238) hx hb d_K_doNextStep_136 (by decide) ?_
        exact kw_vret hx hb hr hlocks hP hK hS (by rw [show kv_K_doNextStep_q3 w fr tt dn mo xa xb op rd ra rb mk f g = kv_K_writeMaskBit_q3 rd f ((nI fr) + (nI dn)) 1 from (by rw [kv_K_doNextStep_q3, if_pos h1, if_pos h2, if_neg h3]), show kv_K_doNextStep_q5 w fr dn xa xb op rd rb mk f g = g from (by rw [kv_K_doNextStep_q5, if_pos h1, if_pos h2]), kw_id (e5)]) d_K_doNextStep_238
    by_cases h4 : op = 13
    · refine lv_tableIn (tgt := 139) hx hb d_K_doNextStep_48 (by rw [h4]; decide) (by rw [h4]; decide) (by rw [h4]; rfl) (by decide) ?_
      refine lv_aload_n hx hb d_K_doNextStep_139 rfl (lv_at hl 1 rfl) ?_
      refine kw_get hx hb hg in_K hown hK hP qk hqk ek rfl 0 (by decide) (hg _ kg_111) rfl rfl d_K_doNextStep_140 ?_
      refine lv_bipush (v := 8) hx hb d_K_doNextStep_143 (by decide) ?_
      refine lv_aload_n hx hb d_K_doNextStep_145 rfl (lv_at hl 1 rfl) ?_
      refine kw_get hx hb hg in_K hown hK hP qk hqk ek rfl 10 (by decide) (hg _ kg_121) rfl rfl d_K_doNextStep_146 ?_
      refine kw_get hx hb hg in_I hown hK hP q1 hq1 e1 rfl 1 (by decide) (hg _ kg_77) rfl rfl d_K_doNextStep_149 ?_
      refine lv_imul hx hb d_K_doNextStep_152 ?_
      refine lv_iconst (v := 2) hx hb d_K_doNextStep_153 (by decide) ?_
      refine lv_iload_n hx hb d_K_doNextStep_154 rfl (lv_at hl 0 rfl) ?_
      refine lv_imul hx hb d_K_doNextStep_155 ?_
      refine lv_aload_n hx hb d_K_doNextStep_156 rfl (lv_at hl 1 rfl) ?_
      refine kw_get hx hb hg in_K hown hK hP qk hqk ek rfl 4 (by decide) (hg _ kg_115) rfl rfl d_K_doNextStep_157 ?_
      refine lv_imul hx hb d_K_doNextStep_160 ?_
      refine lv_iadd hx hb d_K_doNextStep_161 ?_
      refine lv_iconst (v := 2) hx hb d_K_doNextStep_162 (by decide) ?_
      refine lv_aload_n hx hb d_K_doNextStep_163 rfl (lv_at hl 1 rfl) ?_
      refine kw_get hx hb hg in_K hown hK hP qk hqk ek rfl 4 (by decide) (hg _ kg_115) rfl rfl d_K_doNextStep_164 ?_
      refine lv_imul hx hb d_K_doNextStep_167 ?_
      rw [show (2 : Int32) * nI w = nI (2 * w) from pk_mul 2 w]
      refine lv_aload_n hx hb d_K_doNextStep_168 rfl (lv_at hl 1 rfl) ?_
      refine lv_iload_n hx hb d_K_doNextStep_169 rfl (lv_at hl 0 rfl) ?_
      refine kw_callix (kw_rV (As := [.int ((nI fr) + (nI dn))]) (rest := [.int (nI (2 * w)), .int ((8 * rd) + ((2 * ((nI fr) + (nI dn))) * (nI w))), .ref (ad q2)]) (q0 := qk) ⟨hx, hb, hml, hown, hg⟩ ⟨callB_of 1 hg (kg_goodG kg_444) rfl rfl rfl (hg _ kg_6) (hg _ kg_441) (by decide +kernel) ⟨by decide, by decide⟩, hg _ kg_443, hg _ (kg_sel (q := (y_K_result, 15)) (by decide +kernel))⟩ (c_K_result l hqk ek hq1 e1 hq2 e2 hq3 e3 hq4 e4 hq5 e5 (by omega) ) hK hP hqk ek rfl rfl hl.1 rfl (Nat.le_of_ble_eq_true rfl) d_K_doNextStep_170 ⟨Nat.zero_le _, Nat.zero_le _⟩) hA hS (fun H locs hP hS => ?_)
      refine kw_callvx (kw_rV (As := [.int ((8 * rd) + ((2 * ((nI fr) + (nI dn))) * (nI w))), .int (nI (2 * w)), .int (kv_K_result w mo xa xb op ra rb f g ((nI fr) + (nI dn)))]) (rest := []) (q0 := q2) ⟨hx, hb, hml, hown, hg⟩ ⟨callB_of 3 hg (kg_goodG kg_436) rfl rfl rfl (hg _ kg_3) (hg _ kg_433) (by decide +kernel) ⟨by decide, by decide⟩, hg _ kg_434, hg _ kg_435⟩ (c_B_write l hJ hq2 e2 hq3 e3 (by omega) (by decide) (w := 2 * w)) hK hP hq2 e2 rfl rfl hl.1 rfl (Nat.le_of_ble_eq_true rfl) d_K_doNextStep_173 ⟨Nat.zero_le _, Nat.zero_le _⟩) hA hS (fun H locs hP hS => ?_)
      have ek : (va_up (va_up cs qk (.inr (3, [.ref (ad q2), .ref (ad q4), .ref (ad q6), .ref (ad q7), .int (nI w), .int gr, .int mo, .int xa, .int xb, .int (nI fr), .ref (ad q1), .int nu, .int (nI tt), .int (nI (dn + 1)), .int (nI db)]))) q3 (.inl (cB, 64, .inl (kv_write f 64 ((8 * rd) + ((2 * ((nI fr) + (nI dn))) * (nI w))) (2 * w) (kv_K_result w mo xa xb op ra rb f g ((nI fr) + (nI dn))))))) qk = .inr (3, [.ref (ad q2), .ref (ad q4), .ref (ad q6), .ref (ad q7), .int (nI w), .int gr, .int mo, .int xa, .int xb, .int (nI fr), .ref (ad q1), .int nu, .int (nI tt), .int (nI (dn + 1)), .int (nI db)]) := (va_up_ne _ _ (hn_qk_q3)).trans ek
      have e1 : (va_up (va_up cs qk (.inr (3, [.ref (ad q2), .ref (ad q4), .ref (ad q6), .ref (ad q7), .int (nI w), .int gr, .int mo, .int xa, .int xb, .int (nI fr), .ref (ad q1), .int nu, .int (nI tt), .int (nI (dn + 1)), .int (nI db)]))) q3 (.inl (cB, 64, .inl (kv_write f 64 ((8 * rd) + ((2 * ((nI fr) + (nI dn))) * (nI w))) (2 * w) (kv_K_result w mo xa xb op ra rb f g ((nI fr) + (nI dn))))))) q1 = .inr (1, [.int op, .int rd, .int ra, .int rb, .int rn, .int mk]) := (va_up_ne _ _ (hn_q1_q3)).trans e1
      have e2 : (va_up (va_up cs qk (.inr (3, [.ref (ad q2), .ref (ad q4), .ref (ad q6), .ref (ad q7), .int (nI w), .int gr, .int mo, .int xa, .int xb, .int (nI fr), .ref (ad q1), .int nu, .int (nI tt), .int (nI (dn + 1)), .int (nI db)]))) q3 (.inl (cB, 64, .inl (kv_write f 64 ((8 * rd) + ((2 * ((nI fr) + (nI dn))) * (nI w))) (2 * w) (kv_K_result w mo xa xb op ra rb f g ((nI fr) + (nI dn))))))) q2 = .inr (0, [.ref (ad q3)]) := (va_up_ne _ _ (hn_q2_q3)).trans e2
      have e3 : (va_up (va_up cs qk (.inr (3, [.ref (ad q2), .ref (ad q4), .ref (ad q6), .ref (ad q7), .int (nI w), .int gr, .int mo, .int xa, .int xb, .int (nI fr), .ref (ad q1), .int nu, .int (nI tt), .int (nI (dn + 1)), .int (nI db)]))) q3 (.inl (cB, 64, .inl (kv_write f 64 ((8 * rd) + ((2 * ((nI fr) + (nI dn))) * (nI w))) (2 * w) (kv_K_result w mo xa xb op ra rb f g ((nI fr) + (nI dn))))))) q3 = .inl (cB, 64, .inl (kv_write f 64 ((8 * rd) + ((2 * ((nI fr) + (nI dn))) * (nI w))) (2 * w) (kv_K_result w mo xa xb op ra rb f g ((nI fr) + (nI dn))))) := va_up_self _ _ _
      have e4 : (va_up (va_up cs qk (.inr (3, [.ref (ad q2), .ref (ad q4), .ref (ad q6), .ref (ad q7), .int (nI w), .int gr, .int mo, .int xa, .int xb, .int (nI fr), .ref (ad q1), .int nu, .int (nI tt), .int (nI (dn + 1)), .int (nI db)]))) q3 (.inl (cB, 64, .inl (kv_write f 64 ((8 * rd) + ((2 * ((nI fr) + (nI dn))) * (nI w))) (2 * w) (kv_K_result w mo xa xb op ra rb f g ((nI fr) + (nI dn))))))) q4 = .inr (0, [.ref (ad q5)]) := (va_up_ne _ _ (hn_q3_q4.symm)).trans e4
      have e5 : (va_up (va_up cs qk (.inr (3, [.ref (ad q2), .ref (ad q4), .ref (ad q6), .ref (ad q7), .int (nI w), .int gr, .int mo, .int xa, .int xb, .int (nI fr), .ref (ad q1), .int nu, .int (nI tt), .int (nI (dn + 1)), .int (nI db)]))) q3 (.inl (cB, 64, .inl (kv_write f 64 ((8 * rd) + ((2 * ((nI fr) + (nI dn))) * (nI w))) (2 * w) (kv_K_result w mo xa xb op ra rb f g ((nI fr) + (nI dn))))))) q5 = .inl (cB, 128, .inl (g)) := (va_up_ne _ _ (hn_q3_q5.symm)).trans e5
      refine lv_goto (tgt := 238) hx hb d_K_doNextStep_176 (by decide) ?_
      exact kw_vret hx hb hr hlocks hP hK hS (by rw [show kv_K_doNextStep_q3 w fr tt dn mo xa xb op rd ra rb mk f g = kv_write f 64 ((8 * rd) + ((2 * ((nI fr) + (nI dn))) * (nI w))) (2 * w) (kv_K_result w mo xa xb op ra rb f g ((nI fr) + (nI dn))) from (by rw [kv_K_doNextStep_q3, if_pos h1, if_neg h2, if_pos h4]), show kv_K_doNextStep_q5 w fr dn xa xb op rd rb mk f g = g from (by rw [kv_K_doNextStep_q5, if_pos h1, if_neg h2, if_pos h4]), kw_id (e5)]) d_K_doNextStep_238
    by_cases h5 : op = 14
    · refine lv_tableIn (tgt := 92) hx hb d_K_doNextStep_48 (by rw [h5]; decide) (by rw [h5]; decide) (by rw [h5]; rfl) (by decide) ?_
      refine lv_aload_n hx hb d_K_doNextStep_92 rfl (lv_at hl 1 rfl) ?_
      refine kw_callvx (kw_rV (As := []) (rest := []) (q0 := qk) ⟨hx, hb, hml, hown, hg⟩ ⟨callB_of 0 hg (kg_goodG kg_427) rfl rfl rfl (hg _ kg_6) (hg _ kg_424) (by decide +kernel) ⟨by decide, by decide⟩, hg _ kg_426, hg _ (kg_sel (q := (y_K_writeSum, 15)) (by decide +kernel))⟩ (c_K_writeSum l hJ hqk ek hq1 e1 hq2 e2 hq3 e3 (by omega) hft htt ) hK hP hqk ek rfl rfl hl.1 rfl (Nat.le_of_ble_eq_true rfl) d_K_doNextStep_93 ⟨Nat.zero_le _, Nat.zero_le _⟩) hA hS (fun H locs hP hS => ?_)
      have ek : (va_up (va_up cs qk (.inr (3, [.ref (ad q2), .ref (ad q4), .ref (ad q6), .ref (ad q7), .int (nI w), .int gr, .int mo, .int xa, .int xb, .int (nI fr), .ref (ad q1), .int nu, .int (nI tt), .int (nI (dn + 1)), .int (nI db)]))) q3 (.inl (cB, 64, .inl (kv_K_writeSum_q3 w fr tt rd ra rb mk f)))) qk = .inr (3, [.ref (ad q2), .ref (ad q4), .ref (ad q6), .ref (ad q7), .int (nI w), .int gr, .int mo, .int xa, .int xb, .int (nI fr), .ref (ad q1), .int nu, .int (nI tt), .int (nI (dn + 1)), .int (nI db)]) := (va_up_ne _ _ (hn_qk_q3)).trans ek
      have e1 : (va_up (va_up cs qk (.inr (3, [.ref (ad q2), .ref (ad q4), .ref (ad q6), .ref (ad q7), .int (nI w), .int gr, .int mo, .int xa, .int xb, .int (nI fr), .ref (ad q1), .int nu, .int (nI tt), .int (nI (dn + 1)), .int (nI db)]))) q3 (.inl (cB, 64, .inl (kv_K_writeSum_q3 w fr tt rd ra rb mk f)))) q1 = .inr (1, [.int op, .int rd, .int ra, .int rb, .int rn, .int mk]) := (va_up_ne _ _ (hn_q1_q3)).trans e1
      have e2 : (va_up (va_up cs qk (.inr (3, [.ref (ad q2), .ref (ad q4), .ref (ad q6), .ref (ad q7), .int (nI w), .int gr, .int mo, .int xa, .int xb, .int (nI fr), .ref (ad q1), .int nu, .int (nI tt), .int (nI (dn + 1)), .int (nI db)]))) q3 (.inl (cB, 64, .inl (kv_K_writeSum_q3 w fr tt rd ra rb mk f)))) q2 = .inr (0, [.ref (ad q3)]) := (va_up_ne _ _ (hn_q2_q3)).trans e2
      have e3 : (va_up (va_up cs qk (.inr (3, [.ref (ad q2), .ref (ad q4), .ref (ad q6), .ref (ad q7), .int (nI w), .int gr, .int mo, .int xa, .int xb, .int (nI fr), .ref (ad q1), .int nu, .int (nI tt), .int (nI (dn + 1)), .int (nI db)]))) q3 (.inl (cB, 64, .inl (kv_K_writeSum_q3 w fr tt rd ra rb mk f)))) q3 = .inl (cB, 64, .inl (kv_K_writeSum_q3 w fr tt rd ra rb mk f)) := va_up_self _ _ _
      have e4 : (va_up (va_up cs qk (.inr (3, [.ref (ad q2), .ref (ad q4), .ref (ad q6), .ref (ad q7), .int (nI w), .int gr, .int mo, .int xa, .int xb, .int (nI fr), .ref (ad q1), .int nu, .int (nI tt), .int (nI (dn + 1)), .int (nI db)]))) q3 (.inl (cB, 64, .inl (kv_K_writeSum_q3 w fr tt rd ra rb mk f)))) q4 = .inr (0, [.ref (ad q5)]) := (va_up_ne _ _ (hn_q3_q4.symm)).trans e4
      have e5 : (va_up (va_up cs qk (.inr (3, [.ref (ad q2), .ref (ad q4), .ref (ad q6), .ref (ad q7), .int (nI w), .int gr, .int mo, .int xa, .int xb, .int (nI fr), .ref (ad q1), .int nu, .int (nI tt), .int (nI (dn + 1)), .int (nI db)]))) q3 (.inl (cB, 64, .inl (kv_K_writeSum_q3 w fr tt rd ra rb mk f)))) q5 = .inl (cB, 128, .inl (g)) := (va_up_ne _ _ (hn_q3_q5.symm)).trans e5
      refine lv_goto (tgt := 238) hx hb d_K_doNextStep_96 (by decide) ?_
      exact kw_vret hx hb hr hlocks hP hK hS (by rw [show kv_K_doNextStep_q3 w fr tt dn mo xa xb op rd ra rb mk f g = kv_K_writeSum_q3 w fr tt rd ra rb mk f from (by rw [kv_K_doNextStep_q3, if_pos h1, if_neg h2, if_neg h4, if_pos h5]), show kv_K_doNextStep_q5 w fr dn xa xb op rd rb mk f g = g from (by rw [kv_K_doNextStep_q5, if_pos h1, if_neg h2, if_neg h4, if_pos h5]), kw_id (e5)]) d_K_doNextStep_238
    by_cases h6 : op = 18
    · refine lv_tableIn (tgt := 179) hx hb d_K_doNextStep_48 (by rw [h6]; decide) (by rw [h6]; decide) (by rw [h6]; rfl) (by decide) ?_
      refine lv_aload_n hx hb d_K_doNextStep_179 rfl (lv_at hl 1 rfl) ?_
      refine kw_get hx hb hg in_K hown hK hP qk hqk ek rfl 1 (by decide) (hg _ kg_112) rfl rfl d_K_doNextStep_180 ?_
      refine lv_aload_n hx hb d_K_doNextStep_183 rfl (lv_at hl 1 rfl) ?_
      refine lv_iload_n hx hb d_K_doNextStep_184 rfl (lv_at hl 0 rfl) ?_
      refine kw_callix (kw_rV (As := [.int ((nI fr) + (nI dn))]) (rest := [.ref (ad q4)]) (q0 := qk) ⟨hx, hb, hml, hown, hg⟩ ⟨callB_of 1 hg (kg_goodG kg_452) rfl rfl rfl (hg _ kg_6) (hg _ kg_449) (by decide +kernel) ⟨by decide, by decide⟩, hg _ kg_451, hg _ (kg_sel (q := (y_K_placeInMemory, 15)) (by decide +kernel))⟩ (c_K_placeInMemory l hqk ek hq1 e1 hq2 e2 hq3 e3 (by omega) ) hK hP hqk ek rfl rfl hl.1 rfl (Nat.le_of_ble_eq_true rfl) d_K_doNextStep_185 ⟨Nat.zero_le _, Nat.zero_le _⟩) hA hS (fun H locs hP hS => ?_)
      refine lv_aload_n hx hb d_K_doNextStep_188 rfl (lv_at hl 1 rfl) ?_
      refine kw_get hx hb hg in_K hown hK hP qk hqk ek rfl 4 (by decide) (hg _ kg_115) rfl rfl d_K_doNextStep_189 ?_
      refine lv_aload_n hx hb d_K_doNextStep_192 rfl (lv_at hl 1 rfl) ?_
      refine lv_aload_n hx hb d_K_doNextStep_193 rfl (lv_at hl 1 rfl) ?_
      refine kw_get hx hb hg in_K hown hK hP qk hqk ek rfl 10 (by decide) (hg _ kg_121) rfl rfl d_K_doNextStep_194 ?_
      refine kw_get hx hb hg in_I hown hK hP q1 hq1 e1 rfl 1 (by decide) (hg _ kg_77) rfl rfl d_K_doNextStep_197 ?_
      refine lv_iload_n hx hb d_K_doNextStep_200 rfl (lv_at hl 0 rfl) ?_
      refine kw_callix (kw_rV (As := [.int rd, .int ((nI fr) + (nI dn))]) (rest := [.int (nI w), .int (kv_K_placeInMemory w xa xb op rb f ((nI fr) + (nI dn))), .ref (ad q4)]) (q0 := qk) ⟨hx, hb, hml, hown, hg⟩ ⟨callB_of 2 hg (kg_goodG kg_431) rfl rfl rfl (hg _ kg_6) (hg _ kg_428) (by decide +kernel) ⟨by decide, by decide⟩, hg _ kg_430, hg _ (kg_sel (q := (y_K_element, 15)) (by decide +kernel))⟩ (c_K_element l hqk ek hq1 e1 hq2 e2 hq3 e3 (by omega) ) hK hP hqk ek rfl rfl hl.1 rfl (Nat.le_of_ble_eq_true rfl) d_K_doNextStep_201 ⟨Nat.zero_le _, Nat.zero_le _⟩) hA hS (fun H locs hP hS => ?_)
      refine kw_callvx (kw_rV (As := [.int (kv_K_placeInMemory w xa xb op rb f ((nI fr) + (nI dn))), .int (nI w), .int (kv_K_element w f rd ((nI fr) + (nI dn)))]) (rest := []) (q0 := q4) ⟨hx, hb, hml, hown, hg⟩ ⟨callB_of 3 hg (kg_goodG kg_436) rfl rfl rfl (hg _ kg_3) (hg _ kg_433) (by decide +kernel) ⟨by decide, by decide⟩, hg _ kg_434, hg _ kg_435⟩ (c_B_write l hJ hq4 e4 hq5 e5 (by omega) (by decide) ) hK hP hq4 e4 rfl rfl hl.1 rfl (Nat.le_of_ble_eq_true rfl) d_K_doNextStep_204 ⟨Nat.zero_le _, Nat.zero_le _⟩) hA hS (fun H locs hP hS => ?_)
      have ek : (va_up (va_up cs qk (.inr (3, [.ref (ad q2), .ref (ad q4), .ref (ad q6), .ref (ad q7), .int (nI w), .int gr, .int mo, .int xa, .int xb, .int (nI fr), .ref (ad q1), .int nu, .int (nI tt), .int (nI (dn + 1)), .int (nI db)]))) q5 (.inl (cB, 128, .inl (kv_write g 128 (kv_K_placeInMemory w xa xb op rb f ((nI fr) + (nI dn))) w (kv_K_element w f rd ((nI fr) + (nI dn))))))) qk = .inr (3, [.ref (ad q2), .ref (ad q4), .ref (ad q6), .ref (ad q7), .int (nI w), .int gr, .int mo, .int xa, .int xb, .int (nI fr), .ref (ad q1), .int nu, .int (nI tt), .int (nI (dn + 1)), .int (nI db)]) := (va_up_ne _ _ (hn_qk_q5)).trans ek
      have e1 : (va_up (va_up cs qk (.inr (3, [.ref (ad q2), .ref (ad q4), .ref (ad q6), .ref (ad q7), .int (nI w), .int gr, .int mo, .int xa, .int xb, .int (nI fr), .ref (ad q1), .int nu, .int (nI tt), .int (nI (dn + 1)), .int (nI db)]))) q5 (.inl (cB, 128, .inl (kv_write g 128 (kv_K_placeInMemory w xa xb op rb f ((nI fr) + (nI dn))) w (kv_K_element w f rd ((nI fr) + (nI dn))))))) q1 = .inr (1, [.int op, .int rd, .int ra, .int rb, .int rn, .int mk]) := (va_up_ne _ _ (hn_q1_q5)).trans e1
      have e2 : (va_up (va_up cs qk (.inr (3, [.ref (ad q2), .ref (ad q4), .ref (ad q6), .ref (ad q7), .int (nI w), .int gr, .int mo, .int xa, .int xb, .int (nI fr), .ref (ad q1), .int nu, .int (nI tt), .int (nI (dn + 1)), .int (nI db)]))) q5 (.inl (cB, 128, .inl (kv_write g 128 (kv_K_placeInMemory w xa xb op rb f ((nI fr) + (nI dn))) w (kv_K_element w f rd ((nI fr) + (nI dn))))))) q2 = .inr (0, [.ref (ad q3)]) := (va_up_ne _ _ (hn_q2_q5)).trans e2
      have e3 : (va_up (va_up cs qk (.inr (3, [.ref (ad q2), .ref (ad q4), .ref (ad q6), .ref (ad q7), .int (nI w), .int gr, .int mo, .int xa, .int xb, .int (nI fr), .ref (ad q1), .int nu, .int (nI tt), .int (nI (dn + 1)), .int (nI db)]))) q5 (.inl (cB, 128, .inl (kv_write g 128 (kv_K_placeInMemory w xa xb op rb f ((nI fr) + (nI dn))) w (kv_K_element w f rd ((nI fr) + (nI dn))))))) q3 = .inl (cB, 64, .inl (f)) := (va_up_ne _ _ (hn_q3_q5)).trans e3
      have e4 : (va_up (va_up cs qk (.inr (3, [.ref (ad q2), .ref (ad q4), .ref (ad q6), .ref (ad q7), .int (nI w), .int gr, .int mo, .int xa, .int xb, .int (nI fr), .ref (ad q1), .int nu, .int (nI tt), .int (nI (dn + 1)), .int (nI db)]))) q5 (.inl (cB, 128, .inl (kv_write g 128 (kv_K_placeInMemory w xa xb op rb f ((nI fr) + (nI dn))) w (kv_K_element w f rd ((nI fr) + (nI dn))))))) q4 = .inr (0, [.ref (ad q5)]) := (va_up_ne _ _ (hn_q4_q5)).trans e4
      have e5 : (va_up (va_up cs qk (.inr (3, [.ref (ad q2), .ref (ad q4), .ref (ad q6), .ref (ad q7), .int (nI w), .int gr, .int mo, .int xa, .int xb, .int (nI fr), .ref (ad q1), .int nu, .int (nI tt), .int (nI (dn + 1)), .int (nI db)]))) q5 (.inl (cB, 128, .inl (kv_write g 128 (kv_K_placeInMemory w xa xb op rb f ((nI fr) + (nI dn))) w (kv_K_element w f rd ((nI fr) + (nI dn))))))) q5 = .inl (cB, 128, .inl (kv_write g 128 (kv_K_placeInMemory w xa xb op rb f ((nI fr) + (nI dn))) w (kv_K_element w f rd ((nI fr) + (nI dn))))) := va_up_self _ _ _
      refine lv_goto (tgt := 238) hx hb d_K_doNextStep_207 (by decide) ?_
      exact kw_vret hx hb hr hlocks hP hK hS (by rw [show kv_K_doNextStep_q3 w fr tt dn mo xa xb op rd ra rb mk f g = f from (by rw [kv_K_doNextStep_q3, if_pos h1, if_neg h2, if_neg h4, if_neg h5, if_pos h6]), show kv_K_doNextStep_q5 w fr dn xa xb op rd rb mk f g = kv_write g 128 (kv_K_placeInMemory w xa xb op rb f ((nI fr) + (nI dn))) w (kv_K_element w f rd ((nI fr) + (nI dn))) from (by rw [kv_K_doNextStep_q5, if_pos h1, if_neg h2, if_neg h4, if_neg h5, if_pos h6]), kw_id ((va_up_ne _ _ (hn_q3_q5)).symm.trans (e3))]) d_K_doNextStep_238
    refine kw_tbl (tgt := 210) (N := 7) hx hb d_K_doNextStep_48 rfl (by decide) (fun i hi => match i, hi with | 0, _ => Or.inr (lv_neT h2 rfl) | 1, _ => Or.inr (lv_neT h4 rfl) | 2, _ => Or.inr (lv_neT h5 rfl) | 3, _ => Or.inl rfl | 4, _ => Or.inl rfl | 5, _ => Or.inl rfl | 6, _ => Or.inr (lv_neT h6 rfl) | z + 7, h => absurd h (by omega)) ?_
    refine lv_aload_n hx hb d_K_doNextStep_210 rfl (lv_at hl 1 rfl) ?_
    refine kw_get hx hb hg in_K hown hK hP qk hqk ek rfl 0 (by decide) (hg _ kg_111) rfl rfl d_K_doNextStep_211 ?_
    refine lv_aload_n hx hb d_K_doNextStep_214 rfl (lv_at hl 1 rfl) ?_
    refine lv_aload_n hx hb d_K_doNextStep_215 rfl (lv_at hl 1 rfl) ?_
    refine kw_get hx hb hg in_K hown hK hP qk hqk ek rfl 10 (by decide) (hg _ kg_121) rfl rfl d_K_doNextStep_216 ?_
    refine kw_get hx hb hg in_I hown hK hP q1 hq1 e1 rfl 1 (by decide) (hg _ kg_77) rfl rfl d_K_doNextStep_219 ?_
    refine lv_iload_n hx hb d_K_doNextStep_222 rfl (lv_at hl 0 rfl) ?_
    refine kw_callix (kw_rV (As := [.int rd, .int ((nI fr) + (nI dn))]) (rest := [.ref (ad q2)]) (q0 := qk) ⟨hx, hb, hml, hown, hg⟩ ⟨callB_of 2 hg (kg_goodG kg_394) rfl rfl rfl (hg _ kg_6) (hg _ kg_391) (by decide +kernel) ⟨by decide, by decide⟩, hg _ kg_393, hg _ (kg_sel (q := (y_K_placeOf, 15)) (by decide +kernel))⟩ (c_K_placeOf l hqk ek ) hK hP hqk ek rfl rfl hl.1 rfl (Nat.le_of_ble_eq_true rfl) d_K_doNextStep_223 ⟨Nat.zero_le _, Nat.zero_le _⟩) hA hS (fun H locs hP hS => ?_)
    refine lv_aload_n hx hb d_K_doNextStep_226 rfl (lv_at hl 1 rfl) ?_
    refine kw_get hx hb hg in_K hown hK hP qk hqk ek rfl 4 (by decide) (hg _ kg_115) rfl rfl d_K_doNextStep_227 ?_
    refine lv_aload_n hx hb d_K_doNextStep_230 rfl (lv_at hl 1 rfl) ?_
    refine lv_iload_n hx hb d_K_doNextStep_231 rfl (lv_at hl 0 rfl) ?_
    refine kw_callix (kw_rV (As := [.int ((nI fr) + (nI dn))]) (rest := [.int (nI w), .int (kv_K_placeOf w rd ((nI fr) + (nI dn))), .ref (ad q2)]) (q0 := qk) ⟨hx, hb, hml, hown, hg⟩ ⟨callB_of 1 hg (kg_goodG kg_444) rfl rfl rfl (hg _ kg_6) (hg _ kg_441) (by decide +kernel) ⟨by decide, by decide⟩, hg _ kg_443, hg _ (kg_sel (q := (y_K_result, 15)) (by decide +kernel))⟩ (c_K_result l hqk ek hq1 e1 hq2 e2 hq3 e3 hq4 e4 hq5 e5 (by omega) ) hK hP hqk ek rfl rfl hl.1 rfl (Nat.le_of_ble_eq_true rfl) d_K_doNextStep_232 ⟨Nat.zero_le _, Nat.zero_le _⟩) hA hS (fun H locs hP hS => ?_)
    refine kw_callvx (kw_rV (As := [.int (kv_K_placeOf w rd ((nI fr) + (nI dn))), .int (nI w), .int (kv_K_result w mo xa xb op ra rb f g ((nI fr) + (nI dn)))]) (rest := []) (q0 := q2) ⟨hx, hb, hml, hown, hg⟩ ⟨callB_of 3 hg (kg_goodG kg_436) rfl rfl rfl (hg _ kg_3) (hg _ kg_433) (by decide +kernel) ⟨by decide, by decide⟩, hg _ kg_434, hg _ kg_435⟩ (c_B_write l hJ hq2 e2 hq3 e3 (by omega) (by decide) ) hK hP hq2 e2 rfl rfl hl.1 rfl (Nat.le_of_ble_eq_true rfl) d_K_doNextStep_235 ⟨Nat.zero_le _, Nat.zero_le _⟩) hA hS (fun H locs hP hS => ?_)
    have ek : (va_up (va_up cs qk (.inr (3, [.ref (ad q2), .ref (ad q4), .ref (ad q6), .ref (ad q7), .int (nI w), .int gr, .int mo, .int xa, .int xb, .int (nI fr), .ref (ad q1), .int nu, .int (nI tt), .int (nI (dn + 1)), .int (nI db)]))) q3 (.inl (cB, 64, .inl (kv_write f 64 (kv_K_placeOf w rd ((nI fr) + (nI dn))) w (kv_K_result w mo xa xb op ra rb f g ((nI fr) + (nI dn))))))) qk = .inr (3, [.ref (ad q2), .ref (ad q4), .ref (ad q6), .ref (ad q7), .int (nI w), .int gr, .int mo, .int xa, .int xb, .int (nI fr), .ref (ad q1), .int nu, .int (nI tt), .int (nI (dn + 1)), .int (nI db)]) := (va_up_ne _ _ (hn_qk_q3)).trans ek
    have e1 : (va_up (va_up cs qk (.inr (3, [.ref (ad q2), .ref (ad q4), .ref (ad q6), .ref (ad q7), .int (nI w), .int gr, .int mo, .int xa, .int xb, .int (nI fr), .ref (ad q1), .int nu, .int (nI tt), .int (nI (dn + 1)), .int (nI db)]))) q3 (.inl (cB, 64, .inl (kv_write f 64 (kv_K_placeOf w rd ((nI fr) + (nI dn))) w (kv_K_result w mo xa xb op ra rb f g ((nI fr) + (nI dn))))))) q1 = .inr (1, [.int op, .int rd, .int ra, .int rb, .int rn, .int mk]) := (va_up_ne _ _ (hn_q1_q3)).trans e1
    have e2 : (va_up (va_up cs qk (.inr (3, [.ref (ad q2), .ref (ad q4), .ref (ad q6), .ref (ad q7), .int (nI w), .int gr, .int mo, .int xa, .int xb, .int (nI fr), .ref (ad q1), .int nu, .int (nI tt), .int (nI (dn + 1)), .int (nI db)]))) q3 (.inl (cB, 64, .inl (kv_write f 64 (kv_K_placeOf w rd ((nI fr) + (nI dn))) w (kv_K_result w mo xa xb op ra rb f g ((nI fr) + (nI dn))))))) q2 = .inr (0, [.ref (ad q3)]) := (va_up_ne _ _ (hn_q2_q3)).trans e2
    have e3 : (va_up (va_up cs qk (.inr (3, [.ref (ad q2), .ref (ad q4), .ref (ad q6), .ref (ad q7), .int (nI w), .int gr, .int mo, .int xa, .int xb, .int (nI fr), .ref (ad q1), .int nu, .int (nI tt), .int (nI (dn + 1)), .int (nI db)]))) q3 (.inl (cB, 64, .inl (kv_write f 64 (kv_K_placeOf w rd ((nI fr) + (nI dn))) w (kv_K_result w mo xa xb op ra rb f g ((nI fr) + (nI dn))))))) q3 = .inl (cB, 64, .inl (kv_write f 64 (kv_K_placeOf w rd ((nI fr) + (nI dn))) w (kv_K_result w mo xa xb op ra rb f g ((nI fr) + (nI dn))))) := va_up_self _ _ _
    have e4 : (va_up (va_up cs qk (.inr (3, [.ref (ad q2), .ref (ad q4), .ref (ad q6), .ref (ad q7), .int (nI w), .int gr, .int mo, .int xa, .int xb, .int (nI fr), .ref (ad q1), .int nu, .int (nI tt), .int (nI (dn + 1)), .int (nI db)]))) q3 (.inl (cB, 64, .inl (kv_write f 64 (kv_K_placeOf w rd ((nI fr) + (nI dn))) w (kv_K_result w mo xa xb op ra rb f g ((nI fr) + (nI dn))))))) q4 = .inr (0, [.ref (ad q5)]) := (va_up_ne _ _ (hn_q3_q4.symm)).trans e4
    have e5 : (va_up (va_up cs qk (.inr (3, [.ref (ad q2), .ref (ad q4), .ref (ad q6), .ref (ad q7), .int (nI w), .int gr, .int mo, .int xa, .int xb, .int (nI fr), .ref (ad q1), .int nu, .int (nI tt), .int (nI (dn + 1)), .int (nI db)]))) q3 (.inl (cB, 64, .inl (kv_write f 64 (kv_K_placeOf w rd ((nI fr) + (nI dn))) w (kv_K_result w mo xa xb op ra rb f g ((nI fr) + (nI dn))))))) q5 = .inl (cB, 128, .inl (g)) := (va_up_ne _ _ (hn_q3_q5.symm)).trans e5
    exact kw_vret hx hb hr hlocks hP hK hS (by rw [show kv_K_doNextStep_q3 w fr tt dn mo xa xb op rd ra rb mk f g = kv_write f 64 (kv_K_placeOf w rd ((nI fr) + (nI dn))) w (kv_K_result w mo xa xb op ra rb f g ((nI fr) + (nI dn))) from (by rw [kv_K_doNextStep_q3, if_pos h1, if_neg h2, if_neg h4, if_neg h5, if_neg h6]), show kv_K_doNextStep_q5 w fr dn xa xb op rd rb mk f g = g from (by rw [kv_K_doNextStep_q5, if_pos h1, if_neg h2, if_neg h4, if_neg h5, if_neg h6]), kw_id (e5)]) d_K_doNextStep_238
  · refine lv_aload_n hx hb d_K_doNextStep_32 rfl (lv_at hl 1 rfl) ?_
    refine lv_iload_n hx hb d_K_doNextStep_33 rfl (lv_at hl 0 rfl) ?_
    refine kw_callix (kw_rV (As := [.int ((nI fr) + (nI dn))]) (rest := []) (q0 := qk) ⟨hx, hb, hml, hown, hg⟩ ⟨callB_of 1 hg (kg_goodG kg_422) rfl rfl rfl (hg _ kg_6) (hg _ kg_419) (by decide +kernel) ⟨by decide, by decide⟩, hg _ kg_421, hg _ (kg_sel (q := (y_K_isWorkedOn, 15)) (by decide +kernel))⟩ (c_K_isWorkedOn l hqk ek hq1 e1 hq2 e2 hq3 e3 ) hK hP hqk ek rfl rfl hl.1 rfl (Nat.le_of_ble_eq_true rfl) d_K_doNextStep_34 ⟨Nat.zero_le _, Nat.zero_le _⟩) hA hS (fun H locs hP hS => ?_)
    refine lv_if_ne (tgt := 41) hx hb d_K_doNextStep_37 (by decide) (fun h7 => ?_) (fun h7 => ?_)
    · refine lv_aload_n hx hb d_K_doNextStep_41 rfl (lv_at hl 1 rfl) ?_
      refine kw_get hx hb hg in_K hown hK hP qk hqk ek rfl 10 (by decide) (hg _ kg_121) rfl rfl d_K_doNextStep_42 ?_
      refine kw_get hx hb hg in_I hown hK hP q1 hq1 e1 rfl 0 (by decide) (hg _ kg_72) rfl rfl d_K_doNextStep_45 ?_
      by_cases h8 : op = 12
      · refine lv_tableIn (tgt := 99) hx hb d_K_doNextStep_48 (by rw [h8]; decide) (by rw [h8]; decide) (by rw [h8]; rfl) (by decide) ?_
        refine lv_aload_n hx hb d_K_doNextStep_99 rfl (lv_at hl 1 rfl) ?_
        refine lv_iload_n hx hb d_K_doNextStep_100 rfl (lv_at hl 0 rfl) ?_
        refine lv_aload_n hx hb d_K_doNextStep_101 rfl (lv_at hl 1 rfl) ?_
        refine lv_aload_n hx hb d_K_doNextStep_102 rfl (lv_at hl 1 rfl) ?_
        refine kw_get hx hb hg in_K hown hK hP qk hqk ek rfl 10 (by decide) (hg _ kg_121) rfl rfl d_K_doNextStep_103 ?_
        refine kw_get hx hb hg in_I hown hK hP q1 hq1 e1 rfl 2 (by decide) (hg _ kg_81) rfl rfl d_K_doNextStep_106 ?_
        refine lv_iload_n hx hb d_K_doNextStep_109 rfl (lv_at hl 0 rfl) ?_
        refine kw_callix (kw_rV (As := [.int ra, .int ((nI fr) + (nI dn))]) (rest := [.int ((nI fr) + (nI dn)), .ref (ad qk)]) (q0 := qk) ⟨hx, hb, hml, hown, hg⟩ ⟨callB_of 2 hg (kg_goodG kg_431) rfl rfl rfl (hg _ kg_6) (hg _ kg_428) (by decide +kernel) ⟨by decide, by decide⟩, hg _ kg_430, hg _ (kg_sel (q := (y_K_element, 15)) (by decide +kernel))⟩ (c_K_element l hqk ek hq1 e1 hq2 e2 hq3 e3 (by omega) ) hK hP hqk ek rfl rfl hl.1 rfl (Nat.le_of_ble_eq_true rfl) d_K_doNextStep_110 ⟨Nat.zero_le _, Nat.zero_le _⟩) hA hS (fun H locs hP hS => ?_)
        refine lv_aload_n hx hb d_K_doNextStep_113 rfl (lv_at hl 1 rfl) ?_
        refine lv_aload_n hx hb d_K_doNextStep_114 rfl (lv_at hl 1 rfl) ?_
        refine kw_get hx hb hg in_K hown hK hP qk hqk ek rfl 10 (by decide) (hg _ kg_121) rfl rfl d_K_doNextStep_115 ?_
        refine kw_get hx hb hg in_I hown hK hP q1 hq1 e1 rfl 3 (by decide) (hg _ kg_85) rfl rfl d_K_doNextStep_118 ?_
        refine lv_iload_n hx hb d_K_doNextStep_121 rfl (lv_at hl 0 rfl) ?_
        refine kw_callix (kw_rV (As := [.int rb, .int ((nI fr) + (nI dn))]) (rest := [.int (kv_K_element w f ra ((nI fr) + (nI dn))), .int ((nI fr) + (nI dn)), .ref (ad qk)]) (q0 := qk) ⟨hx, hb, hml, hown, hg⟩ ⟨callB_of 2 hg (kg_goodG kg_431) rfl rfl rfl (hg _ kg_6) (hg _ kg_428) (by decide +kernel) ⟨by decide, by decide⟩, hg _ kg_430, hg _ (kg_sel (q := (y_K_element, 15)) (by decide +kernel))⟩ (c_K_element l hqk ek hq1 e1 hq2 e2 hq3 e3 (by omega) ) hK hP hqk ek rfl rfl hl.1 rfl (Nat.le_of_ble_eq_true rfl) d_K_doNextStep_122 ⟨Nat.zero_le _, Nat.zero_le _⟩) hA hS (fun H locs hP hS => ?_)
        refine lv_icmp_ge (tgt := 132) hx hb d_K_doNextStep_125 (by decide) (fun h9 => ?_) (fun h9 => ?_)
        · refine lv_iconst (v := 0) hx hb d_K_doNextStep_132 (by decide) ?_
          refine kw_callvx (kw_rV (As := [.int ((nI fr) + (nI dn)), .int 0]) (rest := []) (q0 := qk) ⟨hx, hb, hml, hown, hg⟩ ⟨callB_of 2 hg (kg_goodG kg_440) rfl rfl rfl (hg _ kg_6) (hg _ kg_437) (by decide +kernel) ⟨by decide, by decide⟩, hg _ kg_439, hg _ (kg_sel (q := (y_K_writeMaskBit, 15)) (by decide +kernel))⟩ (c_K_writeMaskBit l hJ hqk ek hq1 e1 hq2 e2 hq3 e3 ) hK hP hqk ek rfl rfl hl.1 rfl (Nat.le_of_ble_eq_true rfl) d_K_doNextStep_133 ⟨Nat.zero_le _, Nat.zero_le _⟩) hA hS (fun H locs hP hS => ?_)
          have ek : (va_up (va_up cs qk (.inr (3, [.ref (ad q2), .ref (ad q4), .ref (ad q6), .ref (ad q7), .int (nI w), .int gr, .int mo, .int xa, .int xb, .int (nI fr), .ref (ad q1), .int nu, .int (nI tt), .int (nI (dn + 1)), .int (nI db)]))) q3 (.inl (cB, 64, .inl (kv_K_writeMaskBit_q3 rd f ((nI fr) + (nI dn)) 0)))) qk = .inr (3, [.ref (ad q2), .ref (ad q4), .ref (ad q6), .ref (ad q7), .int (nI w), .int gr, .int mo, .int xa, .int xb, .int (nI fr), .ref (ad q1), .int nu, .int (nI tt), .int (nI (dn + 1)), .int (nI db)]) := (va_up_ne _ _ (hn_qk_q3)).trans ek
          have e1 : (va_up (va_up cs qk (.inr (3, [.ref (ad q2), .ref (ad q4), .ref (ad q6), .ref (ad q7), .int (nI w), .int gr, .int mo, .int xa, .int xb, .int (nI fr), .ref (ad q1), .int nu, .int (nI tt), .int (nI (dn + 1)), .int (nI db)]))) q3 (.inl (cB, 64, .inl (kv_K_writeMaskBit_q3 rd f ((nI fr) + (nI dn)) 0)))) q1 = .inr (1, [.int op, .int rd, .int ra, .int rb, .int rn, .int mk]) := (va_up_ne _ _ (hn_q1_q3)).trans e1
          have e2 : (va_up (va_up cs qk (.inr (3, [.ref (ad q2), .ref (ad q4), .ref (ad q6), .ref (ad q7), .int (nI w), .int gr, .int mo, .int xa, .int xb, .int (nI fr), .ref (ad q1), .int nu, .int (nI tt), .int (nI (dn + 1)), .int (nI db)]))) q3 (.inl (cB, 64, .inl (kv_K_writeMaskBit_q3 rd f ((nI fr) + (nI dn)) 0)))) q2 = .inr (0, [.ref (ad q3)]) := (va_up_ne _ _ (hn_q2_q3)).trans e2
          have e3 : (va_up (va_up cs qk (.inr (3, [.ref (ad q2), .ref (ad q4), .ref (ad q6), .ref (ad q7), .int (nI w), .int gr, .int mo, .int xa, .int xb, .int (nI fr), .ref (ad q1), .int nu, .int (nI tt), .int (nI (dn + 1)), .int (nI db)]))) q3 (.inl (cB, 64, .inl (kv_K_writeMaskBit_q3 rd f ((nI fr) + (nI dn)) 0)))) q3 = .inl (cB, 64, .inl (kv_K_writeMaskBit_q3 rd f ((nI fr) + (nI dn)) 0)) := va_up_self _ _ _
          have e4 : (va_up (va_up cs qk (.inr (3, [.ref (ad q2), .ref (ad q4), .ref (ad q6), .ref (ad q7), .int (nI w), .int gr, .int mo, .int xa, .int xb, .int (nI fr), .ref (ad q1), .int nu, .int (nI tt), .int (nI (dn + 1)), .int (nI db)]))) q3 (.inl (cB, 64, .inl (kv_K_writeMaskBit_q3 rd f ((nI fr) + (nI dn)) 0)))) q4 = .inr (0, [.ref (ad q5)]) := (va_up_ne _ _ (hn_q3_q4.symm)).trans e4
          have e5 : (va_up (va_up cs qk (.inr (3, [.ref (ad q2), .ref (ad q4), .ref (ad q6), .ref (ad q7), .int (nI w), .int gr, .int mo, .int xa, .int xb, .int (nI fr), .ref (ad q1), .int nu, .int (nI tt), .int (nI (dn + 1)), .int (nI db)]))) q3 (.inl (cB, 64, .inl (kv_K_writeMaskBit_q3 rd f ((nI fr) + (nI dn)) 0)))) q5 = .inl (cB, 128, .inl (g)) := (va_up_ne _ _ (hn_q3_q5.symm)).trans e5
          refine lv_goto (tgt := 238) hx hb d_K_doNextStep_136 (by decide) ?_
          exact kw_vret hx hb hr hlocks hP hK hS (by rw [show kv_K_doNextStep_q3 w fr tt dn mo xa xb op rd ra rb mk f g = kv_K_writeMaskBit_q3 rd f ((nI fr) + (nI dn)) 0 from (by rw [kv_K_doNextStep_q3, if_neg h1, if_neg h7, if_pos h8, if_pos h9]), show kv_K_doNextStep_q5 w fr dn xa xb op rd rb mk f g = g from (by rw [kv_K_doNextStep_q5, if_neg h1, if_neg h7, if_pos h8]), kw_id (e5)]) d_K_doNextStep_238
        · refine lv_iconst (v := 1) hx hb d_K_doNextStep_128 (by decide) ?_
          refine lv_goto (tgt := 133) hx hb d_K_doNextStep_129 (by decide) ?_
          refine kw_callvx (kw_rV (As := [.int ((nI fr) + (nI dn)), .int 1]) (rest := []) (q0 := qk) ⟨hx, hb, hml, hown, hg⟩ ⟨callB_of 2 hg (kg_goodG kg_440) rfl rfl rfl (hg _ kg_6) (hg _ kg_437) (by decide +kernel) ⟨by decide, by decide⟩, hg _ kg_439, hg _ (kg_sel (q := (y_K_writeMaskBit, 15)) (by decide +kernel))⟩ (c_K_writeMaskBit l hJ hqk ek hq1 e1 hq2 e2 hq3 e3 ) hK hP hqk ek rfl rfl hl.1 rfl (Nat.le_of_ble_eq_true rfl) d_K_doNextStep_133 ⟨Nat.zero_le _, Nat.zero_le _⟩) hA hS (fun H locs hP hS => ?_)
          have ek : (va_up (va_up cs qk (.inr (3, [.ref (ad q2), .ref (ad q4), .ref (ad q6), .ref (ad q7), .int (nI w), .int gr, .int mo, .int xa, .int xb, .int (nI fr), .ref (ad q1), .int nu, .int (nI tt), .int (nI (dn + 1)), .int (nI db)]))) q3 (.inl (cB, 64, .inl (kv_K_writeMaskBit_q3 rd f ((nI fr) + (nI dn)) 1)))) qk = .inr (3, [.ref (ad q2), .ref (ad q4), .ref (ad q6), .ref (ad q7), .int (nI w), .int gr, .int mo, .int xa, .int xb, .int (nI fr), .ref (ad q1), .int nu, .int (nI tt), .int (nI (dn + 1)), .int (nI db)]) := (va_up_ne _ _ (hn_qk_q3)).trans ek
          have e1 : (va_up (va_up cs qk (.inr (3, [.ref (ad q2), .ref (ad q4), .ref (ad q6), .ref (ad q7), .int (nI w), .int gr, .int mo, .int xa, .int xb, .int (nI fr), .ref (ad q1), .int nu, .int (nI tt), .int (nI (dn + 1)), .int (nI db)]))) q3 (.inl (cB, 64, .inl (kv_K_writeMaskBit_q3 rd f ((nI fr) + (nI dn)) 1)))) q1 = .inr (1, [.int op, .int rd, .int ra, .int rb, .int rn, .int mk]) := (va_up_ne _ _ (hn_q1_q3)).trans e1
          have e2 : (va_up (va_up cs qk (.inr (3, [.ref (ad q2), .ref (ad q4), .ref (ad q6), .ref (ad q7), .int (nI w), .int gr, .int mo, .int xa, .int xb, .int (nI fr), .ref (ad q1), .int nu, .int (nI tt), .int (nI (dn + 1)), .int (nI db)]))) q3 (.inl (cB, 64, .inl (kv_K_writeMaskBit_q3 rd f ((nI fr) + (nI dn)) 1)))) q2 = .inr (0, [.ref (ad q3)]) := (va_up_ne _ _ (hn_q2_q3)).trans e2
          have e3 : (va_up (va_up cs qk (.inr (3, [.ref (ad q2), .ref (ad q4), .ref (ad q6), .ref (ad q7), .int (nI w), .int gr, .int mo, .int xa, .int xb, .int (nI fr), .ref (ad q1), .int nu, .int (nI tt), .int (nI (dn + 1)), .int (nI db)]))) q3 (.inl (cB, 64, .inl (kv_K_writeMaskBit_q3 rd f ((nI fr) + (nI dn)) 1)))) q3 = .inl (cB, 64, .inl (kv_K_writeMaskBit_q3 rd f ((nI fr) + (nI dn)) 1)) := va_up_self _ _ _
          have e4 : (va_up (va_up cs qk (.inr (3, [.ref (ad q2), .ref (ad q4), .ref (ad q6), .ref (ad q7), .int (nI w), .int gr, .int mo, .int xa, .int xb, .int (nI fr), .ref (ad q1), .int nu, .int (nI tt), .int (nI (dn + 1)), .int (nI db)]))) q3 (.inl (cB, 64, .inl (kv_K_writeMaskBit_q3 rd f ((nI fr) + (nI dn)) 1)))) q4 = .inr (0, [.ref (ad q5)]) := (va_up_ne _ _ (hn_q3_q4.symm)).trans e4
          have e5 : (va_up (va_up cs qk (.inr (3, [.ref (ad q2), .ref (ad q4), .ref (ad q6), .ref (ad q7), .int (nI w), .int gr, .int mo, .int xa, .int xb, .int (nI fr), .ref (ad q1), .int nu, .int (nI tt), .int (nI (dn + 1)), .int (nI db)]))) q3 (.inl (cB, 64, .inl (kv_K_writeMaskBit_q3 rd f ((nI fr) + (nI dn)) 1)))) q5 = .inl (cB, 128, .inl (g)) := (va_up_ne _ _ (hn_q3_q5.symm)).trans e5
          refine lv_goto (tgt := 238) hx hb d_K_doNextStep_136 (by decide) ?_
          exact kw_vret hx hb hr hlocks hP hK hS (by rw [show kv_K_doNextStep_q3 w fr tt dn mo xa xb op rd ra rb mk f g = kv_K_writeMaskBit_q3 rd f ((nI fr) + (nI dn)) 1 from (by rw [kv_K_doNextStep_q3, if_neg h1, if_neg h7, if_pos h8, if_neg h9]), show kv_K_doNextStep_q5 w fr dn xa xb op rd rb mk f g = g from (by rw [kv_K_doNextStep_q5, if_neg h1, if_neg h7, if_pos h8]), kw_id (e5)]) d_K_doNextStep_238
      by_cases h10 : op = 13
      · refine lv_tableIn (tgt := 139) hx hb d_K_doNextStep_48 (by rw [h10]; decide) (by rw [h10]; decide) (by rw [h10]; rfl) (by decide) ?_
        refine lv_aload_n hx hb d_K_doNextStep_139 rfl (lv_at hl 1 rfl) ?_
        refine kw_get hx hb hg in_K hown hK hP qk hqk ek rfl 0 (by decide) (hg _ kg_111) rfl rfl d_K_doNextStep_140 ?_
        refine lv_bipush (v := 8) hx hb d_K_doNextStep_143 (by decide) ?_
        refine lv_aload_n hx hb d_K_doNextStep_145 rfl (lv_at hl 1 rfl) ?_
        refine kw_get hx hb hg in_K hown hK hP qk hqk ek rfl 10 (by decide) (hg _ kg_121) rfl rfl d_K_doNextStep_146 ?_
        refine kw_get hx hb hg in_I hown hK hP q1 hq1 e1 rfl 1 (by decide) (hg _ kg_77) rfl rfl d_K_doNextStep_149 ?_
        refine lv_imul hx hb d_K_doNextStep_152 ?_
        refine lv_iconst (v := 2) hx hb d_K_doNextStep_153 (by decide) ?_
        refine lv_iload_n hx hb d_K_doNextStep_154 rfl (lv_at hl 0 rfl) ?_
        refine lv_imul hx hb d_K_doNextStep_155 ?_
        refine lv_aload_n hx hb d_K_doNextStep_156 rfl (lv_at hl 1 rfl) ?_
        refine kw_get hx hb hg in_K hown hK hP qk hqk ek rfl 4 (by decide) (hg _ kg_115) rfl rfl d_K_doNextStep_157 ?_
        refine lv_imul hx hb d_K_doNextStep_160 ?_
        refine lv_iadd hx hb d_K_doNextStep_161 ?_
        refine lv_iconst (v := 2) hx hb d_K_doNextStep_162 (by decide) ?_
        refine lv_aload_n hx hb d_K_doNextStep_163 rfl (lv_at hl 1 rfl) ?_
        refine kw_get hx hb hg in_K hown hK hP qk hqk ek rfl 4 (by decide) (hg _ kg_115) rfl rfl d_K_doNextStep_164 ?_
        refine lv_imul hx hb d_K_doNextStep_167 ?_
        rw [show (2 : Int32) * nI w = nI (2 * w) from pk_mul 2 w]
        refine lv_aload_n hx hb d_K_doNextStep_168 rfl (lv_at hl 1 rfl) ?_
        refine lv_iload_n hx hb d_K_doNextStep_169 rfl (lv_at hl 0 rfl) ?_
        refine kw_callix (kw_rV (As := [.int ((nI fr) + (nI dn))]) (rest := [.int (nI (2 * w)), .int ((8 * rd) + ((2 * ((nI fr) + (nI dn))) * (nI w))), .ref (ad q2)]) (q0 := qk) ⟨hx, hb, hml, hown, hg⟩ ⟨callB_of 1 hg (kg_goodG kg_444) rfl rfl rfl (hg _ kg_6) (hg _ kg_441) (by decide +kernel) ⟨by decide, by decide⟩, hg _ kg_443, hg _ (kg_sel (q := (y_K_result, 15)) (by decide +kernel))⟩ (c_K_result l hqk ek hq1 e1 hq2 e2 hq3 e3 hq4 e4 hq5 e5 (by omega) ) hK hP hqk ek rfl rfl hl.1 rfl (Nat.le_of_ble_eq_true rfl) d_K_doNextStep_170 ⟨Nat.zero_le _, Nat.zero_le _⟩) hA hS (fun H locs hP hS => ?_)
        refine kw_callvx (kw_rV (As := [.int ((8 * rd) + ((2 * ((nI fr) + (nI dn))) * (nI w))), .int (nI (2 * w)), .int (kv_K_result w mo xa xb op ra rb f g ((nI fr) + (nI dn)))]) (rest := []) (q0 := q2) ⟨hx, hb, hml, hown, hg⟩ ⟨callB_of 3 hg (kg_goodG kg_436) rfl rfl rfl (hg _ kg_3) (hg _ kg_433) (by decide +kernel) ⟨by decide, by decide⟩, hg _ kg_434, hg _ kg_435⟩ (c_B_write l hJ hq2 e2 hq3 e3 (by omega) (by decide) (w := 2 * w)) hK hP hq2 e2 rfl rfl hl.1 rfl (Nat.le_of_ble_eq_true rfl) d_K_doNextStep_173 ⟨Nat.zero_le _, Nat.zero_le _⟩) hA hS (fun H locs hP hS => ?_)
        have ek : (va_up (va_up cs qk (.inr (3, [.ref (ad q2), .ref (ad q4), .ref (ad q6), .ref (ad q7), .int (nI w), .int gr, .int mo, .int xa, .int xb, .int (nI fr), .ref (ad q1), .int nu, .int (nI tt), .int (nI (dn + 1)), .int (nI db)]))) q3 (.inl (cB, 64, .inl (kv_write f 64 ((8 * rd) + ((2 * ((nI fr) + (nI dn))) * (nI w))) (2 * w) (kv_K_result w mo xa xb op ra rb f g ((nI fr) + (nI dn))))))) qk = .inr (3, [.ref (ad q2), .ref (ad q4), .ref (ad q6), .ref (ad q7), .int (nI w), .int gr, .int mo, .int xa, .int xb, .int (nI fr), .ref (ad q1), .int nu, .int (nI tt), .int (nI (dn + 1)), .int (nI db)]) := (va_up_ne _ _ (hn_qk_q3)).trans ek
        have e1 : (va_up (va_up cs qk (.inr (3, [.ref (ad q2), .ref (ad q4), .ref (ad q6), .ref (ad q7), .int (nI w), .int gr, .int mo, .int xa, .int xb, .int (nI fr), .ref (ad q1), .int nu, .int (nI tt), .int (nI (dn + 1)), .int (nI db)]))) q3 (.inl (cB, 64, .inl (kv_write f 64 ((8 * rd) + ((2 * ((nI fr) + (nI dn))) * (nI w))) (2 * w) (kv_K_result w mo xa xb op ra rb f g ((nI fr) + (nI dn))))))) q1 = .inr (1, [.int op, .int rd, .int ra, .int rb, .int rn, .int mk]) := (va_up_ne _ _ (hn_q1_q3)).trans e1
        have e2 : (va_up (va_up cs qk (.inr (3, [.ref (ad q2), .ref (ad q4), .ref (ad q6), .ref (ad q7), .int (nI w), .int gr, .int mo, .int xa, .int xb, .int (nI fr), .ref (ad q1), .int nu, .int (nI tt), .int (nI (dn + 1)), .int (nI db)]))) q3 (.inl (cB, 64, .inl (kv_write f 64 ((8 * rd) + ((2 * ((nI fr) + (nI dn))) * (nI w))) (2 * w) (kv_K_result w mo xa xb op ra rb f g ((nI fr) + (nI dn))))))) q2 = .inr (0, [.ref (ad q3)]) := (va_up_ne _ _ (hn_q2_q3)).trans e2
        have e3 : (va_up (va_up cs qk (.inr (3, [.ref (ad q2), .ref (ad q4), .ref (ad q6), .ref (ad q7), .int (nI w), .int gr, .int mo, .int xa, .int xb, .int (nI fr), .ref (ad q1), .int nu, .int (nI tt), .int (nI (dn + 1)), .int (nI db)]))) q3 (.inl (cB, 64, .inl (kv_write f 64 ((8 * rd) + ((2 * ((nI fr) + (nI dn))) * (nI w))) (2 * w) (kv_K_result w mo xa xb op ra rb f g ((nI fr) + (nI dn))))))) q3 = .inl (cB, 64, .inl (kv_write f 64 ((8 * rd) + ((2 * ((nI fr) + (nI dn))) * (nI w))) (2 * w) (kv_K_result w mo xa xb op ra rb f g ((nI fr) + (nI dn))))) := va_up_self _ _ _
        have e4 : (va_up (va_up cs qk (.inr (3, [.ref (ad q2), .ref (ad q4), .ref (ad q6), .ref (ad q7), .int (nI w), .int gr, .int mo, .int xa, .int xb, .int (nI fr), .ref (ad q1), .int nu, .int (nI tt), .int (nI (dn + 1)), .int (nI db)]))) q3 (.inl (cB, 64, .inl (kv_write f 64 ((8 * rd) + ((2 * ((nI fr) + (nI dn))) * (nI w))) (2 * w) (kv_K_result w mo xa xb op ra rb f g ((nI fr) + (nI dn))))))) q4 = .inr (0, [.ref (ad q5)]) := (va_up_ne _ _ (hn_q3_q4.symm)).trans e4
        have e5 : (va_up (va_up cs qk (.inr (3, [.ref (ad q2), .ref (ad q4), .ref (ad q6), .ref (ad q7), .int (nI w), .int gr, .int mo, .int xa, .int xb, .int (nI fr), .ref (ad q1), .int nu, .int (nI tt), .int (nI (dn + 1)), .int (nI db)]))) q3 (.inl (cB, 64, .inl (kv_write f 64 ((8 * rd) + ((2 * ((nI fr) + (nI dn))) * (nI w))) (2 * w) (kv_K_result w mo xa xb op ra rb f g ((nI fr) + (nI dn))))))) q5 = .inl (cB, 128, .inl (g)) := (va_up_ne _ _ (hn_q3_q5.symm)).trans e5
        refine lv_goto (tgt := 238) hx hb d_K_doNextStep_176 (by decide) ?_
        exact kw_vret hx hb hr hlocks hP hK hS (by rw [show kv_K_doNextStep_q3 w fr tt dn mo xa xb op rd ra rb mk f g = kv_write f 64 ((8 * rd) + ((2 * ((nI fr) + (nI dn))) * (nI w))) (2 * w) (kv_K_result w mo xa xb op ra rb f g ((nI fr) + (nI dn))) from (by rw [kv_K_doNextStep_q3, if_neg h1, if_neg h7, if_neg h8, if_pos h10]), show kv_K_doNextStep_q5 w fr dn xa xb op rd rb mk f g = g from (by rw [kv_K_doNextStep_q5, if_neg h1, if_neg h7, if_neg h8, if_pos h10]), kw_id (e5)]) d_K_doNextStep_238
      by_cases h11 : op = 14
      · refine lv_tableIn (tgt := 92) hx hb d_K_doNextStep_48 (by rw [h11]; decide) (by rw [h11]; decide) (by rw [h11]; rfl) (by decide) ?_
        refine lv_aload_n hx hb d_K_doNextStep_92 rfl (lv_at hl 1 rfl) ?_
        refine kw_callvx (kw_rV (As := []) (rest := []) (q0 := qk) ⟨hx, hb, hml, hown, hg⟩ ⟨callB_of 0 hg (kg_goodG kg_427) rfl rfl rfl (hg _ kg_6) (hg _ kg_424) (by decide +kernel) ⟨by decide, by decide⟩, hg _ kg_426, hg _ (kg_sel (q := (y_K_writeSum, 15)) (by decide +kernel))⟩ (c_K_writeSum l hJ hqk ek hq1 e1 hq2 e2 hq3 e3 (by omega) hft htt ) hK hP hqk ek rfl rfl hl.1 rfl (Nat.le_of_ble_eq_true rfl) d_K_doNextStep_93 ⟨Nat.zero_le _, Nat.zero_le _⟩) hA hS (fun H locs hP hS => ?_)
        have ek : (va_up (va_up cs qk (.inr (3, [.ref (ad q2), .ref (ad q4), .ref (ad q6), .ref (ad q7), .int (nI w), .int gr, .int mo, .int xa, .int xb, .int (nI fr), .ref (ad q1), .int nu, .int (nI tt), .int (nI (dn + 1)), .int (nI db)]))) q3 (.inl (cB, 64, .inl (kv_K_writeSum_q3 w fr tt rd ra rb mk f)))) qk = .inr (3, [.ref (ad q2), .ref (ad q4), .ref (ad q6), .ref (ad q7), .int (nI w), .int gr, .int mo, .int xa, .int xb, .int (nI fr), .ref (ad q1), .int nu, .int (nI tt), .int (nI (dn + 1)), .int (nI db)]) := (va_up_ne _ _ (hn_qk_q3)).trans ek
        have e1 : (va_up (va_up cs qk (.inr (3, [.ref (ad q2), .ref (ad q4), .ref (ad q6), .ref (ad q7), .int (nI w), .int gr, .int mo, .int xa, .int xb, .int (nI fr), .ref (ad q1), .int nu, .int (nI tt), .int (nI (dn + 1)), .int (nI db)]))) q3 (.inl (cB, 64, .inl (kv_K_writeSum_q3 w fr tt rd ra rb mk f)))) q1 = .inr (1, [.int op, .int rd, .int ra, .int rb, .int rn, .int mk]) := (va_up_ne _ _ (hn_q1_q3)).trans e1
        have e2 : (va_up (va_up cs qk (.inr (3, [.ref (ad q2), .ref (ad q4), .ref (ad q6), .ref (ad q7), .int (nI w), .int gr, .int mo, .int xa, .int xb, .int (nI fr), .ref (ad q1), .int nu, .int (nI tt), .int (nI (dn + 1)), .int (nI db)]))) q3 (.inl (cB, 64, .inl (kv_K_writeSum_q3 w fr tt rd ra rb mk f)))) q2 = .inr (0, [.ref (ad q3)]) := (va_up_ne _ _ (hn_q2_q3)).trans e2
        have e3 : (va_up (va_up cs qk (.inr (3, [.ref (ad q2), .ref (ad q4), .ref (ad q6), .ref (ad q7), .int (nI w), .int gr, .int mo, .int xa, .int xb, .int (nI fr), .ref (ad q1), .int nu, .int (nI tt), .int (nI (dn + 1)), .int (nI db)]))) q3 (.inl (cB, 64, .inl (kv_K_writeSum_q3 w fr tt rd ra rb mk f)))) q3 = .inl (cB, 64, .inl (kv_K_writeSum_q3 w fr tt rd ra rb mk f)) := va_up_self _ _ _
        have e4 : (va_up (va_up cs qk (.inr (3, [.ref (ad q2), .ref (ad q4), .ref (ad q6), .ref (ad q7), .int (nI w), .int gr, .int mo, .int xa, .int xb, .int (nI fr), .ref (ad q1), .int nu, .int (nI tt), .int (nI (dn + 1)), .int (nI db)]))) q3 (.inl (cB, 64, .inl (kv_K_writeSum_q3 w fr tt rd ra rb mk f)))) q4 = .inr (0, [.ref (ad q5)]) := (va_up_ne _ _ (hn_q3_q4.symm)).trans e4
        have e5 : (va_up (va_up cs qk (.inr (3, [.ref (ad q2), .ref (ad q4), .ref (ad q6), .ref (ad q7), .int (nI w), .int gr, .int mo, .int xa, .int xb, .int (nI fr), .ref (ad q1), .int nu, .int (nI tt), .int (nI (dn + 1)), .int (nI db)]))) q3 (.inl (cB, 64, .inl (kv_K_writeSum_q3 w fr tt rd ra rb mk f)))) q5 = .inl (cB, 128, .inl (g)) := (va_up_ne _ _ (hn_q3_q5.symm)).trans e5
        refine lv_goto (tgt := 238) hx hb d_K_doNextStep_96 (by decide) ?_
        exact kw_vret hx hb hr hlocks hP hK hS (by rw [show kv_K_doNextStep_q3 w fr tt dn mo xa xb op rd ra rb mk f g = kv_K_writeSum_q3 w fr tt rd ra rb mk f from (by rw [kv_K_doNextStep_q3, if_neg h1, if_neg h7, if_neg h8, if_neg h10, if_pos h11]), show kv_K_doNextStep_q5 w fr dn xa xb op rd rb mk f g = g from (by rw [kv_K_doNextStep_q5, if_neg h1, if_neg h7, if_neg h8, if_neg h10, if_pos h11]), kw_id (e5)]) d_K_doNextStep_238
      by_cases h12 : op = 18
      · refine lv_tableIn (tgt := 179) hx hb d_K_doNextStep_48 (by rw [h12]; decide) (by rw [h12]; decide) (by rw [h12]; rfl) (by decide) ?_
        refine lv_aload_n hx hb d_K_doNextStep_179 rfl (lv_at hl 1 rfl) ?_
        refine kw_get hx hb hg in_K hown hK hP qk hqk ek rfl 1 (by decide) (hg _ kg_112) rfl rfl d_K_doNextStep_180 ?_
        refine lv_aload_n hx hb d_K_doNextStep_183 rfl (lv_at hl 1 rfl) ?_
        refine lv_iload_n hx hb d_K_doNextStep_184 rfl (lv_at hl 0 rfl) ?_
        refine kw_callix (kw_rV (As := [.int ((nI fr) + (nI dn))]) (rest := [.ref (ad q4)]) (q0 := qk) ⟨hx, hb, hml, hown, hg⟩ ⟨callB_of 1 hg (kg_goodG kg_452) rfl rfl rfl (hg _ kg_6) (hg _ kg_449) (by decide +kernel) ⟨by decide, by decide⟩, hg _ kg_451, hg _ (kg_sel (q := (y_K_placeInMemory, 15)) (by decide +kernel))⟩ (c_K_placeInMemory l hqk ek hq1 e1 hq2 e2 hq3 e3 (by omega) ) hK hP hqk ek rfl rfl hl.1 rfl (Nat.le_of_ble_eq_true rfl) d_K_doNextStep_185 ⟨Nat.zero_le _, Nat.zero_le _⟩) hA hS (fun H locs hP hS => ?_)
        refine lv_aload_n hx hb d_K_doNextStep_188 rfl (lv_at hl 1 rfl) ?_
        refine kw_get hx hb hg in_K hown hK hP qk hqk ek rfl 4 (by decide) (hg _ kg_115) rfl rfl d_K_doNextStep_189 ?_
        refine lv_aload_n hx hb d_K_doNextStep_192 rfl (lv_at hl 1 rfl) ?_
        refine lv_aload_n hx hb d_K_doNextStep_193 rfl (lv_at hl 1 rfl) ?_
        refine kw_get hx hb hg in_K hown hK hP qk hqk ek rfl 10 (by decide) (hg _ kg_121) rfl rfl d_K_doNextStep_194 ?_
        refine kw_get hx hb hg in_I hown hK hP q1 hq1 e1 rfl 1 (by decide) (hg _ kg_77) rfl rfl d_K_doNextStep_197 ?_
        refine lv_iload_n hx hb d_K_doNextStep_200 rfl (lv_at hl 0 rfl) ?_
        refine kw_callix (kw_rV (As := [.int rd, .int ((nI fr) + (nI dn))]) (rest := [.int (nI w), .int (kv_K_placeInMemory w xa xb op rb f ((nI fr) + (nI dn))), .ref (ad q4)]) (q0 := qk) ⟨hx, hb, hml, hown, hg⟩ ⟨callB_of 2 hg (kg_goodG kg_431) rfl rfl rfl (hg _ kg_6) (hg _ kg_428) (by decide +kernel) ⟨by decide, by decide⟩, hg _ kg_430, hg _ (kg_sel (q := (y_K_element, 15)) (by decide +kernel))⟩ (c_K_element l hqk ek hq1 e1 hq2 e2 hq3 e3 (by omega) ) hK hP hqk ek rfl rfl hl.1 rfl (Nat.le_of_ble_eq_true rfl) d_K_doNextStep_201 ⟨Nat.zero_le _, Nat.zero_le _⟩) hA hS (fun H locs hP hS => ?_)
        refine kw_callvx (kw_rV (As := [.int (kv_K_placeInMemory w xa xb op rb f ((nI fr) + (nI dn))), .int (nI w), .int (kv_K_element w f rd ((nI fr) + (nI dn)))]) (rest := []) (q0 := q4) ⟨hx, hb, hml, hown, hg⟩ ⟨callB_of 3 hg (kg_goodG kg_436) rfl rfl rfl (hg _ kg_3) (hg _ kg_433) (by decide +kernel) ⟨by decide, by decide⟩, hg _ kg_434, hg _ kg_435⟩ (c_B_write l hJ hq4 e4 hq5 e5 (by omega) (by decide) ) hK hP hq4 e4 rfl rfl hl.1 rfl (Nat.le_of_ble_eq_true rfl) d_K_doNextStep_204 ⟨Nat.zero_le _, Nat.zero_le _⟩) hA hS (fun H locs hP hS => ?_)
        have ek : (va_up (va_up cs qk (.inr (3, [.ref (ad q2), .ref (ad q4), .ref (ad q6), .ref (ad q7), .int (nI w), .int gr, .int mo, .int xa, .int xb, .int (nI fr), .ref (ad q1), .int nu, .int (nI tt), .int (nI (dn + 1)), .int (nI db)]))) q5 (.inl (cB, 128, .inl (kv_write g 128 (kv_K_placeInMemory w xa xb op rb f ((nI fr) + (nI dn))) w (kv_K_element w f rd ((nI fr) + (nI dn))))))) qk = .inr (3, [.ref (ad q2), .ref (ad q4), .ref (ad q6), .ref (ad q7), .int (nI w), .int gr, .int mo, .int xa, .int xb, .int (nI fr), .ref (ad q1), .int nu, .int (nI tt), .int (nI (dn + 1)), .int (nI db)]) := (va_up_ne _ _ (hn_qk_q5)).trans ek
        have e1 : (va_up (va_up cs qk (.inr (3, [.ref (ad q2), .ref (ad q4), .ref (ad q6), .ref (ad q7), .int (nI w), .int gr, .int mo, .int xa, .int xb, .int (nI fr), .ref (ad q1), .int nu, .int (nI tt), .int (nI (dn + 1)), .int (nI db)]))) q5 (.inl (cB, 128, .inl (kv_write g 128 (kv_K_placeInMemory w xa xb op rb f ((nI fr) + (nI dn))) w (kv_K_element w f rd ((nI fr) + (nI dn))))))) q1 = .inr (1, [.int op, .int rd, .int ra, .int rb, .int rn, .int mk]) := (va_up_ne _ _ (hn_q1_q5)).trans e1
        have e2 : (va_up (va_up cs qk (.inr (3, [.ref (ad q2), .ref (ad q4), .ref (ad q6), .ref (ad q7), .int (nI w), .int gr, .int mo, .int xa, .int xb, .int (nI fr), .ref (ad q1), .int nu, .int (nI tt), .int (nI (dn + 1)), .int (nI db)]))) q5 (.inl (cB, 128, .inl (kv_write g 128 (kv_K_placeInMemory w xa xb op rb f ((nI fr) + (nI dn))) w (kv_K_element w f rd ((nI fr) + (nI dn))))))) q2 = .inr (0, [.ref (ad q3)]) := (va_up_ne _ _ (hn_q2_q5)).trans e2
        have e3 : (va_up (va_up cs qk (.inr (3, [.ref (ad q2), .ref (ad q4), .ref (ad q6), .ref (ad q7), .int (nI w), .int gr, .int mo, .int xa, .int xb, .int (nI fr), .ref (ad q1), .int nu, .int (nI tt), .int (nI (dn + 1)), .int (nI db)]))) q5 (.inl (cB, 128, .inl (kv_write g 128 (kv_K_placeInMemory w xa xb op rb f ((nI fr) + (nI dn))) w (kv_K_element w f rd ((nI fr) + (nI dn))))))) q3 = .inl (cB, 64, .inl (f)) := (va_up_ne _ _ (hn_q3_q5)).trans e3
        have e4 : (va_up (va_up cs qk (.inr (3, [.ref (ad q2), .ref (ad q4), .ref (ad q6), .ref (ad q7), .int (nI w), .int gr, .int mo, .int xa, .int xb, .int (nI fr), .ref (ad q1), .int nu, .int (nI tt), .int (nI (dn + 1)), .int (nI db)]))) q5 (.inl (cB, 128, .inl (kv_write g 128 (kv_K_placeInMemory w xa xb op rb f ((nI fr) + (nI dn))) w (kv_K_element w f rd ((nI fr) + (nI dn))))))) q4 = .inr (0, [.ref (ad q5)]) := (va_up_ne _ _ (hn_q4_q5)).trans e4
        have e5 : (va_up (va_up cs qk (.inr (3, [.ref (ad q2), .ref (ad q4), .ref (ad q6), .ref (ad q7), .int (nI w), .int gr, .int mo, .int xa, .int xb, .int (nI fr), .ref (ad q1), .int nu, .int (nI tt), .int (nI (dn + 1)), .int (nI db)]))) q5 (.inl (cB, 128, .inl (kv_write g 128 (kv_K_placeInMemory w xa xb op rb f ((nI fr) + (nI dn))) w (kv_K_element w f rd ((nI fr) + (nI dn))))))) q5 = .inl (cB, 128, .inl (kv_write g 128 (kv_K_placeInMemory w xa xb op rb f ((nI fr) + (nI dn))) w (kv_K_element w f rd ((nI fr) + (nI dn))))) := va_up_self _ _ _
        refine lv_goto (tgt := 238) hx hb d_K_doNextStep_207 (by decide) ?_
        exact kw_vret hx hb hr hlocks hP hK hS (by rw [show kv_K_doNextStep_q3 w fr tt dn mo xa xb op rd ra rb mk f g = f from (by rw [kv_K_doNextStep_q3, if_neg h1, if_neg h7, if_neg h8, if_neg h10, if_neg h11, if_pos h12]), show kv_K_doNextStep_q5 w fr dn xa xb op rd rb mk f g = kv_write g 128 (kv_K_placeInMemory w xa xb op rb f ((nI fr) + (nI dn))) w (kv_K_element w f rd ((nI fr) + (nI dn))) from (by rw [kv_K_doNextStep_q5, if_neg h1, if_neg h7, if_neg h8, if_neg h10, if_neg h11, if_pos h12]), kw_id ((va_up_ne _ _ (hn_q3_q5)).symm.trans (e3))]) d_K_doNextStep_238
      refine kw_tbl (tgt := 210) (N := 7) hx hb d_K_doNextStep_48 rfl (by decide) (fun i hi => match i, hi with | 0, _ => Or.inr (lv_neT h8 rfl) | 1, _ => Or.inr (lv_neT h10 rfl) | 2, _ => Or.inr (lv_neT h11 rfl) | 3, _ => Or.inl rfl | 4, _ => Or.inl rfl | 5, _ => Or.inl rfl | 6, _ => Or.inr (lv_neT h12 rfl) | z + 7, h => absurd h (by omega)) ?_
      refine lv_aload_n hx hb d_K_doNextStep_210 rfl (lv_at hl 1 rfl) ?_
      refine kw_get hx hb hg in_K hown hK hP qk hqk ek rfl 0 (by decide) (hg _ kg_111) rfl rfl d_K_doNextStep_211 ?_
      refine lv_aload_n hx hb d_K_doNextStep_214 rfl (lv_at hl 1 rfl) ?_
      refine lv_aload_n hx hb d_K_doNextStep_215 rfl (lv_at hl 1 rfl) ?_
      refine kw_get hx hb hg in_K hown hK hP qk hqk ek rfl 10 (by decide) (hg _ kg_121) rfl rfl d_K_doNextStep_216 ?_
      refine kw_get hx hb hg in_I hown hK hP q1 hq1 e1 rfl 1 (by decide) (hg _ kg_77) rfl rfl d_K_doNextStep_219 ?_
      refine lv_iload_n hx hb d_K_doNextStep_222 rfl (lv_at hl 0 rfl) ?_
      refine kw_callix (kw_rV (As := [.int rd, .int ((nI fr) + (nI dn))]) (rest := [.ref (ad q2)]) (q0 := qk) ⟨hx, hb, hml, hown, hg⟩ ⟨callB_of 2 hg (kg_goodG kg_394) rfl rfl rfl (hg _ kg_6) (hg _ kg_391) (by decide +kernel) ⟨by decide, by decide⟩, hg _ kg_393, hg _ (kg_sel (q := (y_K_placeOf, 15)) (by decide +kernel))⟩ (c_K_placeOf l hqk ek ) hK hP hqk ek rfl rfl hl.1 rfl (Nat.le_of_ble_eq_true rfl) d_K_doNextStep_223 ⟨Nat.zero_le _, Nat.zero_le _⟩) hA hS (fun H locs hP hS => ?_)
      refine lv_aload_n hx hb d_K_doNextStep_226 rfl (lv_at hl 1 rfl) ?_
      refine kw_get hx hb hg in_K hown hK hP qk hqk ek rfl 4 (by decide) (hg _ kg_115) rfl rfl d_K_doNextStep_227 ?_
      refine lv_aload_n hx hb d_K_doNextStep_230 rfl (lv_at hl 1 rfl) ?_
      refine lv_iload_n hx hb d_K_doNextStep_231 rfl (lv_at hl 0 rfl) ?_
      refine kw_callix (kw_rV (As := [.int ((nI fr) + (nI dn))]) (rest := [.int (nI w), .int (kv_K_placeOf w rd ((nI fr) + (nI dn))), .ref (ad q2)]) (q0 := qk) ⟨hx, hb, hml, hown, hg⟩ ⟨callB_of 1 hg (kg_goodG kg_444) rfl rfl rfl (hg _ kg_6) (hg _ kg_441) (by decide +kernel) ⟨by decide, by decide⟩, hg _ kg_443, hg _ (kg_sel (q := (y_K_result, 15)) (by decide +kernel))⟩ (c_K_result l hqk ek hq1 e1 hq2 e2 hq3 e3 hq4 e4 hq5 e5 (by omega) ) hK hP hqk ek rfl rfl hl.1 rfl (Nat.le_of_ble_eq_true rfl) d_K_doNextStep_232 ⟨Nat.zero_le _, Nat.zero_le _⟩) hA hS (fun H locs hP hS => ?_)
      refine kw_callvx (kw_rV (As := [.int (kv_K_placeOf w rd ((nI fr) + (nI dn))), .int (nI w), .int (kv_K_result w mo xa xb op ra rb f g ((nI fr) + (nI dn)))]) (rest := []) (q0 := q2) ⟨hx, hb, hml, hown, hg⟩ ⟨callB_of 3 hg (kg_goodG kg_436) rfl rfl rfl (hg _ kg_3) (hg _ kg_433) (by decide +kernel) ⟨by decide, by decide⟩, hg _ kg_434, hg _ kg_435⟩ (c_B_write l hJ hq2 e2 hq3 e3 (by omega) (by decide) ) hK hP hq2 e2 rfl rfl hl.1 rfl (Nat.le_of_ble_eq_true rfl) d_K_doNextStep_235 ⟨Nat.zero_le _, Nat.zero_le _⟩) hA hS (fun H locs hP hS => ?_)
      have ek : (va_up (va_up cs qk (.inr (3, [.ref (ad q2), .ref (ad q4), .ref (ad q6), .ref (ad q7), .int (nI w), .int gr, .int mo, .int xa, .int xb, .int (nI fr), .ref (ad q1), .int nu, .int (nI tt), .int (nI (dn + 1)), .int (nI db)]))) q3 (.inl (cB, 64, .inl (kv_write f 64 (kv_K_placeOf w rd ((nI fr) + (nI dn))) w (kv_K_result w mo xa xb op ra rb f g ((nI fr) + (nI dn))))))) qk = .inr (3, [.ref (ad q2), .ref (ad q4), .ref (ad q6), .ref (ad q7), .int (nI w), .int gr, .int mo, .int xa, .int xb, .int (nI fr), .ref (ad q1), .int nu, .int (nI tt), .int (nI (dn + 1)), .int (nI db)]) := (va_up_ne _ _ (hn_qk_q3)).trans ek
      have e1 : (va_up (va_up cs qk (.inr (3, [.ref (ad q2), .ref (ad q4), .ref (ad q6), .ref (ad q7), .int (nI w), .int gr, .int mo, .int xa, .int xb, .int (nI fr), .ref (ad q1), .int nu, .int (nI tt), .int (nI (dn + 1)), .int (nI db)]))) q3 (.inl (cB, 64, .inl (kv_write f 64 (kv_K_placeOf w rd ((nI fr) + (nI dn))) w (kv_K_result w mo xa xb op ra rb f g ((nI fr) + (nI dn))))))) q1 = .inr (1, [.int op, .int rd, .int ra, .int rb, .int rn, .int mk]) := (va_up_ne _ _ (hn_q1_q3)).trans e1
      have e2 : (va_up (va_up cs qk (.inr (3, [.ref (ad q2), .ref (ad q4), .ref (ad q6), .ref (ad q7), .int (nI w), .int gr, .int mo, .int xa, .int xb, .int (nI fr), .ref (ad q1), .int nu, .int (nI tt), .int (nI (dn + 1)), .int (nI db)]))) q3 (.inl (cB, 64, .inl (kv_write f 64 (kv_K_placeOf w rd ((nI fr) + (nI dn))) w (kv_K_result w mo xa xb op ra rb f g ((nI fr) + (nI dn))))))) q2 = .inr (0, [.ref (ad q3)]) := (va_up_ne _ _ (hn_q2_q3)).trans e2
      have e3 : (va_up (va_up cs qk (.inr (3, [.ref (ad q2), .ref (ad q4), .ref (ad q6), .ref (ad q7), .int (nI w), .int gr, .int mo, .int xa, .int xb, .int (nI fr), .ref (ad q1), .int nu, .int (nI tt), .int (nI (dn + 1)), .int (nI db)]))) q3 (.inl (cB, 64, .inl (kv_write f 64 (kv_K_placeOf w rd ((nI fr) + (nI dn))) w (kv_K_result w mo xa xb op ra rb f g ((nI fr) + (nI dn))))))) q3 = .inl (cB, 64, .inl (kv_write f 64 (kv_K_placeOf w rd ((nI fr) + (nI dn))) w (kv_K_result w mo xa xb op ra rb f g ((nI fr) + (nI dn))))) := va_up_self _ _ _
      have e4 : (va_up (va_up cs qk (.inr (3, [.ref (ad q2), .ref (ad q4), .ref (ad q6), .ref (ad q7), .int (nI w), .int gr, .int mo, .int xa, .int xb, .int (nI fr), .ref (ad q1), .int nu, .int (nI tt), .int (nI (dn + 1)), .int (nI db)]))) q3 (.inl (cB, 64, .inl (kv_write f 64 (kv_K_placeOf w rd ((nI fr) + (nI dn))) w (kv_K_result w mo xa xb op ra rb f g ((nI fr) + (nI dn))))))) q4 = .inr (0, [.ref (ad q5)]) := (va_up_ne _ _ (hn_q3_q4.symm)).trans e4
      have e5 : (va_up (va_up cs qk (.inr (3, [.ref (ad q2), .ref (ad q4), .ref (ad q6), .ref (ad q7), .int (nI w), .int gr, .int mo, .int xa, .int xb, .int (nI fr), .ref (ad q1), .int nu, .int (nI tt), .int (nI (dn + 1)), .int (nI db)]))) q3 (.inl (cB, 64, .inl (kv_write f 64 (kv_K_placeOf w rd ((nI fr) + (nI dn))) w (kv_K_result w mo xa xb op ra rb f g ((nI fr) + (nI dn))))))) q5 = .inl (cB, 128, .inl (g)) := (va_up_ne _ _ (hn_q3_q5.symm)).trans e5
      exact kw_vret hx hb hr hlocks hP hK hS (by rw [show kv_K_doNextStep_q3 w fr tt dn mo xa xb op rd ra rb mk f g = kv_write f 64 (kv_K_placeOf w rd ((nI fr) + (nI dn))) w (kv_K_result w mo xa xb op ra rb f g ((nI fr) + (nI dn))) from (by rw [kv_K_doNextStep_q3, if_neg h1, if_neg h7, if_neg h8, if_neg h10, if_neg h11, if_neg h12]), show kv_K_doNextStep_q5 w fr dn xa xb op rd rb mk f g = g from (by rw [kv_K_doNextStep_q5, if_neg h1, if_neg h7, if_neg h8, if_neg h10, if_neg h11, if_neg h12]), kw_id (e5)]) d_K_doNextStep_238
    · exact kw_vret hx hb hr hlocks hP hK hS (by rw [show kv_K_doNextStep_q3 w fr tt dn mo xa xb op rd ra rb mk f g = f from (by rw [kv_K_doNextStep_q3, if_neg h1, if_pos h7]), show kv_K_doNextStep_q5 w fr dn xa xb op rd rb mk f g = g from (by rw [kv_K_doNextStep_q5, if_neg h1, if_pos h7]), kw_id (e3), kw_id (e5)]) d_K_doNextStep_40
