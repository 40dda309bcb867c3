/-! the machine: queue, noteStepsDone, dropFinished, workUnit, mustWaitForQueue -/
def kv_M_queue (qu : Nat) (wk : Nat → Nat) (po : Nat → Nat) (fr : Nat → Nat) (wi : Nat → Nat) (nu : Nat → Int32) (tt : Nat → Nat) (dn : Nat → Nat) (x : Int32) (y : Int32) : Int32 := if x < 0 then ((-1)) else if (nI qu) ≤ x then ((-1)) else if x < 4 then (if y = 0 then (nu (wk x.toNatClampNeg)) else if y = 1 then (kv_K_steps (fr (wk x.toNatClampNeg)) (tt (wk x.toNatClampNeg)) (nI (po (wi (wk x.toNatClampNeg))))) else if y = 2 then (nI (dn (wk x.toNatClampNeg))) else ((-1))) else ((-1))
set_option maxRecDepth 100000 in
set_option maxHeartbeats 4000000 in
theorem c_M_queue (l : Launch) {D : va_G} {ad : Nat → Nat} {n : Nat} {cs : Nat → va_E} {cI : ClassId} {cB : ClassId} {cJ : ClassId} {cQ : ClassId} {cW : ClassId} {la : Nat} {ma : Nat} {qu : Nat} {st : Nat} {nx : Int32} {bo : Nat} {cy : Int32} {sd : Int32} {X : Nat → Int32} {F : Nat → Int32} {G : Nat → Int32} {wp : Nat} {gp : Nat} {ln : Nat} {sa : Nat} {wk : Nat → Nat} {po : Nat → Nat} {pd : Nat → Nat} {pa : Nat → Nat} {pb : Nat → Nat} {pn : Nat → Int32} {pm : Nat → Int32} {ww : Nat → Nat} {gr : Nat → Int32} {mo : Nat → Int32} {xa : Nat → Int32} {xb : Nat → Int32} {fr : Nat → Nat} {wi : Nat → Nat} {nu : Nat → Int32} {tt : Nat → Nat} {dn : Nat → Nat} {db : Nat → Nat} {rF : Nat → Nat → Int64} {wF : Nat → Nat → Int64} {x : Int32} {y : Int32} (hn : 22 + ma ≤ n) (hM : kM ad cI cB cJ cQ cW cs la ma qu st nx bo cy sd X F G wp gp ln sa wk po pd pa pb pn pm ww gr mo xa xb fr wi nu tt dn db rF wF)  : kw_mi l y_M_queue w_M_queue (kr 2) D kc (kt cI cB cJ cQ cW) ad n cs [.ref (ad 0), .int x, .int y] (fun r9 c9 => r9 = kv_M_queue qu wk po fr wi nu tt dn x y ∧ c9 = cs) := by
  refine kw_of (cc := b_M_queue) (maxL := 4) (ret := (some .int)) (by decide) rfl (Nat.le_of_ble_eq_true rfl) ?_
  intro p e s m below meth c ls hx hb hr hml hown hts hlocks hP hK hl
  have hg : ∀ w9 ∈ kg_G, w9.before [.ref (ad 0), .int x, .int y].toArray s = true := fun w9 h9 => hts w9 (List.mem_cons_of_mem _ h9)
  have hown : s.vm.findClass "LaneMachine" = some m.cls := hown
  have hA : ∀ k, k < n → kw_A ad n (ad k) := fun k hk => ⟨k, hk, rfl⟩
  have hS : va_S (kw_A ad n) s.heap s.heap [] := va_S.rf
  have hl : lv_has ls 4 [(0, .ref (ad 0)), (1, .int x), (2, .int y)] := hl
  refine lv_iload_n hx hb d_M_queue_0 rfl (lv_at hl 1 rfl) ?_
  refine lv_if_lt (tgt := 17) hx hb d_M_queue_1 (by decide) (fun h1 => ?_) (fun h1 => ?_)
  · refine lv_iconst (v := (-1)) hx hb d_M_queue_17 (by decide) ?_
    exact kw_iret hx hb hr hlocks hP hK hS ⟨by rw [kv_M_queue, if_pos h1], rfl⟩ d_M_queue_18
  · refine lv_iload_n hx hb d_M_queue_4 rfl (lv_at hl 1 rfl) ?_
    refine lv_aload_n hx hb d_M_queue_5 rfl (lv_at hl 0 rfl) ?_
    refine kw_get hx hb hg in_M hown hK hP 0 (kM_q hn (by decide : 0 < 22)) (kM_0 hM) rfl 8 (by decide) (hg _ kg_170) rfl rfl d_M_queue_6 ?_
    refine lv_icmp_ge (tgt := 17) hx hb d_M_queue_9 (by decide) (fun h2 => ?_) (fun h2 => ?_)
    · refine lv_iconst (v := (-1)) hx hb d_M_queue_17 (by decide) ?_
      exact kw_iret hx hb hr hlocks hP hK hS ⟨by rw [kv_M_queue, if_neg h1, if_pos h2], rfl⟩ d_M_queue_18
    · refine lv_iload_n hx hb d_M_queue_12 rfl (lv_at hl 1 rfl) ?_
      refine lv_iconst (v := 4) hx hb d_M_queue_13 (by decide) ?_
      refine lv_icmp_lt (tgt := 19) hx hb d_M_queue_14 (by decide) (fun h3 => ?_) (fun h3 => ?_)
      · refine lv_aload_n hx hb d_M_queue_19 rfl (lv_at hl 0 rfl) ?_
        refine kw_get hx hb hg in_M hown hK hP 0 (kM_q hn (by decide : 0 < 22)) (kM_0 hM) rfl 6 (by decide) (hg _ kg_168) rfl rfl d_M_queue_20 ?_
        refine lv_iload_n hx hb d_M_queue_23 rfl (lv_at hl 1 rfl) ?_
        refine kw_aldq hx hb hK hP 8 4 (kM_q hn (by decide : 8 < 22)) (kM_8 hM) rfl x.toNatClampNeg ((kw_rg4 h1 h3).1) ((kw_rg4 h1 h3).2) (by omega) d_M_queue_24 ?_
        refine W.eq (g2 := F0 m 25 ls (.ref (ad (9 + (wk x.toNatClampNeg))) :: [])) (congrArg (fun z9 => F0 m 25 ls (va_rf z9 :: [])) (if_pos ((kw_rg4 h1 h3).2))) ?_
        have hk9_1 : wk x.toNatClampNeg < 4 := kM_k hM _ ((kw_rg4 h1 h3).2)
        have hi9_1 : wi (wk x.toNatClampNeg) ≤ ma := kM_i hM _ hk9_1
        have ek9_1 : cs (9 + (wk x.toNatClampNeg)) = .inr (3, [.ref (ad 2), .ref (ad 4), .ref (ad (13 + (wk x.toNatClampNeg))), .ref (ad (17 + (wk x.toNatClampNeg))), .int (nI (ww (wk x.toNatClampNeg))), .int (gr (wk x.toNatClampNeg)), .int (mo (wk x.toNatClampNeg)), .int (xa (wk x.toNatClampNeg)), .int (xb (wk x.toNatClampNeg)), .int (nI (fr (wk x.toNatClampNeg))), .ref (ad (21 + (wi (wk x.toNatClampNeg)))), .int (nu (wk x.toNatClampNeg)), .int (nI (tt (wk x.toNatClampNeg))), .int (nI (dn (wk x.toNatClampNeg))), .int (nI (db (wk x.toNatClampNeg)))]) := by have z9 := kM_w hM hk9_1; (try simp only [va_up_self] at z9); exact z9
        refine lv_astore_n (lv' := [(3, .ref (ad (9 + (wk x.toNatClampNeg)))), (0, .ref (ad 0)), (1, .int x), (2, .int y)]) hx hb d_M_queue_25 rfl hl (by decide) rfl (fun ls hl => ?_)
        refine lv_iload_n hx hb d_M_queue_26 rfl (lv_at hl 3 rfl) ?_
        by_cases h4 : y = 0
        · refine lv_tableIn (tgt := 52) hx hb d_M_queue_27 (by rw [h4]; decide) (by rw [h4]; decide) (by rw [h4]; rfl) (by decide) ?_
          refine lv_aload_n hx hb d_M_queue_52 rfl (lv_at hl 0 rfl) ?_
          refine kw_get hx hb hg in_K hown hK hP (9 + (wk x.toNatClampNeg)) (kM_q9 hn hk9_1) ek9_1 rfl 11 (by decide) (hg _ kg_124) rfl rfl d_M_queue_53 ?_
          exact kw_iret hx hb hr hlocks hP hK hS ⟨by rw [kv_M_queue, if_neg h1, if_neg h2, if_pos h3, if_pos h4], rfl⟩ d_M_queue_56
        by_cases h5 : y = 1
        · refine lv_tableIn (tgt := 57) hx hb d_M_queue_27 (by rw [h5]; decide) (by rw [h5]; decide) (by rw [h5]; rfl) (by decide) ?_
          refine lv_aload_n hx hb d_M_queue_57 rfl (lv_at hl 0 rfl) ?_
          refine kw_callix (kw_rV (As := []) (rest := []) (q0 := (9 + (wk x.toNatClampNeg))) ⟨hx, hb, hml, hown, hg⟩ ⟨callB_of 0 hg (kg_goodG kg_244) rfl rfl rfl (hg _ kg_6) (hg _ kg_241) (by decide +kernel) ⟨by decide, by decide⟩, hg _ kg_242, hg _ kg_243⟩ (c_K_steps l (kM_q9 hn hk9_1) ek9_1 (kM_q21 hn hi9_1) (kM_in hM hi9_1) ) hK hP (kM_q9 hn hk9_1) ek9_1 rfl rfl hl.1 rfl (Nat.le_of_ble_eq_true rfl) d_M_queue_58 ⟨Nat.zero_le _, Nat.zero_le _⟩) hA hS (fun H locs hP hS => ?_)
          exact kw_iret hx hb hr hlocks hP hK hS ⟨by rw [kv_M_queue, if_neg h1, if_neg h2, if_pos h3, if_neg h4, if_pos h5], rfl⟩ d_M_queue_61
        by_cases h6 : y = 2
        · refine lv_tableIn (tgt := 62) hx hb d_M_queue_27 (by rw [h6]; decide) (by rw [h6]; decide) (by rw [h6]; rfl) (by decide) ?_
          refine lv_aload_n hx hb d_M_queue_62 rfl (lv_at hl 0 rfl) ?_
          refine kw_get hx hb hg in_K hown hK hP (9 + (wk x.toNatClampNeg)) (kM_q9 hn hk9_1) ek9_1 rfl 13 (by decide) (hg _ kg_128) rfl rfl d_M_queue_63 ?_
          exact kw_iret hx hb hr hlocks hP hK hS ⟨by rw [kv_M_queue, if_neg h1, if_neg h2, if_pos h3, if_neg h4, if_neg h5, if_pos h6], rfl⟩ d_M_queue_66
        refine kw_tbl (tgt := 67) (N := 3) hx hb d_M_queue_27 rfl (by decide) (fun i hi => match i, hi with | 0, _ => Or.inr (lv_neT h4 rfl) | 1, _ => Or.inr (lv_neT h5 rfl) | 2, _ => Or.inr (lv_neT h6 rfl) | z + 3, h => absurd h (by omega)) ?_
        refine lv_iconst (v := (-1)) hx hb d_M_queue_67 (by decide) ?_
        exact kw_iret hx hb hr hlocks hP hK hS ⟨by rw [kv_M_queue, if_neg h1, if_neg h2, if_pos h3, if_neg h4, if_neg h5, if_neg h6], rfl⟩ d_M_queue_68
      · refine lv_iconst (v := (-1)) hx hb d_M_queue_17 (by decide) ?_
        exact kw_iret hx hb hr hlocks hP hK hS ⟨by rw [kv_M_queue, if_neg h1, if_neg h2, if_neg h3], rfl⟩ d_M_queue_18

def kv_nd (wk dn : Nat → Nat) : Nat → Nat → (Nat → Nat) → Nat → Nat
  | 0, _, b => b
  | k + 1, i, b => kv_nd wk dn k (i + 1) (va_up b (wk i) (dn (wk i)))

def kv_M_noteStepsDone_db (qu : Nat) (wk : Nat → Nat) (dn : Nat → Nat) (db : Nat → Nat) : Nat → Nat := kv_nd wk dn qu 0 db
set_option maxRecDepth 100000 in
set_option maxHeartbeats 4000000 in
theorem c_M_noteStepsDone (l : Launch) {D : va_G} {ad : Nat → Nat} {n : Nat} {cs : Nat → va_E} (hJ : kw_J ad n) {cI : ClassId} {cB : ClassId} {cJ : ClassId} {cQ : ClassId} {cW : ClassId} {la : Nat} {ma : Nat} {qu : Nat} {st : Nat} {nx : Int32} {bo : Nat} {cy : Int32} {sd : Int32} {X : Nat → Int32} {F : Nat → Int32} {G : Nat → Int32} {wp : Nat} {gp : Nat} {ln : Nat} {sa : Nat} {wk : Nat → Nat} {po : Nat → Nat} {pd : Nat → Nat} {pa : Nat → Nat} {pb : Nat → Nat} {pn : Nat → Int32} {pm : Nat → Int32} {ww : Nat → Nat} {gr : Nat → Int32} {mo : Nat → Int32} {xa : Nat → Int32} {xb : Nat → Int32} {fr : Nat → Nat} {wi : Nat → Nat} {nu : Nat → Int32} {tt : Nat → Nat} {dn : Nat → Nat} {db : Nat → Nat} {rF : Nat → Nat → Int64} {wF : Nat → Nat → Int64} (hn : 22 + ma ≤ n) (hM : kM ad cI cB cJ cQ cW cs la ma qu st nx bo cy sd X F G wp gp ln sa wk po pd pa pb pn pm ww gr mo xa xb fr wi nu tt dn db rF wF) (hqu : qu ≤ 4) : kw_mv l y_M_noteStepsDone w_M_noteStepsDone (kr 0) D kc (kt cI cB cJ cQ cW) ad n cs [.ref (ad 0)] (fun c9 => kM ad cI cB cJ cQ cW c9 la ma qu st nx bo cy sd X F G wp gp ln sa wk po pd pa pb pn pm ww gr mo xa xb fr wi nu tt dn (kv_M_noteStepsDone_db qu wk dn db) rF wF) := by
  refine kw_of (cc := b_M_noteStepsDone) (maxL := 2) (ret := none) (by decide) rfl (Nat.le_of_ble_eq_true rfl) ?_
  intro p e s m below meth c ls hx hb hr hml hown hts hlocks hP hK hl
  have hg : ∀ w9 ∈ kg_G, w9.before [.ref (ad 0)].toArray s = true := fun w9 h9 => hts w9 (List.mem_cons_of_mem _ h9)
  have hown : s.vm.findClass "LaneMachine" = some m.cls := hown
  have hA : ∀ k, k < n → kw_A ad n (ad k) := fun k hk => ⟨k, hk, rfl⟩
  have hS : va_S (kw_A ad n) s.heap s.heap [] := va_S.rf
  have hl : lv_has ls 2 [(0, .ref (ad 0))] := hl
  refine lv_iconst (v := 0) hx hb d_M_noteStepsDone_0 (by decide) ?_
  refine lv_istore_n (lv' := [(1, .int 0), (0, .ref (ad 0))]) hx hb d_M_noteStepsDone_1 rfl hl (by decide) rfl (fun ls hl => ?_)
  have KXn : ∀ (csL : Nat → va_E) (H : Heap) (locs : List Loc) (ls : Array Slot), kM ad cI cB cJ cQ cW csL la ma qu st nx bo cy sd X F G wp gp ln sa wk po pd pa pb pn pm ww gr mo xa xb fr wi nu tt dn (kv_nd wk dn qu 0 db) rF wF → va_P D kc (kw_w ad csL n) H → va_S (kw_A ad n) s.heap H locs → lv_has ls 2 [(0, .ref (ad 0))] → W p l e (kr 0) s m [.ref (ad 0)].toArray below meth c H locs 0 0 (MQ below (va_Qv (fun c9 => kM ad cI cB cJ cQ cW c9 la ma qu st nx bo cy sd X F G wp gp ln sa wk po pd pa pb pn pm ww gr mo xa xb fr wi nu tt dn (kv_M_noteStepsDone_db qu wk dn db) rF wF) (kw_Pre D kc (kt cI cB cJ cQ cW) ad n) (kw_A ad n)) [.ref (ad 0)].toArray s 0 0 (kw_A ad n)) (F0 m 39 ls []) := by
    intro csL H locs ls hM hP hS hl
    exact kw_vret hx hb hr hlocks hP hK hS (by rw [show kv_M_noteStepsDone_db qu wk dn db = kv_nd wk dn qu 0 db from (by rw [kv_M_noteStepsDone_db])]; exact hM) d_M_noteStepsDone_39
  have loopn : ∀ (kk : Nat) (csL : Nat → va_E) (i : Nat) (db1 : Nat → Nat) (H : Heap) (locs : List Loc) (ls : Array Slot), i + kk = qu → kv_nd wk dn qu 0 db = kv_nd wk dn kk i db1 → kM ad cI cB cJ cQ cW csL la ma qu st nx bo cy sd X F G wp gp ln sa wk po pd pa pb pn pm ww gr mo xa xb fr wi nu tt dn db1 rF wF → va_P D kc (kw_w ad csL n) H → va_S (kw_A ad n) s.heap H locs → lv_has ls 2 [(1, .int (nI i)), (0, .ref (ad 0))] → W p l e (kr 0) s m [.ref (ad 0)].toArray below meth c H locs 0 0 (MQ below (va_Qv (fun c9 => kM ad cI cB cJ cQ cW c9 la ma qu st nx bo cy sd X F G wp gp ln sa wk po pd pa pb pn pm ww gr mo xa xb fr wi nu tt dn (kv_M_noteStepsDone_db qu wk dn db) rF wF) (kw_Pre D kc (kt cI cB cJ cQ cW) ad n) (kw_A ad n)) [.ref (ad 0)].toArray s 0 0 (kw_A ad n)) (F0 m 2 ls []) := by
    intro kk
    induction kk with
    | zero =>
      intro csL i db1 H locs ls hik hv hM hP hS hl
      refine lv_iload_n hx hb d_M_noteStepsDone_2 rfl (lv_at hl 0 rfl) ?_
      refine lv_aload_n hx hb d_M_noteStepsDone_3 rfl (lv_at hl 1 rfl) ?_
      refine kw_get hx hb hg in_M hown hK hP 0 (kM_q hn (by decide : 0 < 22)) (kM_0 hM) rfl 8 (by decide) (hg _ kg_170) rfl rfl d_M_noteStepsDone_4 ?_
      refine lv_icmp_ge (tgt := 39) hx hb d_M_noteStepsDone_7 (by decide) (fun _ => ?_) (fun h1 => absurd (nI_le (by omega) (by omega)) h1)
      exact KXn _ _ _ _ (by rw [show kv_nd wk dn qu 0 db = db1 from hv]; exact hM) hP hS (by (first | (rw [show kv_nd wk dn qu 0 db = db1 from hv]) | skip); exact lv_sub hl [1] rfl)
    | succ j ihn =>
      intro csL i db1 H locs ls hik hv hM hP hS hl
      refine lv_iload_n hx hb d_M_noteStepsDone_2 rfl (lv_at hl 0 rfl) ?_
      refine lv_aload_n hx hb d_M_noteStepsDone_3 rfl (lv_at hl 1 rfl) ?_
      refine kw_get hx hb hg in_M hown hK hP 0 (kM_q hn (by decide : 0 < 22)) (kM_0 hM) rfl 8 (by decide) (hg _ kg_170) rfl rfl d_M_noteStepsDone_4 ?_
      refine lv_icmp_ge (tgt := 39) hx hb d_M_noteStepsDone_7 (by decide) (fun h2 => absurd h2 (nI_ge (by omega) (by omega))) (fun _ => ?_)
      refine lv_iload_n hx hb d_M_noteStepsDone_10 rfl (lv_at hl 0 rfl) ?_
      refine lv_iconst (v := 4) hx hb d_M_noteStepsDone_11 (by decide) ?_
      refine lv_icmp_ge (tgt := 39) hx hb d_M_noteStepsDone_12 (by decide) (fun h3 => absurd h3 (fun z9 => absurd ((nI_leI (a := 4) (by omega) (by omega)).mp z9) (by omega))) (fun _ => ?_)
      refine lv_aload_n hx hb d_M_noteStepsDone_15 rfl (lv_at hl 1 rfl) ?_
      refine kw_get hx hb hg in_M hown hK hP 0 (kM_q hn (by decide : 0 < 22)) (kM_0 hM) rfl 6 (by decide) (hg _ kg_168) rfl rfl d_M_noteStepsDone_16 ?_
      refine lv_iload_n hx hb d_M_noteStepsDone_19 rfl (lv_at hl 0 rfl) ?_
      refine kw_aldq hx hb hK hP 8 4 (kM_q hn (by decide : 8 < 22)) (kM_8 hM) rfl i (rfl) (by omega) (by omega) d_M_noteStepsDone_20 ?_
      refine W.eq (g2 := F0 m 21 ls (.ref (ad (9 + (wk i))) :: [])) (congrArg (fun z9 => F0 m 21 ls (va_rf z9 :: [])) (if_pos (by omega))) ?_
      have hk9_1 : wk i < 4 := kM_k hM _ (by omega)
      have hi9_1 : wi (wk i) ≤ ma := kM_i hM _ hk9_1
      have ek9_1 : csL (9 + (wk i)) = .inr (3, [.ref (ad 2), .ref (ad 4), .ref (ad (13 + (wk i))), .ref (ad (17 + (wk i))), .int (nI (ww (wk i))), .int (gr (wk i)), .int (mo (wk i)), .int (xa (wk i)), .int (xb (wk i)), .int (nI (fr (wk i))), .ref (ad (21 + (wi (wk i)))), .int (nu (wk i)), .int (nI (tt (wk i))), .int (nI (dn (wk i))), .int (nI (db1 (wk i)))]) := by have z9 := kM_w hM hk9_1; (try simp only [va_up_self] at z9); exact z9
      refine lv_aload_n hx hb d_M_noteStepsDone_21 rfl (lv_at hl 1 rfl) ?_
      refine kw_get hx hb hg in_M hown hK hP 0 (kM_q hn (by decide : 0 < 22)) (kM_0 hM) rfl 6 (by decide) (hg _ kg_168) rfl rfl d_M_noteStepsDone_22 ?_
      refine lv_iload_n hx hb d_M_noteStepsDone_25 rfl (lv_at hl 0 rfl) ?_
      refine kw_aldq hx hb hK hP 8 4 (kM_q hn (by decide : 8 < 22)) (kM_8 hM) rfl i (rfl) (by omega) (by omega) d_M_noteStepsDone_26 ?_
      refine W.eq (g2 := F0 m 27 ls (.ref (ad (9 + (wk i))) :: [.ref (ad (9 + (wk i)))])) (congrArg (fun z9 => F0 m 27 ls (va_rf z9 :: [.ref (ad (9 + (wk i)))])) (if_pos (by omega))) ?_
      refine kw_get hx hb hg in_K hown hK hP (9 + (wk i)) (kM_q9 hn hk9_1) ek9_1 rfl 13 (by decide) (hg _ kg_128) rfl rfl d_M_noteStepsDone_27 ?_
      refine kw_put (ty := .int) hx hb hg in_K t_K ty_K nm_K hown hK hP hJ hA hS (9 + (wk i)) (kM_q9 hn hk9_1) ek9_1 rfl 14 (by decide) (hg _ kg_129) rfl rfl (by decide +kernel) rfl rfl (Nat.le_of_ble_eq_true rfl) d_M_noteStepsDone_30 (fun H locs hP hS => ?_)
      obtain ⟨cs1, hccs1⟩ : ∃ z9, z9 = va_up csL (9 + (wk i)) (.inr (3, [.ref (ad 2), .ref (ad 4), .ref (ad (13 + (wk i))), .ref (ad (17 + (wk i))), .int (nI (ww (wk i))), .int (gr (wk i)), .int (mo (wk i)), .int (xa (wk i)), .int (xb (wk i)), .int (nI (fr (wk i))), .ref (ad (21 + (wi (wk i)))), .int (nu (wk i)), .int (nI (tt (wk i))), .int (nI (dn (wk i))), .int (nI (dn (wk i)))])) := ⟨_, rfl⟩
      replace hP : va_P D kc (kw_w ad cs1 n) H := by rw [hccs1]; exact hP
      replace hM : kM ad cI cB cJ cQ cW cs1 la ma qu st nx bo cy sd X F G wp gp ln sa wk po pd pa pb pn pm ww gr mo xa xb fr wi nu tt dn (va_up db1 (wk i) (dn (wk i))) rF wF := by rw [hccs1]; exact kM_udb hM hk9_1 (v := dn (wk i))
      clear hccs1
      have ek9_1 : cs1 (9 + (wk i)) = .inr (3, [.ref (ad 2), .ref (ad 4), .ref (ad (13 + (wk i))), .ref (ad (17 + (wk i))), .int (nI (ww (wk i))), .int (gr (wk i)), .int (mo (wk i)), .int (xa (wk i)), .int (xb (wk i)), .int (nI (fr (wk i))), .ref (ad (21 + (wi (wk i)))), .int (nu (wk i)), .int (nI (tt (wk i))), .int (nI (dn (wk i))), .int (nI (dn (wk i)))]) := by have z9 := kM_w hM hk9_1; (try simp only [va_up_self] at z9); exact z9
      refine lv_iinc (k := 0) (v := nI (i + 1)) (lv' := [(1, .int (nI (i + 1))), (0, .ref (ad 0))]) hx hb d_M_noteStepsDone_33 hl rfl ((nI_succ i).symm) (by decide) rfl (fun ls hl => ?_)
      refine lv_goto (tgt := 2) hx hb d_M_noteStepsDone_36 (by decide) ?_
      exact ihn _ ((i + 1)) _ _ _ _ (by omega) (by rw [hv, kv_nd]) hM hP hS (lv_sub hl [0, 1] rfl)
  exact loopn qu _ 0 _ _ _ _ (by omega) (rfl) hM hP hS (lv_sub hl [0, 1] rfl)

def kv_df (po fr wi tt dn : Nat → Nat) : Nat → Nat → Nat → (Nat → Nat) → (Nat → Nat) × Nat
  | 0, _, q, wk => (wk, q)
  | k + 1, i, q, wk => if kv_K_isDone (fr (wk i)) (tt (wk i)) (dn (wk i)) (nI (po (wi (wk i)))) = 0 then kv_df po fr wi tt dn k (i + 1) (q + 1) (va_up (va_up wk i (wk q)) q (wk i)) else kv_df po fr wi tt dn k (i + 1) q wk

def kv_M_dropFinished_qu (qu : Nat) (wk : Nat → Nat) (po : Nat → Nat) (fr : Nat → Nat) (wi : Nat → Nat) (tt : Nat → Nat) (dn : Nat → Nat) : Nat := (kv_df po fr wi tt dn qu 0 0 wk).2
def kv_M_dropFinished_wk (qu : Nat) (wk : Nat → Nat) (po : Nat → Nat) (fr : Nat → Nat) (wi : Nat → Nat) (tt : Nat → Nat) (dn : Nat → Nat) : Nat → Nat := (kv_df po fr wi tt dn qu 0 0 wk).1
set_option maxRecDepth 100000 in
set_option maxHeartbeats 4000000 in
theorem c_M_dropFinished (l : Launch) {D : va_G} {ad : Nat → Nat} {n : Nat} {cs : Nat → va_E} (hJ : kw_J ad n) {cI : ClassId} {cB : ClassId} {cJ : ClassId} {cQ : ClassId} {cW : ClassId} {la : Nat} {ma : Nat} {qu : Nat} {st : Nat} {nx : Int32} {bo : Nat} {cy : Int32} {sd : Int32} {X : Nat → Int32} {F : Nat → Int32} {G : Nat → Int32} {wp : Nat} {gp : Nat} {ln : Nat} {sa : Nat} {wk : Nat → Nat} {po : Nat → Nat} {pd : Nat → Nat} {pa : Nat → Nat} {pb : Nat → Nat} {pn : Nat → Int32} {pm : Nat → Int32} {ww : Nat → Nat} {gr : Nat → Int32} {mo : Nat → Int32} {xa : Nat → Int32} {xb : Nat → Int32} {fr : Nat → Nat} {wi : Nat → Nat} {nu : Nat → Int32} {tt : Nat → Nat} {dn : Nat → Nat} {db : Nat → Nat} {rF : Nat → Nat → Int64} {wF : Nat → Nat → Int64} (hn : 22 + ma ≤ n) (hM : kM ad cI cB cJ cQ cW cs la ma qu st nx bo cy sd X F G wp gp ln sa wk po pd pa pb pn pm ww gr mo xa xb fr wi nu tt dn db rF wF) (hqu : qu ≤ 4) : kw_mv l y_M_dropFinished w_M_dropFinished (kr 3) D kc (kt cI cB cJ cQ cW) ad n cs [.ref (ad 0)] (fun c9 => kM ad cI cB cJ cQ cW c9 la ma (kv_M_dropFinished_qu qu wk po fr wi tt dn) st nx bo cy sd X F G wp gp ln sa (kv_M_dropFinished_wk qu wk po fr wi tt dn) po pd pa pb pn pm ww gr mo xa xb fr wi nu tt dn db rF wF) := by
  refine kw_of (cc := b_M_dropFinished) (maxL := 4) (ret := none) (by decide) rfl (Nat.le_of_ble_eq_true rfl) ?_
  intro p e s m below meth c ls hx hb hr hml hown hts hlocks hP hK hl
  have hg : ∀ w9 ∈ kg_G, w9.before [.ref (ad 0)].toArray s = true := fun w9 h9 => hts w9 (List.mem_cons_of_mem _ h9)
  have hown : s.vm.findClass "LaneMachine" = some m.cls := hown
  have hA : ∀ k, k < n → kw_A ad n (ad k) := fun k hk => ⟨k, hk, rfl⟩
  have hS : va_S (kw_A ad n) s.heap s.heap [] := va_S.rf
  have hl : lv_has ls 4 [(0, .ref (ad 0))] := hl
  refine lv_iconst (v := 0) hx hb d_M_dropFinished_0 (by decide) ?_
  refine lv_istore_n (lv' := [(1, .int 0), (0, .ref (ad 0))]) hx hb d_M_dropFinished_1 rfl hl (by decide) rfl (fun ls hl => ?_)
  refine lv_iconst (v := 0) hx hb d_M_dropFinished_2 (by decide) ?_
  refine lv_istore_n (lv' := [(2, .int 0), (1, .int 0), (0, .ref (ad 0))]) hx hb d_M_dropFinished_3 rfl hl (by decide) rfl (fun ls hl => ?_)
  have KXd : ∀ (csL : Nat → va_E) (H : Heap) (locs : List Loc) (ls : Array Slot), kM ad cI cB cJ cQ cW csL la ma qu st nx bo cy sd X F G wp gp ln sa ((kv_df po fr wi tt dn qu 0 0 wk).1) po pd pa pb pn pm ww gr mo xa xb fr wi nu tt dn db rF wF → va_P D kc (kw_w ad csL n) H → va_S (kw_A ad n) s.heap H locs → lv_has ls 4 [(1, .int (nI (kv_df po fr wi tt dn qu 0 0 wk).2)), (0, .ref (ad 0))] → W p l e (kr 3) s m [.ref (ad 0)].toArray below meth c H locs 0 0 (MQ below (va_Qv (fun c9 => kM ad cI cB cJ cQ cW c9 la ma (kv_M_dropFinished_qu qu wk po fr wi tt dn) st nx bo cy sd X F G wp gp ln sa (kv_M_dropFinished_wk qu wk po fr wi tt dn) po pd pa pb pn pm ww gr mo xa xb fr wi nu tt dn db rF wF) (kw_Pre D kc (kt cI cB cJ cQ cW) ad n) (kw_A ad n)) [.ref (ad 0)].toArray s 0 0 (kw_A ad n)) (F0 m 59 ls []) := by
    intro csL H locs ls hM hP hS hl
    refine lv_aload_n hx hb d_M_dropFinished_59 rfl (lv_at hl 1 rfl) ?_
    refine lv_iload_n hx hb d_M_dropFinished_60 rfl (lv_at hl 0 rfl) ?_
    refine kw_put (ty := .int) hx hb hg in_M t_M ty_M nm_M hown hK hP hJ hA hS 0 (kM_q hn (by decide : 0 < 22)) (kM_0 hM) rfl 8 (by decide) (hg _ kg_170) rfl rfl (by decide +kernel) rfl rfl (Nat.le_of_ble_eq_true rfl) d_M_dropFinished_61 (fun H locs hP hS => ?_)
    obtain ⟨cs1, hccs1⟩ : ∃ z9, z9 = va_up csL 0 (.inr (4, [.int (nI la), .ref (ad 1), .ref (ad 2), .ref (ad 4), .ref (ad 6), .ref (ad 7), .ref (ad 8), .int (nI ma), .int (nI (kv_df po fr wi tt dn qu 0 0 wk).2), .int (nI st), .int nx, .int (nI bo), .int cy, .int sd])) := ⟨_, rfl⟩
    replace hP : va_P D kc (kw_w ad cs1 n) H := by rw [hccs1]; exact hP
    replace hM : kM ad cI cB cJ cQ cW cs1 la ma ((kv_df po fr wi tt dn qu 0 0 wk).2) st nx bo cy sd X F G wp gp ln sa ((kv_df po fr wi tt dn qu 0 0 wk).1) po pd pa pb pn pm ww gr mo xa xb fr wi nu tt dn db rF wF := by rw [hccs1]; exact kM_u0 hM
    clear hccs1
    exact kw_vret hx hb hr hlocks hP hK hS (by rw [show kv_M_dropFinished_qu qu wk po fr wi tt dn = (kv_df po fr wi tt dn qu 0 0 wk).2 from (by rw [kv_M_dropFinished_qu]), show kv_M_dropFinished_wk qu wk po fr wi tt dn = (kv_df po fr wi tt dn qu 0 0 wk).1 from (by rw [kv_M_dropFinished_wk])]; exact hM) d_M_dropFinished_64
  have loopd : ∀ (kk : Nat) (csL : Nat → va_E) (i : Nat) (q : Nat) (wk1 : Nat → Nat) (H : Heap) (locs : List Loc) (ls : Array Slot), i + kk = qu → q ≤ i → kv_df po fr wi tt dn qu 0 0 wk = kv_df po fr wi tt dn kk i q wk1 → kM ad cI cB cJ cQ cW csL la ma qu st nx bo cy sd X F G wp gp ln sa wk1 po pd pa pb pn pm ww gr mo xa xb fr wi nu tt dn db rF wF → va_P D kc (kw_w ad csL n) H → va_S (kw_A ad n) s.heap H locs → lv_has ls 4 [(2, .int (nI i)), (1, .int (nI q)), (0, .ref (ad 0))] → W p l e (kr 3) s m [.ref (ad 0)].toArray below meth c H locs 0 0 (MQ below (va_Qv (fun c9 => kM ad cI cB cJ cQ cW c9 la ma (kv_M_dropFinished_qu qu wk po fr wi tt dn) st nx bo cy sd X F G wp gp ln sa (kv_M_dropFinished_wk qu wk po fr wi tt dn) po pd pa pb pn pm ww gr mo xa xb fr wi nu tt dn db rF wF) (kw_Pre D kc (kt cI cB cJ cQ cW) ad n) (kw_A ad n)) [.ref (ad 0)].toArray s 0 0 (kw_A ad n)) (F0 m 4 ls []) := by
    intro kk
    induction kk with
    | zero =>
      intro csL i q wk1 H locs ls hik hqi hv hM hP hS hl
      refine lv_iload_n hx hb d_M_dropFinished_4 rfl (lv_at hl 0 rfl) ?_
      refine lv_aload_n hx hb d_M_dropFinished_5 rfl (lv_at hl 2 rfl) ?_
      refine kw_get hx hb hg in_M hown hK hP 0 (kM_q hn (by decide : 0 < 22)) (kM_0 hM) rfl 8 (by decide) (hg _ kg_170) rfl rfl d_M_dropFinished_6 ?_
      refine lv_icmp_ge (tgt := 59) hx hb d_M_dropFinished_9 (by decide) (fun _ => ?_) (fun h1 => absurd (nI_le (by omega) (by omega)) h1)
      exact KXd _ _ _ _ (by rw [show kv_df po fr wi tt dn qu 0 0 wk = (wk1, q) from hv]; exact hM) hP hS (by (first | (rw [show kv_df po fr wi tt dn qu 0 0 wk = (wk1, q) from hv]) | skip); exact lv_sub hl [1, 2] rfl)
    | succ j ihd =>
      intro csL i q wk1 H locs ls hik hqi hv hM hP hS hl
      refine lv_iload_n hx hb d_M_dropFinished_4 rfl (lv_at hl 0 rfl) ?_
      refine lv_aload_n hx hb d_M_dropFinished_5 rfl (lv_at hl 2 rfl) ?_
      refine kw_get hx hb hg in_M hown hK hP 0 (kM_q hn (by decide : 0 < 22)) (kM_0 hM) rfl 8 (by decide) (hg _ kg_170) rfl rfl d_M_dropFinished_6 ?_
      refine lv_icmp_ge (tgt := 59) hx hb d_M_dropFinished_9 (by decide) (fun h2 => absurd h2 (nI_ge (by omega) (by omega))) (fun _ => ?_)
      refine lv_iload_n hx hb d_M_dropFinished_12 rfl (lv_at hl 0 rfl) ?_
      refine lv_iconst (v := 4) hx hb d_M_dropFinished_13 (by decide) ?_
      refine lv_icmp_ge (tgt := 59) hx hb d_M_dropFinished_14 (by decide) (fun h3 => absurd h3 (fun z9 => absurd ((nI_leI (a := 4) (by omega) (by omega)).mp z9) (by omega))) (fun _ => ?_)
      refine lv_aload_n hx hb d_M_dropFinished_17 rfl (lv_at hl 2 rfl) ?_
      refine kw_get hx hb hg in_M hown hK hP 0 (kM_q hn (by decide : 0 < 22)) (kM_0 hM) rfl 6 (by decide) (hg _ kg_168) rfl rfl d_M_dropFinished_18 ?_
      refine lv_iload_n hx hb d_M_dropFinished_21 rfl (lv_at hl 0 rfl) ?_
      refine kw_aldq hx hb hK hP 8 4 (kM_q hn (by decide : 8 < 22)) (kM_8 hM) rfl i (rfl) (by omega) (by omega) d_M_dropFinished_22 ?_
      refine W.eq (g2 := F0 m 23 ls (.ref (ad (9 + (wk1 i))) :: [])) (congrArg (fun z9 => F0 m 23 ls (va_rf z9 :: [])) (if_pos (by omega))) ?_
      have hk9_1 : wk1 i < 4 := kM_k hM _ (by omega)
      have hi9_1 : wi (wk1 i) ≤ ma := kM_i hM _ hk9_1
      have ek9_1 : csL (9 + (wk1 i)) = .inr (3, [.ref (ad 2), .ref (ad 4), .ref (ad (13 + (wk1 i))), .ref (ad (17 + (wk1 i))), .int (nI (ww (wk1 i))), .int (gr (wk1 i)), .int (mo (wk1 i)), .int (xa (wk1 i)), .int (xb (wk1 i)), .int (nI (fr (wk1 i))), .ref (ad (21 + (wi (wk1 i)))), .int (nu (wk1 i)), .int (nI (tt (wk1 i))), .int (nI (dn (wk1 i))), .int (nI (db (wk1 i)))]) := by have z9 := kM_w hM hk9_1; (try simp only [va_up_self] at z9); exact z9
      refine lv_astore_n (lv' := [(3, .ref (ad (9 + (wk1 i)))), (2, .int (nI i)), (1, .int (nI q)), (0, .ref (ad 0))]) hx hb d_M_dropFinished_23 rfl hl (by decide) rfl (fun ls hl => ?_)
      refine lv_aload_n hx hb d_M_dropFinished_24 rfl (lv_at hl 0 rfl) ?_
      refine kw_callix (kw_rV (As := []) (rest := []) (q0 := (9 + (wk1 i))) ⟨hx, hb, hml, hown, hg⟩ ⟨callB_of 0 hg (kg_goodG kg_382) rfl rfl rfl (hg _ kg_6) (hg _ kg_465) (by decide +kernel) ⟨by decide, by decide⟩, hg _ kg_380, hg _ kg_381⟩ (c_K_isDone l (kM_q9 hn hk9_1) ek9_1 (kM_q21 hn hi9_1) (kM_in hM hi9_1) ) hK hP (kM_q9 hn hk9_1) ek9_1 rfl rfl hl.1 rfl (Nat.le_of_ble_eq_true rfl) d_M_dropFinished_25 ⟨Nat.zero_le _, Nat.zero_le _⟩) hA hS (fun H locs hP hS => ?_)
      refine lv_if_ne (tgt := 53) hx hb d_M_dropFinished_28 (by decide) (fun h4 => ?_) (fun h4 => ?_)
      · refine lv_iinc (k := 1) (v := nI (i + 1)) (lv' := [(2, .int (nI (i + 1))), (3, .ref (ad (9 + (wk1 i)))), (1, .int (nI q)), (0, .ref (ad 0))]) hx hb d_M_dropFinished_53 hl rfl ((nI_succ i).symm) (by decide) rfl (fun ls hl => ?_)
        refine lv_goto (tgt := 4) hx hb d_M_dropFinished_56 (by decide) ?_
        exact ihd _ ((i + 1)) q _ _ _ _ (by omega) (by omega) (by rw [hv, kv_df, if_neg h4]) hM hP hS (lv_sub hl [0, 2, 3] rfl)
      · refine lv_aload_n hx hb d_M_dropFinished_31 rfl (lv_at hl 3 rfl) ?_
        refine kw_get hx hb hg in_M hown hK hP 0 (kM_q hn (by decide : 0 < 22)) (kM_0 hM) rfl 6 (by decide) (hg _ kg_168) rfl rfl d_M_dropFinished_32 ?_
        refine lv_iload_n hx hb d_M_dropFinished_35 rfl (lv_at hl 1 rfl) ?_
        refine lv_aload_n hx hb d_M_dropFinished_36 rfl (lv_at hl 3 rfl) ?_
        refine kw_get hx hb hg in_M hown hK hP 0 (kM_q hn (by decide : 0 < 22)) (kM_0 hM) rfl 6 (by decide) (hg _ kg_168) rfl rfl d_M_dropFinished_37 ?_
        refine lv_iload_n hx hb d_M_dropFinished_40 rfl (lv_at hl 2 rfl) ?_
        refine kw_aldq hx hb hK hP 8 4 (kM_q hn (by decide : 8 < 22)) (kM_8 hM) rfl q (rfl) (by omega) (by omega) d_M_dropFinished_41 ?_
        refine W.eq (g2 := F0 m 42 ls (.ref (ad (9 + (wk1 q))) :: [.int (nI i), .ref (ad 8)])) (congrArg (fun z9 => F0 m 42 ls (va_rf z9 :: [.int (nI i), .ref (ad 8)])) (if_pos (by omega))) ?_
        have hk9_2 : wk1 q < 4 := kM_k hM _ (by omega)
        have hi9_2 : wi (wk1 q) ≤ ma := kM_i hM _ hk9_2
        have ek9_1 : csL (9 + (wk1 i)) = .inr (3, [.ref (ad 2), .ref (ad 4), .ref (ad (13 + (wk1 i))), .ref (ad (17 + (wk1 i))), .int (nI (ww (wk1 i))), .int (gr (wk1 i)), .int (mo (wk1 i)), .int (xa (wk1 i)), .int (xb (wk1 i)), .int (nI (fr (wk1 i))), .ref (ad (21 + (wi (wk1 i)))), .int (nu (wk1 i)), .int (nI (tt (wk1 i))), .int (nI (dn (wk1 i))), .int (nI (db (wk1 i)))]) := by have z9 := kM_w hM hk9_1; (try simp only [va_up_self] at z9); exact z9
        have ek9_2 : csL (9 + (wk1 q)) = .inr (3, [.ref (ad 2), .ref (ad 4), .ref (ad (13 + (wk1 q))), .ref (ad (17 + (wk1 q))), .int (nI (ww (wk1 q))), .int (gr (wk1 q)), .int (mo (wk1 q)), .int (xa (wk1 q)), .int (xb (wk1 q)), .int (nI (fr (wk1 q))), .ref (ad (21 + (wi (wk1 q)))), .int (nu (wk1 q)), .int (nI (tt (wk1 q))), .int (nI (dn (wk1 q))), .int (nI (db (wk1 q)))]) := by have z9 := kM_w hM hk9_2; (try simp only [va_up_self] at z9); exact z9
        refine kw_astq hx hb hK hP hJ hA hS 8 4 (9 + (wk1 q)) 3 (kM_q hn (by decide : 8 < 22)) (kM_q9 hn hk9_2) (kM_8 hM) rfl ek9_2 rfl i (rfl) (by omega) (by omega) d_M_dropFinished_42 (fun H locs hP hS => ?_)
        obtain ⟨cs2, hccs2⟩ : ∃ z9, z9 = va_up csL 8 (.inl (cW, 4, .inr (.inr (.inr (.inr (va_up (fun z8 => if z8 < 4 then some (ad (9 + wk1 z8)) else none) i (some (ad (9 + (wk1 q)))))))))) := ⟨_, rfl⟩
        replace hP : va_P D kc (kw_w ad cs2 n) H := by rw [hccs2]; exact hP
        replace hM : kM ad cI cB cJ cQ cW cs2 la ma qu st nx bo cy sd X F G wp gp ln sa (va_up wk1 i (wk1 q)) po pd pa pb pn pm ww gr mo xa xb fr wi nu tt dn db rF wF := by rw [hccs2]; exact kM_u8 hM hk9_2 (by omega)
        clear hccs2
        have ek9_1 : cs2 (9 + (wk1 i)) = .inr (3, [.ref (ad 2), .ref (ad 4), .ref (ad (13 + (wk1 i))), .ref (ad (17 + (wk1 i))), .int (nI (ww (wk1 i))), .int (gr (wk1 i)), .int (mo (wk1 i)), .int (xa (wk1 i)), .int (xb (wk1 i)), .int (nI (fr (wk1 i))), .ref (ad (21 + (wi (wk1 i)))), .int (nu (wk1 i)), .int (nI (tt (wk1 i))), .int (nI (dn (wk1 i))), .int (nI (db (wk1 i)))]) := by have z9 := kM_w hM hk9_1; (try simp only [va_up_self] at z9); exact z9
        have ek9_2 : cs2 (9 + (wk1 q)) = .inr (3, [.ref (ad 2), .ref (ad 4), .ref (ad (13 + (wk1 q))), .ref (ad (17 + (wk1 q))), .int (nI (ww (wk1 q))), .int (gr (wk1 q)), .int (mo (wk1 q)), .int (xa (wk1 q)), .int (xb (wk1 q)), .int (nI (fr (wk1 q))), .ref (ad (21 + (wi (wk1 q)))), .int (nu (wk1 q)), .int (nI (tt (wk1 q))), .int (nI (dn (wk1 q))), .int (nI (db (wk1 q)))]) := by have z9 := kM_w hM hk9_2; (try simp only [va_up_self] at z9); exact z9
        refine lv_aload_n hx hb d_M_dropFinished_43 rfl (lv_at hl 3 rfl) ?_
        refine kw_get hx hb hg in_M hown hK hP 0 (kM_q hn (by decide : 0 < 22)) (kM_0 hM) rfl 6 (by decide) (hg _ kg_168) rfl rfl d_M_dropFinished_44 ?_
        refine lv_iload_n hx hb d_M_dropFinished_47 rfl (lv_at hl 2 rfl) ?_
        refine lv_aload_n hx hb d_M_dropFinished_48 rfl (lv_at hl 0 rfl) ?_
        refine kw_astq hx hb hK hP hJ hA hS 8 4 (9 + (wk1 i)) 3 (kM_q hn (by decide : 8 < 22)) (kM_q9 hn hk9_1) (kM_8 hM) rfl ek9_1 rfl q (rfl) (by omega) (by omega) d_M_dropFinished_49 (fun H locs hP hS => ?_)
        obtain ⟨cs3, hccs3⟩ : ∃ z9, z9 = va_up cs2 8 (.inl (cW, 4, .inr (.inr (.inr (.inr (va_up (fun z8 => if z8 < 4 then some (ad (9 + (va_up wk1 i (wk1 q)) z8)) else none) q (some (ad (9 + (wk1 i)))))))))) := ⟨_, rfl⟩
        replace hP : va_P D kc (kw_w ad cs3 n) H := by rw [hccs3]; exact hP
        replace hM : kM ad cI cB cJ cQ cW cs3 la ma qu st nx bo cy sd X F G wp gp ln sa (va_up (va_up wk1 i (wk1 q)) q (wk1 i)) po pd pa pb pn pm ww gr mo xa xb fr wi nu tt dn db rF wF := by rw [hccs3]; exact kM_u8 hM hk9_1 (by omega)
        clear hccs3
        have ek9_1 : cs3 (9 + (wk1 i)) = .inr (3, [.ref (ad 2), .ref (ad 4), .ref (ad (13 + (wk1 i))), .ref (ad (17 + (wk1 i))), .int (nI (ww (wk1 i))), .int (gr (wk1 i)), .int (mo (wk1 i)), .int (xa (wk1 i)), .int (xb (wk1 i)), .int (nI (fr (wk1 i))), .ref (ad (21 + (wi (wk1 i)))), .int (nu (wk1 i)), .int (nI (tt (wk1 i))), .int (nI (dn (wk1 i))), .int (nI (db (wk1 i)))]) := by have z9 := kM_w hM hk9_1; (try simp only [va_up_self] at z9); exact z9
        have ek9_2 : cs3 (9 + (wk1 q)) = .inr (3, [.ref (ad 2), .ref (ad 4), .ref (ad (13 + (wk1 q))), .ref (ad (17 + (wk1 q))), .int (nI (ww (wk1 q))), .int (gr (wk1 q)), .int (mo (wk1 q)), .int (xa (wk1 q)), .int (xb (wk1 q)), .int (nI (fr (wk1 q))), .ref (ad (21 + (wi (wk1 q)))), .int (nu (wk1 q)), .int (nI (tt (wk1 q))), .int (nI (dn (wk1 q))), .int (nI (db (wk1 q)))]) := by have z9 := kM_w hM hk9_2; (try simp only [va_up_self] at z9); exact z9
        refine lv_iinc (k := 2) (v := nI (q + 1)) (lv' := [(1, .int (nI (q + 1))), (3, .ref (ad (9 + (wk1 i)))), (2, .int (nI i)), (0, .ref (ad 0))]) hx hb d_M_dropFinished_50 hl rfl ((nI_succ q).symm) (by decide) rfl (fun ls hl => ?_)
        refine lv_iinc (k := 2) (v := nI (i + 1)) (lv' := [(2, .int (nI (i + 1))), (1, .int (nI (q + 1))), (3, .ref (ad (9 + (wk1 i)))), (0, .ref (ad 0))]) hx hb d_M_dropFinished_53 hl rfl ((nI_succ i).symm) (by decide) rfl (fun ls hl => ?_)
        refine lv_goto (tgt := 4) hx hb d_M_dropFinished_56 (by decide) ?_
        exact ihd _ ((i + 1)) ((q + 1)) _ _ _ _ (by omega) (by omega) (by rw [hv, kv_df, if_pos h4]) hM hP hS (lv_sub hl [0, 1, 3] rfl)
  exact loopd qu _ 0 0 _ _ _ _ (by omega) (by omega) (rfl) hM hP hS (lv_sub hl [0, 1, 2] rfl)

/-- lanes of one unit on one instruction: what is done, registers, memory, all steps -/
def kv_wl (po pd pa pb : Nat → Nat) (pm : Nat → Int32) (ww : Nat → Nat) (gr mo xa xb : Nat → Int32) (fr wi tt : Nat → Nat) (k : Nat) (u v : Int64) : Nat → (Nat → Nat) → (Nat → Int32) → (Nat → Int32) → Int32 → (Nat → Nat) × (Nat → Int32) × (Nat → Int32) × Int32
  | 0, dn, F, G, sd => (dn, F, G, sd)
  | j + 1, dn, F, G, sd => if (kv_K_isNextStepFree (ww k) (fr k) (tt k) (dn k) (gr k) (mo k) (xb k) (nI (po (wi k))) (nI (pd (wi k))) (nI (pa (wi k))) (nI (pb (wi k))) (pm (wi k)) u v) = 0 then (dn, F, G, sd) else kv_wl po pd pa pb pm ww gr mo xa xb fr wi tt k u v j (va_up dn k (dn k + 1)) (kv_K_doNextStep_q3 (ww k) (fr k) (tt k) (dn k) (mo k) (xa k) (xb k) (nI (po (wi k))) (nI (pd (wi k))) (nI (pa (wi k))) (nI (pb (wi k))) (pm (wi k)) F G) (kv_K_doNextStep_q5 (ww k) (fr k) (dn k) (xa k) (xb k) (nI (po (wi k))) (nI (pd (wi k))) (nI (pb (wi k))) (pm (wi k)) F G) (sd + 1)
def kv_wo (la : Nat) (wk po pd pa pb : Nat → Nat) (pm : Nat → Int32) (ww : Nat → Nat) (gr mo xa xb : Nat → Int32) (fr wi tt db : Nat → Nat) (rF wF : Nat → Nat → Int64) (y : Int32) (dn : Nat → Nat) (F G : Nat → Int32) (sd : Int32) : Nat → Nat → Int64 → Int64 → (Nat → Nat) × (Nat → Int32) × (Nat → Int32) × Int32
  | 0, _, _, _ => (dn, F, G, sd)
  | j + 1, i, u, v => if kv_I_unit (nI (po (wi (wk i)))) = y then kv_wl po pd pa pb pm ww gr mo xa xb fr wi tt (wk i) u v la dn F G sd else kv_wo la wk po pd pa pb pm ww gr mo xa xb fr wi tt db rF wF y dn F G sd j (i + 1) (u ||| rF (wk i) (db (wk i))) (v ||| wF (wk i) (db (wk i)))

set_option maxRecDepth 100000 in
set_option maxHeartbeats 4000000 in
theorem c_M_workUnit (l : Launch) {D : va_G} {ad : Nat → Nat} {n : Nat} {cs : Nat → va_E} (hJ : kw_J ad n) {cI : ClassId} {cB : ClassId} {cJ : ClassId} {cQ : ClassId} {cW : ClassId} {la : Nat} {ma : Nat} {qu : Nat} {st : Nat} {nx : Int32} {bo : Nat} {cy : Int32} {sd : Int32} {X : Nat → Int32} {F : Nat → Int32} {G : Nat → Int32} {wp : Nat} {gp : Nat} {ln : Nat} {sa : Nat} {wk : Nat → Nat} {po : Nat → Nat} {pd : Nat → Nat} {pa : Nat → Nat} {pb : Nat → Nat} {pn : Nat → Int32} {pm : Nat → Int32} {ww : Nat → Nat} {gr : Nat → Int32} {mo : Nat → Int32} {xa : Nat → Int32} {xb : Nat → Int32} {fr : Nat → Nat} {wi : Nat → Nat} {nu : Nat → Int32} {tt : Nat → Nat} {dn : Nat → Nat} {db : Nat → Nat} {rF : Nat → Nat → Int64} {wF : Nat → Nat → Int64} {y : Int32} (hn : 22 + ma ≤ n) (hM : kM ad cI cB cJ cQ cW cs la ma qu st nx bo cy sd X F G wp gp ln sa wk po pd pa pb pn pm ww gr mo xa xb fr wi nu tt dn db rF wF) (hqu : qu ≤ 4) (hla : la ≤ 8) (hW : ∀ i, i < qu → fr (wk i) ≤ tt (wk i) ∧ tt (wk i) < 2 ^ 30 ∧ ww (wk i) ≤ 4 ∧ db (wk i) ≤ 32) : kw_mv l y_M_workUnit w_M_workUnit (kr 5) D kc (kt cI cB cJ cQ cW) ad n cs [.ref (ad 0), .int y] (fun c9 => kM ad cI cB cJ cQ cW c9 la ma qu st nx bo cy ((kv_wo la wk po pd pa pb pm ww gr mo xa xb fr wi tt db rF wF y dn F G sd qu 0 0 0).2.2.2) X ((kv_wo la wk po pd pa pb pm ww gr mo xa xb fr wi tt db rF wF y dn F G sd qu 0 0 0).2.1) ((kv_wo la wk po pd pa pb pm ww gr mo xa xb fr wi tt db rF wF y dn F G sd qu 0 0 0).2.2.1) wp gp ln sa wk po pd pa pb pn pm ww gr mo xa xb fr wi nu tt ((kv_wo la wk po pd pa pb pm ww gr mo xa xb fr wi tt db rF wF y dn F G sd qu 0 0 0).1) db rF wF) := by
  refine kw_of (cc := b_M_workUnit) (maxL := 9) (ret := none) (by decide) rfl (Nat.le_of_ble_eq_true rfl) ?_
  intro p e s m below meth c ls hx hb hr hml hown hts hlocks hP hK hl
  have hg : ∀ w9 ∈ kg_G, w9.before [.ref (ad 0), .int y].toArray s = true := fun w9 h9 => hts w9 (List.mem_cons_of_mem _ h9)
  have hown : s.vm.findClass "LaneMachine" = some m.cls := hown
  have hA : ∀ k, k < n → kw_A ad n (ad k) := fun k hk => ⟨k, hk, rfl⟩
  have hS : va_S (kw_A ad n) s.heap s.heap [] := va_S.rf
  have hl : lv_has ls 9 [(0, .ref (ad 0)), (1, .int y)] := hl
  refine lv_lconst (v := 0) hx hb d_M_workUnit_0 (by decide) ?_
  refine lv_lstore_n (lv' := [(2, .long 0), (0, .ref (ad 0)), (1, .int y)]) hx hb d_M_workUnit_1 rfl hl (by decide) rfl (fun ls hl => ?_)
  refine lv_lconst (v := 0) hx hb d_M_workUnit_2 (by decide) ?_
  refine lv_lstore (lv' := [(4, .long 0), (2, .long 0), (0, .ref (ad 0)), (1, .int y)]) hx hb d_M_workUnit_3 hl (by decide) rfl (fun ls hl => ?_)
  refine lv_iconst (v := 0) hx hb d_M_workUnit_5 (by decide) ?_
  refine lv_istore (lv' := [(6, .int 0), (4, .long 0), (2, .long 0), (0, .ref (ad 0)), (1, .int y)]) hx hb d_M_workUnit_6 hl (by decide) rfl (fun ls hl => ?_)
  have loop : ∀ (kk : Nat) (i : Nat) (u : Int64) (v : Int64) (H : Heap) (locs : List Loc) (ls : Array Slot), i + kk = qu → kv_wo la wk po pd pa pb pm ww gr mo xa xb fr wi tt db rF wF y dn F G sd qu 0 0 0 = kv_wo la wk po pd pa pb pm ww gr mo xa xb fr wi tt db rF wF y dn F G sd kk i u v → va_P D kc (kw_w ad cs n) H → va_S (kw_A ad n) s.heap H locs → lv_has ls 9 [(6, .int (nI i)), (4, .long v), (2, .long u), (0, .ref (ad 0)), (1, .int y)] → W p l e (kr 5) s m [.ref (ad 0), .int y].toArray below meth c H locs 0 0 (MQ below (va_Qv (fun c9 => kM ad cI cB cJ cQ cW c9 la ma qu st nx bo cy ((kv_wo la wk po pd pa pb pm ww gr mo xa xb fr wi tt db rF wF y dn F G sd qu 0 0 0).2.2.2) X ((kv_wo la wk po pd pa pb pm ww gr mo xa xb fr wi tt db rF wF y dn F G sd qu 0 0 0).2.1) ((kv_wo la wk po pd pa pb pm ww gr mo xa xb fr wi tt db rF wF y dn F G sd qu 0 0 0).2.2.1) wp gp ln sa wk po pd pa pb pn pm ww gr mo xa xb fr wi nu tt ((kv_wo la wk po pd pa pb pm ww gr mo xa xb fr wi tt db rF wF y dn F G sd qu 0 0 0).1) db rF wF) (kw_Pre D kc (kt cI cB cJ cQ cW) ad n) (kw_A ad n)) [.ref (ad 0), .int y].toArray s 0 0 (kw_A ad n)) (F0 m 8 ls []) := by
    intro kk
    induction kk with
    | zero =>
      intro i u v H locs ls hik hv hP hS hl
      refine lv_iload hx hb d_M_workUnit_8 (lv_at hl 0 rfl) ?_
      refine lv_aload_n hx hb d_M_workUnit_10 rfl (lv_at hl 3 rfl) ?_
      refine kw_get hx hb hg in_M hown hK hP 0 (kM_q hn (by decide : 0 < 22)) (kM_0 hM) rfl 8 (by decide) (hg _ kg_170) rfl rfl d_M_workUnit_11 ?_
      refine lv_icmp_ge (tgt := 123) hx hb d_M_workUnit_14 (by decide) (fun _ => ?_) (fun h1 => absurd (nI_le (by omega) (by omega)) h1)
      exact kw_vret hx hb hr hlocks hP hK hS (by rw [hv, kv_wo]; exact hM) d_M_workUnit_123
    | succ j ih =>
      intro i u v H locs ls hik hv hP hS hl
      have hW9 := hW i (by omega)
      refine lv_iload hx hb d_M_workUnit_8 (lv_at hl 0 rfl) ?_
      refine lv_aload_n hx hb d_M_workUnit_10 rfl (lv_at hl 3 rfl) ?_
      refine kw_get hx hb hg in_M hown hK hP 0 (kM_q hn (by decide : 0 < 22)) (kM_0 hM) rfl 8 (by decide) (hg _ kg_170) rfl rfl d_M_workUnit_11 ?_
      refine lv_icmp_ge (tgt := 123) hx hb d_M_workUnit_14 (by decide) (fun h2 => absurd h2 (nI_ge (by omega) (by omega))) (fun _ => ?_)
      refine lv_iload hx hb d_M_workUnit_17 (lv_at hl 0 rfl) ?_
      refine lv_iconst (v := 4) hx hb d_M_workUnit_19 (by decide) ?_
      refine lv_icmp_ge (tgt := 123) hx hb d_M_workUnit_20 (by decide) (fun h3 => absurd h3 (fun z9 => absurd ((nI_leI (a := 4) (by omega) (by omega)).mp z9) (by omega))) (fun _ => ?_)
      refine lv_aload_n hx hb d_M_workUnit_23 rfl (lv_at hl 3 rfl) ?_
      refine kw_get hx hb hg in_M hown hK hP 0 (kM_q hn (by decide : 0 < 22)) (kM_0 hM) rfl 6 (by decide) (hg _ kg_168) rfl rfl d_M_workUnit_24 ?_
      refine lv_iload hx hb d_M_workUnit_27 (lv_at hl 0 rfl) ?_
      refine kw_aldq hx hb hK hP 8 4 (kM_q hn (by decide : 8 < 22)) (kM_8 hM) rfl i (rfl) (by omega) (by omega) d_M_workUnit_29 ?_
      refine W.eq (g2 := F0 m 30 ls (.ref (ad (9 + (wk i))) :: [])) (congrArg (fun z9 => F0 m 30 ls (va_rf z9 :: [])) (if_pos (by omega))) ?_
      have hk9_1 : wk i < 4 := kM_k hM _ (by omega)
      have hi9_1 : wi (wk i) ≤ ma := kM_i hM _ hk9_1
      have ek9_1 : cs (9 + (wk i)) = .inr (3, [.ref (ad 2), .ref (ad 4), .ref (ad (13 + (wk i))), .ref (ad (17 + (wk i))), .int (nI (ww (wk i))), .int (gr (wk i)), .int (mo (wk i)), .int (xa (wk i)), .int (xb (wk i)), .int (nI (fr (wk i))), .ref (ad (21 + (wi (wk i)))), .int (nu (wk i)), .int (nI (tt (wk i))), .int (nI (dn (wk i))), .int (nI (db (wk i)))]) := by have z9 := kM_w hM hk9_1; (try simp only [va_up_self] at z9); exact z9
      refine lv_astore (lv' := [(7, .ref (ad (9 + (wk i)))), (6, .int (nI i)), (4, .long v), (2, .long u), (0, .ref (ad 0)), (1, .int y)]) hx hb d_M_workUnit_30 hl (by decide) rfl (fun ls hl => ?_)
      refine lv_aload hx hb d_M_workUnit_32 (lv_at hl 0 rfl) ?_
      refine kw_get hx hb hg in_K hown hK hP (9 + (wk i)) (kM_q9 hn hk9_1) ek9_1 rfl 10 (by decide) (hg _ kg_122) rfl rfl d_M_workUnit_34 ?_
      refine kw_callix (kw_rV (As := []) (rest := []) (q0 := (21 + (wi (wk i)))) ⟨hx, hb, hml, hown, hg⟩ ⟨callB_of 0 hg (kg_goodG kg_374) rfl rfl rfl (hg _ kg_5) (hg _ kg_371) (by decide +kernel) ⟨by decide, by decide⟩, hg _ kg_372, hg _ kg_373⟩ (c_I_unit l (kM_q21 hn hi9_1) (kM_in hM hi9_1) ) hK hP (kM_q21 hn hi9_1) (kM_in hM hi9_1) rfl rfl hl.1 rfl (Nat.le_of_ble_eq_true rfl) d_M_workUnit_37 ⟨Nat.zero_le _, Nat.zero_le _⟩) hA hS (fun H locs hP hS => ?_)
      refine lv_iload_n hx hb d_M_workUnit_40 rfl (lv_at hl 5 rfl) ?_
      refine lv_icmp_ne (tgt := 89) hx hb d_M_workUnit_41 (by decide) (fun h4 => ?_) (fun h4 => ?_)
      · refine lv_lload_n hx hb d_M_workUnit_89 rfl (lv_at hl 3 rfl) ?_
        refine lv_aload hx hb d_M_workUnit_90 (lv_at hl 0 rfl) ?_
        refine lv_aload hx hb d_M_workUnit_92 (lv_at hl 0 rfl) ?_
        refine kw_get hx hb hg in_K hown hK hP (9 + (wk i)) (kM_q9 hn hk9_1) ek9_1 rfl 14 (by decide) (hg _ kg_129) rfl rfl d_M_workUnit_94 ?_
        refine kw_calllx (kw_rV (As := [.int (nI (db (wk i)))]) (rest := [.long u]) (q0 := (9 + (wk i))) ⟨hx, hb, hml, hown, hg⟩ ⟨callB_of 1 hg (kg_goodG kg_456) rfl rfl rfl (hg _ kg_6) (hg _ kg_453) (by decide +kernel) ⟨by decide, by decide⟩, hg _ kg_454, hg _ kg_455⟩ (c_K_readsFromStep l (kM_q9 hn hk9_1) ek9_1 (kM_q13 hn hk9_1) (kM_rf hM hk9_1) hW9.2.2.2 ) hK hP (kM_q9 hn hk9_1) ek9_1 rfl rfl hl.1 rfl (Nat.le_of_ble_eq_true rfl) d_M_workUnit_97 ⟨Nat.zero_le _, Nat.zero_le _⟩) hA hS (fun H locs hP hS => ?_)
        refine lv_lor hx hb d_M_workUnit_100 ?_
        refine lv_lstore_n (lv' := [(2, .long (u ||| ((rF (wk i)) (db (wk i))))), (7, .ref (ad (9 + (wk i)))), (6, .int (nI i)), (4, .long v), (0, .ref (ad 0)), (1, .int y)]) hx hb d_M_workUnit_101 rfl hl (by decide) rfl (fun ls hl => ?_)
        refine lv_lload hx hb d_M_workUnit_102 (lv_at hl 3 rfl) ?_
        refine lv_aload hx hb d_M_workUnit_104 (lv_at hl 1 rfl) ?_
        refine lv_aload hx hb d_M_workUnit_106 (lv_at hl 1 rfl) ?_
        refine kw_get hx hb hg in_K hown hK hP (9 + (wk i)) (kM_q9 hn hk9_1) ek9_1 rfl 14 (by decide) (hg _ kg_129) rfl rfl d_M_workUnit_108 ?_
        refine kw_calllx (kw_rV (As := [.int (nI (db (wk i)))]) (rest := [.long v]) (q0 := (9 + (wk i))) ⟨hx, hb, hml, hown, hg⟩ ⟨callB_of 1 hg (kg_goodG kg_460) rfl rfl rfl (hg _ kg_6) (hg _ kg_457) (by decide +kernel) ⟨by decide, by decide⟩, hg _ kg_458, hg _ kg_459⟩ (c_K_writesFromStep l (kM_q9 hn hk9_1) ek9_1 (kM_q17 hn hk9_1) (kM_wf hM hk9_1) hW9.2.2.2 ) hK hP (kM_q9 hn hk9_1) ek9_1 rfl rfl hl.1 rfl (Nat.le_of_ble_eq_true rfl) d_M_workUnit_111 ⟨Nat.zero_le _, Nat.zero_le _⟩) hA hS (fun H locs hP hS => ?_)
        refine lv_lor hx hb d_M_workUnit_114 ?_
        refine lv_lstore (lv' := [(4, .long (v ||| ((wF (wk i)) (db (wk i))))), (2, .long (u ||| ((rF (wk i)) (db (wk i))))), (7, .ref (ad (9 + (wk i)))), (6, .int (nI i)), (0, .ref (ad 0)), (1, .int y)]) hx hb d_M_workUnit_115 hl (by decide) rfl (fun ls hl => ?_)
        refine lv_iinc (k := 3) (v := nI (i + 1)) (lv' := [(6, .int (nI (i + 1))), (4, .long (v ||| ((wF (wk i)) (db (wk i))))), (2, .long (u ||| ((rF (wk i)) (db (wk i))))), (7, .ref (ad (9 + (wk i)))), (0, .ref (ad 0)), (1, .int y)]) hx hb d_M_workUnit_117 hl rfl ((nI_succ i).symm) (by decide) rfl (fun ls hl => ?_)
        refine lv_goto (tgt := 8) hx hb d_M_workUnit_120 (by decide) ?_
        exact ih ((i + 1)) _ _ _ _ _ (by omega) (by rw [hv, kv_wo, if_neg h4]) (hP) hS (lv_sub hl [0, 1, 2, 4, 5] rfl)
      · refine lv_iconst (v := 0) hx hb d_M_workUnit_44 (by decide) ?_
        refine lv_istore (lv' := [(8, .int 0), (7, .ref (ad (9 + (wk i)))), (6, .int (nI i)), (4, .long v), (2, .long u), (0, .ref (ad 0)), (1, .int y)]) hx hb d_M_workUnit_45 hl (by decide) rfl (fun ls hl => ?_)
        have KXl : ∀ (csL : Nat → va_E) (H : Heap) (locs : List Loc) (ls : Array Slot), kM ad cI cB cJ cQ cW csL la ma qu st nx bo cy ((kv_wl po pd pa pb pm ww gr mo xa xb fr wi tt (wk i) u v la dn F G sd).2.2.2) X ((kv_wl po pd pa pb pm ww gr mo xa xb fr wi tt (wk i) u v la dn F G sd).2.1) ((kv_wl po pd pa pb pm ww gr mo xa xb fr wi tt (wk i) u v la dn F G sd).2.2.1) wp gp ln sa wk po pd pa pb pn pm ww gr mo xa xb fr wi nu tt ((kv_wl po pd pa pb pm ww gr mo xa xb fr wi tt (wk i) u v la dn F G sd).1) db rF wF → va_P D kc (kw_w ad csL n) H → va_S (kw_A ad n) s.heap H locs → lv_has ls 9 [(0, .ref (ad 0))] → W p l e (kr 5) s m [.ref (ad 0), .int y].toArray below meth c H locs 0 0 (MQ below (va_Qv (fun c9 => kM ad cI cB cJ cQ cW c9 la ma qu st nx bo cy ((kv_wo la wk po pd pa pb pm ww gr mo xa xb fr wi tt db rF wF y dn F G sd qu 0 0 0).2.2.2) X ((kv_wo la wk po pd pa pb pm ww gr mo xa xb fr wi tt db rF wF y dn F G sd qu 0 0 0).2.1) ((kv_wo la wk po pd pa pb pm ww gr mo xa xb fr wi tt db rF wF y dn F G sd qu 0 0 0).2.2.1) wp gp ln sa wk po pd pa pb pn pm ww gr mo xa xb fr wi nu tt ((kv_wo la wk po pd pa pb pm ww gr mo xa xb fr wi tt db rF wF y dn F G sd qu 0 0 0).1) db rF wF) (kw_Pre D kc (kt cI cB cJ cQ cW) ad n) (kw_A ad n)) [.ref (ad 0), .int y].toArray s 0 0 (kw_A ad n)) (F0 m 88 ls []) := by
          intro csL H locs ls hM hP hS hl
          have ek9_1 : csL (9 + (wk i)) = .inr (3, [.ref (ad 2), .ref (ad 4), .ref (ad (13 + (wk i))), .ref (ad (17 + (wk i))), .int (nI (ww (wk i))), .int (gr (wk i)), .int (mo (wk i)), .int (xa (wk i)), .int (xb (wk i)), .int (nI (fr (wk i))), .ref (ad (21 + (wi (wk i)))), .int (nu (wk i)), .int (nI (tt (wk i))), .int (nI (((kv_wl po pd pa pb pm ww gr mo xa xb fr wi tt (wk i) u v la dn F G sd).1) (wk i))), .int (nI (db (wk i)))]) := by have z9 := kM_w hM hk9_1; (try simp only [va_up_self] at z9); exact z9
          exact kw_vret hx hb hr hlocks hP hK hS (by rw [hv, kv_wo, if_pos h4]; exact hM) d_M_workUnit_88
        have loopl : ∀ (kk : Nat) (csL : Nat → va_E) (a : Nat) (sd1 : Int32) (F1 : Nat → Int32) (G1 : Nat → Int32) (dn1 : Nat → Nat) (H : Heap) (locs : List Loc) (ls : Array Slot), a + kk = la → kv_wl po pd pa pb pm ww gr mo xa xb fr wi tt (wk i) u v la dn F G sd = kv_wl po pd pa pb pm ww gr mo xa xb fr wi tt (wk i) u v kk dn1 F1 G1 sd1 → kM ad cI cB cJ cQ cW csL la ma qu st nx bo cy sd1 X F1 G1 wp gp ln sa wk po pd pa pb pn pm ww gr mo xa xb fr wi nu tt dn1 db rF wF → va_P D kc (kw_w ad csL n) H → va_S (kw_A ad n) s.heap H locs → lv_has ls 9 [(8, .int (nI a)), (7, .ref (ad (9 + (wk i)))), (6, .int (nI i)), (4, .long v), (2, .long u), (0, .ref (ad 0)), (1, .int y)] → W p l e (kr 5) s m [.ref (ad 0), .int y].toArray below meth c H locs 0 0 (MQ below (va_Qv (fun c9 => kM ad cI cB cJ cQ cW c9 la ma qu st nx bo cy ((kv_wo la wk po pd pa pb pm ww gr mo xa xb fr wi tt db rF wF y dn F G sd qu 0 0 0).2.2.2) X ((kv_wo la wk po pd pa pb pm ww gr mo xa xb fr wi tt db rF wF y dn F G sd qu 0 0 0).2.1) ((kv_wo la wk po pd pa pb pm ww gr mo xa xb fr wi tt db rF wF y dn F G sd qu 0 0 0).2.2.1) wp gp ln sa wk po pd pa pb pn pm ww gr mo xa xb fr wi nu tt ((kv_wo la wk po pd pa pb pm ww gr mo xa xb fr wi tt db rF wF y dn F G sd qu 0 0 0).1) db rF wF) (kw_Pre D kc (kt cI cB cJ cQ cW) ad n) (kw_A ad n)) [.ref (ad 0), .int y].toArray s 0 0 (kw_A ad n)) (F0 m 47 ls []) := by
          intro kk
          induction kk with
          | zero =>
            intro csL a sd1 F1 G1 dn1 H locs ls hak hvl hM hP hS hl
            have ek9_1 : csL (9 + (wk i)) = .inr (3, [.ref (ad 2), .ref (ad 4), .ref (ad (13 + (wk i))), .ref (ad (17 + (wk i))), .int (nI (ww (wk i))), .int (gr (wk i)), .int (mo (wk i)), .int (xa (wk i)), .int (xb (wk i)), .int (nI (fr (wk i))), .ref (ad (21 + (wi (wk i)))), .int (nu (wk i)), .int (nI (tt (wk i))), .int (nI (dn1 (wk i))), .int (nI (db (wk i)))]) := by have z9 := kM_w hM hk9_1; (try simp only [va_up_self] at z9); exact z9
            refine lv_iload hx hb d_M_workUnit_47 (lv_at hl 0 rfl) ?_
            refine lv_aload_n hx hb d_M_workUnit_49 rfl (lv_at hl 5 rfl) ?_
            refine kw_get hx hb hg in_M hown hK hP 0 (kM_q hn (by decide : 0 < 22)) (kM_0 hM) rfl 0 (by decide) (hg _ kg_162) rfl rfl d_M_workUnit_50 ?_
            refine lv_icmp_ge (tgt := 88) hx hb d_M_workUnit_53 (by decide) (fun _ => ?_) (fun h5 => absurd (nI_le (by omega) (by omega)) h5)
            exact KXl _ _ _ _ (by rw [show kv_wl po pd pa pb pm ww gr mo xa xb fr wi tt (wk i) u v la dn F G sd = (dn1, F1, G1, sd1) from hvl]; exact hM) hP hS (by (first | (rw [show kv_wl po pd pa pb pm ww gr mo xa xb fr wi tt (wk i) u v la dn F G sd = (dn1, F1, G1, sd1) from hvl]) | skip); exact lv_sub hl [5] rfl)
          | succ j ihl =>
            intro csL a sd1 F1 G1 dn1 H locs ls hak hvl hM hP hS hl
            have ek9_1 : csL (9 + (wk i)) = .inr (3, [.ref (ad 2), .ref (ad 4), .ref (ad (13 + (wk i))), .ref (ad (17 + (wk i))), .int (nI (ww (wk i))), .int (gr (wk i)), .int (mo (wk i)), .int (xa (wk i)), .int (xb (wk i)), .int (nI (fr (wk i))), .ref (ad (21 + (wi (wk i)))), .int (nu (wk i)), .int (nI (tt (wk i))), .int (nI (dn1 (wk i))), .int (nI (db (wk i)))]) := by have z9 := kM_w hM hk9_1; (try simp only [va_up_self] at z9); exact z9
            refine lv_iload hx hb d_M_workUnit_47 (lv_at hl 0 rfl) ?_
            refine lv_aload_n hx hb d_M_workUnit_49 rfl (lv_at hl 5 rfl) ?_
            refine kw_get hx hb hg in_M hown hK hP 0 (kM_q hn (by decide : 0 < 22)) (kM_0 hM) rfl 0 (by decide) (hg _ kg_162) rfl rfl d_M_workUnit_50 ?_
            refine lv_icmp_ge (tgt := 88) hx hb d_M_workUnit_53 (by decide) (fun h6 => absurd h6 (nI_ge (by omega) (by omega))) (fun _ => ?_)
            refine lv_aload hx hb d_M_workUnit_56 (lv_at hl 1 rfl) ?_
            refine lv_lload_n hx hb d_M_workUnit_58 rfl (lv_at hl 4 rfl) ?_
            refine lv_lload hx hb d_M_workUnit_59 (lv_at hl 3 rfl) ?_
            refine kw_callix (kw_rV (As := [.long u, .long v]) (rest := []) (q0 := (9 + (wk i))) ⟨hx, hb, hml, hown, hg⟩ ⟨callB_of 2 hg (kg_goodG kg_378) rfl rfl rfl (hg _ kg_6) (hg _ kg_375) (by decide +kernel) ⟨by decide, by decide⟩, hg _ kg_376, hg _ kg_377⟩ (c_K_isNextStepFree l (kM_q9 hn hk9_1) ek9_1 (kM_q21 hn hi9_1) (kM_in hM hi9_1) hW9.1 hW9.2.1 ) hK hP (kM_q9 hn hk9_1) ek9_1 rfl rfl hl.1 rfl (Nat.le_of_ble_eq_true rfl) d_M_workUnit_61 ⟨Nat.zero_le _, Nat.zero_le _⟩) hA hS (fun H locs hP hS => ?_)
            refine lv_if_eq (tgt := 88) hx hb d_M_workUnit_64 (by decide) (fun h7 => ?_) (fun h7 => ?_)
            · exact KXl _ _ _ _ (by rw [show kv_wl po pd pa pb pm ww gr mo xa xb fr wi tt (wk i) u v la dn F G sd = (dn1, F1, G1, sd1) from (by rw [hvl, kv_wl, if_pos h7])]; exact hM) hP hS (by (first | (rw [show kv_wl po pd pa pb pm ww gr mo xa xb fr wi tt (wk i) u v la dn F G sd = (dn1, F1, G1, sd1) from (by rw [hvl, kv_wl, if_pos h7])]) | skip); exact lv_sub hl [5] rfl)
            · refine lv_aload hx hb d_M_workUnit_67 (lv_at hl 1 rfl) ?_
              refine kw_callvx (kw_rV (As := []) (rest := []) (q0 := (9 + (wk i))) ⟨hx, hb, hml, hown, hg⟩ ⟨callB_of 0 hg (kg_goodG kg_418) rfl rfl rfl (hg _ kg_6) (hg _ kg_415) (by decide +kernel) ⟨by decide, by decide⟩, hg _ kg_416, hg _ kg_417⟩ (c_K_doNextStep l hJ (kM_q9 hn hk9_1) ek9_1 (kM_q21 hn hi9_1) (kM_in hM hi9_1) (kM_q hn (by decide : 2 < 22)) (kM_2 hM) (kM_q hn (by decide : 3 < 22)) (kM_3 hM) (kM_q hn (by decide : 4 < 22)) (kM_4 hM) (kM_q hn (by decide : 5 < 22)) (kM_5 hM) hW9.2.2.1 hW9.1 hW9.2.1 ) hK hP (kM_q9 hn hk9_1) ek9_1 rfl rfl hl.1 rfl (Nat.le_of_ble_eq_true rfl) d_M_workUnit_69 ⟨Nat.zero_le _, Nat.zero_le _⟩) hA hS (fun H locs hP hS => ?_)
              obtain ⟨cs1, hccs1⟩ : ∃ z9, z9 = va_up csL (9 + (wk i)) (.inr (3, [.ref (ad 2), .ref (ad 4), .ref (ad (13 + (wk i))), .ref (ad (17 + (wk i))), .int (nI (ww (wk i))), .int ((gr (wk i))), .int ((mo (wk i))), .int ((xa (wk i))), .int ((xb (wk i))), .int (nI (fr (wk i))), .ref (ad (21 + (wi (wk i)))), .int ((nu (wk i))), .int (nI (tt (wk i))), .int (nI ((dn1 (wk i)) + 1)), .int (nI (db (wk i)))])) := ⟨_, rfl⟩
              replace hM : kM ad cI cB cJ cQ cW cs1 la ma qu st nx bo cy sd1 X F1 G1 wp gp ln sa wk po pd pa pb pn pm ww gr mo xa xb fr wi nu tt (va_up dn1 (wk i) ((dn1 (wk i)) + 1)) db rF wF := by rw [hccs1]; exact kM_udn hM hk9_1 (v := (dn1 (wk i)) + 1)
              have ek9_1 : cs1 (9 + (wk i)) = .inr (3, [.ref (ad 2), .ref (ad 4), .ref (ad (13 + (wk i))), .ref (ad (17 + (wk i))), .int (nI (ww (wk i))), .int (gr (wk i)), .int (mo (wk i)), .int (xa (wk i)), .int (xb (wk i)), .int (nI (fr (wk i))), .ref (ad (21 + (wi (wk i)))), .int (nu (wk i)), .int (nI (tt (wk i))), .int (nI ((dn1 (wk i)) + 1)), .int (nI (db (wk i)))]) := by have z9 := kM_w hM hk9_1; (try simp only [va_up_self] at z9); exact z9
              obtain ⟨cs2, hccs2⟩ : ∃ z9, z9 = va_up cs1 3 (.inl (cB, 64, .inl (kv_K_doNextStep_q3 (ww (wk i)) (fr (wk i)) (tt (wk i)) (dn1 (wk i)) (mo (wk i)) (xa (wk i)) (xb (wk i)) (nI (po (wi (wk i)))) (nI (pd (wi (wk i)))) (nI (pa (wi (wk i)))) (nI (pb (wi (wk i)))) (pm (wi (wk i))) F1 G1))) := ⟨_, rfl⟩
              replace hM : kM ad cI cB cJ cQ cW cs2 la ma qu st nx bo cy sd1 X (kv_K_doNextStep_q3 (ww (wk i)) (fr (wk i)) (tt (wk i)) (dn1 (wk i)) (mo (wk i)) (xa (wk i)) (xb (wk i)) (nI (po (wi (wk i)))) (nI (pd (wi (wk i)))) (nI (pa (wi (wk i)))) (nI (pb (wi (wk i)))) (pm (wi (wk i))) F1 G1) G1 wp gp ln sa wk po pd pa pb pn pm ww gr mo xa xb fr wi nu tt (va_up dn1 (wk i) ((dn1 (wk i)) + 1)) db rF wF := by rw [hccs2]; exact kM_u3 hM
              have ek9_1 : cs2 (9 + (wk i)) = .inr (3, [.ref (ad 2), .ref (ad 4), .ref (ad (13 + (wk i))), .ref (ad (17 + (wk i))), .int (nI (ww (wk i))), .int (gr (wk i)), .int (mo (wk i)), .int (xa (wk i)), .int (xb (wk i)), .int (nI (fr (wk i))), .ref (ad (21 + (wi (wk i)))), .int (nu (wk i)), .int (nI (tt (wk i))), .int (nI ((dn1 (wk i)) + 1)), .int (nI (db (wk i)))]) := by have z9 := kM_w hM hk9_1; (try simp only [va_up_self] at z9); exact z9
              obtain ⟨cs3, hccs3⟩ : ∃ z9, z9 = va_up cs2 5 (.inl (cB, 128, .inl (kv_K_doNextStep_q5 (ww (wk i)) (fr (wk i)) (dn1 (wk i)) (xa (wk i)) (xb (wk i)) (nI (po (wi (wk i)))) (nI (pd (wi (wk i)))) (nI (pb (wi (wk i)))) (pm (wi (wk i))) F1 G1))) := ⟨_, rfl⟩
              replace hM : kM ad cI cB cJ cQ cW cs3 la ma qu st nx bo cy sd1 X (kv_K_doNextStep_q3 (ww (wk i)) (fr (wk i)) (tt (wk i)) (dn1 (wk i)) (mo (wk i)) (xa (wk i)) (xb (wk i)) (nI (po (wi (wk i)))) (nI (pd (wi (wk i)))) (nI (pa (wi (wk i)))) (nI (pb (wi (wk i)))) (pm (wi (wk i))) F1 G1) (kv_K_doNextStep_q5 (ww (wk i)) (fr (wk i)) (dn1 (wk i)) (xa (wk i)) (xb (wk i)) (nI (po (wi (wk i)))) (nI (pd (wi (wk i)))) (nI (pb (wi (wk i)))) (pm (wi (wk i))) F1 G1) wp gp ln sa wk po pd pa pb pn pm ww gr mo xa xb fr wi nu tt (va_up dn1 (wk i) ((dn1 (wk i)) + 1)) db rF wF := by rw [hccs3]; exact kM_u5 hM
              have ek9_1 : cs3 (9 + (wk i)) = .inr (3, [.ref (ad 2), .ref (ad 4), .ref (ad (13 + (wk i))), .ref (ad (17 + (wk i))), .int (nI (ww (wk i))), .int (gr (wk i)), .int (mo (wk i)), .int (xa (wk i)), .int (xb (wk i)), .int (nI (fr (wk i))), .ref (ad (21 + (wi (wk i)))), .int (nu (wk i)), .int (nI (tt (wk i))), .int (nI ((dn1 (wk i)) + 1)), .int (nI (db (wk i)))]) := by have z9 := kM_w hM hk9_1; (try simp only [va_up_self] at z9); exact z9
              replace hP : va_P D kc (kw_w ad cs3 n) H := by rw [hccs3, hccs2, hccs1]; exact hP
              clear hccs3 hccs2 hccs1
              refine lv_aload_n hx hb d_M_workUnit_72 rfl (lv_at hl 5 rfl) ?_
              refine lv_dup hx hb d_M_workUnit_73 rfl ?_
              refine kw_get hx hb hg in_M hown hK hP 0 (kM_q hn (by decide : 0 < 22)) (kM_0 hM) rfl 13 (by decide) (hg _ kg_175) rfl rfl d_M_workUnit_74 ?_
              refine lv_iconst (v := 1) hx hb d_M_workUnit_77 (by decide) ?_
              refine lv_iadd hx hb d_M_workUnit_78 ?_
              refine kw_put (ty := .int) hx hb hg in_M t_M ty_M nm_M hown hK hP hJ hA hS 0 (kM_q hn (by decide : 0 < 22)) (kM_0 hM) rfl 13 (by decide) (hg _ kg_175) rfl rfl (by decide +kernel) rfl rfl (Nat.le_of_ble_eq_true rfl) d_M_workUnit_79 (fun H locs hP hS => ?_)
              obtain ⟨cs4, hccs4⟩ : ∃ z9, z9 = va_up cs3 0 (.inr (4, [.int (nI la), .ref (ad 1), .ref (ad 2), .ref (ad 4), .ref (ad 6), .ref (ad 7), .ref (ad 8), .int (nI ma), .int (nI qu), .int (nI st), .int nx, .int (nI bo), .int cy, .int (sd1 + 1)])) := ⟨_, rfl⟩
              replace hP : va_P D kc (kw_w ad cs4 n) H := by rw [hccs4]; exact hP
              replace hM : kM ad cI cB cJ cQ cW cs4 la ma qu st nx bo cy (sd1 + 1) X (kv_K_doNextStep_q3 (ww (wk i)) (fr (wk i)) (tt (wk i)) (dn1 (wk i)) (mo (wk i)) (xa (wk i)) (xb (wk i)) (nI (po (wi (wk i)))) (nI (pd (wi (wk i)))) (nI (pa (wi (wk i)))) (nI (pb (wi (wk i)))) (pm (wi (wk i))) F1 G1) (kv_K_doNextStep_q5 (ww (wk i)) (fr (wk i)) (dn1 (wk i)) (xa (wk i)) (xb (wk i)) (nI (po (wi (wk i)))) (nI (pd (wi (wk i)))) (nI (pb (wi (wk i)))) (pm (wi (wk i))) F1 G1) wp gp ln sa wk po pd pa pb pn pm ww gr mo xa xb fr wi nu tt (va_up dn1 (wk i) ((dn1 (wk i)) + 1)) db rF wF := by rw [hccs4]; exact kM_u0 hM
              clear hccs4
              have ek9_1 : cs4 (9 + (wk i)) = .inr (3, [.ref (ad 2), .ref (ad 4), .ref (ad (13 + (wk i))), .ref (ad (17 + (wk i))), .int (nI (ww (wk i))), .int (gr (wk i)), .int (mo (wk i)), .int (xa (wk i)), .int (xb (wk i)), .int (nI (fr (wk i))), .ref (ad (21 + (wi (wk i)))), .int (nu (wk i)), .int (nI (tt (wk i))), .int (nI ((dn1 (wk i)) + 1)), .int (nI (db (wk i)))]) := by have z9 := kM_w hM hk9_1; (try simp only [va_up_self] at z9); exact z9
              refine lv_iinc (k := 0) (v := nI (a + 1)) (lv' := [(8, .int (nI (a + 1))), (7, .ref (ad (9 + (wk i)))), (6, .int (nI i)), (4, .long v), (2, .long u), (0, .ref (ad 0)), (1, .int y)]) hx hb d_M_workUnit_82 hl rfl ((nI_succ a).symm) (by decide) rfl (fun ls hl => ?_)
              refine lv_goto (tgt := 47) hx hb d_M_workUnit_85 (by decide) ?_
              exact ihl _ ((a + 1)) _ _ _ _ _ _ _ (by omega) (by rw [hvl, kv_wl, if_neg h7]) hM hP hS (lv_sub hl [0, 1, 2, 3, 4, 5, 6] rfl)
        exact loopl la _ 0 _ _ _ _ _ _ _ (by omega) (rfl) hM hP hS (lv_sub hl [0, 1, 2, 3, 4, 5, 6] rfl)
  exact loop qu 0 _ _ _ _ _ (by omega) (rfl) (hP) hS (lv_sub hl [0, 1, 2, 3, 4] rfl)

def kv_mw (wk po wi dn : Nat → Nat) (wF : Nat → Nat → Int64) (need : Int64) : Nat → Nat → Int32
  | 0, _ => 0
  | j + 1, i => if kv_I_unit (nI (po (wi (wk i)))) = 2 then 1 else if lg_cmp (wF (wk i) (dn (wk i)) &&& need) 0 = 0 then kv_mw wk po wi dn wF need j (i + 1) else 1

def kv_M_need (gp : Nat) (op rb mk : Int32) : Int64 := if op = 19 then (if mk = 0 then 0 else kv_K_span 0 8) ||| kv_K_span (8 * rb) (8 * (kv_S_group (nI gp))) else (if mk = 0 then 0 else kv_K_span 0 8)
def kv_M_mustWaitForQueue (qu gp : Nat) (wk po pb : Nat → Nat) (pm : Nat → Int32) (wi dn : Nat → Nat) (wF : Nat → Nat → Int64) (i0 : Nat) : Int32 := if kv_I_unit (nI (po i0)) = 2 then kv_mw wk po wi dn wF (kv_M_need gp (nI (po i0)) (nI (pb i0)) (pm i0)) qu 0 else 0
set_option maxRecDepth 100000 in
set_option maxHeartbeats 4000000 in
theorem c_M_mustWaitForQueue (l : Launch) {D : va_G} {ad : Nat → Nat} {n : Nat} {cs : Nat → va_E} {cI : ClassId} {cB : ClassId} {cJ : ClassId} {cQ : ClassId} {cW : ClassId} {la : Nat} {ma : Nat} {qu : Nat} {st : Nat} {nx : Int32} {bo : Nat} {cy : Int32} {sd : Int32} {X : Nat → Int32} {F : Nat → Int32} {G : Nat → Int32} {wp : Nat} {gp : Nat} {ln : Nat} {sa : Nat} {wk : Nat → Nat} {po : Nat → Nat} {pd : Nat → Nat} {pa : Nat → Nat} {pb : Nat → Nat} {pn : Nat → Int32} {pm : Nat → Int32} {ww : Nat → Nat} {gr : Nat → Int32} {mo : Nat → Int32} {xa : Nat → Int32} {xb : Nat → Int32} {fr : Nat → Nat} {wi : Nat → Nat} {nu : Nat → Int32} {tt : Nat → Nat} {dn : Nat → Nat} {db : Nat → Nat} {rF : Nat → Nat → Int64} {wF : Nat → Nat → Int64} {i0 : Nat} (hn : 22 + ma ≤ n) (hM : kM ad cI cB cJ cQ cW cs la ma qu st nx bo cy sd X F G wp gp ln sa wk po pd pa pb pn pm ww gr mo xa xb fr wi nu tt dn db rF wF) (hi0 : i0 ≤ ma) (hqu : qu ≤ 4) (hW : ∀ i, i < qu → dn (wk i) ≤ 32) : kw_mi l y_M_mustWaitForQueue w_M_mustWaitForQueue (kr 1) D kc (kt cI cB cJ cQ cW) ad n cs [.ref (ad 0), .ref (ad (21 + i0))] (fun r9 c9 => r9 = kv_M_mustWaitForQueue qu gp wk po pb pm wi dn wF i0 ∧ c9 = cs) := by
  refine kw_of (cc := b_M_mustWaitForQueue) (maxL := 6) (ret := (some .boolean)) (by decide) rfl (Nat.le_of_ble_eq_true rfl) ?_
  intro p e s m below meth c ls hx hb hr hml hown hts hlocks hP hK hl
  have hg : ∀ w9 ∈ kg_G, w9.before [.ref (ad 0), .ref (ad (21 + i0))].toArray s = true := fun w9 h9 => hts w9 (List.mem_cons_of_mem _ h9)
  have hown : s.vm.findClass "LaneMachine" = some m.cls := hown
  have hA : ∀ k, k < n → kw_A ad n (ad k) := fun k hk => ⟨k, hk, rfl⟩
  have hS : va_S (kw_A ad n) s.heap s.heap [] := va_S.rf
  have hl : lv_has ls 6 [(0, .ref (ad 0)), (1, .ref (ad (21 + i0)))] := hl
  refine lv_aload_n hx hb d_M_mustWaitForQueue_0 rfl (lv_at hl 1 rfl) ?_
  refine kw_callix (kw_rV (As := []) (rest := []) (q0 := (21 + i0)) ⟨hx, hb, hml, hown, hg⟩ ⟨callB_of 0 hg (kg_goodG kg_374) rfl rfl rfl (hg _ kg_5) (hg _ kg_371) (by decide +kernel) ⟨by decide, by decide⟩, hg _ kg_372, hg _ kg_373⟩ (c_I_unit l (kM_q21 hn hi0) (kM_in hM hi0) ) hK hP (kM_q21 hn hi0) (kM_in hM hi0) rfl rfl hl.1 rfl (Nat.le_of_ble_eq_true rfl) d_M_mustWaitForQueue_1 ⟨Nat.zero_le _, Nat.zero_le _⟩) hA hS (fun H locs hP hS => ?_)
  refine lv_iconst (v := 2) hx hb d_M_mustWaitForQueue_4 (by decide) ?_
  refine lv_icmp_eq (tgt := 10) hx hb d_M_mustWaitForQueue_5 (by decide) (fun h1 => ?_) (fun h1 => ?_)
  · refine lv_aload_n hx hb d_M_mustWaitForQueue_10 rfl (lv_at hl 1 rfl) ?_
    refine kw_get hx hb hg in_I hown hK hP (21 + i0) (kM_q21 hn hi0) (kM_in hM hi0) rfl 5 (by decide) (hg _ kg_92) rfl rfl d_M_mustWaitForQueue_11 ?_
    refine lv_if_eq (tgt := 26) hx hb d_M_mustWaitForQueue_14 (by decide) (fun h2 => ?_) (fun h2 => ?_)
    · refine lv_lconst (v := 0) hx hb d_M_mustWaitForQueue_26 (by decide) ?_
      refine lv_lstore_n (lv' := [(2, .long 0), (0, .ref (ad 0)), (1, .ref (ad (21 + i0)))]) hx hb d_M_mustWaitForQueue_27 rfl hl (by decide) rfl (fun ls hl => ?_)
      refine lv_aload_n hx hb d_M_mustWaitForQueue_28 rfl (lv_at hl 2 rfl) ?_
      refine kw_get hx hb hg in_I hown hK hP (21 + i0) (kM_q21 hn hi0) (kM_in hM hi0) rfl 0 (by decide) (hg _ kg_74) rfl rfl d_M_mustWaitForQueue_29 ?_
      refine lv_bipush (v := 19) hx hb d_M_mustWaitForQueue_32 (by decide) ?_
      refine lv_icmp_ne (tgt := 60) hx hb d_M_mustWaitForQueue_34 (by decide) (fun h3 => ?_) (fun h3 => ?_)
      · refine lv_iconst (v := 0) hx hb d_M_mustWaitForQueue_60 (by decide) ?_
        refine lv_istore (lv' := [(4, .int 0), (2, .long 0), (0, .ref (ad 0)), (1, .ref (ad (21 + i0)))]) hx hb d_M_mustWaitForQueue_61 hl (by decide) rfl (fun ls hl => ?_)
        obtain ⟨need, hneed⟩ : ∃ z9, kv_M_need gp (nI (po i0)) (nI (pb i0)) (pm i0) = z9 := ⟨_, rfl⟩
        rw [show (0 : Int64) = need from (by rw [← hneed, kv_M_need, if_neg h3, if_pos h2])] at hl
        have loop : ∀ (kk : Nat) (i : Nat) (H : Heap) (locs : List Loc) (ls : Array Slot), i + kk = qu → kv_M_mustWaitForQueue qu gp wk po pb pm wi dn wF i0 = kv_mw wk po wi dn wF need kk i → va_P D kc (kw_w ad cs n) H → va_S (kw_A ad n) s.heap H locs → lv_has ls 6 [(4, .int (nI i)), (2, .long need), (0, .ref (ad 0)), (1, .ref (ad (21 + i0)))] → W p l e (kr 1) s m [.ref (ad 0), .ref (ad (21 + i0))].toArray below meth c H locs 0 0 (MQ below (va_Qi (fun r9 c9 => r9 = kv_M_mustWaitForQueue qu gp wk po pb pm wi dn wF i0 ∧ c9 = cs) (kw_Pre D kc (kt cI cB cJ cQ cW) ad n) (kw_A ad n)) [.ref (ad 0), .ref (ad (21 + i0))].toArray s 0 0 (kw_A ad n)) (F0 m 63 ls []) := by
          intro kk
          induction kk with
          | zero =>
            intro i H locs ls hik hv hP hS hl
            refine lv_iload hx hb d_M_mustWaitForQueue_63 (lv_at hl 0 rfl) ?_
            refine lv_aload_n hx hb d_M_mustWaitForQueue_65 rfl (lv_at hl 2 rfl) ?_
            refine kw_get hx hb hg in_M hown hK hP 0 (kM_q hn (by decide : 0 < 22)) (kM_0 hM) rfl 8 (by decide) (hg _ kg_170) rfl rfl d_M_mustWaitForQueue_66 ?_
            refine lv_icmp_ge (tgt := 124) hx hb d_M_mustWaitForQueue_69 (by decide) (fun _ => ?_) (fun h4 => absurd (nI_le (by omega) (by omega)) h4)
            refine lv_iconst (v := 0) hx hb d_M_mustWaitForQueue_124 (by decide) ?_
            exact kw_zret hx hb hr hlocks hP hK hS (Or.inl rfl) ⟨by rw [hv, kv_mw], rfl⟩ d_M_mustWaitForQueue_125
          | succ j ih =>
            intro i H locs ls hik hv hP hS hl
            have hW9 := hW i (by omega)
            refine lv_iload hx hb d_M_mustWaitForQueue_63 (lv_at hl 0 rfl) ?_
            refine lv_aload_n hx hb d_M_mustWaitForQueue_65 rfl (lv_at hl 2 rfl) ?_
            refine kw_get hx hb hg in_M hown hK hP 0 (kM_q hn (by decide : 0 < 22)) (kM_0 hM) rfl 8 (by decide) (hg _ kg_170) rfl rfl d_M_mustWaitForQueue_66 ?_
            refine lv_icmp_ge (tgt := 124) hx hb d_M_mustWaitForQueue_69 (by decide) (fun h5 => absurd h5 (nI_ge (by omega) (by omega))) (fun _ => ?_)
            refine lv_iload hx hb d_M_mustWaitForQueue_72 (lv_at hl 0 rfl) ?_
            refine lv_iconst (v := 4) hx hb d_M_mustWaitForQueue_74 (by decide) ?_
            refine lv_icmp_ge (tgt := 124) hx hb d_M_mustWaitForQueue_75 (by decide) (fun h6 => absurd h6 (fun z9 => absurd ((nI_leI (a := 4) (by omega) (by omega)).mp z9) (by omega))) (fun _ => ?_)
            refine lv_aload_n hx hb d_M_mustWaitForQueue_78 rfl (lv_at hl 2 rfl) ?_
            refine kw_get hx hb hg in_M hown hK hP 0 (kM_q hn (by decide : 0 < 22)) (kM_0 hM) rfl 6 (by decide) (hg _ kg_168) rfl rfl d_M_mustWaitForQueue_79 ?_
            refine lv_iload hx hb d_M_mustWaitForQueue_82 (lv_at hl 0 rfl) ?_
            refine kw_aldq hx hb hK hP 8 4 (kM_q hn (by decide : 8 < 22)) (kM_8 hM) rfl i (rfl) (by omega) (by omega) d_M_mustWaitForQueue_84 ?_
            refine W.eq (g2 := F0 m 85 ls (.ref (ad (9 + (wk i))) :: [])) (congrArg (fun z9 => F0 m 85 ls (va_rf z9 :: [])) (if_pos (by omega))) ?_
            have hk9_1 : wk i < 4 := kM_k hM _ (by omega)
            have hi9_1 : wi (wk i) ≤ ma := kM_i hM _ hk9_1
            have ek9_1 : cs (9 + (wk i)) = .inr (3, [.ref (ad 2), .ref (ad 4), .ref (ad (13 + (wk i))), .ref (ad (17 + (wk i))), .int (nI (ww (wk i))), .int (gr (wk i)), .int (mo (wk i)), .int (xa (wk i)), .int (xb (wk i)), .int (nI (fr (wk i))), .ref (ad (21 + (wi (wk i)))), .int (nu (wk i)), .int (nI (tt (wk i))), .int (nI (dn (wk i))), .int (nI (db (wk i)))]) := by have z9 := kM_w hM hk9_1; (try simp only [va_up_self] at z9); exact z9
            refine lv_astore (lv' := [(5, .ref (ad (9 + (wk i)))), (4, .int (nI i)), (2, .long need), (0, .ref (ad 0)), (1, .ref (ad (21 + i0)))]) hx hb d_M_mustWaitForQueue_85 hl (by decide) rfl (fun ls hl => ?_)
            refine lv_aload hx hb d_M_mustWaitForQueue_87 (lv_at hl 0 rfl) ?_
            refine kw_get hx hb hg in_K hown hK hP (9 + (wk i)) (kM_q9 hn hk9_1) ek9_1 rfl 10 (by decide) (hg _ kg_122) rfl rfl d_M_mustWaitForQueue_89 ?_
            refine kw_callix (kw_rV (As := []) (rest := []) (q0 := (21 + (wi (wk i)))) ⟨hx, hb, hml, hown, hg⟩ ⟨callB_of 0 hg (kg_goodG kg_374) rfl rfl rfl (hg _ kg_5) (hg _ kg_371) (by decide +kernel) ⟨by decide, by decide⟩, hg _ kg_372, hg _ kg_373⟩ (c_I_unit l (kM_q21 hn hi9_1) (kM_in hM hi9_1) ) hK hP (kM_q21 hn hi9_1) (kM_in hM hi9_1) rfl rfl hl.1 rfl (Nat.le_of_ble_eq_true rfl) d_M_mustWaitForQueue_92 ⟨Nat.zero_le _, Nat.zero_le _⟩) hA hS (fun H locs hP hS => ?_)
            refine lv_iconst (v := 2) hx hb d_M_mustWaitForQueue_95 (by decide) ?_
            refine lv_icmp_eq (tgt := 116) hx hb d_M_mustWaitForQueue_96 (by decide) (fun h7 => ?_) (fun h7 => ?_)
            · refine lv_iconst (v := 1) hx hb d_M_mustWaitForQueue_116 (by decide) ?_
              exact kw_zret hx hb hr hlocks hP hK hS (Or.inr rfl) ⟨by rw [hv, kv_mw, if_pos h7], rfl⟩ d_M_mustWaitForQueue_117
            · refine lv_aload hx hb d_M_mustWaitForQueue_99 (lv_at hl 0 rfl) ?_
              refine lv_aload hx hb d_M_mustWaitForQueue_101 (lv_at hl 0 rfl) ?_
              refine kw_get hx hb hg in_K hown hK hP (9 + (wk i)) (kM_q9 hn hk9_1) ek9_1 rfl 13 (by decide) (hg _ kg_128) rfl rfl d_M_mustWaitForQueue_103 ?_
              refine kw_calllx (kw_rV (As := [.int (nI (dn (wk i)))]) (rest := []) (q0 := (9 + (wk i))) ⟨hx, hb, hml, hown, hg⟩ ⟨callB_of 1 hg (kg_goodG kg_460) rfl rfl rfl (hg _ kg_6) (hg _ kg_457) (by decide +kernel) ⟨by decide, by decide⟩, hg _ kg_458, hg _ kg_459⟩ (c_K_writesFromStep l (kM_q9 hn hk9_1) ek9_1 (kM_q17 hn hk9_1) (kM_wf hM hk9_1) hW9 ) hK hP (kM_q9 hn hk9_1) ek9_1 rfl rfl hl.1 rfl (Nat.le_of_ble_eq_true rfl) d_M_mustWaitForQueue_106 ⟨Nat.zero_le _, Nat.zero_le _⟩) hA hS (fun H locs hP hS => ?_)
              refine lv_lload_n hx hb d_M_mustWaitForQueue_109 rfl (lv_at hl 2 rfl) ?_
              refine lv_land hx hb d_M_mustWaitForQueue_110 ?_
              refine lv_lconst (v := 0) hx hb d_M_mustWaitForQueue_111 (by decide) ?_
              refine W.lcmp hx hb d_M_mustWaitForQueue_112 ?_
              refine lv_if_eq (tgt := 118) hx hb d_M_mustWaitForQueue_113 (by decide) (fun h8 => ?_) (fun h8 => ?_)
              · refine lv_iinc (k := 1) (v := nI (i + 1)) (lv' := [(4, .int (nI (i + 1))), (5, .ref (ad (9 + (wk i)))), (2, .long need), (0, .ref (ad 0)), (1, .ref (ad (21 + i0)))]) hx hb d_M_mustWaitForQueue_118 hl rfl ((nI_succ i).symm) (by decide) rfl (fun ls hl => ?_)
                refine lv_goto (tgt := 63) hx hb d_M_mustWaitForQueue_121 (by decide) ?_
                exact ih ((i + 1)) _ _ _ (by omega) (by rw [hv, kv_mw, if_neg h7, if_pos h8]) (hP) hS (lv_sub hl [0, 2, 3, 4] rfl)
              · refine lv_iconst (v := 1) hx hb d_M_mustWaitForQueue_116 (by decide) ?_
                exact kw_zret hx hb hr hlocks hP hK hS (Or.inr rfl) ⟨by rw [hv, kv_mw, if_neg h7, if_neg h8], rfl⟩ d_M_mustWaitForQueue_117
        exact loop qu 0 _ _ _ (by omega) (by rw [kv_M_mustWaitForQueue, if_pos h1, hneed]) (hP) hS (lv_sub hl [0, 1, 2, 3] rfl)
      · refine lv_lload_n hx hb d_M_mustWaitForQueue_37 rfl (lv_at hl 0 rfl) ?_
        refine lv_bipush (v := 8) hx hb d_M_mustWaitForQueue_38 (by decide) ?_
        refine lv_aload_n hx hb d_M_mustWaitForQueue_40 rfl (lv_at hl 2 rfl) ?_
        refine kw_get hx hb hg in_I hown hK hP (21 + i0) (kM_q21 hn hi0) (kM_in hM hi0) rfl 3 (by decide) (hg _ kg_86) rfl rfl d_M_mustWaitForQueue_41 ?_
        refine lv_imul hx hb d_M_mustWaitForQueue_44 ?_
        refine lv_bipush (v := 8) hx hb d_M_mustWaitForQueue_45 (by decide) ?_
        refine lv_aload_n hx hb d_M_mustWaitForQueue_47 rfl (lv_at hl 1 rfl) ?_
        refine kw_get hx hb hg in_M hown hK hP 0 (kM_q hn (by decide : 0 < 22)) (kM_0 hM) rfl 4 (by decide) (hg _ kg_166) rfl rfl d_M_mustWaitForQueue_48 ?_
        refine kw_callix (kw_rV (As := []) (rest := [.int 8, .int (8 * (nI (pb i0))), .long 0]) (q0 := 6) ⟨hx, hb, hml, hown, hg⟩ ⟨callB_of 0 hg (kg_goodG kg_236) rfl rfl rfl (hg _ kg_4) (hg _ kg_233) (by decide +kernel) ⟨by decide, by decide⟩, hg _ kg_234, hg _ kg_235⟩ (c_S_group l (kM_q hn (by decide : 6 < 22)) (kM_6 hM) ) hK hP (kM_q hn (by decide : 6 < 22)) (kM_6 hM) rfl rfl hl.1 rfl (Nat.le_of_ble_eq_true rfl) d_M_mustWaitForQueue_51 ⟨Nat.zero_le _, Nat.zero_le _⟩) hA hS (fun H locs hP hS => ?_)
        refine lv_imul hx hb d_M_mustWaitForQueue_54 ?_
        refine kw_calllx (kw_rS (As := [.int (8 * (nI (pb i0))), .int (8 * (kv_S_group (nI gp)))]) (rest := [.long 0]) ⟨hx, hb, hml, hown, hg⟩ ⟨callB_of 2 hg (kg_goodG kg_390) rfl rfl rfl (hg _ kg_6) (hg _ kg_519) (by decide +kernel) ⟨by decide, by decide⟩, hg _ kg_389⟩ (c_K_span l  ) hK hP rfl hl.1 rfl (Nat.le_of_ble_eq_true rfl) d_M_mustWaitForQueue_55 ⟨Nat.zero_le _, Nat.zero_le _⟩) hA hS (fun H locs hP hS => ?_)
        refine lv_lor hx hb d_M_mustWaitForQueue_58 ?_
        refine lv_lstore_n (lv' := [(2, .long (0 ||| (kv_K_span (8 * (nI (pb i0))) (8 * (kv_S_group (nI gp)))))), (0, .ref (ad 0)), (1, .ref (ad (21 + i0)))]) hx hb d_M_mustWaitForQueue_59 rfl hl (by decide) rfl (fun ls hl => ?_)
        refine lv_iconst (v := 0) hx hb d_M_mustWaitForQueue_60 (by decide) ?_
        refine lv_istore (lv' := [(4, .int 0), (2, .long (0 ||| (kv_K_span (8 * (nI (pb i0))) (8 * (kv_S_group (nI gp)))))), (0, .ref (ad 0)), (1, .ref (ad (21 + i0)))]) hx hb d_M_mustWaitForQueue_61 hl (by decide) rfl (fun ls hl => ?_)
        obtain ⟨need, hneed⟩ : ∃ z9, kv_M_need gp (nI (po i0)) (nI (pb i0)) (pm i0) = z9 := ⟨_, rfl⟩
        rw [show 0 ||| (kv_K_span (8 * (nI (pb i0))) (8 * (kv_S_group (nI gp)))) = need from (by rw [← hneed, kv_M_need, if_pos h3, if_pos h2])] at hl
        have loop : ∀ (kk : Nat) (i : Nat) (H : Heap) (locs : List Loc) (ls : Array Slot), i + kk = qu → kv_M_mustWaitForQueue qu gp wk po pb pm wi dn wF i0 = kv_mw wk po wi dn wF need kk i → va_P D kc (kw_w ad cs n) H → va_S (kw_A ad n) s.heap H locs → lv_has ls 6 [(4, .int (nI i)), (2, .long need), (0, .ref (ad 0)), (1, .ref (ad (21 + i0)))] → W p l e (kr 1) s m [.ref (ad 0), .ref (ad (21 + i0))].toArray below meth c H locs 0 0 (MQ below (va_Qi (fun r9 c9 => r9 = kv_M_mustWaitForQueue qu gp wk po pb pm wi dn wF i0 ∧ c9 = cs) (kw_Pre D kc (kt cI cB cJ cQ cW) ad n) (kw_A ad n)) [.ref (ad 0), .ref (ad (21 + i0))].toArray s 0 0 (kw_A ad n)) (F0 m 63 ls []) := by
          intro kk
          induction kk with
          | zero =>
            intro i H locs ls hik hv hP hS hl
            refine lv_iload hx hb d_M_mustWaitForQueue_63 (lv_at hl 0 rfl) ?_
            refine lv_aload_n hx hb d_M_mustWaitForQueue_65 rfl (lv_at hl 2 rfl) ?_
            refine kw_get hx hb hg in_M hown hK hP 0 (kM_q hn (by decide : 0 < 22)) (kM_0 hM) rfl 8 (by decide) (hg _ kg_170) rfl rfl d_M_mustWaitForQueue_66 ?_
            refine lv_icmp_ge (tgt := 124) hx hb d_M_mustWaitForQueue_69 (by decide) (fun _ => ?_) (fun h9 => absurd (nI_le (by omega) (by omega)) h9)
            refine lv_iconst (v := 0) hx hb d_M_mustWaitForQueue_124 (by decide) ?_
            exact kw_zret hx hb hr hlocks hP hK hS (Or.inl rfl) ⟨by rw [hv, kv_mw], rfl⟩ d_M_mustWaitForQueue_125
          | succ j ih =>
            intro i H locs ls hik hv hP hS hl
            have hW9 := hW i (by omega)
            refine lv_iload hx hb d_M_mustWaitForQueue_63 (lv_at hl 0 rfl) ?_
            refine lv_aload_n hx hb d_M_mustWaitForQueue_65 rfl (lv_at hl 2 rfl) ?_
            refine kw_get hx hb hg in_M hown hK hP 0 (kM_q hn (by decide : 0 < 22)) (kM_0 hM) rfl 8 (by decide) (hg _ kg_170) rfl rfl d_M_mustWaitForQueue_66 ?_
            refine lv_icmp_ge (tgt := 124) hx hb d_M_mustWaitForQueue_69 (by decide) (fun h10 => absurd h10 (nI_ge (by omega) (by omega))) (fun _ => ?_)
            refine lv_iload hx hb d_M_mustWaitForQueue_72 (lv_at hl 0 rfl) ?_
            refine lv_iconst (v := 4) hx hb d_M_mustWaitForQueue_74 (by decide) ?_
            refine lv_icmp_ge (tgt := 124) hx hb d_M_mustWaitForQueue_75 (by decide) (fun h11 => absurd h11 (fun z9 => absurd ((nI_leI (a := 4) (by omega) (by omega)).mp z9) (by omega))) (fun _ => ?_)
            refine lv_aload_n hx hb d_M_mustWaitForQueue_78 rfl (lv_at hl 2 rfl) ?_
            refine kw_get hx hb hg in_M hown hK hP 0 (kM_q hn (by decide : 0 < 22)) (kM_0 hM) rfl 6 (by decide) (hg _ kg_168) rfl rfl d_M_mustWaitForQueue_79 ?_
            refine lv_iload hx hb d_M_mustWaitForQueue_82 (lv_at hl 0 rfl) ?_
            refine kw_aldq hx hb hK hP 8 4 (kM_q hn (by decide : 8 < 22)) (kM_8 hM) rfl i (rfl) (by omega) (by omega) d_M_mustWaitForQueue_84 ?_
            refine W.eq (g2 := F0 m 85 ls (.ref (ad (9 + (wk i))) :: [])) (congrArg (fun z9 => F0 m 85 ls (va_rf z9 :: [])) (if_pos (by omega))) ?_
            have hk9_2 : wk i < 4 := kM_k hM _ (by omega)
            have hi9_2 : wi (wk i) ≤ ma := kM_i hM _ hk9_2
            have ek9_2 : cs (9 + (wk i)) = .inr (3, [.ref (ad 2), .ref (ad 4), .ref (ad (13 + (wk i))), .ref (ad (17 + (wk i))), .int (nI (ww (wk i))), .int (gr (wk i)), .int (mo (wk i)), .int (xa (wk i)), .int (xb (wk i)), .int (nI (fr (wk i))), .ref (ad (21 + (wi (wk i)))), .int (nu (wk i)), .int (nI (tt (wk i))), .int (nI (dn (wk i))), .int (nI (db (wk i)))]) := by have z9 := kM_w hM hk9_2; (try simp only [va_up_self] at z9); exact z9
            refine lv_astore (lv' := [(5, .ref (ad (9 + (wk i)))), (4, .int (nI i)), (2, .long need), (0, .ref (ad 0)), (1, .ref (ad (21 + i0)))]) hx hb d_M_mustWaitForQueue_85 hl (by decide) rfl (fun ls hl => ?_)
            refine lv_aload hx hb d_M_mustWaitForQueue_87 (lv_at hl 0 rfl) ?_
            refine kw_get hx hb hg in_K hown hK hP (9 + (wk i)) (kM_q9 hn hk9_2) ek9_2 rfl 10 (by decide) (hg _ kg_122) rfl rfl d_M_mustWaitForQueue_89 ?_
            refine kw_callix (kw_rV (As := []) (rest := []) (q0 := (21 + (wi (wk i)))) ⟨hx, hb, hml, hown, hg⟩ ⟨callB_of 0 hg (kg_goodG kg_374) rfl rfl rfl (hg _ kg_5) (hg _ kg_371) (by decide +kernel) ⟨by decide, by decide⟩, hg _ kg_372, hg _ kg_373⟩ (c_I_unit l (kM_q21 hn hi9_2) (kM_in hM hi9_2) ) hK hP (kM_q21 hn hi9_2) (kM_in hM hi9_2) rfl rfl hl.1 rfl (Nat.le_of_ble_eq_true rfl) d_M_mustWaitForQueue_92 ⟨Nat.zero_le _, Nat.zero_le _⟩) hA hS (fun H locs hP hS => ?_)
            refine lv_iconst (v := 2) hx hb d_M_mustWaitForQueue_95 (by decide) ?_
            refine lv_icmp_eq (tgt := 116) hx hb d_M_mustWaitForQueue_96 (by decide) (fun h12 => ?_) (fun h12 => ?_)
            · refine lv_iconst (v := 1) hx hb d_M_mustWaitForQueue_116 (by decide) ?_
              exact kw_zret hx hb hr hlocks hP hK hS (Or.inr rfl) ⟨by rw [hv, kv_mw, if_pos h12], rfl⟩ d_M_mustWaitForQueue_117
            · refine lv_aload hx hb d_M_mustWaitForQueue_99 (lv_at hl 0 rfl) ?_
              refine lv_aload hx hb d_M_mustWaitForQueue_101 (lv_at hl 0 rfl) ?_
              refine kw_get hx hb hg in_K hown hK hP (9 + (wk i)) (kM_q9 hn hk9_2) ek9_2 rfl 13 (by decide) (hg _ kg_128) rfl rfl d_M_mustWaitForQueue_103 ?_
              refine kw_calllx (kw_rV (As := [.int (nI (dn (wk i)))]) (rest := []) (q0 := (9 + (wk i))) ⟨hx, hb, hml, hown, hg⟩ ⟨callB_of 1 hg (kg_goodG kg_460) rfl rfl rfl (hg _ kg_6) (hg _ kg_457) (by decide +kernel) ⟨by decide, by decide⟩, hg _ kg_458, hg _ kg_459⟩ (c_K_writesFromStep l (kM_q9 hn hk9_2) ek9_2 (kM_q17 hn hk9_2) (kM_wf hM hk9_2) hW9 ) hK hP (kM_q9 hn hk9_2) ek9_2 rfl rfl hl.1 rfl (Nat.le_of_ble_eq_true rfl) d_M_mustWaitForQueue_106 ⟨Nat.zero_le _, Nat.zero_le _⟩) hA hS (fun H locs hP hS => ?_)
              refine lv_lload_n hx hb d_M_mustWaitForQueue_109 rfl (lv_at hl 2 rfl) ?_
              refine lv_land hx hb d_M_mustWaitForQueue_110 ?_
              refine lv_lconst (v := 0) hx hb d_M_mustWaitForQueue_111 (by decide) ?_
              refine W.lcmp hx hb d_M_mustWaitForQueue_112 ?_
              refine lv_if_eq (tgt := 118) hx hb d_M_mustWaitForQueue_113 (by decide) (fun h13 => ?_) (fun h13 => ?_)
              · refine lv_iinc (k := 1) (v := nI (i + 1)) (lv' := [(4, .int (nI (i + 1))), (5, .ref (ad (9 + (wk i)))), (2, .long need), (0, .ref (ad 0)), (1, .ref (ad (21 + i0)))]) hx hb d_M_mustWaitForQueue_118 hl rfl ((nI_succ i).symm) (by decide) rfl (fun ls hl => ?_)
                refine lv_goto (tgt := 63) hx hb d_M_mustWaitForQueue_121 (by decide) ?_
                exact ih ((i + 1)) _ _ _ (by omega) (by rw [hv, kv_mw, if_neg h12, if_pos h13]) (hP) hS (lv_sub hl [0, 2, 3, 4] rfl)
              · refine lv_iconst (v := 1) hx hb d_M_mustWaitForQueue_116 (by decide) ?_
                exact kw_zret hx hb hr hlocks hP hK hS (Or.inr rfl) ⟨by rw [hv, kv_mw, if_neg h12, if_neg h13], rfl⟩ d_M_mustWaitForQueue_117
        exact loop qu 0 _ _ _ (by omega) (by rw [kv_M_mustWaitForQueue, if_pos h1, hneed]) (hP) hS (lv_sub hl [0, 1, 2, 3] rfl)
    · refine lv_iconst (v := 0) hx hb d_M_mustWaitForQueue_17 (by decide) ?_
      refine lv_bipush (v := 8) hx hb d_M_mustWaitForQueue_18 (by decide) ?_
      refine kw_calllx (kw_rS (As := [.int 0, .int 8]) (rest := []) ⟨hx, hb, hml, hown, hg⟩ ⟨callB_of 2 hg (kg_goodG kg_390) rfl rfl rfl (hg _ kg_6) (hg _ kg_519) (by decide +kernel) ⟨by decide, by decide⟩, hg _ kg_389⟩ (c_K_span l  ) hK hP rfl hl.1 rfl (Nat.le_of_ble_eq_true rfl) d_M_mustWaitForQueue_20 ⟨Nat.zero_le _, Nat.zero_le _⟩) hA hS (fun H locs hP hS => ?_)
      refine lv_goto (tgt := 27) hx hb d_M_mustWaitForQueue_23 (by decide) ?_
      refine lv_lstore_n (lv' := [(2, .long (kv_K_span 0 8)), (0, .ref (ad 0)), (1, .ref (ad (21 + i0)))]) hx hb d_M_mustWaitForQueue_27 rfl hl (by decide) rfl (fun ls hl => ?_)
      refine lv_aload_n hx hb d_M_mustWaitForQueue_28 rfl (lv_at hl 2 rfl) ?_
      refine kw_get hx hb hg in_I hown hK hP (21 + i0) (kM_q21 hn hi0) (kM_in hM hi0) rfl 0 (by decide) (hg _ kg_74) rfl rfl d_M_mustWaitForQueue_29 ?_
      refine lv_bipush (v := 19) hx hb d_M_mustWaitForQueue_32 (by decide) ?_
      refine lv_icmp_ne (tgt := 60) hx hb d_M_mustWaitForQueue_34 (by decide) (fun h14 => ?_) (fun h14 => ?_)
      · refine lv_iconst (v := 0) hx hb d_M_mustWaitForQueue_60 (by decide) ?_
        refine lv_istore (lv' := [(4, .int 0), (2, .long (kv_K_span 0 8)), (0, .ref (ad 0)), (1, .ref (ad (21 + i0)))]) hx hb d_M_mustWaitForQueue_61 hl (by decide) rfl (fun ls hl => ?_)
        obtain ⟨need, hneed⟩ : ∃ z9, kv_M_need gp (nI (po i0)) (nI (pb i0)) (pm i0) = z9 := ⟨_, rfl⟩
        rw [show kv_K_span 0 8 = need from (by rw [← hneed, kv_M_need, if_neg h14, if_neg h2])] at hl
        have loop : ∀ (kk : Nat) (i : Nat) (H : Heap) (locs : List Loc) (ls : Array Slot), i + kk = qu → kv_M_mustWaitForQueue qu gp wk po pb pm wi dn wF i0 = kv_mw wk po wi dn wF need kk i → va_P D kc (kw_w ad cs n) H → va_S (kw_A ad n) s.heap H locs → lv_has ls 6 [(4, .int (nI i)), (2, .long need), (0, .ref (ad 0)), (1, .ref (ad (21 + i0)))] → W p l e (kr 1) s m [.ref (ad 0), .ref (ad (21 + i0))].toArray below meth c H locs 0 0 (MQ below (va_Qi (fun r9 c9 => r9 = kv_M_mustWaitForQueue qu gp wk po pb pm wi dn wF i0 ∧ c9 = cs) (kw_Pre D kc (kt cI cB cJ cQ cW) ad n) (kw_A ad n)) [.ref (ad 0), .ref (ad (21 + i0))].toArray s 0 0 (kw_A ad n)) (F0 m 63 ls []) := by
          intro kk
          induction kk with
          | zero =>
            intro i H locs ls hik hv hP hS hl
            refine lv_iload hx hb d_M_mustWaitForQueue_63 (lv_at hl 0 rfl) ?_
            refine lv_aload_n hx hb d_M_mustWaitForQueue_65 rfl (lv_at hl 2 rfl) ?_
            refine kw_get hx hb hg in_M hown hK hP 0 (kM_q hn (by decide : 0 < 22)) (kM_0 hM) rfl 8 (by decide) (hg _ kg_170) rfl rfl d_M_mustWaitForQueue_66 ?_
            refine lv_icmp_ge (tgt := 124) hx hb d_M_mustWaitForQueue_69 (by decide) (fun _ => ?_) (fun h15 => absurd (nI_le (by omega) (by omega)) h15)
            refine lv_iconst (v := 0) hx hb d_M_mustWaitForQueue_124 (by decide) ?_
            exact kw_zret hx hb hr hlocks hP hK hS (Or.inl rfl) ⟨by rw [hv, kv_mw], rfl⟩ d_M_mustWaitForQueue_125
          | succ j ih =>
            intro i H locs ls hik hv hP hS hl
            have hW9 := hW i (by omega)
            refine lv_iload hx hb d_M_mustWaitForQueue_63 (lv_at hl 0 rfl) ?_
            refine lv_aload_n hx hb d_M_mustWaitForQueue_65 rfl (lv_at hl 2 rfl) ?_
            refine kw_get hx hb hg in_M hown hK hP 0 (kM_q hn (by decide : 0 < 22)) (kM_0 hM) rfl 8 (by decide) (hg _ kg_170) rfl rfl d_M_mustWaitForQueue_66 ?_
            refine lv_icmp_ge (tgt := 124) hx hb d_M_mustWaitForQueue_69 (by decide) (fun h16 => absurd h16 (nI_ge (by omega) (by omega))) (fun _ => ?_)
            refine lv_iload hx hb d_M_mustWaitForQueue_72 (lv_at hl 0 rfl) ?_
            refine lv_iconst (v := 4) hx hb d_M_mustWaitForQueue_74 (by decide) ?_
            refine lv_icmp_ge (tgt := 124) hx hb d_M_mustWaitForQueue_75 (by decide) (fun h17 => absurd h17 (fun z9 => absurd ((nI_leI (a := 4) (by omega) (by omega)).mp z9) (by omega))) (fun _ => ?_)
            refine lv_aload_n hx hb d_M_mustWaitForQueue_78 rfl (lv_at hl 2 rfl) ?_
            refine kw_get hx hb hg in_M hown hK hP 0 (kM_q hn (by decide : 0 < 22)) (kM_0 hM) rfl 6 (by decide) (hg _ kg_168) rfl rfl d_M_mustWaitForQueue_79 ?_
            refine lv_iload hx hb d_M_mustWaitForQueue_82 (lv_at hl 0 rfl) ?_
            refine kw_aldq hx hb hK hP 8 4 (kM_q hn (by decide : 8 < 22)) (kM_8 hM) rfl i (rfl) (by omega) (by omega) d_M_mustWaitForQueue_84 ?_
            refine W.eq (g2 := F0 m 85 ls (.ref (ad (9 + (wk i))) :: [])) (congrArg (fun z9 => F0 m 85 ls (va_rf z9 :: [])) (if_pos (by omega))) ?_
            have hk9_3 : wk i < 4 := kM_k hM _ (by omega)
            have hi9_3 : wi (wk i) ≤ ma := kM_i hM _ hk9_3
            have ek9_3 : cs (9 + (wk i)) = .inr (3, [.ref (ad 2), .ref (ad 4), .ref (ad (13 + (wk i))), .ref (ad (17 + (wk i))), .int (nI (ww (wk i))), .int (gr (wk i)), .int (mo (wk i)), .int (xa (wk i)), .int (xb (wk i)), .int (nI (fr (wk i))), .ref (ad (21 + (wi (wk i)))), .int (nu (wk i)), .int (nI (tt (wk i))), .int (nI (dn (wk i))), .int (nI (db (wk i)))]) := by have z9 := kM_w hM hk9_3; (try simp only [va_up_self] at z9); exact z9
            refine lv_astore (lv' := [(5, .ref (ad (9 + (wk i)))), (4, .int (nI i)), (2, .long need), (0, .ref (ad 0)), (1, .ref (ad (21 + i0)))]) hx hb d_M_mustWaitForQueue_85 hl (by decide) rfl (fun ls hl => ?_)
            refine lv_aload hx hb d_M_mustWaitForQueue_87 (lv_at hl 0 rfl) ?_
            refine kw_get hx hb hg in_K hown hK hP (9 + (wk i)) (kM_q9 hn hk9_3) ek9_3 rfl 10 (by decide) (hg _ kg_122) rfl rfl d_M_mustWaitForQueue_89 ?_
            refine kw_callix (kw_rV (As := []) (rest := []) (q0 := (21 + (wi (wk i)))) ⟨hx, hb, hml, hown, hg⟩ ⟨callB_of 0 hg (kg_goodG kg_374) rfl rfl rfl (hg _ kg_5) (hg _ kg_371) (by decide +kernel) ⟨by decide, by decide⟩, hg _ kg_372, hg _ kg_373⟩ (c_I_unit l (kM_q21 hn hi9_3) (kM_in hM hi9_3) ) hK hP (kM_q21 hn hi9_3) (kM_in hM hi9_3) rfl rfl hl.1 rfl (Nat.le_of_ble_eq_true rfl) d_M_mustWaitForQueue_92 ⟨Nat.zero_le _, Nat.zero_le _⟩) hA hS (fun H locs hP hS => ?_)
            refine lv_iconst (v := 2) hx hb d_M_mustWaitForQueue_95 (by decide) ?_
            refine lv_icmp_eq (tgt := 116) hx hb d_M_mustWaitForQueue_96 (by decide) (fun h18 => ?_) (fun h18 => ?_)
            · refine lv_iconst (v := 1) hx hb d_M_mustWaitForQueue_116 (by decide) ?_
              exact kw_zret hx hb hr hlocks hP hK hS (Or.inr rfl) ⟨by rw [hv, kv_mw, if_pos h18], rfl⟩ d_M_mustWaitForQueue_117
            · refine lv_aload hx hb d_M_mustWaitForQueue_99 (lv_at hl 0 rfl) ?_
              refine lv_aload hx hb d_M_mustWaitForQueue_101 (lv_at hl 0 rfl) ?_
              refine kw_get hx hb hg in_K hown hK hP (9 + (wk i)) (kM_q9 hn hk9_3) ek9_3 rfl 13 (by decide) (hg _ kg_128) rfl rfl d_M_mustWaitForQueue_103 ?_
              refine kw_calllx (kw_rV (As := [.int (nI (dn (wk i)))]) (rest := []) (q0 := (9 + (wk i))) ⟨hx, hb, hml, hown, hg⟩ ⟨callB_of 1 hg (kg_goodG kg_460) rfl rfl rfl (hg _ kg_6) (hg _ kg_457) (by decide +kernel) ⟨by decide, by decide⟩, hg _ kg_458, hg _ kg_459⟩ (c_K_writesFromStep l (kM_q9 hn hk9_3) ek9_3 (kM_q17 hn hk9_3) (kM_wf hM hk9_3) hW9 ) hK hP (kM_q9 hn hk9_3) ek9_3 rfl rfl hl.1 rfl (Nat.le_of_ble_eq_true rfl) d_M_mustWaitForQueue_106 ⟨Nat.zero_le _, Nat.zero_le _⟩) hA hS (fun H locs hP hS => ?_)
              refine lv_lload_n hx hb d_M_mustWaitForQueue_109 rfl (lv_at hl 2 rfl) ?_
              refine lv_land hx hb d_M_mustWaitForQueue_110 ?_
              refine lv_lconst (v := 0) hx hb d_M_mustWaitForQueue_111 (by decide) ?_
              refine W.lcmp hx hb d_M_mustWaitForQueue_112 ?_
              refine lv_if_eq (tgt := 118) hx hb d_M_mustWaitForQueue_113 (by decide) (fun h19 => ?_) (fun h19 => ?_)
              · refine lv_iinc (k := 1) (v := nI (i + 1)) (lv' := [(4, .int (nI (i + 1))), (5, .ref (ad (9 + (wk i)))), (2, .long need), (0, .ref (ad 0)), (1, .ref (ad (21 + i0)))]) hx hb d_M_mustWaitForQueue_118 hl rfl ((nI_succ i).symm) (by decide) rfl (fun ls hl => ?_)
                refine lv_goto (tgt := 63) hx hb d_M_mustWaitForQueue_121 (by decide) ?_
                exact ih ((i + 1)) _ _ _ (by omega) (by rw [hv, kv_mw, if_neg h18, if_pos h19]) (hP) hS (lv_sub hl [0, 2, 3, 4] rfl)
              · refine lv_iconst (v := 1) hx hb d_M_mustWaitForQueue_116 (by decide) ?_
                exact kw_zret hx hb hr hlocks hP hK hS (Or.inr rfl) ⟨by rw [hv, kv_mw, if_neg h18, if_neg h19], rfl⟩ d_M_mustWaitForQueue_117
        exact loop qu 0 _ _ _ (by omega) (by rw [kv_M_mustWaitForQueue, if_pos h1, hneed]) (hP) hS (lv_sub hl [0, 1, 2, 3] rfl)
      · refine lv_lload_n hx hb d_M_mustWaitForQueue_37 rfl (lv_at hl 0 rfl) ?_
        refine lv_bipush (v := 8) hx hb d_M_mustWaitForQueue_38 (by decide) ?_
        refine lv_aload_n hx hb d_M_mustWaitForQueue_40 rfl (lv_at hl 2 rfl) ?_
        refine kw_get hx hb hg in_I hown hK hP (21 + i0) (kM_q21 hn hi0) (kM_in hM hi0) rfl 3 (by decide) (hg _ kg_86) rfl rfl d_M_mustWaitForQueue_41 ?_
        refine lv_imul hx hb d_M_mustWaitForQueue_44 ?_
        refine lv_bipush (v := 8) hx hb d_M_mustWaitForQueue_45 (by decide) ?_
        refine lv_aload_n hx hb d_M_mustWaitForQueue_47 rfl (lv_at hl 1 rfl) ?_
        refine kw_get hx hb hg in_M hown hK hP 0 (kM_q hn (by decide : 0 < 22)) (kM_0 hM) rfl 4 (by decide) (hg _ kg_166) rfl rfl d_M_mustWaitForQueue_48 ?_
        refine kw_callix (kw_rV (As := []) (rest := [.int 8, .int (8 * (nI (pb i0))), .long (kv_K_span 0 8)]) (q0 := 6) ⟨hx, hb, hml, hown, hg⟩ ⟨callB_of 0 hg (kg_goodG kg_236) rfl rfl rfl (hg _ kg_4) (hg _ kg_233) (by decide +kernel) ⟨by decide, by decide⟩, hg _ kg_234, hg _ kg_235⟩ (c_S_group l (kM_q hn (by decide : 6 < 22)) (kM_6 hM) ) hK hP (kM_q hn (by decide : 6 < 22)) (kM_6 hM) rfl rfl hl.1 rfl (Nat.le_of_ble_eq_true rfl) d_M_mustWaitForQueue_51 ⟨Nat.zero_le _, Nat.zero_le _⟩) hA hS (fun H locs hP hS => ?_)
        refine lv_imul hx hb d_M_mustWaitForQueue_54 ?_
        refine kw_calllx (kw_rS (As := [.int (8 * (nI (pb i0))), .int (8 * (kv_S_group (nI gp)))]) (rest := [.long (kv_K_span 0 8)]) ⟨hx, hb, hml, hown, hg⟩ ⟨callB_of 2 hg (kg_goodG kg_390) rfl rfl rfl (hg _ kg_6) (hg _ kg_519) (by decide +kernel) ⟨by decide, by decide⟩, hg _ kg_389⟩ (c_K_span l  ) hK hP rfl hl.1 rfl (Nat.le_of_ble_eq_true rfl) d_M_mustWaitForQueue_55 ⟨Nat.zero_le _, Nat.zero_le _⟩) hA hS (fun H locs hP hS => ?_)
        refine lv_lor hx hb d_M_mustWaitForQueue_58 ?_
        refine lv_lstore_n (lv' := [(2, .long ((kv_K_span 0 8) ||| (kv_K_span (8 * (nI (pb i0))) (8 * (kv_S_group (nI gp)))))), (0, .ref (ad 0)), (1, .ref (ad (21 + i0)))]) hx hb d_M_mustWaitForQueue_59 rfl hl (by decide) rfl (fun ls hl => ?_)
        refine lv_iconst (v := 0) hx hb d_M_mustWaitForQueue_60 (by decide) ?_
        refine lv_istore (lv' := [(4, .int 0), (2, .long ((kv_K_span 0 8) ||| (kv_K_span (8 * (nI (pb i0))) (8 * (kv_S_group (nI gp)))))), (0, .ref (ad 0)), (1, .ref (ad (21 + i0)))]) hx hb d_M_mustWaitForQueue_61 hl (by decide) rfl (fun ls hl => ?_)
        obtain ⟨need, hneed⟩ : ∃ z9, kv_M_need gp (nI (po i0)) (nI (pb i0)) (pm i0) = z9 := ⟨_, rfl⟩
        rw [show (kv_K_span 0 8) ||| (kv_K_span (8 * (nI (pb i0))) (8 * (kv_S_group (nI gp)))) = need from (by rw [← hneed, kv_M_need, if_pos h14, if_neg h2])] at hl
        have loop : ∀ (kk : Nat) (i : Nat) (H : Heap) (locs : List Loc) (ls : Array Slot), i + kk = qu → kv_M_mustWaitForQueue qu gp wk po pb pm wi dn wF i0 = kv_mw wk po wi dn wF need kk i → va_P D kc (kw_w ad cs n) H → va_S (kw_A ad n) s.heap H locs → lv_has ls 6 [(4, .int (nI i)), (2, .long need), (0, .ref (ad 0)), (1, .ref (ad (21 + i0)))] → W p l e (kr 1) s m [.ref (ad 0), .ref (ad (21 + i0))].toArray below meth c H locs 0 0 (MQ below (va_Qi (fun r9 c9 => r9 = kv_M_mustWaitForQueue qu gp wk po pb pm wi dn wF i0 ∧ c9 = cs) (kw_Pre D kc (kt cI cB cJ cQ cW) ad n) (kw_A ad n)) [.ref (ad 0), .ref (ad (21 + i0))].toArray s 0 0 (kw_A ad n)) (F0 m 63 ls []) := by
          intro kk
          induction kk with
          | zero =>
            intro i H locs ls hik hv hP hS hl
            refine lv_iload hx hb d_M_mustWaitForQueue_63 (lv_at hl 0 rfl) ?_
            refine lv_aload_n hx hb d_M_mustWaitForQueue_65 rfl (lv_at hl 2 rfl) ?_
            refine kw_get hx hb hg in_M hown hK hP 0 (kM_q hn (by decide : 0 < 22)) (kM_0 hM) rfl 8 (by decide) (hg _ kg_170) rfl rfl d_M_mustWaitForQueue_66 ?_
            refine lv_icmp_ge (tgt := 124) hx hb d_M_mustWaitForQueue_69 (by decide) (fun _ => ?_) (fun h20 => absurd (nI_le (by omega) (by omega)) h20)
            refine lv_iconst (v := 0) hx hb d_M_mustWaitForQueue_124 (by decide) ?_
            exact kw_zret hx hb hr hlocks hP hK hS (Or.inl rfl) ⟨by rw [hv, kv_mw], rfl⟩ d_M_mustWaitForQueue_125
          | succ j ih =>
            intro i H locs ls hik hv hP hS hl
            have hW9 := hW i (by omega)
            refine lv_iload hx hb d_M_mustWaitForQueue_63 (lv_at hl 0 rfl) ?_
            refine lv_aload_n hx hb d_M_mustWaitForQueue_65 rfl (lv_at hl 2 rfl) ?_
            refine kw_get hx hb hg in_M hown hK hP 0 (kM_q hn (by decide : 0 < 22)) (kM_0 hM) rfl 8 (by decide) (hg _ kg_170) rfl rfl d_M_mustWaitForQueue_66 ?_
            refine lv_icmp_ge (tgt := 124) hx hb d_M_mustWaitForQueue_69 (by decide) (fun h21 => absurd h21 (nI_ge (by omega) (by omega))) (fun _ => ?_)
            refine lv_iload hx hb d_M_mustWaitForQueue_72 (lv_at hl 0 rfl) ?_
            refine lv_iconst (v := 4) hx hb d_M_mustWaitForQueue_74 (by decide) ?_
            refine lv_icmp_ge (tgt := 124) hx hb d_M_mustWaitForQueue_75 (by decide) (fun h22 => absurd h22 (fun z9 => absurd ((nI_leI (a := 4) (by omega) (by omega)).mp z9) (by omega))) (fun _ => ?_)
            refine lv_aload_n hx hb d_M_mustWaitForQueue_78 rfl (lv_at hl 2 rfl) ?_
            refine kw_get hx hb hg in_M hown hK hP 0 (kM_q hn (by decide : 0 < 22)) (kM_0 hM) rfl 6 (by decide) (hg _ kg_168) rfl rfl d_M_mustWaitForQueue_79 ?_
            refine lv_iload hx hb d_M_mustWaitForQueue_82 (lv_at hl 0 rfl) ?_
            refine kw_aldq hx hb hK hP 8 4 (kM_q hn (by decide : 8 < 22)) (kM_8 hM) rfl i (rfl) (by omega) (by omega) d_M_mustWaitForQueue_84 ?_
            refine W.eq (g2 := F0 m 85 ls (.ref (ad (9 + (wk i))) :: [])) (congrArg (fun z9 => F0 m 85 ls (va_rf z9 :: [])) (if_pos (by omega))) ?_
            have hk9_4 : wk i < 4 := kM_k hM _ (by omega)
            have hi9_4 : wi (wk i) ≤ ma := kM_i hM _ hk9_4
            have ek9_4 : cs (9 + (wk i)) = .inr (3, [.ref (ad 2), .ref (ad 4), .ref (ad (13 + (wk i))), .ref (ad (17 + (wk i))), .int (nI (ww (wk i))), .int (gr (wk i)), .int (mo (wk i)), .int (xa (wk i)), .int (xb (wk i)), .int (nI (fr (wk i))), .ref (ad (21 + (wi (wk i)))), .int (nu (wk i)), .int (nI (tt (wk i))), .int (nI (dn (wk i))), .int (nI (db (wk i)))]) := by have z9 := kM_w hM hk9_4; (try simp only [va_up_self] at z9); exact z9
            refine lv_astore (lv' := [(5, .ref (ad (9 + (wk i)))), (4, .int (nI i)), (2, .long need), (0, .ref (ad 0)), (1, .ref (ad (21 + i0)))]) hx hb d_M_mustWaitForQueue_85 hl (by decide) rfl (fun ls hl => ?_)
            refine lv_aload hx hb d_M_mustWaitForQueue_87 (lv_at hl 0 rfl) ?_
            refine kw_get hx hb hg in_K hown hK hP (9 + (wk i)) (kM_q9 hn hk9_4) ek9_4 rfl 10 (by decide) (hg _ kg_122) rfl rfl d_M_mustWaitForQueue_89 ?_
            refine kw_callix (kw_rV (As := []) (rest := []) (q0 := (21 + (wi (wk i)))) ⟨hx, hb, hml, hown, hg⟩ ⟨callB_of 0 hg (kg_goodG kg_374) rfl rfl rfl (hg _ kg_5) (hg _ kg_371) (by decide +kernel) ⟨by decide, by decide⟩, hg _ kg_372, hg _ kg_373⟩ (c_I_unit l (kM_q21 hn hi9_4) (kM_in hM hi9_4) ) hK hP (kM_q21 hn hi9_4) (kM_in hM hi9_4) rfl rfl hl.1 rfl (Nat.le_of_ble_eq_true rfl) d_M_mustWaitForQueue_92 ⟨Nat.zero_le _, Nat.zero_le _⟩) hA hS (fun H locs hP hS => ?_)
            refine lv_iconst (v := 2) hx hb d_M_mustWaitForQueue_95 (by decide) ?_
            refine lv_icmp_eq (tgt := 116) hx hb d_M_mustWaitForQueue_96 (by decide) (fun h23 => ?_) (fun h23 => ?_)
            · refine lv_iconst (v := 1) hx hb d_M_mustWaitForQueue_116 (by decide) ?_
              exact kw_zret hx hb hr hlocks hP hK hS (Or.inr rfl) ⟨by rw [hv, kv_mw, if_pos h23], rfl⟩ d_M_mustWaitForQueue_117
            · refine lv_aload hx hb d_M_mustWaitForQueue_99 (lv_at hl 0 rfl) ?_
              refine lv_aload hx hb d_M_mustWaitForQueue_101 (lv_at hl 0 rfl) ?_
              refine kw_get hx hb hg in_K hown hK hP (9 + (wk i)) (kM_q9 hn hk9_4) ek9_4 rfl 13 (by decide) (hg _ kg_128) rfl rfl d_M_mustWaitForQueue_103 ?_
              refine kw_calllx (kw_rV (As := [.int (nI (dn (wk i)))]) (rest := []) (q0 := (9 + (wk i))) ⟨hx, hb, hml, hown, hg⟩ ⟨callB_of 1 hg (kg_goodG kg_460) rfl rfl rfl (hg _ kg_6) (hg _ kg_457) (by decide +kernel) ⟨by decide, by decide⟩, hg _ kg_458, hg _ kg_459⟩ (c_K_writesFromStep l (kM_q9 hn hk9_4) ek9_4 (kM_q17 hn hk9_4) (kM_wf hM hk9_4) hW9 ) hK hP (kM_q9 hn hk9_4) ek9_4 rfl rfl hl.1 rfl (Nat.le_of_ble_eq_true rfl) d_M_mustWaitForQueue_106 ⟨Nat.zero_le _, Nat.zero_le _⟩) hA hS (fun H locs hP hS => ?_)
              refine lv_lload_n hx hb d_M_mustWaitForQueue_109 rfl (lv_at hl 2 rfl) ?_
              refine lv_land hx hb d_M_mustWaitForQueue_110 ?_
              refine lv_lconst (v := 0) hx hb d_M_mustWaitForQueue_111 (by decide) ?_
              refine W.lcmp hx hb d_M_mustWaitForQueue_112 ?_
              refine lv_if_eq (tgt := 118) hx hb d_M_mustWaitForQueue_113 (by decide) (fun h24 => ?_) (fun h24 => ?_)
              · refine lv_iinc (k := 1) (v := nI (i + 1)) (lv' := [(4, .int (nI (i + 1))), (5, .ref (ad (9 + (wk i)))), (2, .long need), (0, .ref (ad 0)), (1, .ref (ad (21 + i0)))]) hx hb d_M_mustWaitForQueue_118 hl rfl ((nI_succ i).symm) (by decide) rfl (fun ls hl => ?_)
                refine lv_goto (tgt := 63) hx hb d_M_mustWaitForQueue_121 (by decide) ?_
                exact ih ((i + 1)) _ _ _ (by omega) (by rw [hv, kv_mw, if_neg h23, if_pos h24]) (hP) hS (lv_sub hl [0, 2, 3, 4] rfl)
              · refine lv_iconst (v := 1) hx hb d_M_mustWaitForQueue_116 (by decide) ?_
                exact kw_zret hx hb hr hlocks hP hK hS (Or.inr rfl) ⟨by rw [hv, kv_mw, if_neg h23, if_neg h24], rfl⟩ d_M_mustWaitForQueue_117
        exact loop qu 0 _ _ _ (by omega) (by rw [kv_M_mustWaitForQueue, if_pos h1, hneed]) (hP) hS (lv_sub hl [0, 1, 2, 3] rfl)
  · refine lv_iconst (v := 0) hx hb d_M_mustWaitForQueue_8 (by decide) ?_
    exact kw_zret hx hb hr hlocks hP hK hS (Or.inl rfl) ⟨by rw [kv_M_mustWaitForQueue, if_neg h1], rfl⟩ d_M_mustWaitForQueue_9
