/-! the reference: moves, sums -/
def kv_mv (H : Nat → Int32) (d s : Nat) : Nat → Nat → (Nat → Int32) → Nat → Int32
  | 0, _, G => G
  | k + 1, j, G => kv_mv H d s k (j + 1) (upd G (d + j) (H (s + j)))
def kv_R_movesM (F M : Nat → Int32) (po pd wh wd : Nat → Nat) (q i pp : Nat) : Nat → Int32 := if nI (po (wh q)) = 18 then kv_mv F pp (8 * pd (wh q) + i * wd q) (wd q) 0 M else M
def kv_R_movesF (F M : Nat → Int32) (po pd wh wd : Nat → Nat) (q i pp : Nat) : Nat → Int32 := if nI (po (wh q)) = 18 then F else kv_mv M (8 * pd (wh q) + i * wd q) pp (wd q) 0 F

set_option maxRecDepth 100000 in
set_option maxHeartbeats 4000000 in
theorem c_R_moves (l : Launch) {D : va_G} {ad : Nat → Nat} {n : Nat} {cs : Nat → va_E} (hJ : kw_J ad n) {cI : ClassId} {cZ : ClassId} {la : Nat} {th : Int32} {st : Nat} {nx : Int32} {wi : Nat} {gp : Nat} {vl : Nat} {sa : Nat} {bo : Nat} {cy : Int32} {sd : Int32} {ma : Nat} {qu : Nat} {X : Nat → Int32} {F : Nat → Int32} {M : Nat → Int32} {po : Nat → Nat} {pd : Nat → Nat} {pa : Nat → Nat} {pb : Nat → Nat} {pn : Nat → Int32} {pm : Nat → Int32} {wh : Nat → Nat} {wd : Nat → Nat} {rg : Nat → Nat} {fr : Nat → Nat} {sp : Nat → Nat} {dn : Nat → Nat} {bf : Nat → Nat} {XA : Nat → Int32} {XB : Nat → Int32} {q : Nat} {i : Nat} {pp : Nat} (hn : 19 ≤ n) (hR : kR ad cI cZ cs la th st nx wi gp vl sa bo cy sd ma qu X F M po pd pa pb pn pm wh wd rg fr sp dn bf XA XB) (hq : q < 5) (hk : wh q < 40) (ho9 : po (wh q) < 21) (hb9 : po (wh q) = 19 → 8 * pb (wh q) + i * wd q + wd q ≤ 64) (hd9 : 8 * pd (wh q) + i * wd q + wd q ≤ 64) (hp9 : kv_R_place F po pb wh wd XA XB q i = nI pp) (hpp : pp + wd q ≤ 128) : kw_mv l y_R_moves w_R_moves (kr 3) D kc (ktR cI cZ) ad n cs [.ref (ad 0), .int (nI q), .int (nI i)] (fun c9 => c9 = va_up (va_up cs 2 (.inl (cI, 64, .inl (kv_R_movesF F M po pd wh wd q i pp)))) 3 (.inl (cI, 128, .inl (kv_R_movesM F M po pd wh wd q i pp)))) := by
  refine kw_of (cc := b_R_moves) (maxL := 7) (ret := none) (by decide) rfl (Nat.le_of_ble_eq_true rfl) ?_
  intro p e s m below meth c ls hx hb hr hml hown hts hlocks hP hK hl
  have hg : ∀ w9 ∈ kg_G, w9.before [.ref (ad 0), .int (nI q), .int (nI i)].toArray s = true := fun w9 h9 => hts w9 (List.mem_cons_of_mem _ h9)
  have hown : s.vm.findClass "LaneMachineModel" = some m.cls := hown
  have hA : ∀ k, k < n → kw_A ad n (ad k) := fun k hk => ⟨k, hk, rfl⟩
  have hS : va_S (kw_A ad n) s.heap s.heap [] := va_S.rf
  have hl : lv_has ls 7 [(0, .ref (ad 0)), (1, .int (nI q)), (2, .int (nI i))] := hl
  obtain ⟨e0, e1, e2, e3, e4, e5, e6, e7, e8, e9, e10, e11, e12, e13, e14, e15, e16, e17, e18⟩ := hR
  refine lv_aload_n hx hb d_R_moves_0 rfl (lv_at hl 0 rfl) ?_
  refine kw_get hx hb hg in_R hown hK hP 0 (Nat.lt_of_lt_of_le (by decide : 0 < 19) hn) e0 rfl 22 (by decide) (hg _ kg_605) rfl rfl d_R_moves_1 ?_
  refine lv_iload_n hx hb d_R_moves_4 rfl (lv_at hl 1 rfl) ?_
  refine kw_iald hx hb hK hP 10 0 (Nat.lt_of_lt_of_le (by decide : 10 < 19) hn) e10 rfl q (rfl) (hq) (by omega) d_R_moves_5 ?_
  refine lv_istore_n (lv' := [(3, .int (nI (wh q))), (0, .ref (ad 0)), (1, .int (nI q)), (2, .int (nI i))]) hx hb d_R_moves_6 rfl hl (by decide) rfl (fun ls hl => ?_)
  refine lv_aload_n hx hb d_R_moves_7 rfl (lv_at hl 1 rfl) ?_
  refine kw_get hx hb hg in_R hown hK hP 0 (Nat.lt_of_lt_of_le (by decide : 0 < 19) hn) e0 rfl 23 (by decide) (hg _ kg_606) rfl rfl d_R_moves_8 ?_
  refine lv_iload_n hx hb d_R_moves_11 rfl (lv_at hl 2 rfl) ?_
  refine kw_iald hx hb hK hP 11 0 (Nat.lt_of_lt_of_le (by decide : 11 < 19) hn) e11 rfl q (rfl) (hq) (by omega) d_R_moves_12 ?_
  refine lv_istore (lv' := [(4, .int (nI (wd q))), (3, .int (nI (wh q))), (0, .ref (ad 0)), (1, .int (nI q)), (2, .int (nI i))]) hx hb d_R_moves_13 hl (by decide) rfl (fun ls hl => ?_)
  refine lv_aload_n hx hb d_R_moves_15 rfl (lv_at hl 2 rfl) ?_
  refine lv_iload_n hx hb d_R_moves_16 rfl (lv_at hl 3 rfl) ?_
  refine lv_iload_n hx hb d_R_moves_17 rfl (lv_at hl 4 rfl) ?_
  refine kw_callix (kw_rV (As := [.int (nI q), .int (nI i)]) (rest := []) (q0 := 0) ⟨hx, hb, hml, hown, hg⟩ ⟨callB_of 2 hg (kg_goodG kg_747) rfl rfl rfl (hg _ kg_7) (hg _ kg_744) (by decide +kernel) ⟨by decide, by decide⟩, hg _ kg_746, hg _ (kg_sel (q := (y_R_place, 31)) (by decide +kernel))⟩ (c_R_place l hn ⟨e0, e1, e2, e3, e4, e5, e6, e7, e8, e9, e10, e11, e12, e13, e14, e15, e16, e17, e18⟩ hq hk ho9 hb9 ) hK hP (Nat.lt_of_lt_of_le (by decide : 0 < 19) hn) e0 rfl rfl hl.1 rfl (Nat.le_of_ble_eq_true rfl) d_R_moves_18 ⟨Nat.zero_le _, Nat.zero_le _⟩) hA hS (fun H locs hP hS => ?_)
  rw [hp9]
  refine lv_istore (lv' := [(5, .int (nI pp)), (4, .int (nI (wd q))), (3, .int (nI (wh q))), (0, .ref (ad 0)), (1, .int (nI q)), (2, .int (nI i))]) hx hb d_R_moves_21 hl (by decide) rfl (fun ls hl => ?_)
  refine lv_aload_n hx hb d_R_moves_23 rfl (lv_at hl 3 rfl) ?_
  refine kw_get hx hb hg in_R hown hK hP 0 (Nat.lt_of_lt_of_le (by decide : 0 < 19) hn) e0 rfl 15 (by decide) (hg _ kg_598) rfl rfl d_R_moves_24 ?_
  refine lv_iload_n hx hb d_R_moves_27 rfl (lv_at hl 2 rfl) ?_
  refine kw_iald hx hb hK hP 4 0 (Nat.lt_of_lt_of_le (by decide : 4 < 19) hn) e4 rfl (wh q) (rfl) (hk) (by omega) d_R_moves_28 ?_
  refine lv_bipush (v := 18) hx hb d_R_moves_29 (by decide) ?_
  refine lv_icmp_ne (tgt := 85) hx hb d_R_moves_31 (by decide) (fun h1 => ?_) (fun h1 => ?_)
  · refine lv_iconst (v := 0) hx hb d_R_moves_85 (by decide) ?_
    refine lv_istore (lv' := [(6, .int 0), (5, .int (nI pp)), (4, .int (nI (wd q))), (3, .int (nI (wh q))), (0, .ref (ad 0)), (1, .int (nI q)), (2, .int (nI i))]) hx hb d_R_moves_86 hl (by decide) rfl (fun ls hl => ?_)
    have KXb : ∀ (H : Heap) (locs : List Loc) (ls : Array Slot), va_P D kc (kw_w ad (va_up cs 2 (.inl (cI, 64, .inl (kv_mv M (8 * pd (wh q) + i * wd q) pp (wd q) 0 F)))) n) H → va_S (kw_A ad n) s.heap H locs → lv_has ls 7 [(5, .int (nI pp)), (4, .int (nI (wd q))), (3, .int (nI (wh q))), (0, .ref (ad 0)), (1, .int (nI q)), (2, .int (nI i))] → W p l e (kr 3) s m [.ref (ad 0), .int (nI q), .int (nI i)].toArray below meth c H locs 0 0 (MQ below (va_Qv (fun c9 => c9 = va_up (va_up cs 2 (.inl (cI, 64, .inl (kv_R_movesF F M po pd wh wd q i pp)))) 3 (.inl (cI, 128, .inl (kv_R_movesM F M po pd wh wd q i pp)))) (kw_Pre D kc (ktR cI cZ) ad n) (kw_A ad n)) [.ref (ad 0), .int (nI q), .int (nI i)].toArray s 0 0 (kw_A ad n)) (F0 m 133 ls []) := by
      intro H locs ls hP hS hl
      have e0 : (va_up cs 2 (.inl (cI, 64, .inl (kv_mv M (8 * pd (wh q) + i * wd q) pp (wd q) 0 F)))) 0 = .inr (5, [.int (nI la), .int th, .int (nI st), .int nx, .int (nI wi), .int (nI gp), .int (nI vl), .int (nI sa), .int (nI bo), .int cy, .int sd, .ref (ad 1), .ref (ad 2), .ref (ad 3), .int (nI ma), .ref (ad 4), .ref (ad 5), .ref (ad 6), .ref (ad 7), .ref (ad 8), .ref (ad 9), .int (nI qu), .ref (ad 10), .ref (ad 11), .ref (ad 12), .ref (ad 13), .ref (ad 14), .ref (ad 15), .ref (ad 16), .ref (ad 17), .ref (ad 18)]) := (va_up_ne _ _ (by decide)).trans e0
      have e1 : (va_up cs 2 (.inl (cI, 64, .inl (kv_mv M (8 * pd (wh q) + i * wd q) pp (wd q) 0 F)))) 1 = .inl (cI, 8, .inl (X)) := (va_up_ne _ _ (by decide)).trans e1
      have e2 : (va_up cs 2 (.inl (cI, 64, .inl (kv_mv M (8 * pd (wh q) + i * wd q) pp (wd q) 0 F)))) 2 = .inl (cI, 64, .inl (kv_mv M (8 * pd (wh q) + i * wd q) pp (wd q) 0 F)) := va_up_self _ _ _
      have e3 : (va_up cs 2 (.inl (cI, 64, .inl (kv_mv M (8 * pd (wh q) + i * wd q) pp (wd q) 0 F)))) 3 = .inl (cI, 128, .inl (M)) := (va_up_ne _ _ (by decide)).trans e3
      have e4 : (va_up cs 2 (.inl (cI, 64, .inl (kv_mv M (8 * pd (wh q) + i * wd q) pp (wd q) 0 F)))) 4 = .inl (cI, 40, .inl (fun i => nI (po i))) := (va_up_ne _ _ (by decide)).trans e4
      have e5 : (va_up cs 2 (.inl (cI, 64, .inl (kv_mv M (8 * pd (wh q) + i * wd q) pp (wd q) 0 F)))) 5 = .inl (cI, 40, .inl (fun i => nI (pd i))) := (va_up_ne _ _ (by decide)).trans e5
      have e6 : (va_up cs 2 (.inl (cI, 64, .inl (kv_mv M (8 * pd (wh q) + i * wd q) pp (wd q) 0 F)))) 6 = .inl (cI, 40, .inl (fun i => nI (pa i))) := (va_up_ne _ _ (by decide)).trans e6
      have e7 : (va_up cs 2 (.inl (cI, 64, .inl (kv_mv M (8 * pd (wh q) + i * wd q) pp (wd q) 0 F)))) 7 = .inl (cI, 40, .inl (fun i => nI (pb i))) := (va_up_ne _ _ (by decide)).trans e7
      have e8 : (va_up cs 2 (.inl (cI, 64, .inl (kv_mv M (8 * pd (wh q) + i * wd q) pp (wd q) 0 F)))) 8 = .inl (cI, 40, .inl (pn)) := (va_up_ne _ _ (by decide)).trans e8
      have e9 : (va_up cs 2 (.inl (cI, 64, .inl (kv_mv M (8 * pd (wh q) + i * wd q) pp (wd q) 0 F)))) 9 = .inl (cZ, 40, .inl (pm)) := (va_up_ne _ _ (by decide)).trans e9
      have e10 : (va_up cs 2 (.inl (cI, 64, .inl (kv_mv M (8 * pd (wh q) + i * wd q) pp (wd q) 0 F)))) 10 = .inl (cI, 5, .inl (fun i => nI (wh i))) := (va_up_ne _ _ (by decide)).trans e10
      have e11 : (va_up cs 2 (.inl (cI, 64, .inl (kv_mv M (8 * pd (wh q) + i * wd q) pp (wd q) 0 F)))) 11 = .inl (cI, 5, .inl (fun i => nI (wd i))) := (va_up_ne _ _ (by decide)).trans e11
      have e12 : (va_up cs 2 (.inl (cI, 64, .inl (kv_mv M (8 * pd (wh q) + i * wd q) pp (wd q) 0 F)))) 12 = .inl (cI, 5, .inl (fun i => nI (rg i))) := (va_up_ne _ _ (by decide)).trans e12
      have e13 : (va_up cs 2 (.inl (cI, 64, .inl (kv_mv M (8 * pd (wh q) + i * wd q) pp (wd q) 0 F)))) 13 = .inl (cI, 5, .inl (fun i => nI (fr i))) := (va_up_ne _ _ (by decide)).trans e13
      have e14 : (va_up cs 2 (.inl (cI, 64, .inl (kv_mv M (8 * pd (wh q) + i * wd q) pp (wd q) 0 F)))) 14 = .inl (cI, 5, .inl (fun i => nI (sp i))) := (va_up_ne _ _ (by decide)).trans e14
      have e15 : (va_up cs 2 (.inl (cI, 64, .inl (kv_mv M (8 * pd (wh q) + i * wd q) pp (wd q) 0 F)))) 15 = .inl (cI, 5, .inl (fun i => nI (dn i))) := (va_up_ne _ _ (by decide)).trans e15
      have e16 : (va_up cs 2 (.inl (cI, 64, .inl (kv_mv M (8 * pd (wh q) + i * wd q) pp (wd q) 0 F)))) 16 = .inl (cI, 5, .inl (fun i => nI (bf i))) := (va_up_ne _ _ (by decide)).trans e16
      have e17 : (va_up cs 2 (.inl (cI, 64, .inl (kv_mv M (8 * pd (wh q) + i * wd q) pp (wd q) 0 F)))) 17 = .inl (cI, 5, .inl (XA)) := (va_up_ne _ _ (by decide)).trans e17
      have e18 : (va_up cs 2 (.inl (cI, 64, .inl (kv_mv M (8 * pd (wh q) + i * wd q) pp (wd q) 0 F)))) 18 = .inl (cI, 5, .inl (XB)) := (va_up_ne _ _ (by decide)).trans e18
      exact kw_vret hx hb hr hlocks hP hK hS (by rw [show kv_R_movesM F M po pd wh wd q i pp = M from (by rw [kv_R_movesM, if_neg h1]), show kv_R_movesF F M po pd wh wd q i pp = kv_mv M (8 * pd (wh q) + i * wd q) pp (wd q) 0 F from (by rw [kv_R_movesF, if_neg h1]), kw_id e3]) d_R_moves_133
    have loopb : ∀ (kk : Nat) (b : Nat) (G : Nat → Int32) (H : Heap) (locs : List Loc) (ls : Array Slot), b + kk = wd q → kv_mv M (8 * pd (wh q) + i * wd q) pp (wd q) 0 F = kv_mv M (8 * pd (wh q) + i * wd q) pp kk b G → va_P D kc (kw_w ad (va_up cs 2 (.inl (cI, 64, .inl (G)))) n) H → va_S (kw_A ad n) s.heap H locs → lv_has ls 7 [(6, .int (nI b)), (5, .int (nI pp)), (4, .int (nI (wd q))), (3, .int (nI (wh q))), (0, .ref (ad 0)), (1, .int (nI q)), (2, .int (nI i))] → W p l e (kr 3) s m [.ref (ad 0), .int (nI q), .int (nI i)].toArray below meth c H locs 0 0 (MQ below (va_Qv (fun c9 => c9 = va_up (va_up cs 2 (.inl (cI, 64, .inl (kv_R_movesF F M po pd wh wd q i pp)))) 3 (.inl (cI, 128, .inl (kv_R_movesM F M po pd wh wd q i pp)))) (kw_Pre D kc (ktR cI cZ) ad n) (kw_A ad n)) [.ref (ad 0), .int (nI q), .int (nI i)].toArray s 0 0 (kw_A ad n)) (F0 m 88 ls []) := by
      intro kk
      induction kk with
      | zero =>
        intro b G H locs ls hbk hv hP hS hl
        have e0 : (va_up cs 2 (.inl (cI, 64, .inl (G)))) 0 = .inr (5, [.int (nI la), .int th, .int (nI st), .int nx, .int (nI wi), .int (nI gp), .int (nI vl), .int (nI sa), .int (nI bo), .int cy, .int sd, .ref (ad 1), .ref (ad 2), .ref (ad 3), .int (nI ma), .ref (ad 4), .ref (ad 5), .ref (ad 6), .ref (ad 7), .ref (ad 8), .ref (ad 9), .int (nI qu), .ref (ad 10), .ref (ad 11), .ref (ad 12), .ref (ad 13), .ref (ad 14), .ref (ad 15), .ref (ad 16), .ref (ad 17), .ref (ad 18)]) := (va_up_ne _ _ (by decide)).trans e0
        have e1 : (va_up cs 2 (.inl (cI, 64, .inl (G)))) 1 = .inl (cI, 8, .inl (X)) := (va_up_ne _ _ (by decide)).trans e1
        have e2 : (va_up cs 2 (.inl (cI, 64, .inl (G)))) 2 = .inl (cI, 64, .inl (G)) := va_up_self _ _ _
        have e3 : (va_up cs 2 (.inl (cI, 64, .inl (G)))) 3 = .inl (cI, 128, .inl (M)) := (va_up_ne _ _ (by decide)).trans e3
        have e4 : (va_up cs 2 (.inl (cI, 64, .inl (G)))) 4 = .inl (cI, 40, .inl (fun i => nI (po i))) := (va_up_ne _ _ (by decide)).trans e4
        have e5 : (va_up cs 2 (.inl (cI, 64, .inl (G)))) 5 = .inl (cI, 40, .inl (fun i => nI (pd i))) := (va_up_ne _ _ (by decide)).trans e5
        have e6 : (va_up cs 2 (.inl (cI, 64, .inl (G)))) 6 = .inl (cI, 40, .inl (fun i => nI (pa i))) := (va_up_ne _ _ (by decide)).trans e6
        have e7 : (va_up cs 2 (.inl (cI, 64, .inl (G)))) 7 = .inl (cI, 40, .inl (fun i => nI (pb i))) := (va_up_ne _ _ (by decide)).trans e7
        have e8 : (va_up cs 2 (.inl (cI, 64, .inl (G)))) 8 = .inl (cI, 40, .inl (pn)) := (va_up_ne _ _ (by decide)).trans e8
        have e9 : (va_up cs 2 (.inl (cI, 64, .inl (G)))) 9 = .inl (cZ, 40, .inl (pm)) := (va_up_ne _ _ (by decide)).trans e9
        have e10 : (va_up cs 2 (.inl (cI, 64, .inl (G)))) 10 = .inl (cI, 5, .inl (fun i => nI (wh i))) := (va_up_ne _ _ (by decide)).trans e10
        have e11 : (va_up cs 2 (.inl (cI, 64, .inl (G)))) 11 = .inl (cI, 5, .inl (fun i => nI (wd i))) := (va_up_ne _ _ (by decide)).trans e11
        have e12 : (va_up cs 2 (.inl (cI, 64, .inl (G)))) 12 = .inl (cI, 5, .inl (fun i => nI (rg i))) := (va_up_ne _ _ (by decide)).trans e12
        have e13 : (va_up cs 2 (.inl (cI, 64, .inl (G)))) 13 = .inl (cI, 5, .inl (fun i => nI (fr i))) := (va_up_ne _ _ (by decide)).trans e13
        have e14 : (va_up cs 2 (.inl (cI, 64, .inl (G)))) 14 = .inl (cI, 5, .inl (fun i => nI (sp i))) := (va_up_ne _ _ (by decide)).trans e14
        have e15 : (va_up cs 2 (.inl (cI, 64, .inl (G)))) 15 = .inl (cI, 5, .inl (fun i => nI (dn i))) := (va_up_ne _ _ (by decide)).trans e15
        have e16 : (va_up cs 2 (.inl (cI, 64, .inl (G)))) 16 = .inl (cI, 5, .inl (fun i => nI (bf i))) := (va_up_ne _ _ (by decide)).trans e16
        have e17 : (va_up cs 2 (.inl (cI, 64, .inl (G)))) 17 = .inl (cI, 5, .inl (XA)) := (va_up_ne _ _ (by decide)).trans e17
        have e18 : (va_up cs 2 (.inl (cI, 64, .inl (G)))) 18 = .inl (cI, 5, .inl (XB)) := (va_up_ne _ _ (by decide)).trans e18
        refine lv_iload hx hb d_R_moves_88 (lv_at hl 0 rfl) ?_
        refine lv_iload hx hb d_R_moves_90 (lv_at hl 2 rfl) ?_
        refine lv_icmp_ge (tgt := 133) hx hb d_R_moves_92 (by decide) (fun _ => ?_) (fun h2 => absurd (nI_le (by omega) (by omega)) h2)
        exact KXb _ _ _ (by rw [show kv_mv M (8 * pd (wh q) + i * wd q) pp (wd q) 0 F = G from hv]; exact hP) hS (by exact lv_sub hl [1, 2, 3, 4, 5, 6] rfl)
      | succ j ihb =>
        intro b G H locs ls hbk hv hP hS hl
        have e0 : (va_up cs 2 (.inl (cI, 64, .inl (G)))) 0 = .inr (5, [.int (nI la), .int th, .int (nI st), .int nx, .int (nI wi), .int (nI gp), .int (nI vl), .int (nI sa), .int (nI bo), .int cy, .int sd, .ref (ad 1), .ref (ad 2), .ref (ad 3), .int (nI ma), .ref (ad 4), .ref (ad 5), .ref (ad 6), .ref (ad 7), .ref (ad 8), .ref (ad 9), .int (nI qu), .ref (ad 10), .ref (ad 11), .ref (ad 12), .ref (ad 13), .ref (ad 14), .ref (ad 15), .ref (ad 16), .ref (ad 17), .ref (ad 18)]) := (va_up_ne _ _ (by decide)).trans e0
        have e1 : (va_up cs 2 (.inl (cI, 64, .inl (G)))) 1 = .inl (cI, 8, .inl (X)) := (va_up_ne _ _ (by decide)).trans e1
        have e2 : (va_up cs 2 (.inl (cI, 64, .inl (G)))) 2 = .inl (cI, 64, .inl (G)) := va_up_self _ _ _
        have e3 : (va_up cs 2 (.inl (cI, 64, .inl (G)))) 3 = .inl (cI, 128, .inl (M)) := (va_up_ne _ _ (by decide)).trans e3
        have e4 : (va_up cs 2 (.inl (cI, 64, .inl (G)))) 4 = .inl (cI, 40, .inl (fun i => nI (po i))) := (va_up_ne _ _ (by decide)).trans e4
        have e5 : (va_up cs 2 (.inl (cI, 64, .inl (G)))) 5 = .inl (cI, 40, .inl (fun i => nI (pd i))) := (va_up_ne _ _ (by decide)).trans e5
        have e6 : (va_up cs 2 (.inl (cI, 64, .inl (G)))) 6 = .inl (cI, 40, .inl (fun i => nI (pa i))) := (va_up_ne _ _ (by decide)).trans e6
        have e7 : (va_up cs 2 (.inl (cI, 64, .inl (G)))) 7 = .inl (cI, 40, .inl (fun i => nI (pb i))) := (va_up_ne _ _ (by decide)).trans e7
        have e8 : (va_up cs 2 (.inl (cI, 64, .inl (G)))) 8 = .inl (cI, 40, .inl (pn)) := (va_up_ne _ _ (by decide)).trans e8
        have e9 : (va_up cs 2 (.inl (cI, 64, .inl (G)))) 9 = .inl (cZ, 40, .inl (pm)) := (va_up_ne _ _ (by decide)).trans e9
        have e10 : (va_up cs 2 (.inl (cI, 64, .inl (G)))) 10 = .inl (cI, 5, .inl (fun i => nI (wh i))) := (va_up_ne _ _ (by decide)).trans e10
        have e11 : (va_up cs 2 (.inl (cI, 64, .inl (G)))) 11 = .inl (cI, 5, .inl (fun i => nI (wd i))) := (va_up_ne _ _ (by decide)).trans e11
        have e12 : (va_up cs 2 (.inl (cI, 64, .inl (G)))) 12 = .inl (cI, 5, .inl (fun i => nI (rg i))) := (va_up_ne _ _ (by decide)).trans e12
        have e13 : (va_up cs 2 (.inl (cI, 64, .inl (G)))) 13 = .inl (cI, 5, .inl (fun i => nI (fr i))) := (va_up_ne _ _ (by decide)).trans e13
        have e14 : (va_up cs 2 (.inl (cI, 64, .inl (G)))) 14 = .inl (cI, 5, .inl (fun i => nI (sp i))) := (va_up_ne _ _ (by decide)).trans e14
        have e15 : (va_up cs 2 (.inl (cI, 64, .inl (G)))) 15 = .inl (cI, 5, .inl (fun i => nI (dn i))) := (va_up_ne _ _ (by decide)).trans e15
        have e16 : (va_up cs 2 (.inl (cI, 64, .inl (G)))) 16 = .inl (cI, 5, .inl (fun i => nI (bf i))) := (va_up_ne _ _ (by decide)).trans e16
        have e17 : (va_up cs 2 (.inl (cI, 64, .inl (G)))) 17 = .inl (cI, 5, .inl (XA)) := (va_up_ne _ _ (by decide)).trans e17
        have e18 : (va_up cs 2 (.inl (cI, 64, .inl (G)))) 18 = .inl (cI, 5, .inl (XB)) := (va_up_ne _ _ (by decide)).trans e18
        refine lv_iload hx hb d_R_moves_88 (lv_at hl 0 rfl) ?_
        refine lv_iload hx hb d_R_moves_90 (lv_at hl 2 rfl) ?_
        refine lv_icmp_ge (tgt := 133) hx hb d_R_moves_92 (by decide) (fun h3 => absurd h3 (nI_ge (by omega) (by omega))) (fun _ => ?_)
        refine lv_aload_n hx hb d_R_moves_95 rfl (lv_at hl 4 rfl) ?_
        refine kw_get hx hb hg in_R hown hK hP 0 (Nat.lt_of_lt_of_le (by decide : 0 < 19) hn) e0 rfl 12 (by decide) (hg _ kg_595) rfl rfl d_R_moves_96 ?_
        refine lv_bipush (v := 8) hx hb d_R_moves_99 (by decide) ?_
        refine lv_aload_n hx hb d_R_moves_101 rfl (lv_at hl 4 rfl) ?_
        refine kw_get hx hb hg in_R hown hK hP 0 (Nat.lt_of_lt_of_le (by decide : 0 < 19) hn) e0 rfl 16 (by decide) (hg _ kg_599) rfl rfl d_R_moves_102 ?_
        refine lv_iload_n hx hb d_R_moves_105 rfl (lv_at hl 3 rfl) ?_
        refine kw_iald hx hb hK hP 5 0 (Nat.lt_of_lt_of_le (by decide : 5 < 19) hn) e5 rfl (wh q) (rfl) (hk) (by omega) d_R_moves_106 ?_
        refine lv_imul hx hb d_R_moves_107 ?_
        refine lv_iload_n hx hb d_R_moves_108 rfl (lv_at hl 6 rfl) ?_
        refine lv_iload hx hb d_R_moves_109 (lv_at hl 2 rfl) ?_
        refine lv_imul hx hb d_R_moves_111 ?_
        refine lv_iadd hx hb d_R_moves_112 ?_
        refine lv_iload hx hb d_R_moves_113 (lv_at hl 0 rfl) ?_
        refine lv_iadd hx hb d_R_moves_115 ?_
        refine lv_aload_n hx hb d_R_moves_116 rfl (lv_at hl 4 rfl) ?_
        refine kw_get hx hb hg in_R hown hK hP 0 (Nat.lt_of_lt_of_le (by decide : 0 < 19) hn) e0 rfl 13 (by decide) (hg _ kg_596) rfl rfl d_R_moves_117 ?_
        refine lv_iload hx hb d_R_moves_120 (lv_at hl 1 rfl) ?_
        refine lv_iload hx hb d_R_moves_122 (lv_at hl 0 rfl) ?_
        refine lv_iadd hx hb d_R_moves_124 ?_
        refine kw_iald hx hb hK hP 3 0 (Nat.lt_of_lt_of_le (by decide : 3 < 19) hn) e3 rfl (pp + b) (by rw [nI_add]) (by omega) (by omega) d_R_moves_125 ?_
        refine kw_iast hx hb hK hP hJ hA hS 2 0 (Nat.lt_of_lt_of_le (by decide : 2 < 19) hn) e2 rfl (8 * pd (wh q) + i * wd q + b) (by rw [show (8 : Int32) = nI 8 from rfl, pk_mul, pk_mul, nI_add, nI_add]) (by omega) (by omega) d_R_moves_126 (fun H locs hP hS => ?_)
        have e0 : (va_up (va_up cs 2 (.inl (cI, 64, .inl (G)))) 2 (.inl (cI, 64, .inl (upd G (8 * pd (wh q) + i * wd q + b) (M (pp + b)))))) 0 = .inr (5, [.int (nI la), .int th, .int (nI st), .int nx, .int (nI wi), .int (nI gp), .int (nI vl), .int (nI sa), .int (nI bo), .int cy, .int sd, .ref (ad 1), .ref (ad 2), .ref (ad 3), .int (nI ma), .ref (ad 4), .ref (ad 5), .ref (ad 6), .ref (ad 7), .ref (ad 8), .ref (ad 9), .int (nI qu), .ref (ad 10), .ref (ad 11), .ref (ad 12), .ref (ad 13), .ref (ad 14), .ref (ad 15), .ref (ad 16), .ref (ad 17), .ref (ad 18)]) := (va_up_ne _ _ (by decide)).trans e0
        have e1 : (va_up (va_up cs 2 (.inl (cI, 64, .inl (G)))) 2 (.inl (cI, 64, .inl (upd G (8 * pd (wh q) + i * wd q + b) (M (pp + b)))))) 1 = .inl (cI, 8, .inl (X)) := (va_up_ne _ _ (by decide)).trans e1
        have e2 : (va_up (va_up cs 2 (.inl (cI, 64, .inl (G)))) 2 (.inl (cI, 64, .inl (upd G (8 * pd (wh q) + i * wd q + b) (M (pp + b)))))) 2 = .inl (cI, 64, .inl (upd G (8 * pd (wh q) + i * wd q + b) (M (pp + b)))) := va_up_self _ _ _
        have e3 : (va_up (va_up cs 2 (.inl (cI, 64, .inl (G)))) 2 (.inl (cI, 64, .inl (upd G (8 * pd (wh q) + i * wd q + b) (M (pp + b)))))) 3 = .inl (cI, 128, .inl (M)) := (va_up_ne _ _ (by decide)).trans e3
        have e4 : (va_up (va_up cs 2 (.inl (cI, 64, .inl (G)))) 2 (.inl (cI, 64, .inl (upd G (8 * pd (wh q) + i * wd q + b) (M (pp + b)))))) 4 = .inl (cI, 40, .inl (fun i => nI (po i))) := (va_up_ne _ _ (by decide)).trans e4
        have e5 : (va_up (va_up cs 2 (.inl (cI, 64, .inl (G)))) 2 (.inl (cI, 64, .inl (upd G (8 * pd (wh q) + i * wd q + b) (M (pp + b)))))) 5 = .inl (cI, 40, .inl (fun i => nI (pd i))) := (va_up_ne _ _ (by decide)).trans e5
        have e6 : (va_up (va_up cs 2 (.inl (cI, 64, .inl (G)))) 2 (.inl (cI, 64, .inl (upd G (8 * pd (wh q) + i * wd q + b) (M (pp + b)))))) 6 = .inl (cI, 40, .inl (fun i => nI (pa i))) := (va_up_ne _ _ (by decide)).trans e6
        have e7 : (va_up (va_up cs 2 (.inl (cI, 64, .inl (G)))) 2 (.inl (cI, 64, .inl (upd G (8 * pd (wh q) + i * wd q + b) (M (pp + b)))))) 7 = .inl (cI, 40, .inl (fun i => nI (pb i))) := (va_up_ne _ _ (by decide)).trans e7
        have e8 : (va_up (va_up cs 2 (.inl (cI, 64, .inl (G)))) 2 (.inl (cI, 64, .inl (upd G (8 * pd (wh q) + i * wd q + b) (M (pp + b)))))) 8 = .inl (cI, 40, .inl (pn)) := (va_up_ne _ _ (by decide)).trans e8
        have e9 : (va_up (va_up cs 2 (.inl (cI, 64, .inl (G)))) 2 (.inl (cI, 64, .inl (upd G (8 * pd (wh q) + i * wd q + b) (M (pp + b)))))) 9 = .inl (cZ, 40, .inl (pm)) := (va_up_ne _ _ (by decide)).trans e9
        have e10 : (va_up (va_up cs 2 (.inl (cI, 64, .inl (G)))) 2 (.inl (cI, 64, .inl (upd G (8 * pd (wh q) + i * wd q + b) (M (pp + b)))))) 10 = .inl (cI, 5, .inl (fun i => nI (wh i))) := (va_up_ne _ _ (by decide)).trans e10
        have e11 : (va_up (va_up cs 2 (.inl (cI, 64, .inl (G)))) 2 (.inl (cI, 64, .inl (upd G (8 * pd (wh q) + i * wd q + b) (M (pp + b)))))) 11 = .inl (cI, 5, .inl (fun i => nI (wd i))) := (va_up_ne _ _ (by decide)).trans e11
        have e12 : (va_up (va_up cs 2 (.inl (cI, 64, .inl (G)))) 2 (.inl (cI, 64, .inl (upd G (8 * pd (wh q) + i * wd q + b) (M (pp + b)))))) 12 = .inl (cI, 5, .inl (fun i => nI (rg i))) := (va_up_ne _ _ (by decide)).trans e12
        have e13 : (va_up (va_up cs 2 (.inl (cI, 64, .inl (G)))) 2 (.inl (cI, 64, .inl (upd G (8 * pd (wh q) + i * wd q + b) (M (pp + b)))))) 13 = .inl (cI, 5, .inl (fun i => nI (fr i))) := (va_up_ne _ _ (by decide)).trans e13
        have e14 : (va_up (va_up cs 2 (.inl (cI, 64, .inl (G)))) 2 (.inl (cI, 64, .inl (upd G (8 * pd (wh q) + i * wd q + b) (M (pp + b)))))) 14 = .inl (cI, 5, .inl (fun i => nI (sp i))) := (va_up_ne _ _ (by decide)).trans e14
        have e15 : (va_up (va_up cs 2 (.inl (cI, 64, .inl (G)))) 2 (.inl (cI, 64, .inl (upd G (8 * pd (wh q) + i * wd q + b) (M (pp + b)))))) 15 = .inl (cI, 5, .inl (fun i => nI (dn i))) := (va_up_ne _ _ (by decide)).trans e15
        have e16 : (va_up (va_up cs 2 (.inl (cI, 64, .inl (G)))) 2 (.inl (cI, 64, .inl (upd G (8 * pd (wh q) + i * wd q + b) (M (pp + b)))))) 16 = .inl (cI, 5, .inl (fun i => nI (bf i))) := (va_up_ne _ _ (by decide)).trans e16
        have e17 : (va_up (va_up cs 2 (.inl (cI, 64, .inl (G)))) 2 (.inl (cI, 64, .inl (upd G (8 * pd (wh q) + i * wd q + b) (M (pp + b)))))) 17 = .inl (cI, 5, .inl (XA)) := (va_up_ne _ _ (by decide)).trans e17
        have e18 : (va_up (va_up cs 2 (.inl (cI, 64, .inl (G)))) 2 (.inl (cI, 64, .inl (upd G (8 * pd (wh q) + i * wd q + b) (M (pp + b)))))) 18 = .inl (cI, 5, .inl (XB)) := (va_up_ne _ _ (by decide)).trans e18
        refine lv_iinc (k := 0) (v := nI (b + 1)) (lv' := [(6, .int (nI (b + 1))), (5, .int (nI pp)), (4, .int (nI (wd q))), (3, .int (nI (wh q))), (0, .ref (ad 0)), (1, .int (nI q)), (2, .int (nI i))]) hx hb d_R_moves_127 hl rfl ((nI_succ b).symm) (by decide) rfl (fun ls hl => ?_)
        refine lv_goto (tgt := 88) hx hb d_R_moves_130 (by decide) ?_
        exact ihb ((b + 1)) _ _ _ _ (by omega) (hv) (by rw [bx_uu] at hP; exact hP) hS (lv_sub hl [0, 1, 2, 3, 4, 5, 6] rfl)
    exact loopb (wd q) 0 F _ _ _ (by omega) (rfl) (by rw [kw_id e2]; exact hP) hS (lv_sub hl [0, 1, 2, 3, 4, 5, 6] rfl)
  · refine lv_iconst (v := 0) hx hb d_R_moves_34 (by decide) ?_
    refine lv_istore (lv' := [(6, .int 0), (5, .int (nI pp)), (4, .int (nI (wd q))), (3, .int (nI (wh q))), (0, .ref (ad 0)), (1, .int (nI q)), (2, .int (nI i))]) hx hb d_R_moves_35 hl (by decide) rfl (fun ls hl => ?_)
    have KXa : ∀ (H : Heap) (locs : List Loc) (ls : Array Slot), va_P D kc (kw_w ad (va_up cs 3 (.inl (cI, 128, .inl (kv_mv F pp (8 * pd (wh q) + i * wd q) (wd q) 0 M)))) n) H → va_S (kw_A ad n) s.heap H locs → lv_has ls 7 [(5, .int (nI pp)), (4, .int (nI (wd q))), (3, .int (nI (wh q))), (0, .ref (ad 0)), (1, .int (nI q)), (2, .int (nI i))] → W p l e (kr 3) s m [.ref (ad 0), .int (nI q), .int (nI i)].toArray below meth c H locs 0 0 (MQ below (va_Qv (fun c9 => c9 = va_up (va_up cs 2 (.inl (cI, 64, .inl (kv_R_movesF F M po pd wh wd q i pp)))) 3 (.inl (cI, 128, .inl (kv_R_movesM F M po pd wh wd q i pp)))) (kw_Pre D kc (ktR cI cZ) ad n) (kw_A ad n)) [.ref (ad 0), .int (nI q), .int (nI i)].toArray s 0 0 (kw_A ad n)) (F0 m 82 ls []) := by
      intro H locs ls hP hS hl
      have e0 : (va_up cs 3 (.inl (cI, 128, .inl (kv_mv F pp (8 * pd (wh q) + i * wd q) (wd q) 0 M)))) 0 = .inr (5, [.int (nI la), .int th, .int (nI st), .int nx, .int (nI wi), .int (nI gp), .int (nI vl), .int (nI sa), .int (nI bo), .int cy, .int sd, .ref (ad 1), .ref (ad 2), .ref (ad 3), .int (nI ma), .ref (ad 4), .ref (ad 5), .ref (ad 6), .ref (ad 7), .ref (ad 8), .ref (ad 9), .int (nI qu), .ref (ad 10), .ref (ad 11), .ref (ad 12), .ref (ad 13), .ref (ad 14), .ref (ad 15), .ref (ad 16), .ref (ad 17), .ref (ad 18)]) := (va_up_ne _ _ (by decide)).trans e0
      have e1 : (va_up cs 3 (.inl (cI, 128, .inl (kv_mv F pp (8 * pd (wh q) + i * wd q) (wd q) 0 M)))) 1 = .inl (cI, 8, .inl (X)) := (va_up_ne _ _ (by decide)).trans e1
      have e2 : (va_up cs 3 (.inl (cI, 128, .inl (kv_mv F pp (8 * pd (wh q) + i * wd q) (wd q) 0 M)))) 2 = .inl (cI, 64, .inl (F)) := (va_up_ne _ _ (by decide)).trans e2
      have e3 : (va_up cs 3 (.inl (cI, 128, .inl (kv_mv F pp (8 * pd (wh q) + i * wd q) (wd q) 0 M)))) 3 = .inl (cI, 128, .inl (kv_mv F pp (8 * pd (wh q) + i * wd q) (wd q) 0 M)) := va_up_self _ _ _
      have e4 : (va_up cs 3 (.inl (cI, 128, .inl (kv_mv F pp (8 * pd (wh q) + i * wd q) (wd q) 0 M)))) 4 = .inl (cI, 40, .inl (fun i => nI (po i))) := (va_up_ne _ _ (by decide)).trans e4
      have e5 : (va_up cs 3 (.inl (cI, 128, .inl (kv_mv F pp (8 * pd (wh q) + i * wd q) (wd q) 0 M)))) 5 = .inl (cI, 40, .inl (fun i => nI (pd i))) := (va_up_ne _ _ (by decide)).trans e5
      have e6 : (va_up cs 3 (.inl (cI, 128, .inl (kv_mv F pp (8 * pd (wh q) + i * wd q) (wd q) 0 M)))) 6 = .inl (cI, 40, .inl (fun i => nI (pa i))) := (va_up_ne _ _ (by decide)).trans e6
      have e7 : (va_up cs 3 (.inl (cI, 128, .inl (kv_mv F pp (8 * pd (wh q) + i * wd q) (wd q) 0 M)))) 7 = .inl (cI, 40, .inl (fun i => nI (pb i))) := (va_up_ne _ _ (by decide)).trans e7
      have e8 : (va_up cs 3 (.inl (cI, 128, .inl (kv_mv F pp (8 * pd (wh q) + i * wd q) (wd q) 0 M)))) 8 = .inl (cI, 40, .inl (pn)) := (va_up_ne _ _ (by decide)).trans e8
      have e9 : (va_up cs 3 (.inl (cI, 128, .inl (kv_mv F pp (8 * pd (wh q) + i * wd q) (wd q) 0 M)))) 9 = .inl (cZ, 40, .inl (pm)) := (va_up_ne _ _ (by decide)).trans e9
      have e10 : (va_up cs 3 (.inl (cI, 128, .inl (kv_mv F pp (8 * pd (wh q) + i * wd q) (wd q) 0 M)))) 10 = .inl (cI, 5, .inl (fun i => nI (wh i))) := (va_up_ne _ _ (by decide)).trans e10
      have e11 : (va_up cs 3 (.inl (cI, 128, .inl (kv_mv F pp (8 * pd (wh q) + i * wd q) (wd q) 0 M)))) 11 = .inl (cI, 5, .inl (fun i => nI (wd i))) := (va_up_ne _ _ (by decide)).trans e11
      have e12 : (va_up cs 3 (.inl (cI, 128, .inl (kv_mv F pp (8 * pd (wh q) + i * wd q) (wd q) 0 M)))) 12 = .inl (cI, 5, .inl (fun i => nI (rg i))) := (va_up_ne _ _ (by decide)).trans e12
      have e13 : (va_up cs 3 (.inl (cI, 128, .inl (kv_mv F pp (8 * pd (wh q) + i * wd q) (wd q) 0 M)))) 13 = .inl (cI, 5, .inl (fun i => nI (fr i))) := (va_up_ne _ _ (by decide)).trans e13
      have e14 : (va_up cs 3 (.inl (cI, 128, .inl (kv_mv F pp (8 * pd (wh q) + i * wd q) (wd q) 0 M)))) 14 = .inl (cI, 5, .inl (fun i => nI (sp i))) := (va_up_ne _ _ (by decide)).trans e14
      have e15 : (va_up cs 3 (.inl (cI, 128, .inl (kv_mv F pp (8 * pd (wh q) + i * wd q) (wd q) 0 M)))) 15 = .inl (cI, 5, .inl (fun i => nI (dn i))) := (va_up_ne _ _ (by decide)).trans e15
      have e16 : (va_up cs 3 (.inl (cI, 128, .inl (kv_mv F pp (8 * pd (wh q) + i * wd q) (wd q) 0 M)))) 16 = .inl (cI, 5, .inl (fun i => nI (bf i))) := (va_up_ne _ _ (by decide)).trans e16
      have e17 : (va_up cs 3 (.inl (cI, 128, .inl (kv_mv F pp (8 * pd (wh q) + i * wd q) (wd q) 0 M)))) 17 = .inl (cI, 5, .inl (XA)) := (va_up_ne _ _ (by decide)).trans e17
      have e18 : (va_up cs 3 (.inl (cI, 128, .inl (kv_mv F pp (8 * pd (wh q) + i * wd q) (wd q) 0 M)))) 18 = .inl (cI, 5, .inl (XB)) := (va_up_ne _ _ (by decide)).trans e18
      refine lv_goto (tgt := 133) hx hb d_R_moves_82 (by decide) ?_
      exact kw_vret hx hb hr hlocks hP hK hS (by rw [show kv_R_movesF F M po pd wh wd q i pp = F from (by rw [kv_R_movesF, if_pos h1]), show kv_R_movesM F M po pd wh wd q i pp = kv_mv F pp (8 * pd (wh q) + i * wd q) (wd q) 0 M from (by rw [kv_R_movesM, if_pos h1]), kw_id ((va_up_ne _ _ (by decide)).symm.trans e2)]) d_R_moves_133
    have loopa : ∀ (kk : Nat) (b : Nat) (G : Nat → Int32) (H : Heap) (locs : List Loc) (ls : Array Slot), b + kk = wd q → kv_mv F pp (8 * pd (wh q) + i * wd q) (wd q) 0 M = kv_mv F pp (8 * pd (wh q) + i * wd q) kk b G → va_P D kc (kw_w ad (va_up cs 3 (.inl (cI, 128, .inl (G)))) n) H → va_S (kw_A ad n) s.heap H locs → lv_has ls 7 [(6, .int (nI b)), (5, .int (nI pp)), (4, .int (nI (wd q))), (3, .int (nI (wh q))), (0, .ref (ad 0)), (1, .int (nI q)), (2, .int (nI i))] → W p l e (kr 3) s m [.ref (ad 0), .int (nI q), .int (nI i)].toArray below meth c H locs 0 0 (MQ below (va_Qv (fun c9 => c9 = va_up (va_up cs 2 (.inl (cI, 64, .inl (kv_R_movesF F M po pd wh wd q i pp)))) 3 (.inl (cI, 128, .inl (kv_R_movesM F M po pd wh wd q i pp)))) (kw_Pre D kc (ktR cI cZ) ad n) (kw_A ad n)) [.ref (ad 0), .int (nI q), .int (nI i)].toArray s 0 0 (kw_A ad n)) (F0 m 37 ls []) := by
      intro kk
      induction kk with
      | zero =>
        intro b G H locs ls hbk hv hP hS hl
        have e0 : (va_up cs 3 (.inl (cI, 128, .inl (G)))) 0 = .inr (5, [.int (nI la), .int th, .int (nI st), .int nx, .int (nI wi), .int (nI gp), .int (nI vl), .int (nI sa), .int (nI bo), .int cy, .int sd, .ref (ad 1), .ref (ad 2), .ref (ad 3), .int (nI ma), .ref (ad 4), .ref (ad 5), .ref (ad 6), .ref (ad 7), .ref (ad 8), .ref (ad 9), .int (nI qu), .ref (ad 10), .ref (ad 11), .ref (ad 12), .ref (ad 13), .ref (ad 14), .ref (ad 15), .ref (ad 16), .ref (ad 17), .ref (ad 18)]) := (va_up_ne _ _ (by decide)).trans e0
        have e1 : (va_up cs 3 (.inl (cI, 128, .inl (G)))) 1 = .inl (cI, 8, .inl (X)) := (va_up_ne _ _ (by decide)).trans e1
        have e2 : (va_up cs 3 (.inl (cI, 128, .inl (G)))) 2 = .inl (cI, 64, .inl (F)) := (va_up_ne _ _ (by decide)).trans e2
        have e3 : (va_up cs 3 (.inl (cI, 128, .inl (G)))) 3 = .inl (cI, 128, .inl (G)) := va_up_self _ _ _
        have e4 : (va_up cs 3 (.inl (cI, 128, .inl (G)))) 4 = .inl (cI, 40, .inl (fun i => nI (po i))) := (va_up_ne _ _ (by decide)).trans e4
        have e5 : (va_up cs 3 (.inl (cI, 128, .inl (G)))) 5 = .inl (cI, 40, .inl (fun i => nI (pd i))) := (va_up_ne _ _ (by decide)).trans e5
        have e6 : (va_up cs 3 (.inl (cI, 128, .inl (G)))) 6 = .inl (cI, 40, .inl (fun i => nI (pa i))) := (va_up_ne _ _ (by decide)).trans e6
        have e7 : (va_up cs 3 (.inl (cI, 128, .inl (G)))) 7 = .inl (cI, 40, .inl (fun i => nI (pb i))) := (va_up_ne _ _ (by decide)).trans e7
        have e8 : (va_up cs 3 (.inl (cI, 128, .inl (G)))) 8 = .inl (cI, 40, .inl (pn)) := (va_up_ne _ _ (by decide)).trans e8
        have e9 : (va_up cs 3 (.inl (cI, 128, .inl (G)))) 9 = .inl (cZ, 40, .inl (pm)) := (va_up_ne _ _ (by decide)).trans e9
        have e10 : (va_up cs 3 (.inl (cI, 128, .inl (G)))) 10 = .inl (cI, 5, .inl (fun i => nI (wh i))) := (va_up_ne _ _ (by decide)).trans e10
        have e11 : (va_up cs 3 (.inl (cI, 128, .inl (G)))) 11 = .inl (cI, 5, .inl (fun i => nI (wd i))) := (va_up_ne _ _ (by decide)).trans e11
        have e12 : (va_up cs 3 (.inl (cI, 128, .inl (G)))) 12 = .inl (cI, 5, .inl (fun i => nI (rg i))) := (va_up_ne _ _ (by decide)).trans e12
        have e13 : (va_up cs 3 (.inl (cI, 128, .inl (G)))) 13 = .inl (cI, 5, .inl (fun i => nI (fr i))) := (va_up_ne _ _ (by decide)).trans e13
        have e14 : (va_up cs 3 (.inl (cI, 128, .inl (G)))) 14 = .inl (cI, 5, .inl (fun i => nI (sp i))) := (va_up_ne _ _ (by decide)).trans e14
        have e15 : (va_up cs 3 (.inl (cI, 128, .inl (G)))) 15 = .inl (cI, 5, .inl (fun i => nI (dn i))) := (va_up_ne _ _ (by decide)).trans e15
        have e16 : (va_up cs 3 (.inl (cI, 128, .inl (G)))) 16 = .inl (cI, 5, .inl (fun i => nI (bf i))) := (va_up_ne _ _ (by decide)).trans e16
        have e17 : (va_up cs 3 (.inl (cI, 128, .inl (G)))) 17 = .inl (cI, 5, .inl (XA)) := (va_up_ne _ _ (by decide)).trans e17
        have e18 : (va_up cs 3 (.inl (cI, 128, .inl (G)))) 18 = .inl (cI, 5, .inl (XB)) := (va_up_ne _ _ (by decide)).trans e18
        refine lv_iload hx hb d_R_moves_37 (lv_at hl 0 rfl) ?_
        refine lv_iload hx hb d_R_moves_39 (lv_at hl 2 rfl) ?_
        refine lv_icmp_ge (tgt := 82) hx hb d_R_moves_41 (by decide) (fun _ => ?_) (fun h4 => absurd (nI_le (by omega) (by omega)) h4)
        exact KXa _ _ _ (by rw [show kv_mv F pp (8 * pd (wh q) + i * wd q) (wd q) 0 M = G from hv]; exact hP) hS (by exact lv_sub hl [1, 2, 3, 4, 5, 6] rfl)
      | succ j iha =>
        intro b G H locs ls hbk hv hP hS hl
        have e0 : (va_up cs 3 (.inl (cI, 128, .inl (G)))) 0 = .inr (5, [.int (nI la), .int th, .int (nI st), .int nx, .int (nI wi), .int (nI gp), .int (nI vl), .int (nI sa), .int (nI bo), .int cy, .int sd, .ref (ad 1), .ref (ad 2), .ref (ad 3), .int (nI ma), .ref (ad 4), .ref (ad 5), .ref (ad 6), .ref (ad 7), .ref (ad 8), .ref (ad 9), .int (nI qu), .ref (ad 10), .ref (ad 11), .ref (ad 12), .ref (ad 13), .ref (ad 14), .ref (ad 15), .ref (ad 16), .ref (ad 17), .ref (ad 18)]) := (va_up_ne _ _ (by decide)).trans e0
        have e1 : (va_up cs 3 (.inl (cI, 128, .inl (G)))) 1 = .inl (cI, 8, .inl (X)) := (va_up_ne _ _ (by decide)).trans e1
        have e2 : (va_up cs 3 (.inl (cI, 128, .inl (G)))) 2 = .inl (cI, 64, .inl (F)) := (va_up_ne _ _ (by decide)).trans e2
        have e3 : (va_up cs 3 (.inl (cI, 128, .inl (G)))) 3 = .inl (cI, 128, .inl (G)) := va_up_self _ _ _
        have e4 : (va_up cs 3 (.inl (cI, 128, .inl (G)))) 4 = .inl (cI, 40, .inl (fun i => nI (po i))) := (va_up_ne _ _ (by decide)).trans e4
        have e5 : (va_up cs 3 (.inl (cI, 128, .inl (G)))) 5 = .inl (cI, 40, .inl (fun i => nI (pd i))) := (va_up_ne _ _ (by decide)).trans e5
        have e6 : (va_up cs 3 (.inl (cI, 128, .inl (G)))) 6 = .inl (cI, 40, .inl (fun i => nI (pa i))) := (va_up_ne _ _ (by decide)).trans e6
        have e7 : (va_up cs 3 (.inl (cI, 128, .inl (G)))) 7 = .inl (cI, 40, .inl (fun i => nI (pb i))) := (va_up_ne _ _ (by decide)).trans e7
        have e8 : (va_up cs 3 (.inl (cI, 128, .inl (G)))) 8 = .inl (cI, 40, .inl (pn)) := (va_up_ne _ _ (by decide)).trans e8
        have e9 : (va_up cs 3 (.inl (cI, 128, .inl (G)))) 9 = .inl (cZ, 40, .inl (pm)) := (va_up_ne _ _ (by decide)).trans e9
        have e10 : (va_up cs 3 (.inl (cI, 128, .inl (G)))) 10 = .inl (cI, 5, .inl (fun i => nI (wh i))) := (va_up_ne _ _ (by decide)).trans e10
        have e11 : (va_up cs 3 (.inl (cI, 128, .inl (G)))) 11 = .inl (cI, 5, .inl (fun i => nI (wd i))) := (va_up_ne _ _ (by decide)).trans e11
        have e12 : (va_up cs 3 (.inl (cI, 128, .inl (G)))) 12 = .inl (cI, 5, .inl (fun i => nI (rg i))) := (va_up_ne _ _ (by decide)).trans e12
        have e13 : (va_up cs 3 (.inl (cI, 128, .inl (G)))) 13 = .inl (cI, 5, .inl (fun i => nI (fr i))) := (va_up_ne _ _ (by decide)).trans e13
        have e14 : (va_up cs 3 (.inl (cI, 128, .inl (G)))) 14 = .inl (cI, 5, .inl (fun i => nI (sp i))) := (va_up_ne _ _ (by decide)).trans e14
        have e15 : (va_up cs 3 (.inl (cI, 128, .inl (G)))) 15 = .inl (cI, 5, .inl (fun i => nI (dn i))) := (va_up_ne _ _ (by decide)).trans e15
        have e16 : (va_up cs 3 (.inl (cI, 128, .inl (G)))) 16 = .inl (cI, 5, .inl (fun i => nI (bf i))) := (va_up_ne _ _ (by decide)).trans e16
        have e17 : (va_up cs 3 (.inl (cI, 128, .inl (G)))) 17 = .inl (cI, 5, .inl (XA)) := (va_up_ne _ _ (by decide)).trans e17
        have e18 : (va_up cs 3 (.inl (cI, 128, .inl (G)))) 18 = .inl (cI, 5, .inl (XB)) := (va_up_ne _ _ (by decide)).trans e18
        refine lv_iload hx hb d_R_moves_37 (lv_at hl 0 rfl) ?_
        refine lv_iload hx hb d_R_moves_39 (lv_at hl 2 rfl) ?_
        refine lv_icmp_ge (tgt := 82) hx hb d_R_moves_41 (by decide) (fun h5 => absurd h5 (nI_ge (by omega) (by omega))) (fun _ => ?_)
        refine lv_aload_n hx hb d_R_moves_44 rfl (lv_at hl 4 rfl) ?_
        refine kw_get hx hb hg in_R hown hK hP 0 (Nat.lt_of_lt_of_le (by decide : 0 < 19) hn) e0 rfl 13 (by decide) (hg _ kg_596) rfl rfl d_R_moves_45 ?_
        refine lv_iload hx hb d_R_moves_48 (lv_at hl 1 rfl) ?_
        refine lv_iload hx hb d_R_moves_50 (lv_at hl 0 rfl) ?_
        refine lv_iadd hx hb d_R_moves_52 ?_
        refine lv_aload_n hx hb d_R_moves_53 rfl (lv_at hl 4 rfl) ?_
        refine kw_get hx hb hg in_R hown hK hP 0 (Nat.lt_of_lt_of_le (by decide : 0 < 19) hn) e0 rfl 12 (by decide) (hg _ kg_595) rfl rfl d_R_moves_54 ?_
        refine lv_bipush (v := 8) hx hb d_R_moves_57 (by decide) ?_
        refine lv_aload_n hx hb d_R_moves_59 rfl (lv_at hl 4 rfl) ?_
        refine kw_get hx hb hg in_R hown hK hP 0 (Nat.lt_of_lt_of_le (by decide : 0 < 19) hn) e0 rfl 16 (by decide) (hg _ kg_599) rfl rfl d_R_moves_60 ?_
        refine lv_iload_n hx hb d_R_moves_63 rfl (lv_at hl 3 rfl) ?_
        refine kw_iald hx hb hK hP 5 0 (Nat.lt_of_lt_of_le (by decide : 5 < 19) hn) e5 rfl (wh q) (rfl) (hk) (by omega) d_R_moves_64 ?_
        refine lv_imul hx hb d_R_moves_65 ?_
        refine lv_iload_n hx hb d_R_moves_66 rfl (lv_at hl 6 rfl) ?_
        refine lv_iload hx hb d_R_moves_67 (lv_at hl 2 rfl) ?_
        refine lv_imul hx hb d_R_moves_69 ?_
        refine lv_iadd hx hb d_R_moves_70 ?_
        refine lv_iload hx hb d_R_moves_71 (lv_at hl 0 rfl) ?_
        refine lv_iadd hx hb d_R_moves_73 ?_
        refine kw_iald hx hb hK hP 2 0 (Nat.lt_of_lt_of_le (by decide : 2 < 19) hn) e2 rfl (8 * pd (wh q) + i * wd q + b) (by rw [show (8 : Int32) = nI 8 from rfl, pk_mul, pk_mul, nI_add, nI_add]) (by omega) (by omega) d_R_moves_74 ?_
        refine kw_iast hx hb hK hP hJ hA hS 3 0 (Nat.lt_of_lt_of_le (by decide : 3 < 19) hn) e3 rfl (pp + b) (by rw [nI_add]) (by omega) (by omega) d_R_moves_75 (fun H locs hP hS => ?_)
        have e0 : (va_up (va_up cs 3 (.inl (cI, 128, .inl (G)))) 3 (.inl (cI, 128, .inl (upd G (pp + b) (F (8 * pd (wh q) + i * wd q + b)))))) 0 = .inr (5, [.int (nI la), .int th, .int (nI st), .int nx, .int (nI wi), .int (nI gp), .int (nI vl), .int (nI sa), .int (nI bo), .int cy, .int sd, .ref (ad 1), .ref (ad 2), .ref (ad 3), .int (nI ma), .ref (ad 4), .ref (ad 5), .ref (ad 6), .ref (ad 7), .ref (ad 8), .ref (ad 9), .int (nI qu), .ref (ad 10), .ref (ad 11), .ref (ad 12), .ref (ad 13), .ref (ad 14), .ref (ad 15), .ref (ad 16), .ref (ad 17), .ref (ad 18)]) := (va_up_ne _ _ (by decide)).trans e0
        have e1 : (va_up (va_up cs 3 (.inl (cI, 128, .inl (G)))) 3 (.inl (cI, 128, .inl (upd G (pp + b) (F (8 * pd (wh q) + i * wd q + b)))))) 1 = .inl (cI, 8, .inl (X)) := (va_up_ne _ _ (by decide)).trans e1
        have e2 : (va_up (va_up cs 3 (.inl (cI, 128, .inl (G)))) 3 (.inl (cI, 128, .inl (upd G (pp + b) (F (8 * pd (wh q) + i * wd q + b)))))) 2 = .inl (cI, 64, .inl (F)) := (va_up_ne _ _ (by decide)).trans e2
        have e3 : (va_up (va_up cs 3 (.inl (cI, 128, .inl (G)))) 3 (.inl (cI, 128, .inl (upd G (pp + b) (F (8 * pd (wh q) + i * wd q + b)))))) 3 = .inl (cI, 128, .inl (upd G (pp + b) (F (8 * pd (wh q) + i * wd q + b)))) := va_up_self _ _ _
        have e4 : (va_up (va_up cs 3 (.inl (cI, 128, .inl (G)))) 3 (.inl (cI, 128, .inl (upd G (pp + b) (F (8 * pd (wh q) + i * wd q + b)))))) 4 = .inl (cI, 40, .inl (fun i => nI (po i))) := (va_up_ne _ _ (by decide)).trans e4
        have e5 : (va_up (va_up cs 3 (.inl (cI, 128, .inl (G)))) 3 (.inl (cI, 128, .inl (upd G (pp + b) (F (8 * pd (wh q) + i * wd q + b)))))) 5 = .inl (cI, 40, .inl (fun i => nI (pd i))) := (va_up_ne _ _ (by decide)).trans e5
        have e6 : (va_up (va_up cs 3 (.inl (cI, 128, .inl (G)))) 3 (.inl (cI, 128, .inl (upd G (pp + b) (F (8 * pd (wh q) + i * wd q + b)))))) 6 = .inl (cI, 40, .inl (fun i => nI (pa i))) := (va_up_ne _ _ (by decide)).trans e6
        have e7 : (va_up (va_up cs 3 (.inl (cI, 128, .inl (G)))) 3 (.inl (cI, 128, .inl (upd G (pp + b) (F (8 * pd (wh q) + i * wd q + b)))))) 7 = .inl (cI, 40, .inl (fun i => nI (pb i))) := (va_up_ne _ _ (by decide)).trans e7
        have e8 : (va_up (va_up cs 3 (.inl (cI, 128, .inl (G)))) 3 (.inl (cI, 128, .inl (upd G (pp + b) (F (8 * pd (wh q) + i * wd q + b)))))) 8 = .inl (cI, 40, .inl (pn)) := (va_up_ne _ _ (by decide)).trans e8
        have e9 : (va_up (va_up cs 3 (.inl (cI, 128, .inl (G)))) 3 (.inl (cI, 128, .inl (upd G (pp + b) (F (8 * pd (wh q) + i * wd q + b)))))) 9 = .inl (cZ, 40, .inl (pm)) := (va_up_ne _ _ (by decide)).trans e9
        have e10 : (va_up (va_up cs 3 (.inl (cI, 128, .inl (G)))) 3 (.inl (cI, 128, .inl (upd G (pp + b) (F (8 * pd (wh q) + i * wd q + b)))))) 10 = .inl (cI, 5, .inl (fun i => nI (wh i))) := (va_up_ne _ _ (by decide)).trans e10
        have e11 : (va_up (va_up cs 3 (.inl (cI, 128, .inl (G)))) 3 (.inl (cI, 128, .inl (upd G (pp + b) (F (8 * pd (wh q) + i * wd q + b)))))) 11 = .inl (cI, 5, .inl (fun i => nI (wd i))) := (va_up_ne _ _ (by decide)).trans e11
        have e12 : (va_up (va_up cs 3 (.inl (cI, 128, .inl (G)))) 3 (.inl (cI, 128, .inl (upd G (pp + b) (F (8 * pd (wh q) + i * wd q + b)))))) 12 = .inl (cI, 5, .inl (fun i => nI (rg i))) := (va_up_ne _ _ (by decide)).trans e12
        have e13 : (va_up (va_up cs 3 (.inl (cI, 128, .inl (G)))) 3 (.inl (cI, 128, .inl (upd G (pp + b) (F (8 * pd (wh q) + i * wd q + b)))))) 13 = .inl (cI, 5, .inl (fun i => nI (fr i))) := (va_up_ne _ _ (by decide)).trans e13
        have e14 : (va_up (va_up cs 3 (.inl (cI, 128, .inl (G)))) 3 (.inl (cI, 128, .inl (upd G (pp + b) (F (8 * pd (wh q) + i * wd q + b)))))) 14 = .inl (cI, 5, .inl (fun i => nI (sp i))) := (va_up_ne _ _ (by decide)).trans e14
        have e15 : (va_up (va_up cs 3 (.inl (cI, 128, .inl (G)))) 3 (.inl (cI, 128, .inl (upd G (pp + b) (F (8 * pd (wh q) + i * wd q + b)))))) 15 = .inl (cI, 5, .inl (fun i => nI (dn i))) := (va_up_ne _ _ (by decide)).trans e15
        have e16 : (va_up (va_up cs 3 (.inl (cI, 128, .inl (G)))) 3 (.inl (cI, 128, .inl (upd G (pp + b) (F (8 * pd (wh q) + i * wd q + b)))))) 16 = .inl (cI, 5, .inl (fun i => nI (bf i))) := (va_up_ne _ _ (by decide)).trans e16
        have e17 : (va_up (va_up cs 3 (.inl (cI, 128, .inl (G)))) 3 (.inl (cI, 128, .inl (upd G (pp + b) (F (8 * pd (wh q) + i * wd q + b)))))) 17 = .inl (cI, 5, .inl (XA)) := (va_up_ne _ _ (by decide)).trans e17
        have e18 : (va_up (va_up cs 3 (.inl (cI, 128, .inl (G)))) 3 (.inl (cI, 128, .inl (upd G (pp + b) (F (8 * pd (wh q) + i * wd q + b)))))) 18 = .inl (cI, 5, .inl (XB)) := (va_up_ne _ _ (by decide)).trans e18
        refine lv_iinc (k := 0) (v := nI (b + 1)) (lv' := [(6, .int (nI (b + 1))), (5, .int (nI pp)), (4, .int (nI (wd q))), (3, .int (nI (wh q))), (0, .ref (ad 0)), (1, .int (nI q)), (2, .int (nI i))]) hx hb d_R_moves_76 hl rfl ((nI_succ b).symm) (by decide) rfl (fun ls hl => ?_)
        refine lv_goto (tgt := 37) hx hb d_R_moves_79 (by decide) ?_
        exact iha ((b + 1)) _ _ _ _ (by omega) (hv) (by rw [bx_uu] at hP; exact hP) hS (lv_sub hl [0, 1, 2, 3, 4, 5, 6] rfl)
    exact loopa (wd q) 0 M _ _ _ (by omega) (rfl) (by rw [kw_id e3]; exact hP) hS (lv_sub hl [0, 1, 2, 3, 4, 5, 6] rfl)

def kv_su (F : Nat → Int32) (pa : Nat → Nat) (pm : Nat → Int32) (wh wd : Nat → Nat) (q : Nat) : Nat → Nat → Int32 → Int32 → Int32 × Int32
  | 0, _, u, v => (u, v)
  | k + 1, i, u, v => kv_su F pa pm wh wd q k (i + 1) (u + (if (if pm (wh q) = 0 then 1 else if kv_R_bit F 0 i = 0 then 0 else 1 : Int32) = 0 then 0 else kv_R_element F (pa (wh q)) i (wd q) : Int32)) (if v = 0 then (if (if pm (wh q) = 0 then 1 else if kv_R_bit F 0 i = 0 then 0 else 1 : Int32) = 0 then 0 else 1) else 1)
def kv_R_sums (F : Nat → Int32) (pd pa pb : Nat → Nat) (pm : Nat → Int32) (wh wd fr : Nat → Nat) (q vq : Nat) : Nat → Int32 := if (kv_su F pa pm wh wd q (vq - fr q) (fr q) (kv_R_element F (pb (wh q)) 0 (wd q)) 0).2 = 0 then F else kv_se (kv_su F pa pm wh wd q (vq - fr q) (fr q) (kv_R_element F (pb (wh q)) 0 (wd q)) 0).1 (8 * pd (wh q) + 0 * wd q) (wd q) 0 F

set_option maxRecDepth 100000 in
set_option maxHeartbeats 4000000 in
theorem c_R_sums (l : Launch) {D : va_G} {ad : Nat → Nat} {n : Nat} {cs : Nat → va_E} (hJ : kw_J ad n) {cI : ClassId} {cZ : ClassId} {la : Nat} {th : Int32} {st : Nat} {nx : Int32} {wi : Nat} {gp : Nat} {vl : Nat} {sa : Nat} {bo : Nat} {cy : Int32} {sd : Int32} {ma : Nat} {qu : Nat} {X : Nat → Int32} {F : Nat → Int32} {M : Nat → Int32} {po : Nat → Nat} {pd : Nat → Nat} {pa : Nat → Nat} {pb : Nat → Nat} {pn : Nat → Int32} {pm : Nat → Int32} {wh : Nat → Nat} {wd : Nat → Nat} {rg : Nat → Nat} {fr : Nat → Nat} {sp : Nat → Nat} {dn : Nat → Nat} {bf : Nat → Nat} {XA : Nat → Int32} {XB : Nat → Int32} {q : Nat} {vq : Nat} (hn : 19 ≤ n) (hR : kR ad cI cZ cs la th st nx wi gp vl sa bo cy sd ma qu X F M po pd pa pb pn pm wh wd rg fr sp dn bf XA XB) (hq : q < 5) (hk : wh q < 40) (hvq : XA q = nI vq) (hvf : fr q ≤ vq) (hvl : vq ≤ 64) (hb9 : 8 * pb (wh q) + 0 * wd q + wd q ≤ 64) (hd9 : 8 * pd (wh q) + 0 * wd q + wd q ≤ 64) (ha9 : ∀ i, i < vq → 8 * pa (wh q) + i * wd q + wd q ≤ 64) : kw_mv l y_R_sums w_R_sums (kr 2) D kc (ktR cI cZ) ad n cs [.ref (ad 0), .int (nI q)] (fun c9 => c9 = va_up cs 2 (.inl (cI, 64, .inl (kv_R_sums F pd pa pb pm wh wd fr q vq)))) := by
  refine kw_of (cc := b_R_sums) (maxL := 8) (ret := none) (by decide) rfl (Nat.le_of_ble_eq_true rfl) ?_
  intro p e s m below meth c ls hx hb hr hml hown hts hlocks hP hK hl
  have hg : ∀ w9 ∈ kg_G, w9.before [.ref (ad 0), .int (nI q)].toArray s = true := fun w9 h9 => hts w9 (List.mem_cons_of_mem _ h9)
  have hown : s.vm.findClass "LaneMachineModel" = some m.cls := hown
  have hA : ∀ k, k < n → kw_A ad n (ad k) := fun k hk => ⟨k, hk, rfl⟩
  have hS : va_S (kw_A ad n) s.heap s.heap [] := va_S.rf
  have hl : lv_has ls 8 [(0, .ref (ad 0)), (1, .int (nI q))] := hl
  obtain ⟨e0, e1, e2, e3, e4, e5, e6, e7, e8, e9, e10, e11, e12, e13, e14, e15, e16, e17, e18⟩ := hR
  refine lv_aload_n hx hb d_R_sums_0 rfl (lv_at hl 0 rfl) ?_
  refine kw_get hx hb hg in_R hown hK hP 0 (Nat.lt_of_lt_of_le (by decide : 0 < 19) hn) e0 rfl 22 (by decide) (hg _ kg_605) rfl rfl d_R_sums_1 ?_
  refine lv_iload_n hx hb d_R_sums_4 rfl (lv_at hl 1 rfl) ?_
  refine kw_iald hx hb hK hP 10 0 (Nat.lt_of_lt_of_le (by decide : 10 < 19) hn) e10 rfl q (rfl) (hq) (by omega) d_R_sums_5 ?_
  refine lv_istore_n (lv' := [(2, .int (nI (wh q))), (0, .ref (ad 0)), (1, .int (nI q))]) hx hb d_R_sums_6 rfl hl (by decide) rfl (fun ls hl => ?_)
  refine lv_aload_n hx hb d_R_sums_7 rfl (lv_at hl 1 rfl) ?_
  refine kw_get hx hb hg in_R hown hK hP 0 (Nat.lt_of_lt_of_le (by decide : 0 < 19) hn) e0 rfl 23 (by decide) (hg _ kg_606) rfl rfl d_R_sums_8 ?_
  refine lv_iload_n hx hb d_R_sums_11 rfl (lv_at hl 2 rfl) ?_
  refine kw_iald hx hb hK hP 11 0 (Nat.lt_of_lt_of_le (by decide : 11 < 19) hn) e11 rfl q (rfl) (hq) (by omega) d_R_sums_12 ?_
  refine lv_istore_n (lv' := [(3, .int (nI (wd q))), (2, .int (nI (wh q))), (0, .ref (ad 0)), (1, .int (nI q))]) hx hb d_R_sums_13 rfl hl (by decide) rfl (fun ls hl => ?_)
  refine lv_aload_n hx hb d_R_sums_14 rfl (lv_at hl 2 rfl) ?_
  refine lv_aload_n hx hb d_R_sums_15 rfl (lv_at hl 2 rfl) ?_
  refine kw_get hx hb hg in_R hown hK hP 0 (Nat.lt_of_lt_of_le (by decide : 0 < 19) hn) e0 rfl 18 (by decide) (hg _ kg_601) rfl rfl d_R_sums_16 ?_
  refine lv_iload_n hx hb d_R_sums_19 rfl (lv_at hl 1 rfl) ?_
  refine kw_iald hx hb hK hP 7 0 (Nat.lt_of_lt_of_le (by decide : 7 < 19) hn) e7 rfl (wh q) (rfl) (hk) (by omega) d_R_sums_20 ?_
  refine lv_iconst (v := 0) hx hb d_R_sums_21 (by decide) ?_
  refine lv_iload_n hx hb d_R_sums_22 rfl (lv_at hl 0 rfl) ?_
  refine kw_callix (kw_rV (As := [.int (nI (pb (wh q))), .int 0, .int (nI (wd q))]) (rest := []) (q0 := 0) ⟨hx, hb, hml, hown, hg⟩ ⟨callB_of 3 hg (kg_goodG kg_723) rfl rfl rfl (hg _ kg_7) (hg _ kg_720) (by decide +kernel) ⟨by decide, by decide⟩, hg _ kg_722, hg _ (kg_sel (q := (y_R_element, 31)) (by decide +kernel))⟩ (c_R_element l hn ⟨e0, e1, e2, e3, e4, e5, e6, e7, e8, e9, e10, e11, e12, e13, e14, e15, e16, e17, e18⟩ hb9 (i := 0)) hK hP (Nat.lt_of_lt_of_le (by decide : 0 < 19) hn) e0 rfl rfl hl.1 rfl (Nat.le_of_ble_eq_true rfl) d_R_sums_23 ⟨Nat.zero_le _, Nat.zero_le _⟩) hA hS (fun H locs hP hS => ?_)
  refine lv_istore (lv' := [(4, .int (kv_R_element F (pb (wh q)) 0 (wd q))), (3, .int (nI (wd q))), (2, .int (nI (wh q))), (0, .ref (ad 0)), (1, .int (nI q))]) hx hb d_R_sums_26 hl (by decide) rfl (fun ls hl => ?_)
  refine lv_iconst (v := 0) hx hb d_R_sums_28 (by decide) ?_
  refine lv_istore (lv' := [(5, .int 0), (4, .int (kv_R_element F (pb (wh q)) 0 (wd q))), (3, .int (nI (wd q))), (2, .int (nI (wh q))), (0, .ref (ad 0)), (1, .int (nI q))]) hx hb d_R_sums_29 hl (by decide) rfl (fun ls hl => ?_)
  refine lv_aload_n hx hb d_R_sums_31 rfl (lv_at hl 4 rfl) ?_
  refine kw_get hx hb hg in_R hown hK hP 0 (Nat.lt_of_lt_of_le (by decide : 0 < 19) hn) e0 rfl 25 (by decide) (hg _ kg_608) rfl rfl d_R_sums_32 ?_
  refine lv_iload_n hx hb d_R_sums_35 rfl (lv_at hl 5 rfl) ?_
  refine kw_iald hx hb hK hP 13 0 (Nat.lt_of_lt_of_le (by decide : 13 < 19) hn) e13 rfl q (rfl) (hq) (by omega) d_R_sums_36 ?_
  refine lv_istore (lv' := [(6, .int (nI (fr q))), (5, .int 0), (4, .int (kv_R_element F (pb (wh q)) 0 (wd q))), (3, .int (nI (wd q))), (2, .int (nI (wh q))), (0, .ref (ad 0)), (1, .int (nI q))]) hx hb d_R_sums_37 hl (by decide) rfl (fun ls hl => ?_)
  have KXs : ∀ (H : Heap) (locs : List Loc) (ls : Array Slot), va_P D kc (kw_w ad cs n) H → va_S (kw_A ad n) s.heap H locs → lv_has ls 8 [(5, .int ((kv_su F pa pm wh wd q (vq - fr q) (fr q) (kv_R_element F (pb (wh q)) 0 (wd q)) 0).2)), (4, .int ((kv_su F pa pm wh wd q (vq - fr q) (fr q) (kv_R_element F (pb (wh q)) 0 (wd q)) 0).1)), (3, .int (nI (wd q))), (2, .int (nI (wh q))), (0, .ref (ad 0)), (1, .int (nI q))] → W p l e (kr 2) s m [.ref (ad 0), .int (nI q)].toArray below meth c H locs 0 0 (MQ below (va_Qv (fun c9 => c9 = va_up cs 2 (.inl (cI, 64, .inl (kv_R_sums F pd pa pb pm wh wd fr q vq)))) (kw_Pre D kc (ktR cI cZ) ad n) (kw_A ad n)) [.ref (ad 0), .int (nI q)].toArray s 0 0 (kw_A ad n)) (F0 m 125 ls []) := by
    intro H locs ls hP hS hl
    refine lv_iload hx hb d_R_sums_125 (lv_at hl 0 rfl) ?_
    refine lv_if_eq (tgt := 144) hx hb d_R_sums_127 (by decide) (fun h1 => ?_) (fun h1 => ?_)
    · exact kw_vret hx hb hr hlocks hP hK hS (by rw [show kv_R_sums F pd pa pb pm wh wd fr q vq = F from (by rw [kv_R_sums, if_pos h1]), kw_id e2]) d_R_sums_144
    · refine lv_aload_n hx hb d_R_sums_130 rfl (lv_at hl 4 rfl) ?_
      refine lv_aload_n hx hb d_R_sums_131 rfl (lv_at hl 4 rfl) ?_
      refine kw_get hx hb hg in_R hown hK hP 0 (Nat.lt_of_lt_of_le (by decide : 0 < 19) hn) e0 rfl 16 (by decide) (hg _ kg_599) rfl rfl d_R_sums_132 ?_
      refine lv_iload_n hx hb d_R_sums_135 rfl (lv_at hl 3 rfl) ?_
      refine kw_iald hx hb hK hP 5 0 (Nat.lt_of_lt_of_le (by decide : 5 < 19) hn) e5 rfl (wh q) (rfl) (hk) (by omega) d_R_sums_136 ?_
      refine lv_iconst (v := 0) hx hb d_R_sums_137 (by decide) ?_
      refine lv_iload_n hx hb d_R_sums_138 rfl (lv_at hl 2 rfl) ?_
      refine lv_iload hx hb d_R_sums_139 (lv_at hl 1 rfl) ?_
      refine kw_callvx (kw_rV (As := [.int (nI (pd (wh q))), .int 0, .int (nI (wd q)), .int ((kv_su F pa pm wh wd q (vq - fr q) (fr q) (kv_R_element F (pb (wh q)) 0 (wd q)) 0).1)]) (rest := []) (q0 := 0) ⟨hx, hb, hml, hown, hg⟩ ⟨callB_of 4 hg (kg_goodG kg_735) rfl rfl rfl (hg _ kg_7) (hg _ kg_732) (by decide +kernel) ⟨by decide, by decide⟩, hg _ kg_734, hg _ (kg_sel (q := (y_R_set, 31)) (by decide +kernel))⟩ (c_R_set l hJ hn ⟨e0, e1, e2, e3, e4, e5, e6, e7, e8, e9, e10, e11, e12, e13, e14, e15, e16, e17, e18⟩ hd9 (i := 0)) hK hP (Nat.lt_of_lt_of_le (by decide : 0 < 19) hn) e0 rfl rfl hl.1 rfl (Nat.le_of_ble_eq_true rfl) d_R_sums_141 ⟨Nat.zero_le _, Nat.zero_le _⟩) hA hS (fun H locs hP hS => ?_)
      have e0 : (va_up cs 2 (.inl (cI, 64, .inl (kv_se ((kv_su F pa pm wh wd q (vq - fr q) (fr q) (kv_R_element F (pb (wh q)) 0 (wd q)) 0).1) (8 * (pd (wh q)) + 0 * (wd q)) (wd q) 0 F)))) 0 = .inr (5, [.int (nI la), .int th, .int (nI st), .int nx, .int (nI wi), .int (nI gp), .int (nI vl), .int (nI sa), .int (nI bo), .int cy, .int sd, .ref (ad 1), .ref (ad 2), .ref (ad 3), .int (nI ma), .ref (ad 4), .ref (ad 5), .ref (ad 6), .ref (ad 7), .ref (ad 8), .ref (ad 9), .int (nI qu), .ref (ad 10), .ref (ad 11), .ref (ad 12), .ref (ad 13), .ref (ad 14), .ref (ad 15), .ref (ad 16), .ref (ad 17), .ref (ad 18)]) := (va_up_ne _ _ (by decide)).trans e0
      have e1 : (va_up cs 2 (.inl (cI, 64, .inl (kv_se ((kv_su F pa pm wh wd q (vq - fr q) (fr q) (kv_R_element F (pb (wh q)) 0 (wd q)) 0).1) (8 * (pd (wh q)) + 0 * (wd q)) (wd q) 0 F)))) 1 = .inl (cI, 8, .inl (X)) := (va_up_ne _ _ (by decide)).trans e1
      have e2 : (va_up cs 2 (.inl (cI, 64, .inl (kv_se ((kv_su F pa pm wh wd q (vq - fr q) (fr q) (kv_R_element F (pb (wh q)) 0 (wd q)) 0).1) (8 * (pd (wh q)) + 0 * (wd q)) (wd q) 0 F)))) 2 = .inl (cI, 64, .inl (kv_se ((kv_su F pa pm wh wd q (vq - fr q) (fr q) (kv_R_element F (pb (wh q)) 0 (wd q)) 0).1) (8 * (pd (wh q)) + 0 * (wd q)) (wd q) 0 F)) := va_up_self _ _ _
      have e3 : (va_up cs 2 (.inl (cI, 64, .inl (kv_se ((kv_su F pa pm wh wd q (vq - fr q) (fr q) (kv_R_element F (pb (wh q)) 0 (wd q)) 0).1) (8 * (pd (wh q)) + 0 * (wd q)) (wd q) 0 F)))) 3 = .inl (cI, 128, .inl (M)) := (va_up_ne _ _ (by decide)).trans e3
      have e4 : (va_up cs 2 (.inl (cI, 64, .inl (kv_se ((kv_su F pa pm wh wd q (vq - fr q) (fr q) (kv_R_element F (pb (wh q)) 0 (wd q)) 0).1) (8 * (pd (wh q)) + 0 * (wd q)) (wd q) 0 F)))) 4 = .inl (cI, 40, .inl (fun i => nI (po i))) := (va_up_ne _ _ (by decide)).trans e4
      have e5 : (va_up cs 2 (.inl (cI, 64, .inl (kv_se ((kv_su F pa pm wh wd q (vq - fr q) (fr q) (kv_R_element F (pb (wh q)) 0 (wd q)) 0).1) (8 * (pd (wh q)) + 0 * (wd q)) (wd q) 0 F)))) 5 = .inl (cI, 40, .inl (fun i => nI (pd i))) := (va_up_ne _ _ (by decide)).trans e5
      have e6 : (va_up cs 2 (.inl (cI, 64, .inl (kv_se ((kv_su F pa pm wh wd q (vq - fr q) (fr q) (kv_R_element F (pb (wh q)) 0 (wd q)) 0).1) (8 * (pd (wh q)) + 0 * (wd q)) (wd q) 0 F)))) 6 = .inl (cI, 40, .inl (fun i => nI (pa i))) := (va_up_ne _ _ (by decide)).trans e6
      have e7 : (va_up cs 2 (.inl (cI, 64, .inl (kv_se ((kv_su F pa pm wh wd q (vq - fr q) (fr q) (kv_R_element F (pb (wh q)) 0 (wd q)) 0).1) (8 * (pd (wh q)) + 0 * (wd q)) (wd q) 0 F)))) 7 = .inl (cI, 40, .inl (fun i => nI (pb i))) := (va_up_ne _ _ (by decide)).trans e7
      have e8 : (va_up cs 2 (.inl (cI, 64, .inl (kv_se ((kv_su F pa pm wh wd q (vq - fr q) (fr q) (kv_R_element F (pb (wh q)) 0 (wd q)) 0).1) (8 * (pd (wh q)) + 0 * (wd q)) (wd q) 0 F)))) 8 = .inl (cI, 40, .inl (pn)) := (va_up_ne _ _ (by decide)).trans e8
      have e9 : (va_up cs 2 (.inl (cI, 64, .inl (kv_se ((kv_su F pa pm wh wd q (vq - fr q) (fr q) (kv_R_element F (pb (wh q)) 0 (wd q)) 0).1) (8 * (pd (wh q)) + 0 * (wd q)) (wd q) 0 F)))) 9 = .inl (cZ, 40, .inl (pm)) := (va_up_ne _ _ (by decide)).trans e9
      have e10 : (va_up cs 2 (.inl (cI, 64, .inl (kv_se ((kv_su F pa pm wh wd q (vq - fr q) (fr q) (kv_R_element F (pb (wh q)) 0 (wd q)) 0).1) (8 * (pd (wh q)) + 0 * (wd q)) (wd q) 0 F)))) 10 = .inl (cI, 5, .inl (fun i => nI (wh i))) := (va_up_ne _ _ (by decide)).trans e10
      have e11 : (va_up cs 2 (.inl (cI, 64, .inl (kv_se ((kv_su F pa pm wh wd q (vq - fr q) (fr q) (kv_R_element F (pb (wh q)) 0 (wd q)) 0).1) (8 * (pd (wh q)) + 0 * (wd q)) (wd q) 0 F)))) 11 = .inl (cI, 5, .inl (fun i => nI (wd i))) := (va_up_ne _ _ (by decide)).trans e11
      have e12 : (va_up cs 2 (.inl (cI, 64, .inl (kv_se ((kv_su F pa pm wh wd q (vq - fr q) (fr q) (kv_R_element F (pb (wh q)) 0 (wd q)) 0).1) (8 * (pd (wh q)) + 0 * (wd q)) (wd q) 0 F)))) 12 = .inl (cI, 5, .inl (fun i => nI (rg i))) := (va_up_ne _ _ (by decide)).trans e12
      have e13 : (va_up cs 2 (.inl (cI, 64, .inl (kv_se ((kv_su F pa pm wh wd q (vq - fr q) (fr q) (kv_R_element F (pb (wh q)) 0 (wd q)) 0).1) (8 * (pd (wh q)) + 0 * (wd q)) (wd q) 0 F)))) 13 = .inl (cI, 5, .inl (fun i => nI (fr i))) := (va_up_ne _ _ (by decide)).trans e13
      have e14 : (va_up cs 2 (.inl (cI, 64, .inl (kv_se ((kv_su F pa pm wh wd q (vq - fr q) (fr q) (kv_R_element F (pb (wh q)) 0 (wd q)) 0).1) (8 * (pd (wh q)) + 0 * (wd q)) (wd q) 0 F)))) 14 = .inl (cI, 5, .inl (fun i => nI (sp i))) := (va_up_ne _ _ (by decide)).trans e14
      have e15 : (va_up cs 2 (.inl (cI, 64, .inl (kv_se ((kv_su F pa pm wh wd q (vq - fr q) (fr q) (kv_R_element F (pb (wh q)) 0 (wd q)) 0).1) (8 * (pd (wh q)) + 0 * (wd q)) (wd q) 0 F)))) 15 = .inl (cI, 5, .inl (fun i => nI (dn i))) := (va_up_ne _ _ (by decide)).trans e15
      have e16 : (va_up cs 2 (.inl (cI, 64, .inl (kv_se ((kv_su F pa pm wh wd q (vq - fr q) (fr q) (kv_R_element F (pb (wh q)) 0 (wd q)) 0).1) (8 * (pd (wh q)) + 0 * (wd q)) (wd q) 0 F)))) 16 = .inl (cI, 5, .inl (fun i => nI (bf i))) := (va_up_ne _ _ (by decide)).trans e16
      have e17 : (va_up cs 2 (.inl (cI, 64, .inl (kv_se ((kv_su F pa pm wh wd q (vq - fr q) (fr q) (kv_R_element F (pb (wh q)) 0 (wd q)) 0).1) (8 * (pd (wh q)) + 0 * (wd q)) (wd q) 0 F)))) 17 = .inl (cI, 5, .inl (XA)) := (va_up_ne _ _ (by decide)).trans e17
      have e18 : (va_up cs 2 (.inl (cI, 64, .inl (kv_se ((kv_su F pa pm wh wd q (vq - fr q) (fr q) (kv_R_element F (pb (wh q)) 0 (wd q)) 0).1) (8 * (pd (wh q)) + 0 * (wd q)) (wd q) 0 F)))) 18 = .inl (cI, 5, .inl (XB)) := (va_up_ne _ _ (by decide)).trans e18
      exact kw_vret hx hb hr hlocks hP hK hS (by rw [show kv_R_sums F pd pa pb pm wh wd fr q vq = kv_se ((kv_su F pa pm wh wd q (vq - fr q) (fr q) (kv_R_element F (pb (wh q)) 0 (wd q)) 0).1) (8 * (pd (wh q)) + 0 * (wd q)) (wd q) 0 F from (by rw [kv_R_sums, if_neg h1])]) d_R_sums_144
  have loops : ∀ (kk : Nat) (i : Nat) (u : Int32) (v : Int32) (H : Heap) (locs : List Loc) (ls : Array Slot), i + kk = vq → kv_su F pa pm wh wd q (vq - fr q) (fr q) (kv_R_element F (pb (wh q)) 0 (wd q)) 0 = kv_su F pa pm wh wd q kk i u v → va_P D kc (kw_w ad cs n) H → va_S (kw_A ad n) s.heap H locs → lv_has ls 8 [(6, .int (nI i)), (5, .int v), (4, .int u), (3, .int (nI (wd q))), (2, .int (nI (wh q))), (0, .ref (ad 0)), (1, .int (nI q))] → W p l e (kr 2) s m [.ref (ad 0), .int (nI q)].toArray below meth c H locs 0 0 (MQ below (va_Qv (fun c9 => c9 = va_up cs 2 (.inl (cI, 64, .inl (kv_R_sums F pd pa pb pm wh wd fr q vq)))) (kw_Pre D kc (ktR cI cZ) ad n) (kw_A ad n)) [.ref (ad 0), .int (nI q)].toArray s 0 0 (kw_A ad n)) (F0 m 39 ls []) := by
    intro kk
    induction kk with
    | zero =>
      intro i u v H locs ls hik hv hP hS hl
      refine lv_iload hx hb d_R_sums_39 (lv_at hl 0 rfl) ?_
      refine lv_aload_n hx hb d_R_sums_41 rfl (lv_at hl 5 rfl) ?_
      refine lv_iload_n hx hb d_R_sums_42 rfl (lv_at hl 6 rfl) ?_
      refine kw_callix (kw_rV (As := [.int (nI q)]) (rest := [.int (nI i)]) (q0 := 0) ⟨hx, hb, hml, hown, hg⟩ ⟨callB_of 1 hg (kg_goodG kg_704) rfl rfl rfl (hg _ kg_7) (hg _ kg_701) (by decide +kernel) ⟨by decide, by decide⟩, hg _ kg_703, hg _ (kg_sel (q := (y_R_vlOf, 31)) (by decide +kernel))⟩ (c_R_vlOf l hn ⟨e0, e1, e2, e3, e4, e5, e6, e7, e8, e9, e10, e11, e12, e13, e14, e15, e16, e17, e18⟩ hq ) hK hP (Nat.lt_of_lt_of_le (by decide : 0 < 19) hn) e0 rfl rfl hl.1 rfl (Nat.le_of_ble_eq_true rfl) d_R_sums_43 ⟨Nat.zero_le _, Nat.zero_le _⟩) hA hS (fun H locs hP hS => ?_)
      rw [hvq]
      refine lv_icmp_ge (tgt := 125) hx hb d_R_sums_46 (by decide) (fun _ => ?_) (fun h2 => absurd (nI_le (by omega) (by omega)) h2)
      exact KXs _ _ _ (hP) hS (by rw [show kv_su F pa pm wh wd q (vq - fr q) (fr q) (kv_R_element F (pb (wh q)) 0 (wd q)) 0 = (u, v) from hv]; exact lv_sub hl [1, 2, 3, 4, 5, 6] rfl)
    | succ j ihs =>
      intro i u v H locs ls hik hv hP hS hl
      refine lv_iload hx hb d_R_sums_39 (lv_at hl 0 rfl) ?_
      refine lv_aload_n hx hb d_R_sums_41 rfl (lv_at hl 5 rfl) ?_
      refine lv_iload_n hx hb d_R_sums_42 rfl (lv_at hl 6 rfl) ?_
      refine kw_callix (kw_rV (As := [.int (nI q)]) (rest := [.int (nI i)]) (q0 := 0) ⟨hx, hb, hml, hown, hg⟩ ⟨callB_of 1 hg (kg_goodG kg_704) rfl rfl rfl (hg _ kg_7) (hg _ kg_701) (by decide +kernel) ⟨by decide, by decide⟩, hg _ kg_703, hg _ (kg_sel (q := (y_R_vlOf, 31)) (by decide +kernel))⟩ (c_R_vlOf l hn ⟨e0, e1, e2, e3, e4, e5, e6, e7, e8, e9, e10, e11, e12, e13, e14, e15, e16, e17, e18⟩ hq ) hK hP (Nat.lt_of_lt_of_le (by decide : 0 < 19) hn) e0 rfl rfl hl.1 rfl (Nat.le_of_ble_eq_true rfl) d_R_sums_43 ⟨Nat.zero_le _, Nat.zero_le _⟩) hA hS (fun H locs hP hS => ?_)
      rw [hvq]
      refine lv_icmp_ge (tgt := 125) hx hb d_R_sums_46 (by decide) (fun h3 => absurd h3 (nI_ge (by omega) (by omega))) (fun _ => ?_)
      have K73 : ∀ (H : Heap) (locs : List Loc) (ls : Array Slot), va_P D kc (kw_w ad cs n) H → va_S (kw_A ad n) s.heap H locs → lv_has ls 8 [(6, .int (nI i)), (5, .int v), (4, .int u), (3, .int (nI (wd q))), (2, .int (nI (wh q))), (0, .ref (ad 0)), (1, .int (nI q))] → W p l e (kr 2) s m [.ref (ad 0), .int (nI q)].toArray below meth c H locs 0 0 (MQ below (va_Qv (fun c9 => c9 = va_up cs 2 (.inl (cI, 64, .inl (kv_R_sums F pd pa pb pm wh wd fr q vq)))) (kw_Pre D kc (ktR cI cZ) ad n) (kw_A ad n)) [.ref (ad 0), .int (nI q)].toArray s 0 0 (kw_A ad n)) (F0 m 73 ls [.int ((if (pm (wh q)) = 0 then 1 else if (kv_R_bit F 0 i) = 0 then 0 else 1 : Int32))]) := by
        intro H locs ls hP hS hl
        refine lv_istore (lv' := [(7, .int ((if (pm (wh q)) = 0 then 1 else if (kv_R_bit F 0 i) = 0 then 0 else 1 : Int32))), (6, .int (nI i)), (5, .int v), (4, .int u), (3, .int (nI (wd q))), (2, .int (nI (wh q))), (0, .ref (ad 0)), (1, .int (nI q))]) hx hb d_R_sums_73 hl (by decide) rfl (fun ls hl => ?_)
        refine lv_iload hx hb d_R_sums_75 (lv_at hl 3 rfl) ?_
        have K99 : ∀ (H : Heap) (locs : List Loc) (ls : Array Slot), va_P D kc (kw_w ad cs n) H → va_S (kw_A ad n) s.heap H locs → lv_has ls 8 [(7, .int ((if (pm (wh q)) = 0 then 1 else if (kv_R_bit F 0 i) = 0 then 0 else 1 : Int32))), (6, .int (nI i)), (5, .int v), (4, .int u), (3, .int (nI (wd q))), (2, .int (nI (wh q))), (0, .ref (ad 0)), (1, .int (nI q))] → W p l e (kr 2) s m [.ref (ad 0), .int (nI q)].toArray below meth c H locs 0 0 (MQ below (va_Qv (fun c9 => c9 = va_up cs 2 (.inl (cI, 64, .inl (kv_R_sums F pd pa pb pm wh wd fr q vq)))) (kw_Pre D kc (ktR cI cZ) ad n) (kw_A ad n)) [.ref (ad 0), .int (nI q)].toArray s 0 0 (kw_A ad n)) (F0 m 99 ls [.int ((if ((if (pm (wh q)) = 0 then 1 else if (kv_R_bit F 0 i) = 0 then 0 else 1 : Int32)) = 0 then 0 else (kv_R_element F (pa (wh q)) i (wd q)) : Int32)), .int u]) := by
          intro H locs ls hP hS hl
          refine lv_iadd hx hb d_R_sums_99 ?_
          refine lv_istore (lv' := [(4, .int (u + ((if ((if (pm (wh q)) = 0 then 1 else if (kv_R_bit F 0 i) = 0 then 0 else 1 : Int32)) = 0 then 0 else (kv_R_element F (pa (wh q)) i (wd q)) : Int32)))), (7, .int ((if (pm (wh q)) = 0 then 1 else if (kv_R_bit F 0 i) = 0 then 0 else 1 : Int32))), (6, .int (nI i)), (5, .int v), (3, .int (nI (wd q))), (2, .int (nI (wh q))), (0, .ref (ad 0)), (1, .int (nI q))]) hx hb d_R_sums_100 hl (by decide) rfl (fun ls hl => ?_)
          have K117 : ∀ (H : Heap) (locs : List Loc) (ls : Array Slot), va_P D kc (kw_w ad cs n) H → va_S (kw_A ad n) s.heap H locs → lv_has ls 8 [(4, .int (u + ((if ((if (pm (wh q)) = 0 then 1 else if (kv_R_bit F 0 i) = 0 then 0 else 1 : Int32)) = 0 then 0 else (kv_R_element F (pa (wh q)) i (wd q)) : Int32)))), (7, .int ((if (pm (wh q)) = 0 then 1 else if (kv_R_bit F 0 i) = 0 then 0 else 1 : Int32))), (6, .int (nI i)), (5, .int v), (3, .int (nI (wd q))), (2, .int (nI (wh q))), (0, .ref (ad 0)), (1, .int (nI q))] → W p l e (kr 2) s m [.ref (ad 0), .int (nI q)].toArray below meth c H locs 0 0 (MQ below (va_Qv (fun c9 => c9 = va_up cs 2 (.inl (cI, 64, .inl (kv_R_sums F pd pa pb pm wh wd fr q vq)))) (kw_Pre D kc (ktR cI cZ) ad n) (kw_A ad n)) [.ref (ad 0), .int (nI q)].toArray s 0 0 (kw_A ad n)) (F0 m 117 ls [.int ((if v = 0 then (if ((if (pm (wh q)) = 0 then 1 else if (kv_R_bit F 0 i) = 0 then 0 else 1 : Int32)) = 0 then 0 else 1) else 1 : Int32))]) := by
            intro H locs ls hP hS hl
            refine lv_istore (lv' := [(5, .int ((if v = 0 then (if ((if (pm (wh q)) = 0 then 1 else if (kv_R_bit F 0 i) = 0 then 0 else 1 : Int32)) = 0 then 0 else 1) else 1 : Int32))), (4, .int (u + ((if ((if (pm (wh q)) = 0 then 1 else if (kv_R_bit F 0 i) = 0 then 0 else 1 : Int32)) = 0 then 0 else (kv_R_element F (pa (wh q)) i (wd q)) : Int32)))), (7, .int ((if (pm (wh q)) = 0 then 1 else if (kv_R_bit F 0 i) = 0 then 0 else 1 : Int32))), (6, .int (nI i)), (3, .int (nI (wd q))), (2, .int (nI (wh q))), (0, .ref (ad 0)), (1, .int (nI q))]) hx hb d_R_sums_117 hl (by decide) rfl (fun ls hl => ?_)
            refine lv_iinc (k := 3) (v := nI (i + 1)) (lv' := [(6, .int (nI (i + 1))), (5, .int ((if v = 0 then (if ((if (pm (wh q)) = 0 then 1 else if (kv_R_bit F 0 i) = 0 then 0 else 1 : Int32)) = 0 then 0 else 1) else 1 : Int32))), (4, .int (u + ((if ((if (pm (wh q)) = 0 then 1 else if (kv_R_bit F 0 i) = 0 then 0 else 1 : Int32)) = 0 then 0 else (kv_R_element F (pa (wh q)) i (wd q)) : Int32)))), (7, .int ((if (pm (wh q)) = 0 then 1 else if (kv_R_bit F 0 i) = 0 then 0 else 1 : Int32))), (3, .int (nI (wd q))), (2, .int (nI (wh q))), (0, .ref (ad 0)), (1, .int (nI q))]) hx hb d_R_sums_119 hl rfl ((nI_succ i).symm) (by decide) rfl (fun ls hl => ?_)
            refine lv_goto (tgt := 39) hx hb d_R_sums_122 (by decide) ?_
            exact ihs ((i + 1)) _ _ _ _ _ (by omega) (hv) (hP) hS (lv_sub hl [0, 1, 2, 4, 5, 6, 7] rfl)
          refine lv_iload hx hb d_R_sums_102 (lv_at hl 3 rfl) ?_
          refine lv_if_ne (tgt := 112) hx hb d_R_sums_104 (by decide) (fun h4 => ?_) (fun h4 => ?_)
          · refine lv_iconst (v := 1) hx hb d_R_sums_112 (by decide) ?_
            refine lv_goto (tgt := 117) hx hb d_R_sums_113 (by decide) ?_
            exact W.eq (congrArg (fun z9 => F0 m 117 ls (.int z9 :: [])) (show (1 : Int32) = (if v = 0 then (if ((if (pm (wh q)) = 0 then 1 else if (kv_R_bit F 0 i) = 0 then 0 else 1 : Int32)) = 0 then 0 else 1) else 1 : Int32) from (by rw [if_neg h4]))) (K117 _ _ _ hP hS hl)
          · refine lv_iload hx hb d_R_sums_107 (lv_at hl 1 rfl) ?_
            refine lv_if_eq (tgt := 116) hx hb d_R_sums_109 (by decide) (fun h5 => ?_) (fun h5 => ?_)
            · refine lv_iconst (v := 0) hx hb d_R_sums_116 (by decide) ?_
              exact W.eq (congrArg (fun z9 => F0 m 117 ls (.int z9 :: [])) (show (0 : Int32) = (if v = 0 then (if ((if (pm (wh q)) = 0 then 1 else if (kv_R_bit F 0 i) = 0 then 0 else 1 : Int32)) = 0 then 0 else 1) else 1 : Int32) from (by rw [if_pos h4, if_pos h5]))) (K117 _ _ _ hP hS hl)
            · refine lv_iconst (v := 1) hx hb d_R_sums_112 (by decide) ?_
              refine lv_goto (tgt := 117) hx hb d_R_sums_113 (by decide) ?_
              exact W.eq (congrArg (fun z9 => F0 m 117 ls (.int z9 :: [])) (show (1 : Int32) = (if v = 0 then (if ((if (pm (wh q)) = 0 then 1 else if (kv_R_bit F 0 i) = 0 then 0 else 1 : Int32)) = 0 then 0 else 1) else 1 : Int32) from (by rw [if_pos h4, if_neg h5]))) (K117 _ _ _ hP hS hl)
        refine lv_iload hx hb d_R_sums_77 (lv_at hl 0 rfl) ?_
        refine lv_if_eq (tgt := 98) hx hb d_R_sums_79 (by decide) (fun h6 => ?_) (fun h6 => ?_)
        · refine lv_iconst (v := 0) hx hb d_R_sums_98 (by decide) ?_
          exact W.eq (congrArg (fun z9 => F0 m 99 ls (.int z9 :: [.int u])) (show (0 : Int32) = (if ((if (pm (wh q)) = 0 then 1 else if (kv_R_bit F 0 i) = 0 then 0 else 1 : Int32)) = 0 then 0 else (kv_R_element F (pa (wh q)) i (wd q)) : Int32) from (by rw [if_pos h6]))) (K99 _ _ _ hP hS hl)
        · refine lv_aload_n hx hb d_R_sums_82 rfl (lv_at hl 6 rfl) ?_
          refine lv_aload_n hx hb d_R_sums_83 rfl (lv_at hl 6 rfl) ?_
          refine kw_get hx hb hg in_R hown hK hP 0 (Nat.lt_of_lt_of_le (by decide : 0 < 19) hn) e0 rfl 17 (by decide) (hg _ kg_600) rfl rfl d_R_sums_84 ?_
          refine lv_iload_n hx hb d_R_sums_87 rfl (lv_at hl 5 rfl) ?_
          refine kw_iald hx hb hK hP 6 0 (Nat.lt_of_lt_of_le (by decide : 6 < 19) hn) e6 rfl (wh q) (rfl) (hk) (by omega) d_R_sums_88 ?_
          refine lv_iload hx hb d_R_sums_89 (lv_at hl 1 rfl) ?_
          refine lv_iload_n hx hb d_R_sums_91 rfl (lv_at hl 4 rfl) ?_
          refine kw_callix (kw_rV (As := [.int (nI (pa (wh q))), .int (nI i), .int (nI (wd q))]) (rest := [.int u]) (q0 := 0) ⟨hx, hb, hml, hown, hg⟩ ⟨callB_of 3 hg (kg_goodG kg_723) rfl rfl rfl (hg _ kg_7) (hg _ kg_720) (by decide +kernel) ⟨by decide, by decide⟩, hg _ kg_722, hg _ (kg_sel (q := (y_R_element, 31)) (by decide +kernel))⟩ (c_R_element l hn ⟨e0, e1, e2, e3, e4, e5, e6, e7, e8, e9, e10, e11, e12, e13, e14, e15, e16, e17, e18⟩ (ha9 _ (by omega)) ) hK hP (Nat.lt_of_lt_of_le (by decide : 0 < 19) hn) e0 rfl rfl hl.1 rfl (Nat.le_of_ble_eq_true rfl) d_R_sums_92 ⟨Nat.zero_le _, Nat.zero_le _⟩) hA hS (fun H locs hP hS => ?_)
          refine lv_goto (tgt := 99) hx hb d_R_sums_95 (by decide) ?_
          exact W.eq (congrArg (fun z9 => F0 m 99 ls (.int z9 :: [.int u])) (show kv_R_element F (pa (wh q)) i (wd q) = (if ((if (pm (wh q)) = 0 then 1 else if (kv_R_bit F 0 i) = 0 then 0 else 1 : Int32)) = 0 then 0 else (kv_R_element F (pa (wh q)) i (wd q)) : Int32) from (by rw [if_neg h6]))) (K99 _ _ _ hP hS hl)
      refine lv_aload_n hx hb d_R_sums_49 rfl (lv_at hl 5 rfl) ?_
      refine kw_get hx hb hg in_R hown hK hP 0 (Nat.lt_of_lt_of_le (by decide : 0 < 19) hn) e0 rfl 20 (by decide) (hg _ kg_603) rfl rfl d_R_sums_50 ?_
      refine lv_iload_n hx hb d_R_sums_53 rfl (lv_at hl 4 rfl) ?_
      refine kw_zald hx hb hK hP 9 1 (Nat.lt_of_lt_of_le (by decide : 9 < 19) hn) e9 rfl (wh q) (rfl) (hk) (by omega) d_R_sums_54 ?_
      refine lv_if_eq (tgt := 68) hx hb d_R_sums_55 (by decide) (fun h7 => ?_) (fun h7 => ?_)
      · refine lv_iconst (v := 1) hx hb d_R_sums_68 (by decide) ?_
        refine lv_goto (tgt := 73) hx hb d_R_sums_69 (by decide) ?_
        exact W.eq (congrArg (fun z9 => F0 m 73 ls (.int z9 :: [])) (show (1 : Int32) = (if (pm (wh q)) = 0 then 1 else if (kv_R_bit F 0 i) = 0 then 0 else 1 : Int32) from (by rw [if_pos h7]))) (K73 _ _ _ hP hS hl)
      · refine lv_aload_n hx hb d_R_sums_58 rfl (lv_at hl 5 rfl) ?_
        refine lv_iconst (v := 0) hx hb d_R_sums_59 (by decide) ?_
        refine lv_iload hx hb d_R_sums_60 (lv_at hl 0 rfl) ?_
        refine kw_callix (kw_rV (As := [.int 0, .int (nI i)]) (rest := []) (q0 := 0) ⟨hx, hb, hml, hown, hg⟩ ⟨callB_of 2 hg (kg_goodG kg_731) rfl rfl rfl (hg _ kg_7) (hg _ kg_728) (by decide +kernel) ⟨by decide, by decide⟩, hg _ kg_730, hg _ (kg_sel (q := (y_R_bit, 31)) (by decide +kernel))⟩ (c_R_bit l hn ⟨e0, e1, e2, e3, e4, e5, e6, e7, e8, e9, e10, e11, e12, e13, e14, e15, e16, e17, e18⟩ (by omega) (by omega) (r := 0)) hK hP (Nat.lt_of_lt_of_le (by decide : 0 < 19) hn) e0 rfl rfl hl.1 rfl (Nat.le_of_ble_eq_true rfl) d_R_sums_62 ⟨Nat.zero_le _, Nat.zero_le _⟩) hA hS (fun H locs hP hS => ?_)
        refine lv_if_eq (tgt := 72) hx hb d_R_sums_65 (by decide) (fun h8 => ?_) (fun h8 => ?_)
        · refine lv_iconst (v := 0) hx hb d_R_sums_72 (by decide) ?_
          exact W.eq (congrArg (fun z9 => F0 m 73 ls (.int z9 :: [])) (show (0 : Int32) = (if (pm (wh q)) = 0 then 1 else if (kv_R_bit F 0 i) = 0 then 0 else 1 : Int32) from (by rw [if_neg h7, if_pos h8]))) (K73 _ _ _ hP hS hl)
        · refine lv_iconst (v := 1) hx hb d_R_sums_68 (by decide) ?_
          refine lv_goto (tgt := 73) hx hb d_R_sums_69 (by decide) ?_
          exact W.eq (congrArg (fun z9 => F0 m 73 ls (.int z9 :: [])) (show (1 : Int32) = (if (pm (wh q)) = 0 then 1 else if (kv_R_bit F 0 i) = 0 then 0 else 1 : Int32) from (by rw [if_neg h7, if_neg h8]))) (K73 _ _ _ hP hS hl)
  exact loops (vq - fr q) (fr q) _ _ _ _ _ (by omega) (rfl) (hP) hS (lv_sub hl [0, 1, 2, 3, 4, 5, 6] rfl)
