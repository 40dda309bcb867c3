/-! the reference: picks -/
theorem kw_pick {e : Int64} {mo : Nat} (h1 : ¬ lg_cmp e 0 < 0) (h2 : lg_cmp e (nI mo).toInt64 < 0) (hmo : mo < 2 ^ 20) : e.toInt32 = nI e.toInt32.toNatClampNeg ∧ e.toInt32.toNatClampNeg < mo := by
  rw [lg_cmp_lt] at h1 h2
  obtain ⟨k, hk, rfl⟩ := pk_lOf h1
  rw [nI_l (by omega), pk_lLT hk (by omega)] at h2
  rw [lN_i, nI_clamp (by omega)]
  exact ⟨rfl, h2⟩

def kv_R_picks (F : Nat → Int32) (po : Nat → Nat) (pa : Nat → Nat) (pb : Nat → Nat) (wh : Nat → Nat) (wd : Nat → Nat) (rg : Nat → Nat) (XB : Nat → Int32) (q : Nat) (i : Nat) : Int32 := if (lg_cmp ((if (nI (po (wh q))) = 15 then (((nI i) + (XB q)).toInt64) else (kv_R_plain (kv_R_element F (pb (wh q)) i (wd q)) (nI (wd q))) : Int64)) 0) < 0 then 0 else if (lg_cmp ((if (nI (po (wh q))) = 15 then (((nI i) + (XB q)).toInt64) else (kv_R_plain (kv_R_element F (pb (wh q)) i (wd q)) (nI (wd q))) : Int64)) ((nI (8 * rg q / wd q)).toInt64)) < 0 then (kv_R_element F (pa (wh q)) (((if (nI (po (wh q))) = 15 then (((nI i) + (XB q)).toInt64) else (kv_R_plain (kv_R_element F (pb (wh q)) i (wd q)) (nI (wd q))) : Int64)).toInt32.toNatClampNeg) (wd q)) else 0
set_option maxRecDepth 100000 in
set_option maxHeartbeats 4000000 in
theorem c_R_picks (l : Launch) {D : va_G} {ad : Nat → Nat} {n : Nat} {cs : Nat → va_E} {cI : ClassId} {cZ : ClassId} {la : Nat} {th : Int32} {st : Nat} {nx : Int32} {wi : Nat} {gp : Nat} {vl : Nat} {sa : Nat} {bo : Nat} {cy : Int32} {sd : Int32} {ma : Nat} {qu : Nat} {X : Nat → Int32} {F : Nat → Int32} {M : Nat → Int32} {po : Nat → Nat} {pd : Nat → Nat} {pa : Nat → Nat} {pb : Nat → Nat} {pn : Nat → Int32} {pm : Nat → Int32} {wh : Nat → Nat} {wd : Nat → Nat} {rg : Nat → Nat} {fr : Nat → Nat} {sp : Nat → Nat} {dn : Nat → Nat} {bf : Nat → Nat} {XA : Nat → Int32} {XB : Nat → Int32} {q : Nat} {i : Nat} (hn : 19 ≤ n) (hR : kR ad cI cZ cs la th st nx wi gp vl sa bo cy sd ma qu X F M po pd pa pb pn pm wh wd rg fr sp dn bf XA XB) (hq : q < 5) (hk : wh q < 40) (hrg : rg q < 5) (hw0 : 0 < wd q) (hwd : wd q < 5) (hb9 : po (wh q) ≠ 15 → 8 * pb (wh q) + i * wd q + wd q ≤ 64) (ha9 : ∀ j, j < 8 * rg q / wd q → 8 * pa (wh q) + j * wd q + wd q ≤ 64) : kw_mi l y_R_picks w_R_picks (kr 2) D kc (ktR cI cZ) ad n cs [.ref (ad 0), .int (nI q), .int (nI i)] (fun r9 c9 => r9 = kv_R_picks F po pa pb wh wd rg XB q i ∧ c9 = cs) := by
  refine kw_of (cc := b_R_picks) (maxL := 8) (ret := (some .int)) (by decide) rfl (Nat.le_of_ble_eq_true rfl) ?_
  intro p e s m below meth c ls hx hb hr hml hown hts hlocks hP hK hl
  have hg : ∀ w9 ∈ kg_G, w9.before [.ref (ad 0), .int (nI q), .int (nI i)].toArray s = true := fun w9 h9 => hts w9 (List.mem_cons_of_mem _ h9)
  have hown : s.vm.findClass "LaneMachineModel" = some m.cls := hown
  have hA : ∀ k, k < n → kw_A ad n (ad k) := fun k hk => ⟨k, hk, rfl⟩
  have hS : va_S (kw_A ad n) s.heap s.heap [] := va_S.rf
  have hl : lv_has ls 8 [(0, .ref (ad 0)), (1, .int (nI q)), (2, .int (nI i))] := hl
  obtain ⟨e0, e1, e2, e3, e4, e5, e6, e7, e8, e9, e10, e11, e12, e13, e14, e15, e16, e17, e18⟩ := hR
  refine lv_aload_n hx hb d_R_picks_0 rfl (lv_at hl 0 rfl) ?_
  refine kw_get hx hb hg in_R hown hK hP 0 (Nat.lt_of_lt_of_le (by decide : 0 < 19) hn) e0 rfl 22 (by decide) (hg _ kg_605) rfl rfl d_R_picks_1 ?_
  refine lv_iload_n hx hb d_R_picks_4 rfl (lv_at hl 1 rfl) ?_
  refine kw_iald hx hb hK hP 10 0 (Nat.lt_of_lt_of_le (by decide : 10 < 19) hn) e10 rfl q (rfl) (hq) (by omega) d_R_picks_5 ?_
  refine lv_istore_n (lv' := [(3, .int (nI (wh q))), (0, .ref (ad 0)), (1, .int (nI q)), (2, .int (nI i))]) hx hb d_R_picks_6 rfl hl (by decide) rfl (fun ls hl => ?_)
  refine lv_aload_n hx hb d_R_picks_7 rfl (lv_at hl 1 rfl) ?_
  refine kw_get hx hb hg in_R hown hK hP 0 (Nat.lt_of_lt_of_le (by decide : 0 < 19) hn) e0 rfl 23 (by decide) (hg _ kg_606) rfl rfl d_R_picks_8 ?_
  refine lv_iload_n hx hb d_R_picks_11 rfl (lv_at hl 2 rfl) ?_
  refine kw_iald hx hb hK hP 11 0 (Nat.lt_of_lt_of_le (by decide : 11 < 19) hn) e11 rfl q (rfl) (hq) (by omega) d_R_picks_12 ?_
  refine lv_istore (lv' := [(4, .int (nI (wd q))), (3, .int (nI (wh q))), (0, .ref (ad 0)), (1, .int (nI q)), (2, .int (nI i))]) hx hb d_R_picks_13 hl (by decide) rfl (fun ls hl => ?_)
  refine lv_bipush (v := 8) hx hb d_R_picks_15 (by decide) ?_
  refine lv_aload_n hx hb d_R_picks_17 rfl (lv_at hl 2 rfl) ?_
  refine kw_get hx hb hg in_R hown hK hP 0 (Nat.lt_of_lt_of_le (by decide : 0 < 19) hn) e0 rfl 24 (by decide) (hg _ kg_607) rfl rfl d_R_picks_18 ?_
  refine lv_iload_n hx hb d_R_picks_21 rfl (lv_at hl 3 rfl) ?_
  refine kw_iald hx hb hK hP 12 0 (Nat.lt_of_lt_of_le (by decide : 12 < 19) hn) e12 rfl q (rfl) (hq) (by omega) d_R_picks_22 ?_
  refine lv_imul hx hb d_R_picks_23 ?_
  refine lv_iload hx hb d_R_picks_24 (lv_at hl 0 rfl) ?_
  refine lv_idiv hx hb d_R_picks_26 (nI_ne0 hw0 (by omega)) ?_
  rw [show (8 : Int32) = nI 8 from rfl, pk_mul, pk_div (by omega) (by omega) (by omega)]
  refine lv_istore (lv' := [(5, .int (nI (8 * rg q / wd q))), (4, .int (nI (wd q))), (3, .int (nI (wh q))), (0, .ref (ad 0)), (1, .int (nI q)), (2, .int (nI i))]) hx hb d_R_picks_27 hl (by decide) rfl (fun ls hl => ?_)
  have K70 : ∀ (H : Heap) (locs : List Loc) (ls : Array Slot), va_P D kc (kw_w ad cs n) H → va_S (kw_A ad n) s.heap H locs → lv_has ls 8 [(5, .int (nI (8 * rg q / wd q))), (4, .int (nI (wd q))), (3, .int (nI (wh q))), (0, .ref (ad 0)), (1, .int (nI q)), (2, .int (nI i))] → W p l e (kr 2) s m [.ref (ad 0), .int (nI q), .int (nI i)].toArray below meth c H locs 0 0 (MQ below (va_Qi (fun r9 c9 => r9 = kv_R_picks F po pa pb wh wd rg XB q i ∧ c9 = cs) (kw_Pre D kc (ktR cI cZ) ad n) (kw_A ad n)) [.ref (ad 0), .int (nI q), .int (nI i)].toArray s 0 0 (kw_A ad n)) (F0 m 70 ls [.long ((if (nI (po (wh q))) = 15 then (((nI i) + (XB q)).toInt64) else (kv_R_plain (kv_R_element F (pb (wh q)) i (wd q)) (nI (wd q))) : Int64))]) := by
    intro H locs ls hP hS hl
    refine lv_lstore (lv' := [(6, .long ((if (nI (po (wh q))) = 15 then (((nI i) + (XB q)).toInt64) else (kv_R_plain (kv_R_element F (pb (wh q)) i (wd q)) (nI (wd q))) : Int64))), (5, .int (nI (8 * rg q / wd q))), (4, .int (nI (wd q))), (3, .int (nI (wh q))), (0, .ref (ad 0)), (1, .int (nI q)), (2, .int (nI i))]) hx hb d_R_picks_70 hl (by decide) rfl (fun ls hl => ?_)
    refine lv_lload hx hb d_R_picks_72 (lv_at hl 0 rfl) ?_
    refine lv_lconst (v := 0) hx hb d_R_picks_74 (by decide) ?_
    refine W.lcmp hx hb d_R_picks_75 ?_
    refine lv_if_lt (tgt := 88) hx hb d_R_picks_76 (by decide) (fun h1 => ?_) (fun h1 => ?_)
    · refine lv_iconst (v := 0) hx hb d_R_picks_88 (by decide) ?_
      refine lv_goto (tgt := 107) hx hb d_R_picks_89 (by decide) ?_
      exact kw_iret hx hb hr hlocks hP hK hS ⟨by rw [kv_R_picks, if_pos h1], rfl⟩ d_R_picks_107
    · refine lv_lload hx hb d_R_picks_79 (lv_at hl 0 rfl) ?_
      refine lv_iload hx hb d_R_picks_81 (lv_at hl 1 rfl) ?_
      refine lv_i2l hx hb d_R_picks_83 rfl ?_
      refine W.lcmp hx hb d_R_picks_84 ?_
      refine lv_if_lt (tgt := 92) hx hb d_R_picks_85 (by decide) (fun h2 => ?_) (fun h2 => ?_)
      · refine lv_aload_n hx hb d_R_picks_92 rfl (lv_at hl 4 rfl) ?_
        refine lv_aload_n hx hb d_R_picks_93 rfl (lv_at hl 4 rfl) ?_
        refine kw_get hx hb hg in_R hown hK hP 0 (Nat.lt_of_lt_of_le (by decide : 0 < 19) hn) e0 rfl 17 (by decide) (hg _ kg_600) rfl rfl d_R_picks_94 ?_
        refine lv_iload_n hx hb d_R_picks_97 rfl (lv_at hl 3 rfl) ?_
        refine kw_iald hx hb hK hP 6 0 (Nat.lt_of_lt_of_le (by decide : 6 < 19) hn) e6 rfl (wh q) (rfl) (hk) (by omega) d_R_picks_98 ?_
        refine lv_lload hx hb d_R_picks_99 (lv_at hl 0 rfl) ?_
        refine lv_l2i hx hb d_R_picks_101 rfl ?_
        have hpk := kw_pick h1 h2 (Nat.lt_of_le_of_lt (Nat.div_le_self _ _) (by omega))
        rw [hpk.1]
        refine lv_iload hx hb d_R_picks_102 (lv_at hl 2 rfl) ?_
        refine kw_callix (kw_rV (As := [.int (nI (pa (wh q))), .int (nI (((if (nI (po (wh q))) = 15 then (((nI i) + (XB q)).toInt64) else (kv_R_plain (kv_R_element F (pb (wh q)) i (wd q)) (nI (wd q))) : Int64)).toInt32).toNatClampNeg), .int (nI (wd q))]) (rest := []) (q0 := 0) ⟨hx, hb, hml, hown, hg⟩ ⟨callB_of 3 hg (kg_goodG kg_723) rfl rfl rfl (hg _ kg_7) (hg _ kg_720) (by decide +kernel) ⟨by decide, by decide⟩, hg _ kg_722, hg _ (kg_sel (q := (y_R_element, 31)) (by decide +kernel))⟩ (c_R_element l hn ⟨e0, e1, e2, e3, e4, e5, e6, e7, e8, e9, e10, e11, e12, e13, e14, e15, e16, e17, e18⟩ (ha9 _ hpk.2) ) hK hP (Nat.lt_of_lt_of_le (by decide : 0 < 19) hn) e0 rfl rfl hl.1 rfl (Nat.le_of_ble_eq_true rfl) d_R_picks_104 ⟨Nat.zero_le _, Nat.zero_le _⟩) hA hS (fun H locs hP hS => ?_)
        exact kw_iret hx hb hr hlocks hP hK hS ⟨by rw [kv_R_picks, if_neg h1, if_pos h2], rfl⟩ d_R_picks_107
      · refine lv_iconst (v := 0) hx hb d_R_picks_88 (by decide) ?_
        refine lv_goto (tgt := 107) hx hb d_R_picks_89 (by decide) ?_
        exact kw_iret hx hb hr hlocks hP hK hS ⟨by rw [kv_R_picks, if_neg h1, if_neg h2], rfl⟩ d_R_picks_107
  refine lv_aload_n hx hb d_R_picks_29 rfl (lv_at hl 3 rfl) ?_
  refine kw_get hx hb hg in_R hown hK hP 0 (Nat.lt_of_lt_of_le (by decide : 0 < 19) hn) e0 rfl 15 (by decide) (hg _ kg_598) rfl rfl d_R_picks_30 ?_
  refine lv_iload_n hx hb d_R_picks_33 rfl (lv_at hl 2 rfl) ?_
  refine kw_iald hx hb hK hP 4 0 (Nat.lt_of_lt_of_le (by decide : 4 < 19) hn) e4 rfl (wh q) (rfl) (hk) (by omega) d_R_picks_34 ?_
  refine lv_bipush (v := 15) hx hb d_R_picks_35 (by decide) ?_
  refine lv_icmp_ne (tgt := 52) hx hb d_R_picks_37 (by decide) (fun h3 => ?_) (fun h3 => ?_)
  · refine lv_aload_n hx hb d_R_picks_52 rfl (lv_at hl 3 rfl) ?_
    refine lv_aload_n hx hb d_R_picks_53 rfl (lv_at hl 3 rfl) ?_
    refine kw_get hx hb hg in_R hown hK hP 0 (Nat.lt_of_lt_of_le (by decide : 0 < 19) hn) e0 rfl 18 (by decide) (hg _ kg_601) rfl rfl d_R_picks_54 ?_
    refine lv_iload_n hx hb d_R_picks_57 rfl (lv_at hl 2 rfl) ?_
    refine kw_iald hx hb hK hP 7 0 (Nat.lt_of_lt_of_le (by decide : 7 < 19) hn) e7 rfl (wh q) (rfl) (hk) (by omega) d_R_picks_58 ?_
    refine lv_iload_n hx hb d_R_picks_59 rfl (lv_at hl 5 rfl) ?_
    refine lv_iload hx hb d_R_picks_60 (lv_at hl 1 rfl) ?_
    refine kw_callix (kw_rV (As := [.int (nI (pb (wh q))), .int (nI i), .int (nI (wd q))]) (rest := []) (q0 := 0) ⟨hx, hb, hml, hown, hg⟩ ⟨callB_of 3 hg (kg_goodG kg_723) rfl rfl rfl (hg _ kg_7) (hg _ kg_720) (by decide +kernel) ⟨by decide, by decide⟩, hg _ kg_722, hg _ (kg_sel (q := (y_R_element, 31)) (by decide +kernel))⟩ (c_R_element l hn ⟨e0, e1, e2, e3, e4, e5, e6, e7, e8, e9, e10, e11, e12, e13, e14, e15, e16, e17, e18⟩ (hb9 (fun z9 => h3 (by rw [z9]; rfl))) ) hK hP (Nat.lt_of_lt_of_le (by decide : 0 < 19) hn) e0 rfl rfl hl.1 rfl (Nat.le_of_ble_eq_true rfl) d_R_picks_62 ⟨Nat.zero_le _, Nat.zero_le _⟩) hA hS (fun H locs hP hS => ?_)
    refine lv_iload hx hb d_R_picks_65 (lv_at hl 1 rfl) ?_
    refine kw_calllx (kw_rS (As := [.int (kv_R_element F (pb (wh q)) i (wd q)), .int (nI (wd q))]) (rest := []) ⟨hx, hb, hml, hown, hg⟩ ⟨callB_of 2 hg (kg_goodG kg_750) rfl rfl rfl (hg _ kg_7) (hg _ kg_748) (by decide +kernel) ⟨by decide, by decide⟩, hg _ kg_749⟩ (c_R_plain l  ) hK hP rfl hl.1 rfl (Nat.le_of_ble_eq_true rfl) d_R_picks_67 ⟨Nat.zero_le _, Nat.zero_le _⟩) hA hS (fun H locs hP hS => ?_)
    exact W.eq (congrArg (fun z9 => F0 m 70 ls (.long z9 :: [])) (show kv_R_plain (kv_R_element F (pb (wh q)) i (wd q)) (nI (wd q)) = (if (nI (po (wh q))) = 15 then (((nI i) + (XB q)).toInt64) else (kv_R_plain (kv_R_element F (pb (wh q)) i (wd q)) (nI (wd q))) : Int64) from (by rw [if_neg h3]))) (K70 _ _ _ hP hS hl)
  · refine lv_iload_n hx hb d_R_picks_40 rfl (lv_at hl 5 rfl) ?_
    refine lv_aload_n hx hb d_R_picks_41 rfl (lv_at hl 3 rfl) ?_
    refine kw_get hx hb hg in_R hown hK hP 0 (Nat.lt_of_lt_of_le (by decide : 0 < 19) hn) e0 rfl 30 (by decide) (hg _ kg_613) rfl rfl d_R_picks_42 ?_
    refine lv_iload_n hx hb d_R_picks_45 rfl (lv_at hl 4 rfl) ?_
    refine kw_iald hx hb hK hP 18 0 (Nat.lt_of_lt_of_le (by decide : 18 < 19) hn) e18 rfl q (rfl) (hq) (by omega) d_R_picks_46 ?_
    refine lv_iadd hx hb d_R_picks_47 ?_
    refine lv_i2l hx hb d_R_picks_48 rfl ?_
    refine lv_goto (tgt := 70) hx hb d_R_picks_49 (by decide) ?_
    exact W.eq (congrArg (fun z9 => F0 m 70 ls (.long z9 :: [])) (show ((nI i) + (XB q)).toInt64 = (if (nI (po (wh q))) = 15 then (((nI i) + (XB q)).toInt64) else (kv_R_plain (kv_R_element F (pb (wh q)) i (wd q)) (nI (wd q))) : Int64) from (by rw [if_pos h3]))) (K70 _ _ _ hP hS hl)
