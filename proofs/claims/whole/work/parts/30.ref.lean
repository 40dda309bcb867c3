/-! the reference: its cells, its reads -/
abbrev ktR (cI cZ : ClassId) : List (ClassId × FieldType) := [(cI, .int), (cZ, .boolean)]
/-- the cells of the reference: its object, and its rows -/
def kR (ad : Nat → Nat) (cI cZ : ClassId) (cs : Nat → va_E) (la : Nat) (th : Int32) (st : Nat) (nx : Int32) (wi : Nat) (gp : Nat) (vl : Nat) (sa : Nat) (bo : Nat) (cy : Int32) (sd : Int32) (ma : Nat) (qu : Nat) (X : Nat → Int32) (F : Nat → Int32) (M : Nat → Int32) (po : Nat → Nat) (pd : Nat → Nat) (pa : Nat → Nat) (pb : Nat → Nat) (pn : Nat → Int32) (pm : Nat → Int32) (wh : Nat → Nat) (wd : Nat → Nat) (rg : Nat → Nat) (fr : Nat → Nat) (sp : Nat → Nat) (dn : Nat → Nat) (bf : Nat → Nat) (XA : Nat → Int32) (XB : Nat → Int32) : Prop :=
  cs 0 = .inr (5, [.int (nI la), .int th, .int (nI st), .int nx, .int (nI wi), .int (nI gp), .int (nI vl), .int (nI sa), .int (nI bo), .int cy, .int sd, .ref (ad 1), .ref (ad 2), .ref (ad 3), .int (nI ma), .ref (ad 4), .ref (ad 5), .ref (ad 6), .ref (ad 7), .ref (ad 8), .ref (ad 9), .int (nI qu), .ref (ad 10), .ref (ad 11), .ref (ad 12), .ref (ad 13), .ref (ad 14), .ref (ad 15), .ref (ad 16), .ref (ad 17), .ref (ad 18)]) ∧ cs 1 = .inl (cI, 8, .inl (X)) ∧ cs 2 = .inl (cI, 64, .inl (F)) ∧ cs 3 = .inl (cI, 128, .inl (M)) ∧ cs 4 = .inl (cI, 40, .inl (fun i => nI (po i))) ∧ cs 5 = .inl (cI, 40, .inl (fun i => nI (pd i))) ∧ cs 6 = .inl (cI, 40, .inl (fun i => nI (pa i))) ∧ cs 7 = .inl (cI, 40, .inl (fun i => nI (pb i))) ∧ cs 8 = .inl (cI, 40, .inl (pn)) ∧ cs 9 = .inl (cZ, 40, .inl (pm)) ∧ cs 10 = .inl (cI, 5, .inl (fun i => nI (wh i))) ∧ cs 11 = .inl (cI, 5, .inl (fun i => nI (wd i))) ∧ cs 12 = .inl (cI, 5, .inl (fun i => nI (rg i))) ∧ cs 13 = .inl (cI, 5, .inl (fun i => nI (fr i))) ∧ cs 14 = .inl (cI, 5, .inl (fun i => nI (sp i))) ∧ cs 15 = .inl (cI, 5, .inl (fun i => nI (dn i))) ∧ cs 16 = .inl (cI, 5, .inl (fun i => nI (bf i))) ∧ cs 17 = .inl (cI, 5, .inl (XA)) ∧ cs 18 = .inl (cI, 5, .inl (XB))

set_option maxRecDepth 100000 in
set_option maxHeartbeats 4000000 in
theorem c_R_thrown (l : Launch) {D : va_G} {ad : Nat → Nat} {n : Nat} {cs : Nat → va_E} {cI : ClassId} {cZ : ClassId} {la : Nat} {th : Int32} {st : Nat} {nx : Int32} {wi : Nat} {gp : Nat} {vl : Nat} {sa : Nat} {bo : Nat} {cy : Int32} {sd : Int32} {ma : Nat} {qu : Nat} {X : Nat → Int32} {F : Nat → Int32} {M : Nat → Int32} {po : Nat → Nat} {pd : Nat → Nat} {pa : Nat → Nat} {pb : Nat → Nat} {pn : Nat → Int32} {pm : Nat → Int32} {wh : Nat → Nat} {wd : Nat → Nat} {rg : Nat → Nat} {fr : Nat → Nat} {sp : Nat → Nat} {dn : Nat → Nat} {bf : Nat → Nat} {XA : Nat → Int32} {XB : Nat → Int32} (hn : 19 ≤ n) (hR : kR ad cI cZ cs la th st nx wi gp vl sa bo cy sd ma qu X F M po pd pa pb pn pm wh wd rg fr sp dn bf XA XB)  : kw_mi l y_R_thrown w_R_thrown (kr 0) D kc (ktR cI cZ) ad n cs [.ref (ad 0)] (fun r9 c9 => r9 = th ∧ c9 = cs) := by
  refine kw_of (cc := b_R_thrown) (maxL := 1) (ret := (some .int)) (by decide) rfl (Nat.le_of_ble_eq_true rfl) ?_
  intro p e s m below meth c ls hx hb hr hml hown hts hlocks hP hK hl
  have hg : ∀ w9 ∈ kg_G, w9.before [.ref (ad 0)].toArray s = true := fun w9 h9 => hts w9 (List.mem_cons_of_mem _ h9)
  have hown : s.vm.findClass "LaneMachineModel" = some m.cls := hown
  have hA : ∀ k, k < n → kw_A ad n (ad k) := fun k hk => ⟨k, hk, rfl⟩
  have hS : va_S (kw_A ad n) s.heap s.heap [] := va_S.rf
  have hl : lv_has ls 1 [(0, .ref (ad 0))] := hl
  obtain ⟨e0, e1, e2, e3, e4, e5, e6, e7, e8, e9, e10, e11, e12, e13, e14, e15, e16, e17, e18⟩ := hR
  refine lv_aload_n hx hb d_R_thrown_0 rfl (lv_at hl 0 rfl) ?_
  refine kw_get hx hb hg in_R hown hK hP 0 (Nat.lt_of_lt_of_le (by decide : 0 < 19) hn) e0 rfl 1 (by decide) (hg _ kg_584) rfl rfl d_R_thrown_1 ?_
  exact kw_iret hx hb hr hlocks hP hK hS ⟨rfl, rfl⟩ d_R_thrown_4

set_option maxRecDepth 100000 in
set_option maxHeartbeats 4000000 in
theorem c_R_vlOf (l : Launch) {D : va_G} {ad : Nat → Nat} {n : Nat} {cs : Nat → va_E} {cI : ClassId} {cZ : ClassId} {la : Nat} {th : Int32} {st : Nat} {nx : Int32} {wi : Nat} {gp : Nat} {vl : Nat} {sa : Nat} {bo : Nat} {cy : Int32} {sd : Int32} {ma : Nat} {qu : Nat} {X : Nat → Int32} {F : Nat → Int32} {M : Nat → Int32} {po : Nat → Nat} {pd : Nat → Nat} {pa : Nat → Nat} {pb : Nat → Nat} {pn : Nat → Int32} {pm : Nat → Int32} {wh : Nat → Nat} {wd : Nat → Nat} {rg : Nat → Nat} {fr : Nat → Nat} {sp : Nat → Nat} {dn : Nat → Nat} {bf : Nat → Nat} {XA : Nat → Int32} {XB : Nat → Int32} {q : Nat} (hn : 19 ≤ n) (hR : kR ad cI cZ cs la th st nx wi gp vl sa bo cy sd ma qu X F M po pd pa pb pn pm wh wd rg fr sp dn bf XA XB) (hq : q < 5) : kw_mi l y_R_vlOf w_R_vlOf (kr 0) D kc (ktR cI cZ) ad n cs [.ref (ad 0), .int (nI q)] (fun r9 c9 => r9 = XA q ∧ c9 = cs) := by
  refine kw_of (cc := b_R_vlOf) (maxL := 2) (ret := (some .int)) (by decide) rfl (Nat.le_of_ble_eq_true rfl) ?_
  intro p e s m below meth c ls hx hb hr hml hown hts hlocks hP hK hl
  have hg : ∀ w9 ∈ kg_G, w9.before [.ref (ad 0), .int (nI q)].toArray s = true := fun w9 h9 => hts w9 (List.mem_cons_of_mem _ h9)
  have hown : s.vm.findClass "LaneMachineModel" = some m.cls := hown
  have hA : ∀ k, k < n → kw_A ad n (ad k) := fun k hk => ⟨k, hk, rfl⟩
  have hS : va_S (kw_A ad n) s.heap s.heap [] := va_S.rf
  have hl : lv_has ls 2 [(0, .ref (ad 0)), (1, .int (nI q))] := hl
  obtain ⟨e0, e1, e2, e3, e4, e5, e6, e7, e8, e9, e10, e11, e12, e13, e14, e15, e16, e17, e18⟩ := hR
  refine lv_aload_n hx hb d_R_vlOf_0 rfl (lv_at hl 0 rfl) ?_
  refine kw_get hx hb hg in_R hown hK hP 0 (Nat.lt_of_lt_of_le (by decide : 0 < 19) hn) e0 rfl 29 (by decide) (hg _ kg_612) rfl rfl d_R_vlOf_1 ?_
  refine lv_iload_n hx hb d_R_vlOf_4 rfl (lv_at hl 1 rfl) ?_
  refine kw_iald hx hb hK hP 17 0 (Nat.lt_of_lt_of_le (by decide : 17 < 19) hn) e17 rfl q (rfl) (hq) (by omega) d_R_vlOf_5 ?_
  exact kw_iret hx hb hr hlocks hP hK hS ⟨rfl, rfl⟩ d_R_vlOf_6

def kv_R_bit (F : Nat → Int32) (r i : Nat) : Int32 := if ((F (8 * r + i / 8) >>> ((nI i - nI i / 8 * 8) &&& 31)) &&& 1) = 1 then 1 else 0

set_option maxRecDepth 100000 in
set_option maxHeartbeats 4000000 in
theorem c_R_bit (l : Launch) {D : va_G} {ad : Nat → Nat} {n : Nat} {cs : Nat → va_E} {cI : ClassId} {cZ : ClassId} {la : Nat} {th : Int32} {st : Nat} {nx : Int32} {wi : Nat} {gp : Nat} {vl : Nat} {sa : Nat} {bo : Nat} {cy : Int32} {sd : Int32} {ma : Nat} {qu : Nat} {X : Nat → Int32} {F : Nat → Int32} {M : Nat → Int32} {po : Nat → Nat} {pd : Nat → Nat} {pa : Nat → Nat} {pb : Nat → Nat} {pn : Nat → Int32} {pm : Nat → Int32} {wh : Nat → Nat} {wd : Nat → Nat} {rg : Nat → Nat} {fr : Nat → Nat} {sp : Nat → Nat} {dn : Nat → Nat} {bf : Nat → Nat} {XA : Nat → Int32} {XB : Nat → Int32} {r : Nat} {i : Nat} (hn : 19 ≤ n) (hR : kR ad cI cZ cs la th st nx wi gp vl sa bo cy sd ma qu X F M po pd pa pb pn pm wh wd rg fr sp dn bf XA XB) (hi : i < 2 ^ 20) (hr9 : 8 * r + i / 8 < 64) : kw_mi l y_R_bit w_R_bit (kr 0) D kc (ktR cI cZ) ad n cs [.ref (ad 0), .int (nI r), .int (nI i)] (fun r9 c9 => r9 = kv_R_bit F r i ∧ c9 = cs) := by
  refine kw_of (cc := b_R_bit) (maxL := 3) (ret := (some .boolean)) (by decide) rfl (Nat.le_of_ble_eq_true rfl) ?_
  intro p e s m below meth c ls hx hb hr hml hown hts hlocks hP hK hl
  have hg : ∀ w9 ∈ kg_G, w9.before [.ref (ad 0), .int (nI r), .int (nI i)].toArray s = true := fun w9 h9 => hts w9 (List.mem_cons_of_mem _ h9)
  have hown : s.vm.findClass "LaneMachineModel" = some m.cls := hown
  have hA : ∀ k, k < n → kw_A ad n (ad k) := fun k hk => ⟨k, hk, rfl⟩
  have hS : va_S (kw_A ad n) s.heap s.heap [] := va_S.rf
  have hl : lv_has ls 3 [(0, .ref (ad 0)), (1, .int (nI r)), (2, .int (nI i))] := hl
  obtain ⟨e0, e1, e2, e3, e4, e5, e6, e7, e8, e9, e10, e11, e12, e13, e14, e15, e16, e17, e18⟩ := hR
  refine lv_aload_n hx hb d_R_bit_0 rfl (lv_at hl 0 rfl) ?_
  refine kw_get hx hb hg in_R hown hK hP 0 (Nat.lt_of_lt_of_le (by decide : 0 < 19) hn) e0 rfl 12 (by decide) (hg _ kg_595) rfl rfl d_R_bit_1 ?_
  refine lv_bipush (v := 8) hx hb d_R_bit_4 (by decide) ?_
  refine lv_iload_n hx hb d_R_bit_6 rfl (lv_at hl 1 rfl) ?_
  refine lv_imul hx hb d_R_bit_7 ?_
  refine lv_iload_n hx hb d_R_bit_8 rfl (lv_at hl 2 rfl) ?_
  refine lv_bipush (v := 8) hx hb d_R_bit_9 (by decide) ?_
  refine lv_idiv hx hb d_R_bit_11 (by decide) ?_
  refine lv_iadd hx hb d_R_bit_12 ?_
  refine kw_iald hx hb hK hP 2 0 (Nat.lt_of_lt_of_le (by decide : 2 < 19) hn) e2 rfl (8 * r + i / 8) (by rw [show (8 : Int32) = nI 8 from rfl, pk_mul, pk_div (by omega) (by decide) (by decide), nI_add]) (hr9) (by omega) d_R_bit_13 ?_
  refine lv_iload_n hx hb d_R_bit_14 rfl (lv_at hl 2 rfl) ?_
  refine lv_bipush (v := 8) hx hb d_R_bit_15 (by decide) ?_
  refine lv_irem hx hb d_R_bit_17 (by decide) ?_
  refine lv_ishr hx hb d_R_bit_18 ?_
  refine lv_iconst (v := 1) hx hb d_R_bit_19 (by decide) ?_
  refine lv_iand hx hb d_R_bit_20 ?_
  refine lv_iconst (v := 1) hx hb d_R_bit_21 (by decide) ?_
  refine lv_icmp_ne (tgt := 29) hx hb d_R_bit_22 (by decide) (fun h1 => ?_) (fun h1 => ?_)
  · refine lv_iconst (v := 0) hx hb d_R_bit_29 (by decide) ?_
    exact kw_zret hx hb hr hlocks hP hK hS (Or.inl rfl) ⟨by rw [kv_R_bit, if_neg h1], rfl⟩ d_R_bit_30
  · refine lv_iconst (v := 1) hx hb d_R_bit_25 (by decide) ?_
    refine lv_goto (tgt := 30) hx hb d_R_bit_26 (by decide) ?_
    exact kw_zret hx hb hr hlocks hP hK hS (Or.inr rfl) ⟨by rw [kv_R_bit, if_pos h1], rfl⟩ d_R_bit_30

def kv_el (F : Nat → Int32) (q : Nat) : Nat → Int64 → Int64
  | 0, v => v
  | j + 1, v => kv_el F q j (v * 256 + (F (q + j) &&& 255).toInt64)
def kv_R_element (F : Nat → Int32) (r i w : Nat) : Int32 := kv_R_signed (kv_el F (8 * r + i * w) w 0) (nI w)

set_option maxRecDepth 100000 in
set_option maxHeartbeats 4000000 in
theorem c_R_element (l : Launch) {D : va_G} {ad : Nat → Nat} {n : Nat} {cs : Nat → va_E} {cI : ClassId} {cZ : ClassId} {la : Nat} {th : Int32} {st : Nat} {nx : Int32} {wi : Nat} {gp : Nat} {vl : Nat} {sa : Nat} {bo : Nat} {cy : Int32} {sd : Int32} {ma : Nat} {qu : Nat} {X : Nat → Int32} {F : Nat → Int32} {M : Nat → Int32} {po : Nat → Nat} {pd : Nat → Nat} {pa : Nat → Nat} {pb : Nat → Nat} {pn : Nat → Int32} {pm : Nat → Int32} {wh : Nat → Nat} {wd : Nat → Nat} {rg : Nat → Nat} {fr : Nat → Nat} {sp : Nat → Nat} {dn : Nat → Nat} {bf : Nat → Nat} {XA : Nat → Int32} {XB : Nat → Int32} {r : Nat} {i : Nat} {w : Nat} (hn : 19 ≤ n) (hR : kR ad cI cZ cs la th st nx wi gp vl sa bo cy sd ma qu X F M po pd pa pb pn pm wh wd rg fr sp dn bf XA XB) (hr9 : 8 * r + i * w + w ≤ 64) : kw_mi l y_R_element w_R_element (kr 1) D kc (ktR cI cZ) ad n cs [.ref (ad 0), .int (nI r), .int (nI i), .int (nI w)] (fun r9 c9 => r9 = kv_R_element F r i w ∧ c9 = cs) := by
  refine kw_of (cc := b_R_element) (maxL := 7) (ret := (some .int)) (by decide) rfl (Nat.le_of_ble_eq_true rfl) ?_
  intro p e s m below meth c ls hx hb hr hml hown hts hlocks hP hK hl
  have hg : ∀ w9 ∈ kg_G, w9.before [.ref (ad 0), .int (nI r), .int (nI i), .int (nI w)].toArray s = true := fun w9 h9 => hts w9 (List.mem_cons_of_mem _ h9)
  have hown : s.vm.findClass "LaneMachineModel" = some m.cls := hown
  have hA : ∀ k, k < n → kw_A ad n (ad k) := fun k hk => ⟨k, hk, rfl⟩
  have hS : va_S (kw_A ad n) s.heap s.heap [] := va_S.rf
  have hl : lv_has ls 7 [(0, .ref (ad 0)), (1, .int (nI r)), (2, .int (nI i)), (3, .int (nI w))] := hl
  obtain ⟨e0, e1, e2, e3, e4, e5, e6, e7, e8, e9, e10, e11, e12, e13, e14, e15, e16, e17, e18⟩ := hR
  refine lv_lconst (v := 0) hx hb d_R_element_0 (by decide) ?_
  refine lv_lstore (lv' := [(4, .long 0), (0, .ref (ad 0)), (1, .int (nI r)), (2, .int (nI i)), (3, .int (nI w))]) hx hb d_R_element_1 hl (by decide) rfl (fun ls hl => ?_)
  refine lv_iload_n hx hb d_R_element_3 rfl (lv_at hl 4 rfl) ?_
  refine lv_iconst (v := 1) hx hb d_R_element_4 (by decide) ?_
  refine lv_isub hx hb d_R_element_5 ?_
  refine lv_istore (lv' := [(6, .int ((nI w) - 1)), (4, .long 0), (0, .ref (ad 0)), (1, .int (nI r)), (2, .int (nI i)), (3, .int (nI w))]) hx hb d_R_element_6 hl (by decide) rfl (fun ls hl => ?_)
  have loop : ∀ (kk : Nat) (v : Int64) (H : Heap) (locs : List Loc) (ls : Array Slot), kk ≤ w → kv_el F (8 * r + i * w) w 0 = kv_el F (8 * r + i * w) kk v → va_P D kc (kw_w ad cs n) H → va_S (kw_A ad n) s.heap H locs → lv_has ls 7 [(6, .int (nI kk - 1)), (4, .long v), (0, .ref (ad 0)), (1, .int (nI r)), (2, .int (nI i)), (3, .int (nI w))] → W p l e (kr 1) s m [.ref (ad 0), .int (nI r), .int (nI i), .int (nI w)].toArray below meth c H locs 0 0 (MQ below (va_Qi (fun r9 c9 => r9 = kv_R_element F r i w ∧ c9 = cs) (kw_Pre D kc (ktR cI cZ) ad n) (kw_A ad n)) [.ref (ad 0), .int (nI r), .int (nI i), .int (nI w)].toArray s 0 0 (kw_A ad n)) (F0 m 8 ls []) := by
    intro kk
    induction kk with
    | zero =>
      intro v H locs ls hk hv hP hS hl
      refine lv_iload hx hb d_R_element_8 (lv_at hl 0 rfl) ?_
      refine lv_if_lt (tgt := 49) hx hb d_R_element_10 (by decide) (fun _ => ?_) (fun h1 => absurd (by decide) h1)
      refine lv_lload hx hb d_R_element_49 (lv_at hl 1 rfl) ?_
      refine lv_iload_n hx hb d_R_element_51 rfl (lv_at hl 5 rfl) ?_
      refine kw_callix (kw_rS (As := [.long v, .int (nI w)]) (rest := []) ⟨hx, hb, hml, hown, hg⟩ ⟨callB_of 2 hg (kg_goodG kg_727) rfl rfl rfl (hg _ kg_7) (hg _ kg_725) (by decide +kernel) ⟨by decide, by decide⟩, hg _ kg_726⟩ (c_R_signed l  ) hK hP rfl hl.1 rfl (Nat.le_of_ble_eq_true rfl) d_R_element_52 ⟨Nat.zero_le _, Nat.zero_le _⟩) hA hS (fun H locs hP hS => ?_)
      exact kw_iret hx hb hr hlocks hP hK hS ⟨by rw [kv_R_element, hv, kv_el], rfl⟩ d_R_element_55
    | succ j ih =>
      intro v H locs ls hk hv hP hS hl
      refine lv_iload hx hb d_R_element_8 (lv_at hl 0 rfl) ?_
      refine lv_if_lt (tgt := 49) hx hb d_R_element_10 (by decide) (fun h2 => absurd h2 (by rw [nI_pred]; exact nI_pos (by omega))) (fun _ => ?_)
      refine lv_lload hx hb d_R_element_13 (lv_at hl 1 rfl) ?_
      refine lv_ldc2 (v := 256) hx hb hown (hg _ kg_724) d_R_element_15 ?_
      refine lv_lmul hx hb d_R_element_18 ?_
      refine lv_aload_n hx hb d_R_element_19 rfl (lv_at hl 2 rfl) ?_
      refine kw_get hx hb hg in_R hown hK hP 0 (Nat.lt_of_lt_of_le (by decide : 0 < 19) hn) e0 rfl 12 (by decide) (hg _ kg_595) rfl rfl d_R_element_20 ?_
      refine lv_bipush (v := 8) hx hb d_R_element_23 (by decide) ?_
      refine lv_iload_n hx hb d_R_element_25 rfl (lv_at hl 3 rfl) ?_
      refine lv_imul hx hb d_R_element_26 ?_
      refine lv_iload_n hx hb d_R_element_27 rfl (lv_at hl 4 rfl) ?_
      refine lv_iload_n hx hb d_R_element_28 rfl (lv_at hl 5 rfl) ?_
      refine lv_imul hx hb d_R_element_29 ?_
      refine lv_iadd hx hb d_R_element_30 ?_
      refine lv_iload hx hb d_R_element_31 (lv_at hl 0 rfl) ?_
      refine lv_iadd hx hb d_R_element_33 ?_
      refine kw_iald hx hb hK hP 2 0 (Nat.lt_of_lt_of_le (by decide : 2 < 19) hn) e2 rfl (8 * r + i * w + j) (by rw [show (8 : Int32) = nI 8 from rfl, pk_mul, pk_mul, nI_add, nI_pred, nI_add]) (by omega) (by omega) d_R_element_34 ?_
      refine lv_sipush (v := 255) hx hb d_R_element_35 (by decide) ?_
      refine lv_iand hx hb d_R_element_38 ?_
      refine lv_i2l hx hb d_R_element_39 rfl ?_
      refine lv_ladd hx hb d_R_element_40 ?_
      refine lv_lstore (lv' := [(4, .long ((v * 256) + (((F (8 * r + i * w + j)) &&& 255).toInt64))), (6, .int (nI (j + 1) - 1)), (0, .ref (ad 0)), (1, .int (nI r)), (2, .int (nI i)), (3, .int (nI w))]) hx hb d_R_element_41 hl (by decide) rfl (fun ls hl => ?_)
      refine lv_iinc (k := 1) (v := nI j - 1) (lv' := [(6, .int (nI j - 1)), (4, .long ((v * 256) + (((F (8 * r + i * w + j)) &&& 255).toInt64))), (0, .ref (ad 0)), (1, .int (nI r)), (2, .int (nI i)), (3, .int (nI w))]) hx hb d_R_element_43 hl rfl (by rw [nI_pred]; exact kw_m1 _) (by decide) rfl (fun ls hl => ?_)
      refine lv_goto (tgt := 8) hx hb d_R_element_46 (by decide) ?_
      exact ih _ _ _ _ (by omega) (hv) (hP) hS (lv_sub hl [0, 1, 2, 3, 4, 5] rfl)
  exact loop w 0 _ _ _ (Nat.le_refl _) (rfl) (hP) hS (lv_sub hl [0, 1, 2, 3, 4, 5] rfl)
