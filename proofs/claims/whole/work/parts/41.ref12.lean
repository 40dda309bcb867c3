/-! the reference: bad, configures -/
def kv_bd (F : Nat → Int32) (po pb : Nat → Nat) (pm : Nat → Int32) (wh wd : Nat → Nat) (XA XB : Nat → Int32) (wi vl bo q : Nat) : Nat → Nat → Nat
  | 0, _ => vl
  | k + 1, i => if pm (wh q) = 0 then (if kv_R_place F po pb wh wd XA XB q i < 0 then i else if kv_R_place F po pb wh wd XA XB q i ≤ nI bo - nI wi then kv_bd F po pb pm wh wd XA XB wi vl bo q k (i + 1) else i)
    else if kv_R_bit F 0 i = 0 then kv_bd F po pb pm wh wd XA XB wi vl bo q k (i + 1)
    else if kv_R_place F po pb wh wd XA XB q i < 0 then i else if kv_R_place F po pb wh wd XA XB q i ≤ nI bo - nI wi then kv_bd F po pb pm wh wd XA XB wi vl bo q k (i + 1) else i

set_option maxRecDepth 100000 in
set_option maxHeartbeats 4000000 in
theorem c_R_bad (l : Launch) {D : va_G} {ad : Nat → Nat} {n : Nat} {cs : Nat → va_E} {cI : ClassId} {cZ : ClassId} {la : Nat} {th : Int32} {st : Nat} {nx : Int32} {wi : Nat} {gp : Nat} {vl : Nat} {sa : Nat} {bo : Nat} {cy : Int32} {sd : Int32} {ma : Nat} {qu : Nat} {X : Nat → Int32} {F : Nat → Int32} {M : Nat → Int32} {po : Nat → Nat} {pd : Nat → Nat} {pa : Nat → Nat} {pb : Nat → Nat} {pn : Nat → Int32} {pm : Nat → Int32} {wh : Nat → Nat} {wd : Nat → Nat} {rg : Nat → Nat} {fr : Nat → Nat} {sp : Nat → Nat} {dn : Nat → Nat} {bf : Nat → Nat} {XA : Nat → Int32} {XB : Nat → Int32} {q : Nat} (hn : 19 ≤ n) (hR : kR ad cI cZ cs la th st nx wi gp vl sa bo cy sd ma qu X F M po pd pa pb pn pm wh wd rg fr sp dn bf XA XB) (hq : q < 5) (hk : wh q < 40) (ho9 : po (wh q) < 21) (hsv : sa ≤ vl) (hvl : vl ≤ 64) (hb9 : po (wh q) = 19 → ∀ i, i < vl → 8 * pb (wh q) + i * wd q + wd q ≤ 64) : kw_mi l y_R_bad w_R_bad (kr 3) D kc (ktR cI cZ) ad n cs [.ref (ad 0), .int (nI q)] (fun r9 c9 => r9 = nI (kv_bd F po pb pm wh wd XA XB wi vl bo q (vl - sa) sa) ∧ c9 = cs) := by
  refine kw_of (cc := b_R_bad) (maxL := 5) (ret := (some .int)) (by decide) rfl (Nat.le_of_ble_eq_true rfl) ?_
  intro p e s m below meth c ls hx hb hr hml hown hts hlocks hP hK hl
  have hg : ∀ w9 ∈ kg_G, w9.before [.ref (ad 0), .int (nI q)].toArray s = true := fun w9 h9 => hts w9 (List.mem_cons_of_mem _ h9)
  have hown : s.vm.findClass "LaneMachineModel" = some m.cls := hown
  have hA : ∀ k, k < n → kw_A ad n (ad k) := fun k hk => ⟨k, hk, rfl⟩
  have hS : va_S (kw_A ad n) s.heap s.heap [] := va_S.rf
  have hl : lv_has ls 5 [(0, .ref (ad 0)), (1, .int (nI q))] := hl
  obtain ⟨e0, e1, e2, e3, e4, e5, e6, e7, e8, e9, e10, e11, e12, e13, e14, e15, e16, e17, e18⟩ := hR
  refine lv_aload_n hx hb d_R_bad_0 rfl (lv_at hl 0 rfl) ?_
  refine kw_get hx hb hg in_R hown hK hP 0 (Nat.lt_of_lt_of_le (by decide : 0 < 19) hn) e0 rfl 22 (by decide) (hg _ kg_605) rfl rfl d_R_bad_1 ?_
  refine lv_iload_n hx hb d_R_bad_4 rfl (lv_at hl 1 rfl) ?_
  refine kw_iald hx hb hK hP 10 0 (Nat.lt_of_lt_of_le (by decide : 10 < 19) hn) e10 rfl q (rfl) (hq) (by omega) d_R_bad_5 ?_
  refine lv_istore_n (lv' := [(2, .int (nI (wh q))), (0, .ref (ad 0)), (1, .int (nI q))]) hx hb d_R_bad_6 rfl hl (by decide) rfl (fun ls hl => ?_)
  refine lv_aload_n hx hb d_R_bad_7 rfl (lv_at hl 1 rfl) ?_
  refine kw_get hx hb hg in_R hown hK hP 0 (Nat.lt_of_lt_of_le (by decide : 0 < 19) hn) e0 rfl 7 (by decide) (hg _ kg_590) rfl rfl d_R_bad_8 ?_
  refine lv_istore_n (lv' := [(3, .int (nI sa)), (2, .int (nI (wh q))), (0, .ref (ad 0)), (1, .int (nI q))]) hx hb d_R_bad_11 rfl hl (by decide) rfl (fun ls hl => ?_)
  have loop : ∀ (kk : Nat) (i : Nat) (H : Heap) (locs : List Loc) (ls : Array Slot), i + kk = vl → kv_bd F po pb pm wh wd XA XB wi vl bo q (vl - sa) sa = kv_bd F po pb pm wh wd XA XB wi vl bo q kk i → va_P D kc (kw_w ad cs n) H → va_S (kw_A ad n) s.heap H locs → lv_has ls 5 [(3, .int (nI i)), (2, .int (nI (wh q))), (0, .ref (ad 0)), (1, .int (nI q))] → W p l e (kr 3) s m [.ref (ad 0), .int (nI q)].toArray below meth c H locs 0 0 (MQ below (va_Qi (fun r9 c9 => r9 = nI (kv_bd F po pb pm wh wd XA XB wi vl bo q (vl - sa) sa) ∧ c9 = cs) (kw_Pre D kc (ktR cI cZ) ad n) (kw_A ad n)) [.ref (ad 0), .int (nI q)].toArray s 0 0 (kw_A ad n)) (F0 m 12 ls []) := by
    intro kk
    induction kk with
    | zero =>
      intro i H locs ls hik hv hP hS hl
      refine lv_iload_n hx hb d_R_bad_12 rfl (lv_at hl 0 rfl) ?_
      refine lv_aload_n hx hb d_R_bad_13 rfl (lv_at hl 2 rfl) ?_
      refine kw_get hx hb hg in_R hown hK hP 0 (Nat.lt_of_lt_of_le (by decide : 0 < 19) hn) e0 rfl 6 (by decide) (hg _ kg_589) rfl rfl d_R_bad_14 ?_
      refine lv_icmp_ge (tgt := 73) hx hb d_R_bad_17 (by decide) (fun _ => ?_) (fun h1 => absurd (nI_le (by omega) (by omega)) h1)
      refine lv_aload_n hx hb d_R_bad_73 rfl (lv_at hl 2 rfl) ?_
      refine kw_get hx hb hg in_R hown hK hP 0 (Nat.lt_of_lt_of_le (by decide : 0 < 19) hn) e0 rfl 6 (by decide) (hg _ kg_589) rfl rfl d_R_bad_74 ?_
      exact kw_iret hx hb hr hlocks hP hK hS ⟨by rw [hv, kv_bd], rfl⟩ d_R_bad_77
    | succ j ih =>
      intro i H locs ls hik hv hP hS hl
      refine lv_iload_n hx hb d_R_bad_12 rfl (lv_at hl 0 rfl) ?_
      refine lv_aload_n hx hb d_R_bad_13 rfl (lv_at hl 2 rfl) ?_
      refine kw_get hx hb hg in_R hown hK hP 0 (Nat.lt_of_lt_of_le (by decide : 0 < 19) hn) e0 rfl 6 (by decide) (hg _ kg_589) rfl rfl d_R_bad_14 ?_
      refine lv_icmp_ge (tgt := 73) hx hb d_R_bad_17 (by decide) (fun h2 => absurd h2 (nI_ge (by omega) (by omega))) (fun _ => ?_)
      refine lv_aload_n hx hb d_R_bad_20 rfl (lv_at hl 2 rfl) ?_
      refine kw_get hx hb hg in_R hown hK hP 0 (Nat.lt_of_lt_of_le (by decide : 0 < 19) hn) e0 rfl 20 (by decide) (hg _ kg_603) rfl rfl d_R_bad_21 ?_
      refine lv_iload_n hx hb d_R_bad_24 rfl (lv_at hl 1 rfl) ?_
      refine kw_zald hx hb hK hP 9 1 (Nat.lt_of_lt_of_le (by decide : 9 < 19) hn) e9 rfl (wh q) (rfl) (hk) (by omega) d_R_bad_25 ?_
      refine lv_if_eq (tgt := 38) hx hb d_R_bad_26 (by decide) (fun h3 => ?_) (fun h3 => ?_)
      · refine lv_aload_n hx hb d_R_bad_38 rfl (lv_at hl 2 rfl) ?_
        refine lv_iload_n hx hb d_R_bad_39 rfl (lv_at hl 3 rfl) ?_
        refine lv_iload_n hx hb d_R_bad_40 rfl (lv_at hl 0 rfl) ?_
        refine kw_callix (kw_rV (As := [.int (nI q), .int (nI i)]) (rest := []) (q0 := 0) ⟨hx, hb, hml, hown, hg⟩ ⟨callB_of 2 hg (kg_goodG kg_747) rfl rfl rfl (hg _ kg_7) (hg _ kg_744) (by decide +kernel) ⟨by decide, by decide⟩, hg _ kg_746, hg _ (kg_sel (q := (y_R_place, 31)) (by decide +kernel))⟩ (c_R_place l hn ⟨e0, e1, e2, e3, e4, e5, e6, e7, e8, e9, e10, e11, e12, e13, e14, e15, e16, e17, e18⟩ hq hk ho9 (fun z9 => hb9 z9 _ (by omega)) ) hK hP (Nat.lt_of_lt_of_le (by decide : 0 < 19) hn) e0 rfl rfl hl.1 rfl (Nat.le_of_ble_eq_true rfl) d_R_bad_41 ⟨Nat.zero_le _, Nat.zero_le _⟩) hA hS (fun H locs hP hS => ?_)
        refine lv_istore (lv' := [(4, .int (kv_R_place F po pb wh wd XA XB q i)), (3, .int (nI i)), (2, .int (nI (wh q))), (0, .ref (ad 0)), (1, .int (nI q))]) hx hb d_R_bad_44 hl (by decide) rfl (fun ls hl => ?_)
        refine lv_iload hx hb d_R_bad_46 (lv_at hl 0 rfl) ?_
        refine lv_if_lt (tgt := 65) hx hb d_R_bad_48 (by decide) (fun h4 => ?_) (fun h4 => ?_)
        · refine lv_iload_n hx hb d_R_bad_65 rfl (lv_at hl 1 rfl) ?_
          exact kw_iret hx hb hr hlocks hP hK hS ⟨by rw [hv, kv_bd, if_pos h3, if_pos h4], rfl⟩ d_R_bad_66
        · refine lv_iload hx hb d_R_bad_51 (lv_at hl 0 rfl) ?_
          refine lv_aload_n hx hb d_R_bad_53 rfl (lv_at hl 3 rfl) ?_
          refine kw_get hx hb hg in_R hown hK hP 0 (Nat.lt_of_lt_of_le (by decide : 0 < 19) hn) e0 rfl 8 (by decide) (hg _ kg_591) rfl rfl d_R_bad_54 ?_
          refine lv_aload_n hx hb d_R_bad_57 rfl (lv_at hl 3 rfl) ?_
          refine kw_get hx hb hg in_R hown hK hP 0 (Nat.lt_of_lt_of_le (by decide : 0 < 19) hn) e0 rfl 4 (by decide) (hg _ kg_587) rfl rfl d_R_bad_58 ?_
          refine lv_isub hx hb d_R_bad_61 ?_
          refine lv_icmp_le (tgt := 67) hx hb d_R_bad_62 (by decide) (fun h5 => ?_) (fun h5 => ?_)
          · refine lv_iinc (k := 1) (v := nI (i + 1)) (lv' := [(3, .int (nI (i + 1))), (4, .int (kv_R_place F po pb wh wd XA XB q i)), (2, .int (nI (wh q))), (0, .ref (ad 0)), (1, .int (nI q))]) hx hb d_R_bad_67 hl rfl ((nI_succ i).symm) (by decide) rfl (fun ls hl => ?_)
            refine lv_goto (tgt := 12) hx hb d_R_bad_70 (by decide) ?_
            exact ih ((i + 1)) _ _ _ (by omega) (by rw [hv, kv_bd, if_pos h3, if_neg h4, if_pos h5]) (hP) hS (lv_sub hl [0, 2, 3, 4] rfl)
          · refine lv_iload_n hx hb d_R_bad_65 rfl (lv_at hl 1 rfl) ?_
            exact kw_iret hx hb hr hlocks hP hK hS ⟨by rw [hv, kv_bd, if_pos h3, if_neg h4, if_neg h5], rfl⟩ d_R_bad_66
      · refine lv_aload_n hx hb d_R_bad_29 rfl (lv_at hl 2 rfl) ?_
        refine lv_iconst (v := 0) hx hb d_R_bad_30 (by decide) ?_
        refine lv_iload_n hx hb d_R_bad_31 rfl (lv_at hl 0 rfl) ?_
        refine kw_callix (kw_rV (As := [.int 0, .int (nI i)]) (rest := []) (q0 := 0) ⟨hx, hb, hml, hown, hg⟩ ⟨callB_of 2 hg (kg_goodG kg_731) rfl rfl rfl (hg _ kg_7) (hg _ kg_728) (by decide +kernel) ⟨by decide, by decide⟩, hg _ kg_730, hg _ (kg_sel (q := (y_R_bit, 31)) (by decide +kernel))⟩ (c_R_bit l hn ⟨e0, e1, e2, e3, e4, e5, e6, e7, e8, e9, e10, e11, e12, e13, e14, e15, e16, e17, e18⟩ (by omega) (by omega) (r := 0)) hK hP (Nat.lt_of_lt_of_le (by decide : 0 < 19) hn) e0 rfl rfl hl.1 rfl (Nat.le_of_ble_eq_true rfl) d_R_bad_32 ⟨Nat.zero_le _, Nat.zero_le _⟩) hA hS (fun H locs hP hS => ?_)
        refine lv_if_eq (tgt := 67) hx hb d_R_bad_35 (by decide) (fun h6 => ?_) (fun h6 => ?_)
        · refine lv_iinc (k := 0) (v := nI (i + 1)) (lv' := [(3, .int (nI (i + 1))), (2, .int (nI (wh q))), (0, .ref (ad 0)), (1, .int (nI q))]) hx hb d_R_bad_67 hl rfl ((nI_succ i).symm) (by decide) rfl (fun ls hl => ?_)
          refine lv_goto (tgt := 12) hx hb d_R_bad_70 (by decide) ?_
          exact ih ((i + 1)) _ _ _ (by omega) (by rw [hv, kv_bd, if_neg h3, if_pos h6]) (hP) hS (lv_sub hl [0, 1, 2, 3] rfl)
        · refine lv_aload_n hx hb d_R_bad_38 rfl (lv_at hl 2 rfl) ?_
          refine lv_iload_n hx hb d_R_bad_39 rfl (lv_at hl 3 rfl) ?_
          refine lv_iload_n hx hb d_R_bad_40 rfl (lv_at hl 0 rfl) ?_
          refine kw_callix (kw_rV (As := [.int (nI q), .int (nI i)]) (rest := []) (q0 := 0) ⟨hx, hb, hml, hown, hg⟩ ⟨callB_of 2 hg (kg_goodG kg_747) rfl rfl rfl (hg _ kg_7) (hg _ kg_744) (by decide +kernel) ⟨by decide, by decide⟩, hg _ kg_746, hg _ (kg_sel (q := (y_R_place, 31)) (by decide +kernel))⟩ (c_R_place l hn ⟨e0, e1, e2, e3, e4, e5, e6, e7, e8, e9, e10, e11, e12, e13, e14, e15, e16, e17, e18⟩ hq hk ho9 (fun z9 => hb9 z9 _ (by omega)) ) hK hP (Nat.lt_of_lt_of_le (by decide : 0 < 19) hn) e0 rfl rfl hl.1 rfl (Nat.le_of_ble_eq_true rfl) d_R_bad_41 ⟨Nat.zero_le _, Nat.zero_le _⟩) hA hS (fun H locs hP hS => ?_)
          refine lv_istore (lv' := [(4, .int (kv_R_place F po pb wh wd XA XB q i)), (3, .int (nI i)), (2, .int (nI (wh q))), (0, .ref (ad 0)), (1, .int (nI q))]) hx hb d_R_bad_44 hl (by decide) rfl (fun ls hl => ?_)
          refine lv_iload hx hb d_R_bad_46 (lv_at hl 0 rfl) ?_
          refine lv_if_lt (tgt := 65) hx hb d_R_bad_48 (by decide) (fun h7 => ?_) (fun h7 => ?_)
          · refine lv_iload_n hx hb d_R_bad_65 rfl (lv_at hl 1 rfl) ?_
            exact kw_iret hx hb hr hlocks hP hK hS ⟨by rw [hv, kv_bd, if_neg h3, if_neg h6, if_pos h7], rfl⟩ d_R_bad_66
          · refine lv_iload hx hb d_R_bad_51 (lv_at hl 0 rfl) ?_
            refine lv_aload_n hx hb d_R_bad_53 rfl (lv_at hl 3 rfl) ?_
            refine kw_get hx hb hg in_R hown hK hP 0 (Nat.lt_of_lt_of_le (by decide : 0 < 19) hn) e0 rfl 8 (by decide) (hg _ kg_591) rfl rfl d_R_bad_54 ?_
            refine lv_aload_n hx hb d_R_bad_57 rfl (lv_at hl 3 rfl) ?_
            refine kw_get hx hb hg in_R hown hK hP 0 (Nat.lt_of_lt_of_le (by decide : 0 < 19) hn) e0 rfl 4 (by decide) (hg _ kg_587) rfl rfl d_R_bad_58 ?_
            refine lv_isub hx hb d_R_bad_61 ?_
            refine lv_icmp_le (tgt := 67) hx hb d_R_bad_62 (by decide) (fun h8 => ?_) (fun h8 => ?_)
            · refine lv_iinc (k := 1) (v := nI (i + 1)) (lv' := [(3, .int (nI (i + 1))), (4, .int (kv_R_place F po pb wh wd XA XB q i)), (2, .int (nI (wh q))), (0, .ref (ad 0)), (1, .int (nI q))]) hx hb d_R_bad_67 hl rfl ((nI_succ i).symm) (by decide) rfl (fun ls hl => ?_)
              refine lv_goto (tgt := 12) hx hb d_R_bad_70 (by decide) ?_
              exact ih ((i + 1)) _ _ _ (by omega) (by rw [hv, kv_bd, if_neg h3, if_neg h6, if_neg h7, if_pos h8]) (hP) hS (lv_sub hl [0, 2, 3, 4] rfl)
            · refine lv_iload_n hx hb d_R_bad_65 rfl (lv_at hl 1 rfl) ?_
              exact kw_iret hx hb hr hlocks hP hK hS ⟨by rw [hv, kv_bd, if_neg h3, if_neg h6, if_neg h7, if_neg h8], rfl⟩ d_R_bad_66
  exact loop (vl - sa) sa _ _ _ (by omega) (rfl) (hP) hS (lv_sub hl [0, 1, 2, 3] rfl)

def kn_w (c : Nat) : Nat := if c = 0 then 1 else 2 * c
theorem kn_w_ok {c : Nat} (hc : c < 2 ^ 20) : (if nI c = 0 then 1 else 2 * nI c : Int32) = nI (kn_w c) := by
  unfold kn_w
  by_cases h : c = 0
  · subst h; rfl
  · rw [if_neg (nI_ne0 (by omega) (by omega)), if_neg h, show (2 : Int32) = nI 2 from rfl, pk_mul]
def kn_c (v : Int32) (m : Nat) : Nat := if v < 0 then 0 else if v < nI m then v.toNatClampNeg else m
theorem kn_c_ok {v : Int32} {m : Nat} : (if 0 ≤ v then (if nI m ≤ v then nI m else v) else 0 : Int32) = nI (kn_c v m) := by
  unfold kn_c
  by_cases h : v < 0
  · rw [if_neg (fun z => absurd h (Int32.not_lt.mpr z)), if_pos h]; rfl
  · rw [if_pos (Int32.not_lt.mp h), if_neg h]
    by_cases h2 : v < nI m
    · rw [if_neg (Int32.not_le.mpr h2), if_pos h2]
      obtain ⟨j, hj, rfl⟩ := nI_of h
      rw [nI_clamp hj]
    · rw [if_pos (Int32.not_lt.mp h2), if_neg h2]

def kv_R_configures_wi (cd : Nat) : Nat := (kn_w (cd % 4))
def kv_R_configures_gp (cd : Nat) : Nat := (kn_w (cd / 4))
def kv_R_configures_vl (X : Nat → Int32) (pa : Nat → Nat) (k : Nat) (cd : Nat) : Nat := (kn_c (X (pa k)) (8 * kn_w (cd / 4) / kn_w (cd % 4)))
def kv_R_configures_sa  : Nat := 0
def kv_R_configures_X (X : Nat → Int32) (pd : Nat → Nat) (pa : Nat → Nat) (k : Nat) (cd : Nat) : Nat → Int32 := kv_R_setX_X X (pd k) (nI (kn_c (X (pa k)) (8 * kn_w (cd / 4) / kn_w (cd % 4))))
set_option maxRecDepth 100000 in
set_option maxHeartbeats 4000000 in
theorem c_R_configures (l : Launch) {D : va_G} {ad : Nat → Nat} {n : Nat} {cs : Nat → va_E} (hJ : kw_J ad n) {cI : ClassId} {cZ : ClassId} {la : Nat} {th : Int32} {st : Nat} {nx : Int32} {wi : Nat} {gp : Nat} {vl : Nat} {sa : Nat} {bo : Nat} {cy : Int32} {sd : Int32} {ma : Nat} {qu : Nat} {X : Nat → Int32} {F : Nat → Int32} {M : Nat → Int32} {po : Nat → Nat} {pd : Nat → Nat} {pa : Nat → Nat} {pb : Nat → Nat} {pn : Nat → Int32} {pm : Nat → Int32} {wh : Nat → Nat} {wd : Nat → Nat} {rg : Nat → Nat} {fr : Nat → Nat} {sp : Nat → Nat} {dn : Nat → Nat} {bf : Nat → Nat} {XA : Nat → Int32} {XB : Nat → Int32} {k : Nat} {cd : Nat} (hn : 19 ≤ n) (hR : kR ad cI cZ cs la th st nx wi gp vl sa bo cy sd ma qu X F M po pd pa pb pn pm wh wd rg fr sp dn bf XA XB) (hk : k < 40) (hc9 : pn k = nI cd) (hc8 : cd ≤ 10) (hd8 : pd k < 8) (ha8 : pa k < 8) : kw_mv l y_R_configures w_R_configures (kr 1) D kc (ktR cI cZ) ad n cs [.ref (ad 0), .int (nI k)] (fun c9 => kR ad cI cZ c9 la th st nx (kv_R_configures_wi cd) (kv_R_configures_gp cd) (kv_R_configures_vl X pa k cd) kv_R_configures_sa bo cy sd ma qu (kv_R_configures_X X pd pa k cd) F M po pd pa pb pn pm wh wd rg fr sp dn bf XA XB) := by
  refine kw_of (cc := b_R_configures) (maxL := 6) (ret := none) (by decide) rfl (Nat.le_of_ble_eq_true rfl) ?_
  intro p e s m below meth c ls hx hb hr hml hown hts hlocks hP hK hl
  have hg : ∀ w9 ∈ kg_G, w9.before [.ref (ad 0), .int (nI k)].toArray s = true := fun w9 h9 => hts w9 (List.mem_cons_of_mem _ h9)
  have hown : s.vm.findClass "LaneMachineModel" = some m.cls := hown
  have hA : ∀ k, k < n → kw_A ad n (ad k) := fun k hk => ⟨k, hk, rfl⟩
  have hS : va_S (kw_A ad n) s.heap s.heap [] := va_S.rf
  have hl : lv_has ls 6 [(0, .ref (ad 0)), (1, .int (nI k))] := hl
  obtain ⟨e0, e1, e2, e3, e4, e5, e6, e7, e8, e9, e10, e11, e12, e13, e14, e15, e16, e17, e18⟩ := hR
  have hw1 : 0 < kn_w (cd % 4) := by unfold kn_w; split <;> omega
  have hw2 : kn_w (cd % 4) < 100 := by unfold kn_w; split <;> omega
  have hw3 : kn_w (cd / 4) < 100 := by unfold kn_w; split <;> omega
  refine lv_aload_n hx hb d_R_configures_0 rfl (lv_at hl 0 rfl) ?_
  refine kw_get hx hb hg in_R hown hK hP 0 (Nat.lt_of_lt_of_le (by decide : 0 < 19) hn) e0 rfl 19 (by decide) (hg _ kg_602) rfl rfl d_R_configures_1 ?_
  refine lv_iload_n hx hb d_R_configures_4 rfl (lv_at hl 1 rfl) ?_
  refine kw_iald hx hb hK hP 8 0 (Nat.lt_of_lt_of_le (by decide : 8 < 19) hn) e8 rfl k (rfl) (hk) (by omega) d_R_configures_5 ?_
  rw [hc9]
  refine lv_iconst (v := 4) hx hb d_R_configures_6 (by decide) ?_
  refine lv_irem hx hb d_R_configures_7 (by decide) ?_
  rw [show (4 : Int32) = nI 4 from rfl, pk_rem (by omega) (by decide) (by decide)]
  refine lv_istore_n (lv' := [(2, .int (nI (cd % 4))), (0, .ref (ad 0)), (1, .int (nI k))]) hx hb d_R_configures_8 rfl hl (by decide) rfl (fun ls hl => ?_)
  refine lv_aload_n hx hb d_R_configures_9 rfl (lv_at hl 1 rfl) ?_
  refine kw_get hx hb hg in_R hown hK hP 0 (Nat.lt_of_lt_of_le (by decide : 0 < 19) hn) e0 rfl 19 (by decide) (hg _ kg_602) rfl rfl d_R_configures_10 ?_
  refine lv_iload_n hx hb d_R_configures_13 rfl (lv_at hl 2 rfl) ?_
  refine kw_iald hx hb hK hP 8 0 (Nat.lt_of_lt_of_le (by decide : 8 < 19) hn) e8 rfl k (rfl) (hk) (by omega) d_R_configures_14 ?_
  rw [hc9]
  refine lv_iconst (v := 4) hx hb d_R_configures_15 (by decide) ?_
  refine lv_idiv hx hb d_R_configures_16 (by decide) ?_
  rw [show (4 : Int32) = nI 4 from rfl, pk_div (by omega) (by decide) (by decide)]
  refine lv_istore_n (lv' := [(3, .int (nI (cd / 4))), (2, .int (nI (cd % 4))), (0, .ref (ad 0)), (1, .int (nI k))]) hx hb d_R_configures_17 rfl hl (by decide) rfl (fun ls hl => ?_)
  refine lv_aload_n hx hb d_R_configures_18 rfl (lv_at hl 2 rfl) ?_
  have K30 : ∀ (H : Heap) (locs : List Loc) (ls : Array Slot), va_P D kc (kw_w ad cs n) H → va_S (kw_A ad n) s.heap H locs → lv_has ls 6 [(3, .int (nI (cd / 4))), (2, .int (nI (cd % 4))), (0, .ref (ad 0)), (1, .int (nI k))] → W p l e (kr 1) s m [.ref (ad 0), .int (nI k)].toArray below meth c H locs 0 0 (MQ below (va_Qv (fun c9 => kR ad cI cZ c9 la th st nx (kv_R_configures_wi cd) (kv_R_configures_gp cd) (kv_R_configures_vl X pa k cd) kv_R_configures_sa bo cy sd ma qu (kv_R_configures_X X pd pa k cd) F M po pd pa pb pn pm wh wd rg fr sp dn bf XA XB) (kw_Pre D kc (ktR cI cZ) ad n) (kw_A ad n)) [.ref (ad 0), .int (nI k)].toArray s 0 0 (kw_A ad n)) (F0 m 30 ls [.int ((if (nI (cd % 4)) = 0 then 1 else (2 * (nI (cd % 4))) : Int32)), .ref (ad 0)]) := by
    intro H locs ls hP hS hl
    rw [kn_w_ok (by omega)]
    refine kw_put (ty := .int) hx hb hg in_R t_R ty_R nm_R hown hK hP hJ hA hS 0 (Nat.lt_of_lt_of_le (by decide : 0 < 19) hn) e0 rfl 4 (by decide) (hg _ kg_587) rfl rfl (by decide +kernel) rfl rfl (Nat.le_of_ble_eq_true rfl) d_R_configures_30 (fun H locs hP hS => ?_)
    obtain ⟨cs1, hccs1⟩ : ∃ z9, z9 = va_up cs 0 (.inr (5, [.int (nI la), .int th, .int (nI st), .int nx, .int (nI (kn_w (cd % 4))), .int (nI gp), .int (nI vl), .int (nI sa), .int (nI bo), .int cy, .int sd, .ref (ad 1), .ref (ad 2), .ref (ad 3), .int (nI ma), .ref (ad 4), .ref (ad 5), .ref (ad 6), .ref (ad 7), .ref (ad 8), .ref (ad 9), .int (nI qu), .ref (ad 10), .ref (ad 11), .ref (ad 12), .ref (ad 13), .ref (ad 14), .ref (ad 15), .ref (ad 16), .ref (ad 17), .ref (ad 18)])) := ⟨_, rfl⟩
    replace hP : va_P D kc (kw_w ad cs1 n) H := by rw [hccs1]; exact hP
    have e0 : cs1 0 = .inr (5, [.int (nI la), .int th, .int (nI st), .int nx, .int (nI (kn_w (cd % 4))), .int (nI gp), .int (nI vl), .int (nI sa), .int (nI bo), .int cy, .int sd, .ref (ad 1), .ref (ad 2), .ref (ad 3), .int (nI ma), .ref (ad 4), .ref (ad 5), .ref (ad 6), .ref (ad 7), .ref (ad 8), .ref (ad 9), .int (nI qu), .ref (ad 10), .ref (ad 11), .ref (ad 12), .ref (ad 13), .ref (ad 14), .ref (ad 15), .ref (ad 16), .ref (ad 17), .ref (ad 18)]) := by rw [hccs1]; exact va_up_self _ _ _
    replace e1 := (congrFun hccs1 1).trans ((va_up_ne _ _ (by decide)).trans e1)
    replace e2 := (congrFun hccs1 2).trans ((va_up_ne _ _ (by decide)).trans e2)
    replace e3 := (congrFun hccs1 3).trans ((va_up_ne _ _ (by decide)).trans e3)
    replace e4 := (congrFun hccs1 4).trans ((va_up_ne _ _ (by decide)).trans e4)
    replace e5 := (congrFun hccs1 5).trans ((va_up_ne _ _ (by decide)).trans e5)
    replace e6 := (congrFun hccs1 6).trans ((va_up_ne _ _ (by decide)).trans e6)
    replace e7 := (congrFun hccs1 7).trans ((va_up_ne _ _ (by decide)).trans e7)
    replace e8 := (congrFun hccs1 8).trans ((va_up_ne _ _ (by decide)).trans e8)
    replace e9 := (congrFun hccs1 9).trans ((va_up_ne _ _ (by decide)).trans e9)
    replace e10 := (congrFun hccs1 10).trans ((va_up_ne _ _ (by decide)).trans e10)
    replace e11 := (congrFun hccs1 11).trans ((va_up_ne _ _ (by decide)).trans e11)
    replace e12 := (congrFun hccs1 12).trans ((va_up_ne _ _ (by decide)).trans e12)
    replace e13 := (congrFun hccs1 13).trans ((va_up_ne _ _ (by decide)).trans e13)
    replace e14 := (congrFun hccs1 14).trans ((va_up_ne _ _ (by decide)).trans e14)
    replace e15 := (congrFun hccs1 15).trans ((va_up_ne _ _ (by decide)).trans e15)
    replace e16 := (congrFun hccs1 16).trans ((va_up_ne _ _ (by decide)).trans e16)
    replace e17 := (congrFun hccs1 17).trans ((va_up_ne _ _ (by decide)).trans e17)
    replace e18 := (congrFun hccs1 18).trans ((va_up_ne _ _ (by decide)).trans e18)
    clear hccs1
    refine lv_aload_n hx hb d_R_configures_33 rfl (lv_at hl 2 rfl) ?_
    have K45 : ∀ (H : Heap) (locs : List Loc) (ls : Array Slot), va_P D kc (kw_w ad cs1 n) H → va_S (kw_A ad n) s.heap H locs → lv_has ls 6 [(3, .int (nI (cd / 4))), (2, .int (nI (cd % 4))), (0, .ref (ad 0)), (1, .int (nI k))] → W p l e (kr 1) s m [.ref (ad 0), .int (nI k)].toArray below meth c H locs 0 0 (MQ below (va_Qv (fun c9 => kR ad cI cZ c9 la th st nx (kv_R_configures_wi cd) (kv_R_configures_gp cd) (kv_R_configures_vl X pa k cd) kv_R_configures_sa bo cy sd ma qu (kv_R_configures_X X pd pa k cd) F M po pd pa pb pn pm wh wd rg fr sp dn bf XA XB) (kw_Pre D kc (ktR cI cZ) ad n) (kw_A ad n)) [.ref (ad 0), .int (nI k)].toArray s 0 0 (kw_A ad n)) (F0 m 45 ls [.int ((if (nI (cd / 4)) = 0 then 1 else (2 * (nI (cd / 4))) : Int32)), .ref (ad 0)]) := by
      intro H locs ls hP hS hl
      rw [kn_w_ok (by omega)]
      refine kw_put (ty := .int) hx hb hg in_R t_R ty_R nm_R hown hK hP hJ hA hS 0 (Nat.lt_of_lt_of_le (by decide : 0 < 19) hn) e0 rfl 5 (by decide) (hg _ kg_588) rfl rfl (by decide +kernel) rfl rfl (Nat.le_of_ble_eq_true rfl) d_R_configures_45 (fun H locs hP hS => ?_)
      obtain ⟨cs2, hccs2⟩ : ∃ z9, z9 = va_up cs1 0 (.inr (5, [.int (nI la), .int th, .int (nI st), .int nx, .int (nI (kn_w (cd % 4))), .int (nI (kn_w (cd / 4))), .int (nI vl), .int (nI sa), .int (nI bo), .int cy, .int sd, .ref (ad 1), .ref (ad 2), .ref (ad 3), .int (nI ma), .ref (ad 4), .ref (ad 5), .ref (ad 6), .ref (ad 7), .ref (ad 8), .ref (ad 9), .int (nI qu), .ref (ad 10), .ref (ad 11), .ref (ad 12), .ref (ad 13), .ref (ad 14), .ref (ad 15), .ref (ad 16), .ref (ad 17), .ref (ad 18)])) := ⟨_, rfl⟩
      replace hP : va_P D kc (kw_w ad cs2 n) H := by rw [hccs2]; exact hP
      have e0 : cs2 0 = .inr (5, [.int (nI la), .int th, .int (nI st), .int nx, .int (nI (kn_w (cd % 4))), .int (nI (kn_w (cd / 4))), .int (nI vl), .int (nI sa), .int (nI bo), .int cy, .int sd, .ref (ad 1), .ref (ad 2), .ref (ad 3), .int (nI ma), .ref (ad 4), .ref (ad 5), .ref (ad 6), .ref (ad 7), .ref (ad 8), .ref (ad 9), .int (nI qu), .ref (ad 10), .ref (ad 11), .ref (ad 12), .ref (ad 13), .ref (ad 14), .ref (ad 15), .ref (ad 16), .ref (ad 17), .ref (ad 18)]) := by rw [hccs2]; exact va_up_self _ _ _
      replace e1 := (congrFun hccs2 1).trans ((va_up_ne _ _ (by decide)).trans e1)
      replace e2 := (congrFun hccs2 2).trans ((va_up_ne _ _ (by decide)).trans e2)
      replace e3 := (congrFun hccs2 3).trans ((va_up_ne _ _ (by decide)).trans e3)
      replace e4 := (congrFun hccs2 4).trans ((va_up_ne _ _ (by decide)).trans e4)
      replace e5 := (congrFun hccs2 5).trans ((va_up_ne _ _ (by decide)).trans e5)
      replace e6 := (congrFun hccs2 6).trans ((va_up_ne _ _ (by decide)).trans e6)
      replace e7 := (congrFun hccs2 7).trans ((va_up_ne _ _ (by decide)).trans e7)
      replace e8 := (congrFun hccs2 8).trans ((va_up_ne _ _ (by decide)).trans e8)
      replace e9 := (congrFun hccs2 9).trans ((va_up_ne _ _ (by decide)).trans e9)
      replace e10 := (congrFun hccs2 10).trans ((va_up_ne _ _ (by decide)).trans e10)
      replace e11 := (congrFun hccs2 11).trans ((va_up_ne _ _ (by decide)).trans e11)
      replace e12 := (congrFun hccs2 12).trans ((va_up_ne _ _ (by decide)).trans e12)
      replace e13 := (congrFun hccs2 13).trans ((va_up_ne _ _ (by decide)).trans e13)
      replace e14 := (congrFun hccs2 14).trans ((va_up_ne _ _ (by decide)).trans e14)
      replace e15 := (congrFun hccs2 15).trans ((va_up_ne _ _ (by decide)).trans e15)
      replace e16 := (congrFun hccs2 16).trans ((va_up_ne _ _ (by decide)).trans e16)
      replace e17 := (congrFun hccs2 17).trans ((va_up_ne _ _ (by decide)).trans e17)
      replace e18 := (congrFun hccs2 18).trans ((va_up_ne _ _ (by decide)).trans e18)
      clear hccs2
      refine lv_bipush (v := 8) hx hb d_R_configures_48 (by decide) ?_
      refine lv_aload_n hx hb d_R_configures_50 rfl (lv_at hl 2 rfl) ?_
      refine kw_get hx hb hg in_R hown hK hP 0 (Nat.lt_of_lt_of_le (by decide : 0 < 19) hn) e0 rfl 5 (by decide) (hg _ kg_588) rfl rfl d_R_configures_51 ?_
      refine lv_imul hx hb d_R_configures_54 ?_
      refine lv_aload_n hx hb d_R_configures_55 rfl (lv_at hl 2 rfl) ?_
      refine kw_get hx hb hg in_R hown hK hP 0 (Nat.lt_of_lt_of_le (by decide : 0 < 19) hn) e0 rfl 4 (by decide) (hg _ kg_587) rfl rfl d_R_configures_56 ?_
      refine lv_idiv hx hb d_R_configures_59 (nI_ne0 hw1 (by omega)) ?_
      rw [show (8 : Int32) = nI 8 from rfl, pk_mul, pk_div (by omega) (by omega) (by omega)]
      refine lv_istore (lv' := [(4, .int (nI (8 * kn_w (cd / 4) / kn_w (cd % 4)))), (3, .int (nI (cd / 4))), (2, .int (nI (cd % 4))), (0, .ref (ad 0)), (1, .int (nI k))]) hx hb d_R_configures_60 hl (by decide) rfl (fun ls hl => ?_)
      refine lv_aload_n hx hb d_R_configures_62 rfl (lv_at hl 3 rfl) ?_
      refine kw_get hx hb hg in_R hown hK hP 0 (Nat.lt_of_lt_of_le (by decide : 0 < 19) hn) e0 rfl 11 (by decide) (hg _ kg_594) rfl rfl d_R_configures_63 ?_
      refine lv_aload_n hx hb d_R_configures_66 rfl (lv_at hl 3 rfl) ?_
      refine kw_get hx hb hg in_R hown hK hP 0 (Nat.lt_of_lt_of_le (by decide : 0 < 19) hn) e0 rfl 17 (by decide) (hg _ kg_600) rfl rfl d_R_configures_67 ?_
      refine lv_iload_n hx hb d_R_configures_70 rfl (lv_at hl 4 rfl) ?_
      refine kw_iald hx hb hK hP 6 0 (Nat.lt_of_lt_of_le (by decide : 6 < 19) hn) e6 rfl k (rfl) (hk) (by omega) d_R_configures_71 ?_
      refine kw_iald hx hb hK hP 1 0 (Nat.lt_of_lt_of_le (by decide : 1 < 19) hn) e1 rfl (pa k) (rfl) (ha8) (by omega) d_R_configures_72 ?_
      refine lv_istore (lv' := [(5, .int (X (pa k))), (4, .int (nI (8 * kn_w (cd / 4) / kn_w (cd % 4)))), (3, .int (nI (cd / 4))), (2, .int (nI (cd % 4))), (0, .ref (ad 0)), (1, .int (nI k))]) hx hb d_R_configures_73 hl (by decide) rfl (fun ls hl => ?_)
      refine lv_aload_n hx hb d_R_configures_75 rfl (lv_at hl 4 rfl) ?_
      have K99 : ∀ (H : Heap) (locs : List Loc) (ls : Array Slot), va_P D kc (kw_w ad cs2 n) H → va_S (kw_A ad n) s.heap H locs → lv_has ls 6 [(5, .int (X (pa k))), (4, .int (nI (8 * kn_w (cd / 4) / kn_w (cd % 4)))), (3, .int (nI (cd / 4))), (2, .int (nI (cd % 4))), (0, .ref (ad 0)), (1, .int (nI k))] → W p l e (kr 1) s m [.ref (ad 0), .int (nI k)].toArray below meth c H locs 0 0 (MQ below (va_Qv (fun c9 => kR ad cI cZ c9 la th st nx (kv_R_configures_wi cd) (kv_R_configures_gp cd) (kv_R_configures_vl X pa k cd) kv_R_configures_sa bo cy sd ma qu (kv_R_configures_X X pd pa k cd) F M po pd pa pb pn pm wh wd rg fr sp dn bf XA XB) (kw_Pre D kc (ktR cI cZ) ad n) (kw_A ad n)) [.ref (ad 0), .int (nI k)].toArray s 0 0 (kw_A ad n)) (F0 m 99 ls [.int ((if 0 ≤ (X (pa k)) then (if (nI (8 * kn_w (cd / 4) / kn_w (cd % 4))) ≤ (X (pa k)) then (nI (8 * kn_w (cd / 4) / kn_w (cd % 4))) else (X (pa k))) else 0 : Int32)), .ref (ad 0)]) := by
        intro H locs ls hP hS hl
        rw [kn_c_ok]
        refine kw_put (ty := .int) hx hb hg in_R t_R ty_R nm_R hown hK hP hJ hA hS 0 (Nat.lt_of_lt_of_le (by decide : 0 < 19) hn) e0 rfl 6 (by decide) (hg _ kg_589) rfl rfl (by decide +kernel) rfl rfl (Nat.le_of_ble_eq_true rfl) d_R_configures_99 (fun H locs hP hS => ?_)
        obtain ⟨cs3, hccs3⟩ : ∃ z9, z9 = va_up cs2 0 (.inr (5, [.int (nI la), .int th, .int (nI st), .int nx, .int (nI (kn_w (cd % 4))), .int (nI (kn_w (cd / 4))), .int (nI (kn_c (X (pa k)) (8 * kn_w (cd / 4) / kn_w (cd % 4)))), .int (nI sa), .int (nI bo), .int cy, .int sd, .ref (ad 1), .ref (ad 2), .ref (ad 3), .int (nI ma), .ref (ad 4), .ref (ad 5), .ref (ad 6), .ref (ad 7), .ref (ad 8), .ref (ad 9), .int (nI qu), .ref (ad 10), .ref (ad 11), .ref (ad 12), .ref (ad 13), .ref (ad 14), .ref (ad 15), .ref (ad 16), .ref (ad 17), .ref (ad 18)])) := ⟨_, rfl⟩
        replace hP : va_P D kc (kw_w ad cs3 n) H := by rw [hccs3]; exact hP
        have e0 : cs3 0 = .inr (5, [.int (nI la), .int th, .int (nI st), .int nx, .int (nI (kn_w (cd % 4))), .int (nI (kn_w (cd / 4))), .int (nI (kn_c (X (pa k)) (8 * kn_w (cd / 4) / kn_w (cd % 4)))), .int (nI sa), .int (nI bo), .int cy, .int sd, .ref (ad 1), .ref (ad 2), .ref (ad 3), .int (nI ma), .ref (ad 4), .ref (ad 5), .ref (ad 6), .ref (ad 7), .ref (ad 8), .ref (ad 9), .int (nI qu), .ref (ad 10), .ref (ad 11), .ref (ad 12), .ref (ad 13), .ref (ad 14), .ref (ad 15), .ref (ad 16), .ref (ad 17), .ref (ad 18)]) := by rw [hccs3]; exact va_up_self _ _ _
        replace e1 := (congrFun hccs3 1).trans ((va_up_ne _ _ (by decide)).trans e1)
        replace e2 := (congrFun hccs3 2).trans ((va_up_ne _ _ (by decide)).trans e2)
        replace e3 := (congrFun hccs3 3).trans ((va_up_ne _ _ (by decide)).trans e3)
        replace e4 := (congrFun hccs3 4).trans ((va_up_ne _ _ (by decide)).trans e4)
        replace e5 := (congrFun hccs3 5).trans ((va_up_ne _ _ (by decide)).trans e5)
        replace e6 := (congrFun hccs3 6).trans ((va_up_ne _ _ (by decide)).trans e6)
        replace e7 := (congrFun hccs3 7).trans ((va_up_ne _ _ (by decide)).trans e7)
        replace e8 := (congrFun hccs3 8).trans ((va_up_ne _ _ (by decide)).trans e8)
        replace e9 := (congrFun hccs3 9).trans ((va_up_ne _ _ (by decide)).trans e9)
        replace e10 := (congrFun hccs3 10).trans ((va_up_ne _ _ (by decide)).trans e10)
        replace e11 := (congrFun hccs3 11).trans ((va_up_ne _ _ (by decide)).trans e11)
        replace e12 := (congrFun hccs3 12).trans ((va_up_ne _ _ (by decide)).trans e12)
        replace e13 := (congrFun hccs3 13).trans ((va_up_ne _ _ (by decide)).trans e13)
        replace e14 := (congrFun hccs3 14).trans ((va_up_ne _ _ (by decide)).trans e14)
        replace e15 := (congrFun hccs3 15).trans ((va_up_ne _ _ (by decide)).trans e15)
        replace e16 := (congrFun hccs3 16).trans ((va_up_ne _ _ (by decide)).trans e16)
        replace e17 := (congrFun hccs3 17).trans ((va_up_ne _ _ (by decide)).trans e17)
        replace e18 := (congrFun hccs3 18).trans ((va_up_ne _ _ (by decide)).trans e18)
        clear hccs3
        refine lv_aload_n hx hb d_R_configures_102 rfl (lv_at hl 4 rfl) ?_
        refine lv_aload_n hx hb d_R_configures_103 rfl (lv_at hl 4 rfl) ?_
        refine kw_get hx hb hg in_R hown hK hP 0 (Nat.lt_of_lt_of_le (by decide : 0 < 19) hn) e0 rfl 16 (by decide) (hg _ kg_599) rfl rfl d_R_configures_104 ?_
        refine lv_iload_n hx hb d_R_configures_107 rfl (lv_at hl 5 rfl) ?_
        refine kw_iald hx hb hK hP 5 0 (Nat.lt_of_lt_of_le (by decide : 5 < 19) hn) e5 rfl k (rfl) (hk) (by omega) d_R_configures_108 ?_
        refine lv_aload_n hx hb d_R_configures_109 rfl (lv_at hl 4 rfl) ?_
        refine kw_get hx hb hg in_R hown hK hP 0 (Nat.lt_of_lt_of_le (by decide : 0 < 19) hn) e0 rfl 6 (by decide) (hg _ kg_589) rfl rfl d_R_configures_110 ?_
        refine kw_callv (kw_rV (As := [.int (nI (pd k)), .int (nI (kn_c (X (pa k)) (8 * kn_w (cd / 4) / kn_w (cd % 4))))]) (rest := []) (q0 := 0) ⟨hx, hb, hml, hown, hg⟩ ⟨callB_of 2 hg (kg_goodG kg_781) rfl rfl rfl (hg _ kg_7) (hg _ kg_778) (by decide +kernel) ⟨by decide, by decide⟩, hg _ kg_780, hg _ (kg_sel (q := (y_R_setX, 31)) (by decide +kernel))⟩ (c_R_setX l hJ hn ⟨e0, e1, e2, e3, e4, e5, e6, e7, e8, e9, e10, e11, e12, e13, e14, e15, e16, e17, e18⟩ hd8 ) hK hP (Nat.lt_of_lt_of_le (by decide : 0 < 19) hn) e0 rfl rfl hl.1 rfl (Nat.le_of_ble_eq_true rfl) d_R_configures_113 ⟨Nat.zero_le _, Nat.zero_le _⟩) hA hS (fun cs4 H locs hp hP hS => ?_)
        obtain ⟨e0, e1, e2, e3, e4, e5, e6, e7, e8, e9, e10, e11, e12, e13, e14, e15, e16, e17, e18⟩ := hp
        refine lv_aload_n hx hb d_R_configures_116 rfl (lv_at hl 4 rfl) ?_
        refine lv_iconst (v := 0) hx hb d_R_configures_117 (by decide) ?_
        refine kw_put (ty := .int) hx hb hg in_R t_R ty_R nm_R hown hK hP hJ hA hS 0 (Nat.lt_of_lt_of_le (by decide : 0 < 19) hn) e0 rfl 7 (by decide) (hg _ kg_590) rfl rfl (by decide +kernel) rfl rfl (Nat.le_of_ble_eq_true rfl) d_R_configures_118 (fun H locs hP hS => ?_)
        obtain ⟨cs5, hccs5⟩ : ∃ z9, z9 = va_up cs4 0 (.inr (5, [.int (nI la), .int th, .int (nI st), .int nx, .int (nI ((kn_w (cd % 4)))), .int (nI ((kn_w (cd / 4)))), .int (nI ((kn_c (X (pa k)) (8 * kn_w (cd / 4) / kn_w (cd % 4))))), .int 0, .int (nI bo), .int cy, .int sd, .ref (ad 1), .ref (ad 2), .ref (ad 3), .int (nI ma), .ref (ad 4), .ref (ad 5), .ref (ad 6), .ref (ad 7), .ref (ad 8), .ref (ad 9), .int (nI qu), .ref (ad 10), .ref (ad 11), .ref (ad 12), .ref (ad 13), .ref (ad 14), .ref (ad 15), .ref (ad 16), .ref (ad 17), .ref (ad 18)])) := ⟨_, rfl⟩
        replace hP : va_P D kc (kw_w ad cs5 n) H := by rw [hccs5]; exact hP
        have e0 : cs5 0 = .inr (5, [.int (nI la), .int th, .int (nI st), .int nx, .int (nI ((kn_w (cd % 4)))), .int (nI ((kn_w (cd / 4)))), .int (nI ((kn_c (X (pa k)) (8 * kn_w (cd / 4) / kn_w (cd % 4))))), .int 0, .int (nI bo), .int cy, .int sd, .ref (ad 1), .ref (ad 2), .ref (ad 3), .int (nI ma), .ref (ad 4), .ref (ad 5), .ref (ad 6), .ref (ad 7), .ref (ad 8), .ref (ad 9), .int (nI qu), .ref (ad 10), .ref (ad 11), .ref (ad 12), .ref (ad 13), .ref (ad 14), .ref (ad 15), .ref (ad 16), .ref (ad 17), .ref (ad 18)]) := by rw [hccs5]; exact va_up_self _ _ _
        replace e1 := (congrFun hccs5 1).trans ((va_up_ne _ _ (by decide)).trans e1)
        replace e2 := (congrFun hccs5 2).trans ((va_up_ne _ _ (by decide)).trans e2)
        replace e3 := (congrFun hccs5 3).trans ((va_up_ne _ _ (by decide)).trans e3)
        replace e4 := (congrFun hccs5 4).trans ((va_up_ne _ _ (by decide)).trans e4)
        replace e5 := (congrFun hccs5 5).trans ((va_up_ne _ _ (by decide)).trans e5)
        replace e6 := (congrFun hccs5 6).trans ((va_up_ne _ _ (by decide)).trans e6)
        replace e7 := (congrFun hccs5 7).trans ((va_up_ne _ _ (by decide)).trans e7)
        replace e8 := (congrFun hccs5 8).trans ((va_up_ne _ _ (by decide)).trans e8)
        replace e9 := (congrFun hccs5 9).trans ((va_up_ne _ _ (by decide)).trans e9)
        replace e10 := (congrFun hccs5 10).trans ((va_up_ne _ _ (by decide)).trans e10)
        replace e11 := (congrFun hccs5 11).trans ((va_up_ne _ _ (by decide)).trans e11)
        replace e12 := (congrFun hccs5 12).trans ((va_up_ne _ _ (by decide)).trans e12)
        replace e13 := (congrFun hccs5 13).trans ((va_up_ne _ _ (by decide)).trans e13)
        replace e14 := (congrFun hccs5 14).trans ((va_up_ne _ _ (by decide)).trans e14)
        replace e15 := (congrFun hccs5 15).trans ((va_up_ne _ _ (by decide)).trans e15)
        replace e16 := (congrFun hccs5 16).trans ((va_up_ne _ _ (by decide)).trans e16)
        replace e17 := (congrFun hccs5 17).trans ((va_up_ne _ _ (by decide)).trans e17)
        replace e18 := (congrFun hccs5 18).trans ((va_up_ne _ _ (by decide)).trans e18)
        clear hccs5
        exact kw_vret hx hb hr hlocks hP hK hS (by rw [show kv_R_configures_wi cd = (kn_w (cd % 4)) from (by rw [kv_R_configures_wi]), show kv_R_configures_gp cd = (kn_w (cd / 4)) from (by rw [kv_R_configures_gp]), show kv_R_configures_vl X pa k cd = (kn_c (X (pa k)) (8 * kn_w (cd / 4) / kn_w (cd % 4))) from (by rw [kv_R_configures_vl]), show kv_R_configures_sa = 0 from (by rw [kv_R_configures_sa]), show kv_R_configures_X X pd pa k cd = kv_R_setX_X X (pd k) (nI (kn_c (X (pa k)) (8 * kn_w (cd / 4) / kn_w (cd % 4)))) from (by rw [kv_R_configures_X])]; exact ⟨e0, e1, e2, e3, e4, e5, e6, e7, e8, e9, e10, e11, e12, e13, e14, e15, e16, e17, e18⟩) d_R_configures_121
      refine lv_iload hx hb d_R_configures_76 (lv_at hl 0 rfl) ?_
      refine lv_if_ge (tgt := 85) hx hb d_R_configures_78 (by decide) (fun h1 => ?_) (fun h1 => ?_)
      · refine lv_iload hx hb d_R_configures_85 (lv_at hl 0 rfl) ?_
        refine lv_iload hx hb d_R_configures_87 (lv_at hl 1 rfl) ?_
        refine lv_icmp_ge (tgt := 97) hx hb d_R_configures_89 (by decide) (fun h2 => ?_) (fun h2 => ?_)
        · refine lv_iload hx hb d_R_configures_97 (lv_at hl 1 rfl) ?_
          exact W.eq (congrArg (fun z9 => F0 m 99 ls (.int z9 :: [.ref (ad 0)])) (show nI (8 * kn_w (cd / 4) / kn_w (cd % 4)) = (if 0 ≤ (X (pa k)) then (if (nI (8 * kn_w (cd / 4) / kn_w (cd % 4))) ≤ (X (pa k)) then (nI (8 * kn_w (cd / 4) / kn_w (cd % 4))) else (X (pa k))) else 0 : Int32) from (by rw [if_pos h1, if_pos h2]))) (K99 _ _ _ hP hS hl)
        · refine lv_iload hx hb d_R_configures_92 (lv_at hl 0 rfl) ?_
          refine lv_goto (tgt := 99) hx hb d_R_configures_94 (by decide) ?_
          exact W.eq (congrArg (fun z9 => F0 m 99 ls (.int z9 :: [.ref (ad 0)])) (show X (pa k) = (if 0 ≤ (X (pa k)) then (if (nI (8 * kn_w (cd / 4) / kn_w (cd % 4))) ≤ (X (pa k)) then (nI (8 * kn_w (cd / 4) / kn_w (cd % 4))) else (X (pa k))) else 0 : Int32) from (by rw [if_pos h1, if_neg h2]))) (K99 _ _ _ hP hS hl)
      · refine lv_iconst (v := 0) hx hb d_R_configures_81 (by decide) ?_
        refine lv_goto (tgt := 99) hx hb d_R_configures_82 (by decide) ?_
        exact W.eq (congrArg (fun z9 => F0 m 99 ls (.int z9 :: [.ref (ad 0)])) (show (0 : Int32) = (if 0 ≤ (X (pa k)) then (if (nI (8 * kn_w (cd / 4) / kn_w (cd % 4))) ≤ (X (pa k)) then (nI (8 * kn_w (cd / 4) / kn_w (cd % 4))) else (X (pa k))) else 0 : Int32) from (by rw [if_neg h1]))) (K99 _ _ _ hP hS hl)
    refine lv_iload_n hx hb d_R_configures_34 rfl (lv_at hl 0 rfl) ?_
    refine lv_if_ne (tgt := 42) hx hb d_R_configures_35 (by decide) (fun h3 => ?_) (fun h3 => ?_)
    · refine lv_iconst (v := 2) hx hb d_R_configures_42 (by decide) ?_
      refine lv_iload_n hx hb d_R_configures_43 rfl (lv_at hl 0 rfl) ?_
      refine lv_imul hx hb d_R_configures_44 ?_
      exact W.eq (congrArg (fun z9 => F0 m 45 ls (.int z9 :: [.ref (ad 0)])) (show 2 * (nI (cd / 4)) = (if (nI (cd / 4)) = 0 then 1 else (2 * (nI (cd / 4))) : Int32) from (by rw [if_neg h3]))) (K45 _ _ _ hP hS hl)
    · refine lv_iconst (v := 1) hx hb d_R_configures_38 (by decide) ?_
      refine lv_goto (tgt := 45) hx hb d_R_configures_39 (by decide) ?_
      exact W.eq (congrArg (fun z9 => F0 m 45 ls (.int z9 :: [.ref (ad 0)])) (show (1 : Int32) = (if (nI (cd / 4)) = 0 then 1 else (2 * (nI (cd / 4))) : Int32) from (by rw [if_pos h3]))) (K45 _ _ _ hP hS hl)
  refine lv_iload_n hx hb d_R_configures_19 rfl (lv_at hl 1 rfl) ?_
  refine lv_if_ne (tgt := 27) hx hb d_R_configures_20 (by decide) (fun h4 => ?_) (fun h4 => ?_)
  · refine lv_iconst (v := 2) hx hb d_R_configures_27 (by decide) ?_
    refine lv_iload_n hx hb d_R_configures_28 rfl (lv_at hl 1 rfl) ?_
    refine lv_imul hx hb d_R_configures_29 ?_
    exact W.eq (congrArg (fun z9 => F0 m 30 ls (.int z9 :: [.ref (ad 0)])) (show 2 * (nI (cd % 4)) = (if (nI (cd % 4)) = 0 then 1 else (2 * (nI (cd % 4))) : Int32) from (by rw [if_neg h4]))) (K30 _ _ _ hP hS hl)
  · refine lv_iconst (v := 1) hx hb d_R_configures_23 (by decide) ?_
    refine lv_goto (tgt := 30) hx hb d_R_configures_24 (by decide) ?_
    exact W.eq (congrArg (fun z9 => F0 m 30 ls (.int z9 :: [.ref (ad 0)])) (show (1 : Int32) = (if (nI (cd % 4)) = 0 then 1 else (2 * (nI (cd % 4))) : Int32) from (by rw [if_pos h4]))) (K30 _ _ _ hP hS hl)
