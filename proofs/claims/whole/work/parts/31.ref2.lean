/-! the reference: steps -/
def kv_R_writes (po : Nat → Nat) (pd : Nat → Nat) (wh : Nat → Nat) (wd : Nat → Nat) (fr : Nat → Nat) (q : Nat) (t : Nat) : Int64 := if (nI (po (wh q))) = 18 then 0 else if (nI (po (wh q))) = 12 then (kv_R_bytes ((8 * (nI (pd (wh q)))) + (((nI (fr q)) + (nI t)) / 8)) 1) else if (nI (po (wh q))) = 14 then (kv_R_bytes (8 * (nI (pd (wh q)))) (nI (wd q))) else if (nI (po (wh q))) = 13 then (kv_R_bytes ((8 * (nI (pd (wh q)))) + ((2 * ((nI (fr q)) + (nI t))) * (nI (wd q)))) (2 * (nI (wd q)))) else (kv_R_bytes ((8 * (nI (pd (wh q)))) + (((nI (fr q)) + (nI t)) * (nI (wd q)))) (nI (wd q)))
set_option maxRecDepth 100000 in
set_option maxHeartbeats 4000000 in
theorem c_R_writes (l : Launch) {D : va_G} {ad : Nat → Nat} {n : Nat} {cs : Nat → va_E} {cI : ClassId} {cZ : ClassId} {la : Nat} {th : Int32} {st : Nat} {nx : Int32} {wi : Nat} {gp : Nat} {vl : Nat} {sa : Nat} {bo : Nat} {cy : Int32} {sd : Int32} {ma : Nat} {qu : Nat} {X : Nat → Int32} {F : Nat → Int32} {M : Nat → Int32} {po : Nat → Nat} {pd : Nat → Nat} {pa : Nat → Nat} {pb : Nat → Nat} {pn : Nat → Int32} {pm : Nat → Int32} {wh : Nat → Nat} {wd : Nat → Nat} {rg : Nat → Nat} {fr : Nat → Nat} {sp : Nat → Nat} {dn : Nat → Nat} {bf : Nat → Nat} {XA : Nat → Int32} {XB : Nat → Int32} {q : Nat} {t : Nat} (hn : 19 ≤ n) (hR : kR ad cI cZ cs la th st nx wi gp vl sa bo cy sd ma qu X F M po pd pa pb pn pm wh wd rg fr sp dn bf XA XB) (hq : q < 5) (hk : wh q < 40) : kw_ml l y_R_writes w_R_writes (kr 1) D kc (ktR cI cZ) ad n cs [.ref (ad 0), .int (nI q), .int (nI t)] (fun r9 c9 => r9 = kv_R_writes po pd wh wd fr q t ∧ c9 = cs) := by
  refine kw_of (cc := b_R_writes) (maxL := 7) (ret := (some .long)) (by decide) rfl (Nat.le_of_ble_eq_true rfl) ?_
  intro p e s m below meth c ls hx hb hr hml hown hts hlocks hP hK hl
  have hg : ∀ w9 ∈ kg_G, w9.before [.ref (ad 0), .int (nI q), .int (nI t)].toArray s = true := fun w9 h9 => hts w9 (List.mem_cons_of_mem _ h9)
  have hown : s.vm.findClass "LaneMachineModel" = some m.cls := hown
  have hA : ∀ k, k < n → kw_A ad n (ad k) := fun k hk => ⟨k, hk, rfl⟩
  have hS : va_S (kw_A ad n) s.heap s.heap [] := va_S.rf
  have hl : lv_has ls 7 [(0, .ref (ad 0)), (1, .int (nI q)), (2, .int (nI t))] := hl
  obtain ⟨e0, e1, e2, e3, e4, e5, e6, e7, e8, e9, e10, e11, e12, e13, e14, e15, e16, e17, e18⟩ := hR
  refine lv_aload_n hx hb d_R_writes_0 rfl (lv_at hl 0 rfl) ?_
  refine kw_get hx hb hg in_R hown hK hP 0 (Nat.lt_of_lt_of_le (by decide : 0 < 19) hn) e0 rfl 22 (by decide) (hg _ kg_605) rfl rfl d_R_writes_1 ?_
  refine lv_iload_n hx hb d_R_writes_4 rfl (lv_at hl 1 rfl) ?_
  refine kw_iald hx hb hK hP 10 0 (Nat.lt_of_lt_of_le (by decide : 10 < 19) hn) e10 rfl q (rfl) (hq) (by omega) d_R_writes_5 ?_
  refine lv_istore_n (lv' := [(3, .int (nI (wh q))), (0, .ref (ad 0)), (1, .int (nI q)), (2, .int (nI t))]) hx hb d_R_writes_6 rfl hl (by decide) rfl (fun ls hl => ?_)
  refine lv_aload_n hx hb d_R_writes_7 rfl (lv_at hl 1 rfl) ?_
  refine kw_get hx hb hg in_R hown hK hP 0 (Nat.lt_of_lt_of_le (by decide : 0 < 19) hn) e0 rfl 23 (by decide) (hg _ kg_606) rfl rfl d_R_writes_8 ?_
  refine lv_iload_n hx hb d_R_writes_11 rfl (lv_at hl 2 rfl) ?_
  refine kw_iald hx hb hK hP 11 0 (Nat.lt_of_lt_of_le (by decide : 11 < 19) hn) e11 rfl q (rfl) (hq) (by omega) d_R_writes_12 ?_
  refine lv_istore (lv' := [(4, .int (nI (wd q))), (3, .int (nI (wh q))), (0, .ref (ad 0)), (1, .int (nI q)), (2, .int (nI t))]) hx hb d_R_writes_13 hl (by decide) rfl (fun ls hl => ?_)
  refine lv_aload_n hx hb d_R_writes_15 rfl (lv_at hl 2 rfl) ?_
  refine kw_get hx hb hg in_R hown hK hP 0 (Nat.lt_of_lt_of_le (by decide : 0 < 19) hn) e0 rfl 25 (by decide) (hg _ kg_608) rfl rfl d_R_writes_16 ?_
  refine lv_iload_n hx hb d_R_writes_19 rfl (lv_at hl 3 rfl) ?_
  refine kw_iald hx hb hK hP 13 0 (Nat.lt_of_lt_of_le (by decide : 13 < 19) hn) e13 rfl q (rfl) (hq) (by omega) d_R_writes_20 ?_
  refine lv_iload_n hx hb d_R_writes_21 rfl (lv_at hl 4 rfl) ?_
  refine lv_iadd hx hb d_R_writes_22 ?_
  refine lv_istore (lv' := [(5, .int ((nI (fr q)) + (nI t))), (4, .int (nI (wd q))), (3, .int (nI (wh q))), (0, .ref (ad 0)), (1, .int (nI q)), (2, .int (nI t))]) hx hb d_R_writes_23 hl (by decide) rfl (fun ls hl => ?_)
  refine lv_aload_n hx hb d_R_writes_25 rfl (lv_at hl 3 rfl) ?_
  refine kw_get hx hb hg in_R hown hK hP 0 (Nat.lt_of_lt_of_le (by decide : 0 < 19) hn) e0 rfl 15 (by decide) (hg _ kg_598) rfl rfl d_R_writes_26 ?_
  refine lv_iload_n hx hb d_R_writes_29 rfl (lv_at hl 2 rfl) ?_
  refine kw_iald hx hb hK hP 4 0 (Nat.lt_of_lt_of_le (by decide : 4 < 19) hn) e4 rfl (wh q) (rfl) (hk) (by omega) d_R_writes_30 ?_
  refine lv_istore (lv' := [(6, .int (nI (po (wh q)))), (5, .int ((nI (fr q)) + (nI t))), (4, .int (nI (wd q))), (3, .int (nI (wh q))), (0, .ref (ad 0)), (1, .int (nI q)), (2, .int (nI t))]) hx hb d_R_writes_31 hl (by decide) rfl (fun ls hl => ?_)
  refine lv_iload hx hb d_R_writes_33 (lv_at hl 0 rfl) ?_
  refine lv_bipush (v := 18) hx hb d_R_writes_35 (by decide) ?_
  refine lv_icmp_ne (tgt := 42) hx hb d_R_writes_37 (by decide) (fun h1 => ?_) (fun h1 => ?_)
  · refine lv_iload hx hb d_R_writes_42 (lv_at hl 0 rfl) ?_
    refine lv_bipush (v := 12) hx hb d_R_writes_44 (by decide) ?_
    refine lv_icmp_ne (tgt := 69) hx hb d_R_writes_46 (by decide) (fun h2 => ?_) (fun h2 => ?_)
    · refine lv_iload hx hb d_R_writes_69 (lv_at hl 0 rfl) ?_
      refine lv_bipush (v := 14) hx hb d_R_writes_71 (by decide) ?_
      refine lv_icmp_ne (tgt := 93) hx hb d_R_writes_73 (by decide) (fun h3 => ?_) (fun h3 => ?_)
      · refine lv_iload hx hb d_R_writes_93 (lv_at hl 0 rfl) ?_
        refine lv_bipush (v := 13) hx hb d_R_writes_95 (by decide) ?_
        refine lv_icmp_ne (tgt := 127) hx hb d_R_writes_97 (by decide) (fun h4 => ?_) (fun h4 => ?_)
        · refine lv_bipush (v := 8) hx hb d_R_writes_127 (by decide) ?_
          refine lv_aload_n hx hb d_R_writes_129 rfl (lv_at hl 4 rfl) ?_
          refine kw_get hx hb hg in_R hown hK hP 0 (Nat.lt_of_lt_of_le (by decide : 0 < 19) hn) e0 rfl 16 (by decide) (hg _ kg_599) rfl rfl d_R_writes_130 ?_
          refine lv_iload_n hx hb d_R_writes_133 rfl (lv_at hl 3 rfl) ?_
          refine kw_iald hx hb hK hP 5 0 (Nat.lt_of_lt_of_le (by decide : 5 < 19) hn) e5 rfl (wh q) (rfl) (hk) (by omega) d_R_writes_134 ?_
          refine lv_imul hx hb d_R_writes_135 ?_
          refine lv_iload hx hb d_R_writes_136 (lv_at hl 1 rfl) ?_
          refine lv_iload hx hb d_R_writes_138 (lv_at hl 2 rfl) ?_
          refine lv_imul hx hb d_R_writes_140 ?_
          refine lv_iadd hx hb d_R_writes_141 ?_
          refine lv_iload hx hb d_R_writes_142 (lv_at hl 2 rfl) ?_
          refine kw_calllx (kw_rS (As := [.int ((8 * (nI (pd (wh q)))) + (((nI (fr q)) + (nI t)) * (nI (wd q)))), .int (nI (wd q))]) (rest := []) ⟨hx, hb, hml, hown, hg⟩ ⟨callB_of 2 hg (kg_goodG kg_707) rfl rfl rfl (hg _ kg_7) (hg _ kg_705) (by decide +kernel) ⟨by decide, by decide⟩, hg _ kg_706⟩ (c_R_bytes l  ) hK hP rfl hl.1 rfl (Nat.le_of_ble_eq_true rfl) d_R_writes_144 ⟨Nat.zero_le _, Nat.zero_le _⟩) hA hS (fun H locs hP hS => ?_)
          exact kw_lret hx hb hr hlocks hP hK hS ⟨by rw [kv_R_writes, if_neg h1, if_neg h2, if_neg h3, if_neg h4], rfl⟩ d_R_writes_147
        · refine lv_bipush (v := 8) hx hb d_R_writes_100 (by decide) ?_
          refine lv_aload_n hx hb d_R_writes_102 rfl (lv_at hl 4 rfl) ?_
          refine kw_get hx hb hg in_R hown hK hP 0 (Nat.lt_of_lt_of_le (by decide : 0 < 19) hn) e0 rfl 16 (by decide) (hg _ kg_599) rfl rfl d_R_writes_103 ?_
          refine lv_iload_n hx hb d_R_writes_106 rfl (lv_at hl 3 rfl) ?_
          refine kw_iald hx hb hK hP 5 0 (Nat.lt_of_lt_of_le (by decide : 5 < 19) hn) e5 rfl (wh q) (rfl) (hk) (by omega) d_R_writes_107 ?_
          refine lv_imul hx hb d_R_writes_108 ?_
          refine lv_iconst (v := 2) hx hb d_R_writes_109 (by decide) ?_
          refine lv_iload hx hb d_R_writes_110 (lv_at hl 1 rfl) ?_
          refine lv_imul hx hb d_R_writes_112 ?_
          refine lv_iload hx hb d_R_writes_113 (lv_at hl 2 rfl) ?_
          refine lv_imul hx hb d_R_writes_115 ?_
          refine lv_iadd hx hb d_R_writes_116 ?_
          refine lv_iconst (v := 2) hx hb d_R_writes_117 (by decide) ?_
          refine lv_iload hx hb d_R_writes_118 (lv_at hl 2 rfl) ?_
          refine lv_imul hx hb d_R_writes_120 ?_
          refine kw_calllx (kw_rS (As := [.int ((8 * (nI (pd (wh q)))) + ((2 * ((nI (fr q)) + (nI t))) * (nI (wd q)))), .int (2 * (nI (wd q)))]) (rest := []) ⟨hx, hb, hml, hown, hg⟩ ⟨callB_of 2 hg (kg_goodG kg_707) rfl rfl rfl (hg _ kg_7) (hg _ kg_705) (by decide +kernel) ⟨by decide, by decide⟩, hg _ kg_706⟩ (c_R_bytes l  ) hK hP rfl hl.1 rfl (Nat.le_of_ble_eq_true rfl) d_R_writes_121 ⟨Nat.zero_le _, Nat.zero_le _⟩) hA hS (fun H locs hP hS => ?_)
          refine lv_goto (tgt := 147) hx hb d_R_writes_124 (by decide) ?_
          exact kw_lret hx hb hr hlocks hP hK hS ⟨by rw [kv_R_writes, if_neg h1, if_neg h2, if_neg h3, if_pos h4], rfl⟩ d_R_writes_147
      · refine lv_bipush (v := 8) hx hb d_R_writes_76 (by decide) ?_
        refine lv_aload_n hx hb d_R_writes_78 rfl (lv_at hl 4 rfl) ?_
        refine kw_get hx hb hg in_R hown hK hP 0 (Nat.lt_of_lt_of_le (by decide : 0 < 19) hn) e0 rfl 16 (by decide) (hg _ kg_599) rfl rfl d_R_writes_79 ?_
        refine lv_iload_n hx hb d_R_writes_82 rfl (lv_at hl 3 rfl) ?_
        refine kw_iald hx hb hK hP 5 0 (Nat.lt_of_lt_of_le (by decide : 5 < 19) hn) e5 rfl (wh q) (rfl) (hk) (by omega) d_R_writes_83 ?_
        refine lv_imul hx hb d_R_writes_84 ?_
        refine lv_iload hx hb d_R_writes_85 (lv_at hl 2 rfl) ?_
        refine kw_calllx (kw_rS (As := [.int (8 * (nI (pd (wh q)))), .int (nI (wd q))]) (rest := []) ⟨hx, hb, hml, hown, hg⟩ ⟨callB_of 2 hg (kg_goodG kg_707) rfl rfl rfl (hg _ kg_7) (hg _ kg_705) (by decide +kernel) ⟨by decide, by decide⟩, hg _ kg_706⟩ (c_R_bytes l  ) hK hP rfl hl.1 rfl (Nat.le_of_ble_eq_true rfl) d_R_writes_87 ⟨Nat.zero_le _, Nat.zero_le _⟩) hA hS (fun H locs hP hS => ?_)
        refine lv_goto (tgt := 147) hx hb d_R_writes_90 (by decide) ?_
        exact kw_lret hx hb hr hlocks hP hK hS ⟨by rw [kv_R_writes, if_neg h1, if_neg h2, if_pos h3], rfl⟩ d_R_writes_147
    · refine lv_bipush (v := 8) hx hb d_R_writes_49 (by decide) ?_
      refine lv_aload_n hx hb d_R_writes_51 rfl (lv_at hl 4 rfl) ?_
      refine kw_get hx hb hg in_R hown hK hP 0 (Nat.lt_of_lt_of_le (by decide : 0 < 19) hn) e0 rfl 16 (by decide) (hg _ kg_599) rfl rfl d_R_writes_52 ?_
      refine lv_iload_n hx hb d_R_writes_55 rfl (lv_at hl 3 rfl) ?_
      refine kw_iald hx hb hK hP 5 0 (Nat.lt_of_lt_of_le (by decide : 5 < 19) hn) e5 rfl (wh q) (rfl) (hk) (by omega) d_R_writes_56 ?_
      refine lv_imul hx hb d_R_writes_57 ?_
      refine lv_iload hx hb d_R_writes_58 (lv_at hl 1 rfl) ?_
      refine lv_bipush (v := 8) hx hb d_R_writes_60 (by decide) ?_
      refine lv_idiv hx hb d_R_writes_62 (by decide) ?_
      refine lv_iadd hx hb d_R_writes_63 ?_
      refine lv_iconst (v := 1) hx hb d_R_writes_64 (by decide) ?_
      refine kw_calllx (kw_rS (As := [.int ((8 * (nI (pd (wh q)))) + (((nI (fr q)) + (nI t)) / 8)), .int 1]) (rest := []) ⟨hx, hb, hml, hown, hg⟩ ⟨callB_of 2 hg (kg_goodG kg_707) rfl rfl rfl (hg _ kg_7) (hg _ kg_705) (by decide +kernel) ⟨by decide, by decide⟩, hg _ kg_706⟩ (c_R_bytes l  ) hK hP rfl hl.1 rfl (Nat.le_of_ble_eq_true rfl) d_R_writes_65 ⟨Nat.zero_le _, Nat.zero_le _⟩) hA hS (fun H locs hP hS => ?_)
      exact kw_lret hx hb hr hlocks hP hK hS ⟨by rw [kv_R_writes, if_neg h1, if_pos h2], rfl⟩ d_R_writes_68
  · refine lv_lconst (v := 0) hx hb d_R_writes_40 (by decide) ?_
    exact kw_lret hx hb hr hlocks hP hK hS ⟨by rw [kv_R_writes, if_pos h1], rfl⟩ d_R_writes_41

def kv_R_place (F : Nat → Int32) (po : Nat → Nat) (pb : Nat → Nat) (wh : Nat → Nat) (wd : Nat → Nat) (XA : Nat → Int32) (XB : Nat → Int32) (q : Nat) (i : Nat) : Int32 := if (nI (po (wh q))) = 19 then ((XA q) + ((kv_R_plain (kv_R_element F (pb (wh q)) i (wd q)) (nI (wd q))).toInt32)) else ((XA q) + ((nI i) * (XB q)))
set_option maxRecDepth 100000 in
set_option maxHeartbeats 4000000 in
theorem c_R_place (l : Launch) {D : va_G} {ad : Nat → Nat} {n : Nat} {cs : Nat → va_E} {cI : ClassId} {cZ : ClassId} {la : Nat} {th : Int32} {st : Nat} {nx : Int32} {wi : Nat} {gp : Nat} {vl : Nat} {sa : Nat} {bo : Nat} {cy : Int32} {sd : Int32} {ma : Nat} {qu : Nat} {X : Nat → Int32} {F : Nat → Int32} {M : Nat → Int32} {po : Nat → Nat} {pd : Nat → Nat} {pa : Nat → Nat} {pb : Nat → Nat} {pn : Nat → Int32} {pm : Nat → Int32} {wh : Nat → Nat} {wd : Nat → Nat} {rg : Nat → Nat} {fr : Nat → Nat} {sp : Nat → Nat} {dn : Nat → Nat} {bf : Nat → Nat} {XA : Nat → Int32} {XB : Nat → Int32} {q : Nat} {i : Nat} (hn : 19 ≤ n) (hR : kR ad cI cZ cs la th st nx wi gp vl sa bo cy sd ma qu X F M po pd pa pb pn pm wh wd rg fr sp dn bf XA XB) (hq : q < 5) (hk : wh q < 40) (ho9 : po (wh q) < 21) (hb9 : po (wh q) = 19 → 8 * pb (wh q) + i * wd q + wd q ≤ 64) : kw_mi l y_R_place w_R_place (kr 2) D kc (ktR cI cZ) ad n cs [.ref (ad 0), .int (nI q), .int (nI i)] (fun r9 c9 => r9 = kv_R_place F po pb wh wd XA XB q i ∧ c9 = cs) := by
  refine kw_of (cc := b_R_place) (maxL := 4) (ret := (some .int)) (by decide) rfl (Nat.le_of_ble_eq_true rfl) ?_
  intro p e s m below meth c ls hx hb hr hml hown hts hlocks hP hK hl
  have hg : ∀ w9 ∈ kg_G, w9.before [.ref (ad 0), .int (nI q), .int (nI i)].toArray s = true := fun w9 h9 => hts w9 (List.mem_cons_of_mem _ h9)
  have hown : s.vm.findClass "LaneMachineModel" = some m.cls := hown
  have hA : ∀ k, k < n → kw_A ad n (ad k) := fun k hk => ⟨k, hk, rfl⟩
  have hS : va_S (kw_A ad n) s.heap s.heap [] := va_S.rf
  have hl : lv_has ls 4 [(0, .ref (ad 0)), (1, .int (nI q)), (2, .int (nI i))] := hl
  obtain ⟨e0, e1, e2, e3, e4, e5, e6, e7, e8, e9, e10, e11, e12, e13, e14, e15, e16, e17, e18⟩ := hR
  refine lv_aload_n hx hb d_R_place_0 rfl (lv_at hl 0 rfl) ?_
  refine kw_get hx hb hg in_R hown hK hP 0 (Nat.lt_of_lt_of_le (by decide : 0 < 19) hn) e0 rfl 22 (by decide) (hg _ kg_605) rfl rfl d_R_place_1 ?_
  refine lv_iload_n hx hb d_R_place_4 rfl (lv_at hl 1 rfl) ?_
  refine kw_iald hx hb hK hP 10 0 (Nat.lt_of_lt_of_le (by decide : 10 < 19) hn) e10 rfl q (rfl) (hq) (by omega) d_R_place_5 ?_
  refine lv_istore_n (lv' := [(3, .int (nI (wh q))), (0, .ref (ad 0)), (1, .int (nI q)), (2, .int (nI i))]) hx hb d_R_place_6 rfl hl (by decide) rfl (fun ls hl => ?_)
  refine lv_aload_n hx hb d_R_place_7 rfl (lv_at hl 1 rfl) ?_
  refine kw_get hx hb hg in_R hown hK hP 0 (Nat.lt_of_lt_of_le (by decide : 0 < 19) hn) e0 rfl 15 (by decide) (hg _ kg_598) rfl rfl d_R_place_8 ?_
  refine lv_iload_n hx hb d_R_place_11 rfl (lv_at hl 0 rfl) ?_
  refine kw_iald hx hb hK hP 4 0 (Nat.lt_of_lt_of_le (by decide : 4 < 19) hn) e4 rfl (wh q) (rfl) (hk) (by omega) d_R_place_12 ?_
  refine lv_bipush (v := 19) hx hb d_R_place_13 (by decide) ?_
  refine lv_icmp_ne (tgt := 55) hx hb d_R_place_15 (by decide) (fun h1 => ?_) (fun h1 => ?_)
  · refine lv_aload_n hx hb d_R_place_55 rfl (lv_at hl 1 rfl) ?_
    refine kw_get hx hb hg in_R hown hK hP 0 (Nat.lt_of_lt_of_le (by decide : 0 < 19) hn) e0 rfl 29 (by decide) (hg _ kg_612) rfl rfl d_R_place_56 ?_
    refine lv_iload_n hx hb d_R_place_59 rfl (lv_at hl 2 rfl) ?_
    refine kw_iald hx hb hK hP 17 0 (Nat.lt_of_lt_of_le (by decide : 17 < 19) hn) e17 rfl q (rfl) (hq) (by omega) d_R_place_60 ?_
    refine lv_iload_n hx hb d_R_place_61 rfl (lv_at hl 3 rfl) ?_
    refine lv_aload_n hx hb d_R_place_62 rfl (lv_at hl 1 rfl) ?_
    refine kw_get hx hb hg in_R hown hK hP 0 (Nat.lt_of_lt_of_le (by decide : 0 < 19) hn) e0 rfl 30 (by decide) (hg _ kg_613) rfl rfl d_R_place_63 ?_
    refine lv_iload_n hx hb d_R_place_66 rfl (lv_at hl 2 rfl) ?_
    refine kw_iald hx hb hK hP 18 0 (Nat.lt_of_lt_of_le (by decide : 18 < 19) hn) e18 rfl q (rfl) (hq) (by omega) d_R_place_67 ?_
    refine lv_imul hx hb d_R_place_68 ?_
    refine lv_iadd hx hb d_R_place_69 ?_
    exact kw_iret hx hb hr hlocks hP hK hS ⟨by rw [kv_R_place, if_neg h1], rfl⟩ d_R_place_70
  · refine lv_aload_n hx hb d_R_place_18 rfl (lv_at hl 1 rfl) ?_
    refine kw_get hx hb hg in_R hown hK hP 0 (Nat.lt_of_lt_of_le (by decide : 0 < 19) hn) e0 rfl 29 (by decide) (hg _ kg_612) rfl rfl d_R_place_19 ?_
    refine lv_iload_n hx hb d_R_place_22 rfl (lv_at hl 2 rfl) ?_
    refine kw_iald hx hb hK hP 17 0 (Nat.lt_of_lt_of_le (by decide : 17 < 19) hn) e17 rfl q (rfl) (hq) (by omega) d_R_place_23 ?_
    refine lv_aload_n hx hb d_R_place_24 rfl (lv_at hl 1 rfl) ?_
    refine lv_aload_n hx hb d_R_place_25 rfl (lv_at hl 1 rfl) ?_
    refine kw_get hx hb hg in_R hown hK hP 0 (Nat.lt_of_lt_of_le (by decide : 0 < 19) hn) e0 rfl 18 (by decide) (hg _ kg_601) rfl rfl d_R_place_26 ?_
    refine lv_iload_n hx hb d_R_place_29 rfl (lv_at hl 0 rfl) ?_
    refine kw_iald hx hb hK hP 7 0 (Nat.lt_of_lt_of_le (by decide : 7 < 19) hn) e7 rfl (wh q) (rfl) (hk) (by omega) d_R_place_30 ?_
    refine lv_iload_n hx hb d_R_place_31 rfl (lv_at hl 3 rfl) ?_
    refine lv_aload_n hx hb d_R_place_32 rfl (lv_at hl 1 rfl) ?_
    refine kw_get hx hb hg in_R hown hK hP 0 (Nat.lt_of_lt_of_le (by decide : 0 < 19) hn) e0 rfl 23 (by decide) (hg _ kg_606) rfl rfl d_R_place_33 ?_
    refine lv_iload_n hx hb d_R_place_36 rfl (lv_at hl 2 rfl) ?_
    refine kw_iald hx hb hK hP 11 0 (Nat.lt_of_lt_of_le (by decide : 11 < 19) hn) e11 rfl q (rfl) (hq) (by omega) d_R_place_37 ?_
    refine kw_callix (kw_rV (As := [.int (nI (pb (wh q))), .int (nI i), .int (nI (wd q))]) (rest := [.int (XA q)]) (q0 := 0) ⟨hx, hb, hml, hown, hg⟩ ⟨callB_of 3 hg (kg_goodG kg_723) rfl rfl rfl (hg _ kg_7) (hg _ kg_720) (by decide +kernel) ⟨by decide, by decide⟩, hg _ kg_722, hg _ (kg_sel (q := (y_R_element, 31)) (by decide +kernel))⟩ (c_R_element l hn ⟨e0, e1, e2, e3, e4, e5, e6, e7, e8, e9, e10, e11, e12, e13, e14, e15, e16, e17, e18⟩ (hb9 ((nI_eq (b := 19) (by omega) (by omega)).mp h1)) ) hK hP (Nat.lt_of_lt_of_le (by decide : 0 < 19) hn) e0 rfl rfl hl.1 rfl (Nat.le_of_ble_eq_true rfl) d_R_place_38 ⟨Nat.zero_le _, Nat.zero_le _⟩) hA hS (fun H locs hP hS => ?_)
    refine lv_aload_n hx hb d_R_place_41 rfl (lv_at hl 1 rfl) ?_
    refine kw_get hx hb hg in_R hown hK hP 0 (Nat.lt_of_lt_of_le (by decide : 0 < 19) hn) e0 rfl 23 (by decide) (hg _ kg_606) rfl rfl d_R_place_42 ?_
    refine lv_iload_n hx hb d_R_place_45 rfl (lv_at hl 2 rfl) ?_
    refine kw_iald hx hb hK hP 11 0 (Nat.lt_of_lt_of_le (by decide : 11 < 19) hn) e11 rfl q (rfl) (hq) (by omega) d_R_place_46 ?_
    refine kw_calllx (kw_rS (As := [.int (kv_R_element F (pb (wh q)) i (wd q)), .int (nI (wd q))]) (rest := [.int (XA q)]) ⟨hx, hb, hml, hown, hg⟩ ⟨callB_of 2 hg (kg_goodG kg_750) rfl rfl rfl (hg _ kg_7) (hg _ kg_748) (by decide +kernel) ⟨by decide, by decide⟩, hg _ kg_749⟩ (c_R_plain l  ) hK hP rfl hl.1 rfl (Nat.le_of_ble_eq_true rfl) d_R_place_47 ⟨Nat.zero_le _, Nat.zero_le _⟩) hA hS (fun H locs hP hS => ?_)
    refine lv_l2i hx hb d_R_place_50 rfl ?_
    refine lv_iadd hx hb d_R_place_51 ?_
    refine lv_goto (tgt := 70) hx hb d_R_place_52 (by decide) ?_
    exact kw_iret hx hb hr hlocks hP hK hS ⟨by rw [kv_R_place, if_pos h1], rfl⟩ d_R_place_70

def kv_R_pairs (F : Nat → Int32) (po : Nat → Nat) (pa : Nat → Nat) (pb : Nat → Nat) (wh : Nat → Nat) (wd : Nat → Nat) (XB : Nat → Int32) (q : Nat) (i : Nat) : Int32 := if (nI (po (wh q))) = 11 then ((kv_R_element F (pa (wh q)) i (wd q)) + (XB q)) else if (nI (po (wh q))) = 9 then ((kv_R_element F (pa (wh q)) i (wd q)) - (kv_R_element F (pb (wh q)) i (wd q))) else if (nI (po (wh q))) = 10 then ((kv_R_element F (pa (wh q)) i (wd q)) * (kv_R_element F (pb (wh q)) i (wd q))) else ((kv_R_element F (pa (wh q)) i (wd q)) + (kv_R_element F (pb (wh q)) i (wd q)))
set_option maxRecDepth 100000 in
set_option maxHeartbeats 4000000 in
theorem c_R_pairs (l : Launch) {D : va_G} {ad : Nat → Nat} {n : Nat} {cs : Nat → va_E} {cI : ClassId} {cZ : ClassId} {la : Nat} {th : Int32} {st : Nat} {nx : Int32} {wi : Nat} {gp : Nat} {vl : Nat} {sa : Nat} {bo : Nat} {cy : Int32} {sd : Int32} {ma : Nat} {qu : Nat} {X : Nat → Int32} {F : Nat → Int32} {M : Nat → Int32} {po : Nat → Nat} {pd : Nat → Nat} {pa : Nat → Nat} {pb : Nat → Nat} {pn : Nat → Int32} {pm : Nat → Int32} {wh : Nat → Nat} {wd : Nat → Nat} {rg : Nat → Nat} {fr : Nat → Nat} {sp : Nat → Nat} {dn : Nat → Nat} {bf : Nat → Nat} {XA : Nat → Int32} {XB : Nat → Int32} {q : Nat} {i : Nat} (hn : 19 ≤ n) (hR : kR ad cI cZ cs la th st nx wi gp vl sa bo cy sd ma qu X F M po pd pa pb pn pm wh wd rg fr sp dn bf XA XB) (hq : q < 5) (hk : wh q < 40) (ha9 : 8 * pa (wh q) + i * wd q + wd q ≤ 64) (hb9 : po (wh q) ≠ 11 → 8 * pb (wh q) + i * wd q + wd q ≤ 64) : kw_mi l y_R_pairs w_R_pairs (kr 2) D kc (ktR cI cZ) ad n cs [.ref (ad 0), .int (nI q), .int (nI i)] (fun r9 c9 => r9 = kv_R_pairs F po pa pb wh wd XB q i ∧ c9 = cs) := by
  refine kw_of (cc := b_R_pairs) (maxL := 7) (ret := (some .int)) (by decide) rfl (Nat.le_of_ble_eq_true rfl) ?_
  intro p e s m below meth c ls hx hb hr hml hown hts hlocks hP hK hl
  have hg : ∀ w9 ∈ kg_G, w9.before [.ref (ad 0), .int (nI q), .int (nI i)].toArray s = true := fun w9 h9 => hts w9 (List.mem_cons_of_mem _ h9)
  have hown : s.vm.findClass "LaneMachineModel" = some m.cls := hown
  have hA : ∀ k, k < n → kw_A ad n (ad k) := fun k hk => ⟨k, hk, rfl⟩
  have hS : va_S (kw_A ad n) s.heap s.heap [] := va_S.rf
  have hl : lv_has ls 7 [(0, .ref (ad 0)), (1, .int (nI q)), (2, .int (nI i))] := hl
  obtain ⟨e0, e1, e2, e3, e4, e5, e6, e7, e8, e9, e10, e11, e12, e13, e14, e15, e16, e17, e18⟩ := hR
  refine lv_aload_n hx hb d_R_pairs_0 rfl (lv_at hl 0 rfl) ?_
  refine kw_get hx hb hg in_R hown hK hP 0 (Nat.lt_of_lt_of_le (by decide : 0 < 19) hn) e0 rfl 22 (by decide) (hg _ kg_605) rfl rfl d_R_pairs_1 ?_
  refine lv_iload_n hx hb d_R_pairs_4 rfl (lv_at hl 1 rfl) ?_
  refine kw_iald hx hb hK hP 10 0 (Nat.lt_of_lt_of_le (by decide : 10 < 19) hn) e10 rfl q (rfl) (hq) (by omega) d_R_pairs_5 ?_
  refine lv_istore_n (lv' := [(3, .int (nI (wh q))), (0, .ref (ad 0)), (1, .int (nI q)), (2, .int (nI i))]) hx hb d_R_pairs_6 rfl hl (by decide) rfl (fun ls hl => ?_)
  refine lv_aload_n hx hb d_R_pairs_7 rfl (lv_at hl 1 rfl) ?_
  refine kw_get hx hb hg in_R hown hK hP 0 (Nat.lt_of_lt_of_le (by decide : 0 < 19) hn) e0 rfl 23 (by decide) (hg _ kg_606) rfl rfl d_R_pairs_8 ?_
  refine lv_iload_n hx hb d_R_pairs_11 rfl (lv_at hl 2 rfl) ?_
  refine kw_iald hx hb hK hP 11 0 (Nat.lt_of_lt_of_le (by decide : 11 < 19) hn) e11 rfl q (rfl) (hq) (by omega) d_R_pairs_12 ?_
  refine lv_istore (lv' := [(4, .int (nI (wd q))), (3, .int (nI (wh q))), (0, .ref (ad 0)), (1, .int (nI q)), (2, .int (nI i))]) hx hb d_R_pairs_13 hl (by decide) rfl (fun ls hl => ?_)
  refine lv_aload_n hx hb d_R_pairs_15 rfl (lv_at hl 2 rfl) ?_
  refine lv_aload_n hx hb d_R_pairs_16 rfl (lv_at hl 2 rfl) ?_
  refine kw_get hx hb hg in_R hown hK hP 0 (Nat.lt_of_lt_of_le (by decide : 0 < 19) hn) e0 rfl 17 (by decide) (hg _ kg_600) rfl rfl d_R_pairs_17 ?_
  refine lv_iload_n hx hb d_R_pairs_20 rfl (lv_at hl 1 rfl) ?_
  refine kw_iald hx hb hK hP 6 0 (Nat.lt_of_lt_of_le (by decide : 6 < 19) hn) e6 rfl (wh q) (rfl) (hk) (by omega) d_R_pairs_21 ?_
  refine lv_iload_n hx hb d_R_pairs_22 rfl (lv_at hl 4 rfl) ?_
  refine lv_iload hx hb d_R_pairs_23 (lv_at hl 0 rfl) ?_
  refine kw_callix (kw_rV (As := [.int (nI (pa (wh q))), .int (nI i), .int (nI (wd q))]) (rest := []) (q0 := 0) ⟨hx, hb, hml, hown, hg⟩ ⟨callB_of 3 hg (kg_goodG kg_723) rfl rfl rfl (hg _ kg_7) (hg _ kg_720) (by decide +kernel) ⟨by decide, by decide⟩, hg _ kg_722, hg _ (kg_sel (q := (y_R_element, 31)) (by decide +kernel))⟩ (c_R_element l hn ⟨e0, e1, e2, e3, e4, e5, e6, e7, e8, e9, e10, e11, e12, e13, e14, e15, e16, e17, e18⟩ ha9 ) hK hP (Nat.lt_of_lt_of_le (by decide : 0 < 19) hn) e0 rfl rfl hl.1 rfl (Nat.le_of_ble_eq_true rfl) d_R_pairs_25 ⟨Nat.zero_le _, Nat.zero_le _⟩) hA hS (fun H locs hP hS => ?_)
  refine lv_istore (lv' := [(5, .int (kv_R_element F (pa (wh q)) i (wd q))), (4, .int (nI (wd q))), (3, .int (nI (wh q))), (0, .ref (ad 0)), (1, .int (nI q)), (2, .int (nI i))]) hx hb d_R_pairs_28 hl (by decide) rfl (fun ls hl => ?_)
  refine lv_aload_n hx hb d_R_pairs_30 rfl (lv_at hl 3 rfl) ?_
  refine kw_get hx hb hg in_R hown hK hP 0 (Nat.lt_of_lt_of_le (by decide : 0 < 19) hn) e0 rfl 15 (by decide) (hg _ kg_598) rfl rfl d_R_pairs_31 ?_
  refine lv_iload_n hx hb d_R_pairs_34 rfl (lv_at hl 2 rfl) ?_
  refine kw_iald hx hb hK hP 4 0 (Nat.lt_of_lt_of_le (by decide : 4 < 19) hn) e4 rfl (wh q) (rfl) (hk) (by omega) d_R_pairs_35 ?_
  refine lv_bipush (v := 11) hx hb d_R_pairs_36 (by decide) ?_
  refine lv_icmp_ne (tgt := 50) hx hb d_R_pairs_38 (by decide) (fun h1 => ?_) (fun h1 => ?_)
  · refine lv_aload_n hx hb d_R_pairs_50 rfl (lv_at hl 3 rfl) ?_
    refine lv_aload_n hx hb d_R_pairs_51 rfl (lv_at hl 3 rfl) ?_
    refine kw_get hx hb hg in_R hown hK hP 0 (Nat.lt_of_lt_of_le (by decide : 0 < 19) hn) e0 rfl 18 (by decide) (hg _ kg_601) rfl rfl d_R_pairs_52 ?_
    refine lv_iload_n hx hb d_R_pairs_55 rfl (lv_at hl 2 rfl) ?_
    refine kw_iald hx hb hK hP 7 0 (Nat.lt_of_lt_of_le (by decide : 7 < 19) hn) e7 rfl (wh q) (rfl) (hk) (by omega) d_R_pairs_56 ?_
    refine lv_iload_n hx hb d_R_pairs_57 rfl (lv_at hl 5 rfl) ?_
    refine lv_iload hx hb d_R_pairs_58 (lv_at hl 1 rfl) ?_
    refine kw_callix (kw_rV (As := [.int (nI (pb (wh q))), .int (nI i), .int (nI (wd q))]) (rest := []) (q0 := 0) ⟨hx, hb, hml, hown, hg⟩ ⟨callB_of 3 hg (kg_goodG kg_723) rfl rfl rfl (hg _ kg_7) (hg _ kg_720) (by decide +kernel) ⟨by decide, by decide⟩, hg _ kg_722, hg _ (kg_sel (q := (y_R_element, 31)) (by decide +kernel))⟩ (c_R_element l hn ⟨e0, e1, e2, e3, e4, e5, e6, e7, e8, e9, e10, e11, e12, e13, e14, e15, e16, e17, e18⟩ (hb9 (fun z9 => h1 (by rw [z9]; rfl))) ) hK hP (Nat.lt_of_lt_of_le (by decide : 0 < 19) hn) e0 rfl rfl hl.1 rfl (Nat.le_of_ble_eq_true rfl) d_R_pairs_60 ⟨Nat.zero_le _, Nat.zero_le _⟩) hA hS (fun H locs hP hS => ?_)
    refine lv_istore (lv' := [(6, .int (kv_R_element F (pb (wh q)) i (wd q))), (5, .int (kv_R_element F (pa (wh q)) i (wd q))), (4, .int (nI (wd q))), (3, .int (nI (wh q))), (0, .ref (ad 0)), (1, .int (nI q)), (2, .int (nI i))]) hx hb d_R_pairs_63 hl (by decide) rfl (fun ls hl => ?_)
    refine lv_aload_n hx hb d_R_pairs_65 rfl (lv_at hl 4 rfl) ?_
    refine kw_get hx hb hg in_R hown hK hP 0 (Nat.lt_of_lt_of_le (by decide : 0 < 19) hn) e0 rfl 15 (by decide) (hg _ kg_598) rfl rfl d_R_pairs_66 ?_
    refine lv_iload_n hx hb d_R_pairs_69 rfl (lv_at hl 3 rfl) ?_
    refine kw_iald hx hb hK hP 4 0 (Nat.lt_of_lt_of_le (by decide : 4 < 19) hn) e4 rfl (wh q) (rfl) (hk) (by omega) d_R_pairs_70 ?_
    refine lv_bipush (v := 9) hx hb d_R_pairs_71 (by decide) ?_
    refine lv_icmp_ne (tgt := 84) hx hb d_R_pairs_73 (by decide) (fun h2 => ?_) (fun h2 => ?_)
    · refine lv_aload_n hx hb d_R_pairs_84 rfl (lv_at hl 4 rfl) ?_
      refine kw_get hx hb hg in_R hown hK hP 0 (Nat.lt_of_lt_of_le (by decide : 0 < 19) hn) e0 rfl 15 (by decide) (hg _ kg_598) rfl rfl d_R_pairs_85 ?_
      refine lv_iload_n hx hb d_R_pairs_88 rfl (lv_at hl 3 rfl) ?_
      refine kw_iald hx hb hK hP 4 0 (Nat.lt_of_lt_of_le (by decide : 4 < 19) hn) e4 rfl (wh q) (rfl) (hk) (by omega) d_R_pairs_89 ?_
      refine lv_bipush (v := 10) hx hb d_R_pairs_90 (by decide) ?_
      refine lv_icmp_ne (tgt := 103) hx hb d_R_pairs_92 (by decide) (fun h3 => ?_) (fun h3 => ?_)
      · refine lv_iload hx hb d_R_pairs_103 (lv_at hl 1 rfl) ?_
        refine lv_iload hx hb d_R_pairs_105 (lv_at hl 0 rfl) ?_
        refine lv_iadd hx hb d_R_pairs_107 ?_
        exact kw_iret hx hb hr hlocks hP hK hS ⟨by rw [kv_R_pairs, if_neg h1, if_neg h2, if_neg h3], rfl⟩ d_R_pairs_108
      · refine lv_iload hx hb d_R_pairs_95 (lv_at hl 1 rfl) ?_
        refine lv_iload hx hb d_R_pairs_97 (lv_at hl 0 rfl) ?_
        refine lv_imul hx hb d_R_pairs_99 ?_
        refine lv_goto (tgt := 108) hx hb d_R_pairs_100 (by decide) ?_
        exact kw_iret hx hb hr hlocks hP hK hS ⟨by rw [kv_R_pairs, if_neg h1, if_neg h2, if_pos h3], rfl⟩ d_R_pairs_108
    · refine lv_iload hx hb d_R_pairs_76 (lv_at hl 1 rfl) ?_
      refine lv_iload hx hb d_R_pairs_78 (lv_at hl 0 rfl) ?_
      refine lv_isub hx hb d_R_pairs_80 ?_
      refine lv_goto (tgt := 108) hx hb d_R_pairs_81 (by decide) ?_
      exact kw_iret hx hb hr hlocks hP hK hS ⟨by rw [kv_R_pairs, if_neg h1, if_pos h2], rfl⟩ d_R_pairs_108
  · refine lv_aload_n hx hb d_R_pairs_41 rfl (lv_at hl 3 rfl) ?_
    refine kw_get hx hb hg in_R hown hK hP 0 (Nat.lt_of_lt_of_le (by decide : 0 < 19) hn) e0 rfl 30 (by decide) (hg _ kg_613) rfl rfl d_R_pairs_42 ?_
    refine lv_iload_n hx hb d_R_pairs_45 rfl (lv_at hl 4 rfl) ?_
    refine kw_iald hx hb hK hP 18 0 (Nat.lt_of_lt_of_le (by decide : 18 < 19) hn) e18 rfl q (rfl) (hq) (by omega) d_R_pairs_46 ?_
    refine lv_goto (tgt := 63) hx hb d_R_pairs_47 (by decide) ?_
    refine lv_istore (lv' := [(6, .int (XB q)), (5, .int (kv_R_element F (pa (wh q)) i (wd q))), (4, .int (nI (wd q))), (3, .int (nI (wh q))), (0, .ref (ad 0)), (1, .int (nI q)), (2, .int (nI i))]) hx hb d_R_pairs_63 hl (by decide) rfl (fun ls hl => ?_)
    refine lv_aload_n hx hb d_R_pairs_65 rfl (lv_at hl 4 rfl) ?_
    refine kw_get hx hb hg in_R hown hK hP 0 (Nat.lt_of_lt_of_le (by decide : 0 < 19) hn) e0 rfl 15 (by decide) (hg _ kg_598) rfl rfl d_R_pairs_66 ?_
    refine lv_iload_n hx hb d_R_pairs_69 rfl (lv_at hl 3 rfl) ?_
    refine kw_iald hx hb hK hP 4 0 (Nat.lt_of_lt_of_le (by decide : 4 < 19) hn) e4 rfl (wh q) (rfl) (hk) (by omega) d_R_pairs_70 ?_
    refine lv_bipush (v := 9) hx hb d_R_pairs_71 (by decide) ?_
    refine lv_icmp_ne (tgt := 84) hx hb d_R_pairs_73 (by decide) (fun _ => ?_) (fun h4 => absurd h4 (by rw [h1] <;> decide))
    refine lv_aload_n hx hb d_R_pairs_84 rfl (lv_at hl 4 rfl) ?_
    refine kw_get hx hb hg in_R hown hK hP 0 (Nat.lt_of_lt_of_le (by decide : 0 < 19) hn) e0 rfl 15 (by decide) (hg _ kg_598) rfl rfl d_R_pairs_85 ?_
    refine lv_iload_n hx hb d_R_pairs_88 rfl (lv_at hl 3 rfl) ?_
    refine kw_iald hx hb hK hP 4 0 (Nat.lt_of_lt_of_le (by decide : 4 < 19) hn) e4 rfl (wh q) (rfl) (hk) (by omega) d_R_pairs_89 ?_
    refine lv_bipush (v := 10) hx hb d_R_pairs_90 (by decide) ?_
    refine lv_icmp_ne (tgt := 103) hx hb d_R_pairs_92 (by decide) (fun _ => ?_) (fun h5 => absurd h5 (by rw [h1] <;> decide))
    refine lv_iload hx hb d_R_pairs_103 (lv_at hl 1 rfl) ?_
    refine lv_iload hx hb d_R_pairs_105 (lv_at hl 0 rfl) ?_
    refine lv_iadd hx hb d_R_pairs_107 ?_
    exact kw_iret hx hb hr hlocks hP hK hS ⟨by rw [kv_R_pairs, if_pos h1], rfl⟩ d_R_pairs_108

def kv_se (v : Int32) (q : Nat) : Nat → Nat → (Nat → Int32) → Nat → Int32
  | 0, _, F => F
  | k + 1, i, F => kv_se v q k (i + 1) (upd F (q + i) (((v >>> ((8 * nI i) &&& 31)) <<< (24 &&& 31)) >>> (24 &&& 31)))

set_option maxRecDepth 100000 in
set_option maxHeartbeats 4000000 in
theorem c_R_set (l : Launch) {D : va_G} {ad : Nat → Nat} {n : Nat} {cs : Nat → va_E} (hJ : kw_J ad n) {cI : ClassId} {cZ : ClassId} {la : Nat} {th : Int32} {st : Nat} {nx : Int32} {wi : Nat} {gp : Nat} {vl : Nat} {sa : Nat} {bo : Nat} {cy : Int32} {sd : Int32} {ma : Nat} {qu : Nat} {X : Nat → Int32} {F : Nat → Int32} {M : Nat → Int32} {po : Nat → Nat} {pd : Nat → Nat} {pa : Nat → Nat} {pb : Nat → Nat} {pn : Nat → Int32} {pm : Nat → Int32} {wh : Nat → Nat} {wd : Nat → Nat} {rg : Nat → Nat} {fr : Nat → Nat} {sp : Nat → Nat} {dn : Nat → Nat} {bf : Nat → Nat} {XA : Nat → Int32} {XB : Nat → Int32} {r : Nat} {i : Nat} {w : Nat} {v : Int32} (hn : 19 ≤ n) (hR : kR ad cI cZ cs la th st nx wi gp vl sa bo cy sd ma qu X F M po pd pa pb pn pm wh wd rg fr sp dn bf XA XB) (hr9 : 8 * r + i * w + w ≤ 64) : kw_mv l y_R_set w_R_set (kr 0) D kc (ktR cI cZ) ad n cs [.ref (ad 0), .int (nI r), .int (nI i), .int (nI w), .int v] (fun c9 => c9 = va_up cs 2 (.inl (cI, 64, .inl (kv_se v (8 * r + i * w) w 0 F)))) := by
  refine kw_of (cc := b_R_set) (maxL := 6) (ret := none) (by decide) rfl (Nat.le_of_ble_eq_true rfl) ?_
  intro p e s m below meth c ls hx hb hr hml hown hts hlocks hP hK hl
  have hg : ∀ w9 ∈ kg_G, w9.before [.ref (ad 0), .int (nI r), .int (nI i), .int (nI w), .int v].toArray s = true := fun w9 h9 => hts w9 (List.mem_cons_of_mem _ h9)
  have hown : s.vm.findClass "LaneMachineModel" = some m.cls := hown
  have hA : ∀ k, k < n → kw_A ad n (ad k) := fun k hk => ⟨k, hk, rfl⟩
  have hS : va_S (kw_A ad n) s.heap s.heap [] := va_S.rf
  have hl : lv_has ls 6 [(0, .ref (ad 0)), (1, .int (nI r)), (2, .int (nI i)), (3, .int (nI w)), (4, .int v)] := hl
  obtain ⟨e0, e1, e2, e3, e4, e5, e6, e7, e8, e9, e10, e11, e12, e13, e14, e15, e16, e17, e18⟩ := hR
  refine lv_iconst (v := 0) hx hb d_R_set_0 (by decide) ?_
  refine lv_istore (lv' := [(5, .int 0), (0, .ref (ad 0)), (1, .int (nI r)), (2, .int (nI i)), (3, .int (nI w)), (4, .int v)]) hx hb d_R_set_1 hl (by decide) rfl (fun ls hl => ?_)
  have loop : ∀ (kk : Nat) (b : Nat) (G : Nat → Int32) (H : Heap) (locs : List Loc) (ls : Array Slot), b + kk = w → kv_se v (8 * r + i * w) w 0 F = kv_se v (8 * r + i * w) kk b G → va_P D kc (kw_w ad (va_up cs 2 (.inl (cI, 64, .inl (G)))) n) H → va_S (kw_A ad n) s.heap H locs → lv_has ls 6 [(5, .int (nI b)), (0, .ref (ad 0)), (1, .int (nI r)), (2, .int (nI i)), (3, .int (nI w)), (4, .int v)] → W p l e (kr 0) s m [.ref (ad 0), .int (nI r), .int (nI i), .int (nI w), .int v].toArray below meth c H locs 0 0 (MQ below (va_Qv (fun c9 => c9 = va_up cs 2 (.inl (cI, 64, .inl (kv_se v (8 * r + i * w) w 0 F)))) (kw_Pre D kc (ktR cI cZ) ad n) (kw_A ad n)) [.ref (ad 0), .int (nI r), .int (nI i), .int (nI w), .int v].toArray s 0 0 (kw_A ad n)) (F0 m 3 ls []) := by
    intro kk
    induction kk with
    | zero =>
      intro b G H locs ls hik hv hP hS hl
      have e0 : (va_up cs 2 (.inl (cI, 64, .inl (G)))) 0 = .inr (5, [.int (nI la), .int th, .int (nI st), .int nx, .int (nI wi), .int (nI gp), .int (nI vl), .int (nI sa), .int (nI bo), .int cy, .int sd, .ref (ad 1), .ref (ad 2), .ref (ad 3), .int (nI ma), .ref (ad 4), .ref (ad 5), .ref (ad 6), .ref (ad 7), .ref (ad 8), .ref (ad 9), .int (nI qu), .ref (ad 10), .ref (ad 11), .ref (ad 12), .ref (ad 13), .ref (ad 14), .ref (ad 15), .ref (ad 16), .ref (ad 17), .ref (ad 18)]) := (va_up_ne _ _ (by decide)).trans e0
      have e2 : (va_up cs 2 (.inl (cI, 64, .inl (G)))) 2 = .inl (cI, 64, .inl (G)) := va_up_self _ _ _
      refine lv_iload hx hb d_R_set_3 (lv_at hl 0 rfl) ?_
      refine lv_iload_n hx hb d_R_set_5 rfl (lv_at hl 4 rfl) ?_
      refine lv_icmp_ge (tgt := 45) hx hb d_R_set_6 (by decide) (fun _ => ?_) (fun h1 => absurd (nI_le (by omega) (by omega)) h1)
      exact kw_vret hx hb hr hlocks hP hK hS (by rw [hv, kv_se]) d_R_set_45
    | succ j ih =>
      intro b G H locs ls hik hv hP hS hl
      have e0 : (va_up cs 2 (.inl (cI, 64, .inl (G)))) 0 = .inr (5, [.int (nI la), .int th, .int (nI st), .int nx, .int (nI wi), .int (nI gp), .int (nI vl), .int (nI sa), .int (nI bo), .int cy, .int sd, .ref (ad 1), .ref (ad 2), .ref (ad 3), .int (nI ma), .ref (ad 4), .ref (ad 5), .ref (ad 6), .ref (ad 7), .ref (ad 8), .ref (ad 9), .int (nI qu), .ref (ad 10), .ref (ad 11), .ref (ad 12), .ref (ad 13), .ref (ad 14), .ref (ad 15), .ref (ad 16), .ref (ad 17), .ref (ad 18)]) := (va_up_ne _ _ (by decide)).trans e0
      have e2 : (va_up cs 2 (.inl (cI, 64, .inl (G)))) 2 = .inl (cI, 64, .inl (G)) := va_up_self _ _ _
      refine lv_iload hx hb d_R_set_3 (lv_at hl 0 rfl) ?_
      refine lv_iload_n hx hb d_R_set_5 rfl (lv_at hl 4 rfl) ?_
      refine lv_icmp_ge (tgt := 45) hx hb d_R_set_6 (by decide) (fun h2 => absurd h2 (nI_ge (by omega) (by omega))) (fun _ => ?_)
      refine lv_aload_n hx hb d_R_set_9 rfl (lv_at hl 1 rfl) ?_
      refine kw_get hx hb hg in_R hown hK hP 0 (Nat.lt_of_lt_of_le (by decide : 0 < 19) hn) e0 rfl 12 (by decide) (hg _ kg_595) rfl rfl d_R_set_10 ?_
      refine lv_bipush (v := 8) hx hb d_R_set_13 (by decide) ?_
      refine lv_iload_n hx hb d_R_set_15 rfl (lv_at hl 2 rfl) ?_
      refine lv_imul hx hb d_R_set_16 ?_
      refine lv_iload_n hx hb d_R_set_17 rfl (lv_at hl 3 rfl) ?_
      refine lv_iload_n hx hb d_R_set_18 rfl (lv_at hl 4 rfl) ?_
      refine lv_imul hx hb d_R_set_19 ?_
      refine lv_iadd hx hb d_R_set_20 ?_
      refine lv_iload hx hb d_R_set_21 (lv_at hl 0 rfl) ?_
      refine lv_iadd hx hb d_R_set_23 ?_
      refine lv_iload hx hb d_R_set_24 (lv_at hl 5 rfl) ?_
      refine lv_bipush (v := 8) hx hb d_R_set_26 (by decide) ?_
      refine lv_iload hx hb d_R_set_28 (lv_at hl 0 rfl) ?_
      refine lv_imul hx hb d_R_set_30 ?_
      refine lv_ishr hx hb d_R_set_31 ?_
      refine lv_bipush (v := 24) hx hb d_R_set_32 (by decide) ?_
      refine lv_ishl hx hb d_R_set_34 ?_
      refine lv_bipush (v := 24) hx hb d_R_set_35 (by decide) ?_
      refine lv_ishr hx hb d_R_set_37 ?_
      refine kw_iast hx hb hK hP hJ hA hS 2 0 (Nat.lt_of_lt_of_le (by decide : 2 < 19) hn) e2 rfl (8 * r + i * w + b) (by rw [show (8 : Int32) = nI 8 from rfl, pk_mul, pk_mul, nI_add, nI_add]) (by omega) (by omega) d_R_set_38 (fun H locs hP hS => ?_)
      have e0 : (va_up (va_up cs 2 (.inl (cI, 64, .inl (G)))) 2 (.inl (cI, 64, .inl (upd G (8 * r + i * w + b) (((v >>> ((8 * (nI b)) &&& 31)) <<< (24 &&& 31)) >>> (24 &&& 31)))))) 0 = .inr (5, [.int (nI la), .int th, .int (nI st), .int nx, .int (nI wi), .int (nI gp), .int (nI vl), .int (nI sa), .int (nI bo), .int cy, .int sd, .ref (ad 1), .ref (ad 2), .ref (ad 3), .int (nI ma), .ref (ad 4), .ref (ad 5), .ref (ad 6), .ref (ad 7), .ref (ad 8), .ref (ad 9), .int (nI qu), .ref (ad 10), .ref (ad 11), .ref (ad 12), .ref (ad 13), .ref (ad 14), .ref (ad 15), .ref (ad 16), .ref (ad 17), .ref (ad 18)]) := (va_up_ne _ _ (by decide)).trans e0
      have e2 : (va_up (va_up cs 2 (.inl (cI, 64, .inl (G)))) 2 (.inl (cI, 64, .inl (upd G (8 * r + i * w + b) (((v >>> ((8 * (nI b)) &&& 31)) <<< (24 &&& 31)) >>> (24 &&& 31)))))) 2 = .inl (cI, 64, .inl (upd G (8 * r + i * w + b) (((v >>> ((8 * (nI b)) &&& 31)) <<< (24 &&& 31)) >>> (24 &&& 31)))) := va_up_self _ _ _
      refine lv_iinc (k := 0) (v := nI (b + 1)) (lv' := [(5, .int (nI (b + 1))), (0, .ref (ad 0)), (1, .int (nI r)), (2, .int (nI i)), (3, .int (nI w)), (4, .int v)]) hx hb d_R_set_39 hl rfl ((nI_succ b).symm) (by decide) rfl (fun ls hl => ?_)
      refine lv_goto (tgt := 3) hx hb d_R_set_42 (by decide) ?_
      exact ih ((b + 1)) _ _ _ _ (by omega) (hv) (by rw [bx_uu] at hP; exact hP) hS (lv_sub hl [0, 1, 2, 3, 4, 5] rfl)
  exact loop w 0 F _ _ _ (by omega) (rfl) (by rw [kw_id e2]; exact hP) hS (lv_sub hl [0, 1, 2, 3, 4, 5] rfl)
