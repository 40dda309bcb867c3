/-! the reference: illegal -/
def kv_R_illegal_273 (po : Nat → Nat) (pd : Nat → Nat) (pa : Nat → Nat) (pb : Nat → Nat) (k : Nat) : Int32 := if (nI (po k)) = 15 then (if (nI (pd k)) = (nI (pa k)) then 1 else 0) else if (nI (po k)) = 16 then (if (nI (pd k)) = (nI (pa k)) then 1 else if (nI (pd k)) = (nI (pb k)) then 1 else 0) else if (nI (po k)) = 16 then (if (nI (pd k)) = (nI (pb k)) then 1 else 0) else 0
def kv_R_illegal_241 (po : Nat → Nat) (pd : Nat → Nat) (pa : Nat → Nat) (pb : Nat → Nat) (pm : Nat → Int32) (k : Nat) : Int32 := if (pm k) = 0 then (kv_R_illegal_273 po pd pa pb k) else if (nI (po k)) = 12 then (kv_R_illegal_273 po pd pa pb k) else if (nI (po k)) = 18 then (kv_R_illegal_273 po pd pa pb k) else if (nI (pd k)) = 0 then 1 else (kv_R_illegal_273 po pd pa pb k)
def kv_R_illegal_152 (wi : Nat) (gp : Nat) (po : Nat → Nat) (pd : Nat → Nat) (pa : Nat → Nat) (pb : Nat → Nat) (pm : Nat → Int32) (k : Nat) : Int32 := if (nI (po k)) = 13 then (if (nI wi) = 4 then 1 else if (nI gp) = 4 then 1 else if (nI (pa k)) < (nI (pd k)) then (if (nI (pb k)) < (nI (pd k)) then (kv_R_illegal_241 po pd pa pb pm k) else if ((nI (pd k)) + (2 * (nI gp))) ≤ (nI (pb k)) then (kv_R_illegal_241 po pd pa pb pm k) else 1) else if (nI (pa k)) < ((nI (pd k)) + (2 * (nI gp))) then 1 else if (nI (pb k)) < (nI (pd k)) then (kv_R_illegal_241 po pd pa pb pm k) else if ((nI (pd k)) + (2 * (nI gp))) ≤ (nI (pb k)) then (kv_R_illegal_241 po pd pa pb pm k) else 1) else (kv_R_illegal_241 po pd pa pb pm k)
def kv_R_illegal (wi : Nat) (gp : Nat) (po : Nat → Nat) (pd : Nat → Nat) (pa : Nat → Nat) (pb : Nat → Nat) (pm : Nat → Int32) (k : Nat) : Int32 := if ((if 16 < (nI (po k)) then 0 else 1 : Int32)) = 0 then (if ((if (nI (po k)) ≤ 10 then 1 else if (nI (po k)) = 12 then 1 else if (nI (po k)) = 13 then 1 else if (nI (po k)) = 16 then 1 else if (nI (po k)) = 19 then 1 else 0 : Int32)) = 0 then (if ((if (nI (po k)) = 12 then 0 else if (nI (po k)) = 14 then 0 else 1 : Int32)) = 0 then (kv_R_illegal_152 wi gp po pd pa pb pm k) else if (kv_R_odd (nI (pd k)) ((if (nI (po k)) = 13 then (2 * (nI gp)) else (nI gp) : Int32))) = 0 then (kv_R_illegal_152 wi gp po pd pa pb pm k) else 1) else if (kv_R_odd (nI (pb k)) (nI gp)) = 0 then (if ((if (nI (po k)) = 12 then 0 else if (nI (po k)) = 14 then 0 else 1 : Int32)) = 0 then (kv_R_illegal_152 wi gp po pd pa pb pm k) else if (kv_R_odd (nI (pd k)) ((if (nI (po k)) = 13 then (2 * (nI gp)) else (nI gp) : Int32))) = 0 then (kv_R_illegal_152 wi gp po pd pa pb pm k) else 1) else 1) else if (kv_R_odd (nI (pa k)) (nI gp)) = 0 then (if ((if (nI (po k)) ≤ 10 then 1 else if (nI (po k)) = 12 then 1 else if (nI (po k)) = 13 then 1 else if (nI (po k)) = 16 then 1 else if (nI (po k)) = 19 then 1 else 0 : Int32)) = 0 then (if ((if (nI (po k)) = 12 then 0 else if (nI (po k)) = 14 then 0 else 1 : Int32)) = 0 then (kv_R_illegal_152 wi gp po pd pa pb pm k) else if (kv_R_odd (nI (pd k)) ((if (nI (po k)) = 13 then (2 * (nI gp)) else (nI gp) : Int32))) = 0 then (kv_R_illegal_152 wi gp po pd pa pb pm k) else 1) else if (kv_R_odd (nI (pb k)) (nI gp)) = 0 then (if ((if (nI (po k)) = 12 then 0 else if (nI (po k)) = 14 then 0 else 1 : Int32)) = 0 then (kv_R_illegal_152 wi gp po pd pa pb pm k) else if (kv_R_odd (nI (pd k)) ((if (nI (po k)) = 13 then (2 * (nI gp)) else (nI gp) : Int32))) = 0 then (kv_R_illegal_152 wi gp po pd pa pb pm k) else 1) else 1) else 1
set_option maxRecDepth 100000 in
set_option maxHeartbeats 4000000 in
theorem c_R_illegal (l : Launch) {D : va_G} {ad : Nat → Nat} {n : Nat} {cs : Nat → va_E} {cI : ClassId} {cZ : ClassId} {la : Nat} {th : Int32} {st : Nat} {nx : Int32} {wi : Nat} {gp : Nat} {vl : Nat} {sa : Nat} {bo : Nat} {cy : Int32} {sd : Int32} {ma : Nat} {qu : Nat} {X : Nat → Int32} {F : Nat → Int32} {M : Nat → Int32} {po : Nat → Nat} {pd : Nat → Nat} {pa : Nat → Nat} {pb : Nat → Nat} {pn : Nat → Int32} {pm : Nat → Int32} {wh : Nat → Nat} {wd : Nat → Nat} {rg : Nat → Nat} {fr : Nat → Nat} {sp : Nat → Nat} {dn : Nat → Nat} {bf : Nat → Nat} {XA : Nat → Int32} {XB : Nat → Int32} {k : Nat} (hn : 19 ≤ n) (hR : kR ad cI cZ cs la th st nx wi gp vl sa bo cy sd ma qu X F M po pd pa pb pn pm wh wd rg fr sp dn bf XA XB) (hk : k < 40) (hg9 : 0 < gp) (hg8 : gp < 5) : kw_mi l y_R_illegal w_R_illegal (kr 1) D kc (ktR cI cZ) ad n cs [.ref (ad 0), .int (nI k)] (fun r9 c9 => r9 = kv_R_illegal wi gp po pd pa pb pm k ∧ c9 = cs) := by
  refine kw_of (cc := b_R_illegal) (maxL := 7) (ret := (some .boolean)) (by decide) rfl (Nat.le_of_ble_eq_true rfl) ?_
  intro p e s m below meth c ls hx hb hr hml hown hts hlocks hP hK hl
  have hg : ∀ w9 ∈ kg_G, w9.before [.ref (ad 0), .int (nI k)].toArray s = true := fun w9 h9 => hts w9 (List.mem_cons_of_mem _ h9)
  have hown : s.vm.findClass "LaneMachineModel" = some m.cls := hown
  have hA : ∀ k, k < n → kw_A ad n (ad k) := fun k hk => ⟨k, hk, rfl⟩
  have hS : va_S (kw_A ad n) s.heap s.heap [] := va_S.rf
  have hl : lv_has ls 7 [(0, .ref (ad 0)), (1, .int (nI k))] := hl
  obtain ⟨e0, e1, e2, e3, e4, e5, e6, e7, e8, e9, e10, e11, e12, e13, e14, e15, e16, e17, e18⟩ := hR
  have hgz : ¬ nI gp = 0 := nI_ne0 hg9 (by omega)
  have hgd : ¬ (if (nI (po k)) = 13 then (2 * (nI gp)) else (nI gp) : Int32) = 0 := by
    by_cases h0 : nI (po k) = 13
    · rw [if_pos h0, show (2 : Int32) * nI gp = nI (2 * gp) from pk_mul 2 gp]; exact nI_ne0 (by omega) (by omega)
    · rw [if_neg h0]; exact hgz
  refine lv_aload_n hx hb d_R_illegal_0 rfl (lv_at hl 0 rfl) ?_
  refine kw_get hx hb hg in_R hown hK hP 0 (Nat.lt_of_lt_of_le (by decide : 0 < 19) hn) e0 rfl 15 (by decide) (hg _ kg_598) rfl rfl d_R_illegal_1 ?_
  refine lv_iload_n hx hb d_R_illegal_4 rfl (lv_at hl 1 rfl) ?_
  refine kw_iald hx hb hK hP 4 0 (Nat.lt_of_lt_of_le (by decide : 4 < 19) hn) e4 rfl k (rfl) (hk) (by omega) d_R_illegal_5 ?_
  refine lv_istore_n (lv' := [(2, .int (nI (po k))), (0, .ref (ad 0)), (1, .int (nI k))]) hx hb d_R_illegal_6 rfl hl (by decide) rfl (fun ls hl => ?_)
  refine lv_aload_n hx hb d_R_illegal_7 rfl (lv_at hl 1 rfl) ?_
  refine kw_get hx hb hg in_R hown hK hP 0 (Nat.lt_of_lt_of_le (by decide : 0 < 19) hn) e0 rfl 5 (by decide) (hg _ kg_588) rfl rfl d_R_illegal_8 ?_
  refine lv_istore_n (lv' := [(3, .int (nI gp)), (2, .int (nI (po k))), (0, .ref (ad 0)), (1, .int (nI k))]) hx hb d_R_illegal_11 rfl hl (by decide) rfl (fun ls hl => ?_)
  have K23 : ∀ (H : Heap) (locs : List Loc) (ls : Array Slot), va_P D kc (kw_w ad cs n) H → va_S (kw_A ad n) s.heap H locs → lv_has ls 7 [(3, .int (nI gp)), (2, .int (nI (po k))), (0, .ref (ad 0)), (1, .int (nI k))] → W p l e (kr 1) s m [.ref (ad 0), .int (nI k)].toArray below meth c H locs 0 0 (MQ below (va_Qi (fun r9 c9 => r9 = kv_R_illegal wi gp po pd pa pb pm k ∧ c9 = cs) (kw_Pre D kc (ktR cI cZ) ad n) (kw_A ad n)) [.ref (ad 0), .int (nI k)].toArray s 0 0 (kw_A ad n)) (F0 m 23 ls [.int ((if 16 < (nI (po k)) then 0 else 1 : Int32))]) := by
    intro H locs ls hP hS hl
    refine lv_istore (lv' := [(4, .int ((if 16 < (nI (po k)) then 0 else 1 : Int32))), (3, .int (nI gp)), (2, .int (nI (po k))), (0, .ref (ad 0)), (1, .int (nI k))]) hx hb d_R_illegal_23 hl (by decide) rfl (fun ls hl => ?_)
    have K60 : ∀ (H : Heap) (locs : List Loc) (ls : Array Slot), va_P D kc (kw_w ad cs n) H → va_S (kw_A ad n) s.heap H locs → lv_has ls 7 [(4, .int ((if 16 < (nI (po k)) then 0 else 1 : Int32))), (3, .int (nI gp)), (2, .int (nI (po k))), (0, .ref (ad 0)), (1, .int (nI k))] → W p l e (kr 1) s m [.ref (ad 0), .int (nI k)].toArray below meth c H locs 0 0 (MQ below (va_Qi (fun r9 c9 => r9 = kv_R_illegal wi gp po pd pa pb pm k ∧ c9 = cs) (kw_Pre D kc (ktR cI cZ) ad n) (kw_A ad n)) [.ref (ad 0), .int (nI k)].toArray s 0 0 (kw_A ad n)) (F0 m 60 ls [.int ((if (nI (po k)) ≤ 10 then 1 else if (nI (po k)) = 12 then 1 else if (nI (po k)) = 13 then 1 else if (nI (po k)) = 16 then 1 else if (nI (po k)) = 19 then 1 else 0 : Int32))]) := by
      intro H locs ls hP hS hl
      refine lv_istore (lv' := [(5, .int ((if (nI (po k)) ≤ 10 then 1 else if (nI (po k)) = 12 then 1 else if (nI (po k)) = 13 then 1 else if (nI (po k)) = 16 then 1 else if (nI (po k)) = 19 then 1 else 0 : Int32))), (4, .int ((if 16 < (nI (po k)) then 0 else 1 : Int32))), (3, .int (nI gp)), (2, .int (nI (po k))), (0, .ref (ad 0)), (1, .int (nI k))]) hx hb d_R_illegal_60 hl (by decide) rfl (fun ls hl => ?_)
      have K79 : ∀ (H : Heap) (locs : List Loc) (ls : Array Slot), va_P D kc (kw_w ad cs n) H → va_S (kw_A ad n) s.heap H locs → lv_has ls 7 [(5, .int ((if (nI (po k)) ≤ 10 then 1 else if (nI (po k)) = 12 then 1 else if (nI (po k)) = 13 then 1 else if (nI (po k)) = 16 then 1 else if (nI (po k)) = 19 then 1 else 0 : Int32))), (4, .int ((if 16 < (nI (po k)) then 0 else 1 : Int32))), (3, .int (nI gp)), (2, .int (nI (po k))), (0, .ref (ad 0)), (1, .int (nI k))] → W p l e (kr 1) s m [.ref (ad 0), .int (nI k)].toArray below meth c H locs 0 0 (MQ below (va_Qi (fun r9 c9 => r9 = kv_R_illegal wi gp po pd pa pb pm k ∧ c9 = cs) (kw_Pre D kc (ktR cI cZ) ad n) (kw_A ad n)) [.ref (ad 0), .int (nI k)].toArray s 0 0 (kw_A ad n)) (F0 m 79 ls [.int ((if (nI (po k)) = 12 then 0 else if (nI (po k)) = 14 then 0 else 1 : Int32))]) := by
        intro H locs ls hP hS hl
        refine lv_istore (lv' := [(6, .int ((if (nI (po k)) = 12 then 0 else if (nI (po k)) = 14 then 0 else 1 : Int32))), (5, .int ((if (nI (po k)) ≤ 10 then 1 else if (nI (po k)) = 12 then 1 else if (nI (po k)) = 13 then 1 else if (nI (po k)) = 16 then 1 else if (nI (po k)) = 19 then 1 else 0 : Int32))), (4, .int ((if 16 < (nI (po k)) then 0 else 1 : Int32))), (3, .int (nI gp)), (2, .int (nI (po k))), (0, .ref (ad 0)), (1, .int (nI k))]) hx hb d_R_illegal_79 hl (by decide) rfl (fun ls hl => ?_)
        have K152 : ∀ (H : Heap) (locs : List Loc) (ls : Array Slot), kv_R_illegal wi gp po pd pa pb pm k = kv_R_illegal_152 wi gp po pd pa pb pm k → va_P D kc (kw_w ad cs n) H → va_S (kw_A ad n) s.heap H locs → lv_has ls 7 [(6, .int ((if (nI (po k)) = 12 then 0 else if (nI (po k)) = 14 then 0 else 1 : Int32))), (5, .int ((if (nI (po k)) ≤ 10 then 1 else if (nI (po k)) = 12 then 1 else if (nI (po k)) = 13 then 1 else if (nI (po k)) = 16 then 1 else if (nI (po k)) = 19 then 1 else 0 : Int32))), (4, .int ((if 16 < (nI (po k)) then 0 else 1 : Int32))), (3, .int (nI gp)), (2, .int (nI (po k))), (0, .ref (ad 0)), (1, .int (nI k))] → W p l e (kr 1) s m [.ref (ad 0), .int (nI k)].toArray below meth c H locs 0 0 (MQ below (va_Qi (fun r9 c9 => r9 = kv_R_illegal wi gp po pd pa pb pm k ∧ c9 = cs) (kw_Pre D kc (ktR cI cZ) ad n) (kw_A ad n)) [.ref (ad 0), .int (nI k)].toArray s 0 0 (kw_A ad n)) (F0 m 152 ls []) := by
          intro H locs ls hv152 hP hS hl
          have K241 : ∀ (H : Heap) (locs : List Loc) (ls : Array Slot), kv_R_illegal wi gp po pd pa pb pm k = kv_R_illegal_241 po pd pa pb pm k → va_P D kc (kw_w ad cs n) H → va_S (kw_A ad n) s.heap H locs → lv_has ls 7 [(6, .int ((if (nI (po k)) = 12 then 0 else if (nI (po k)) = 14 then 0 else 1 : Int32))), (5, .int ((if (nI (po k)) ≤ 10 then 1 else if (nI (po k)) = 12 then 1 else if (nI (po k)) = 13 then 1 else if (nI (po k)) = 16 then 1 else if (nI (po k)) = 19 then 1 else 0 : Int32))), (4, .int ((if 16 < (nI (po k)) then 0 else 1 : Int32))), (3, .int (nI gp)), (2, .int (nI (po k))), (0, .ref (ad 0)), (1, .int (nI k))] → W p l e (kr 1) s m [.ref (ad 0), .int (nI k)].toArray below meth c H locs 0 0 (MQ below (va_Qi (fun r9 c9 => r9 = kv_R_illegal wi gp po pd pa pb pm k ∧ c9 = cs) (kw_Pre D kc (ktR cI cZ) ad n) (kw_A ad n)) [.ref (ad 0), .int (nI k)].toArray s 0 0 (kw_A ad n)) (F0 m 241 ls []) := by
            intro H locs ls hv241 hP hS hl
            have K273 : ∀ (H : Heap) (locs : List Loc) (ls : Array Slot), kv_R_illegal wi gp po pd pa pb pm k = kv_R_illegal_273 po pd pa pb k → va_P D kc (kw_w ad cs n) H → va_S (kw_A ad n) s.heap H locs → lv_has ls 7 [(6, .int ((if (nI (po k)) = 12 then 0 else if (nI (po k)) = 14 then 0 else 1 : Int32))), (5, .int ((if (nI (po k)) ≤ 10 then 1 else if (nI (po k)) = 12 then 1 else if (nI (po k)) = 13 then 1 else if (nI (po k)) = 16 then 1 else if (nI (po k)) = 19 then 1 else 0 : Int32))), (4, .int ((if 16 < (nI (po k)) then 0 else 1 : Int32))), (3, .int (nI gp)), (2, .int (nI (po k))), (0, .ref (ad 0)), (1, .int (nI k))] → W p l e (kr 1) s m [.ref (ad 0), .int (nI k)].toArray below meth c H locs 0 0 (MQ below (va_Qi (fun r9 c9 => r9 = kv_R_illegal wi gp po pd pa pb pm k ∧ c9 = cs) (kw_Pre D kc (ktR cI cZ) ad n) (kw_A ad n)) [.ref (ad 0), .int (nI k)].toArray s 0 0 (kw_A ad n)) (F0 m 273 ls []) := by
              intro H locs ls hv273 hP hS hl
              refine lv_iload_n hx hb d_R_illegal_273 rfl (lv_at hl 4 rfl) ?_
              refine lv_bipush (v := 15) hx hb d_R_illegal_274 (by decide) ?_
              refine lv_icmp_eq (tgt := 285) hx hb d_R_illegal_276 (by decide) (fun h1 => ?_) (fun h1 => ?_)
              · refine lv_aload_n hx hb d_R_illegal_285 rfl (lv_at hl 5 rfl) ?_
                refine kw_get hx hb hg in_R hown hK hP 0 (Nat.lt_of_lt_of_le (by decide : 0 < 19) hn) e0 rfl 16 (by decide) (hg _ kg_599) rfl rfl d_R_illegal_286 ?_
                refine lv_iload_n hx hb d_R_illegal_289 rfl (lv_at hl 6 rfl) ?_
                refine kw_iald hx hb hK hP 5 0 (Nat.lt_of_lt_of_le (by decide : 5 < 19) hn) e5 rfl k (rfl) (hk) (by omega) d_R_illegal_290 ?_
                refine lv_aload_n hx hb d_R_illegal_291 rfl (lv_at hl 5 rfl) ?_
                refine kw_get hx hb hg in_R hown hK hP 0 (Nat.lt_of_lt_of_le (by decide : 0 < 19) hn) e0 rfl 17 (by decide) (hg _ kg_600) rfl rfl d_R_illegal_292 ?_
                refine lv_iload_n hx hb d_R_illegal_295 rfl (lv_at hl 6 rfl) ?_
                refine kw_iald hx hb hK hP 6 0 (Nat.lt_of_lt_of_le (by decide : 6 < 19) hn) e6 rfl k (rfl) (hk) (by omega) d_R_illegal_296 ?_
                refine lv_icmp_eq (tgt := 321) hx hb d_R_illegal_297 (by decide) (fun h2 => ?_) (fun h2 => ?_)
                · refine lv_iconst (v := 1) hx hb d_R_illegal_321 (by decide) ?_
                  refine lv_goto (tgt := 326) hx hb d_R_illegal_322 (by decide) ?_
                  exact kw_zret hx hb hr hlocks hP hK hS (Or.inr rfl) ⟨by rw [hv273, kv_R_illegal_273, if_pos h1, if_pos h2], rfl⟩ d_R_illegal_326
                · refine lv_iload_n hx hb d_R_illegal_300 rfl (lv_at hl 4 rfl) ?_
                  refine lv_bipush (v := 16) hx hb d_R_illegal_301 (by decide) ?_
                  refine lv_icmp_ne (tgt := 325) hx hb d_R_illegal_303 (by decide) (fun _ => ?_) (fun h3 => absurd h3 (by rw [h1] <;> decide))
                  refine lv_iconst (v := 0) hx hb d_R_illegal_325 (by decide) ?_
                  exact kw_zret hx hb hr hlocks hP hK hS (Or.inl rfl) ⟨by rw [hv273, kv_R_illegal_273, if_pos h1, if_neg h2], rfl⟩ d_R_illegal_326
              · refine lv_iload_n hx hb d_R_illegal_279 rfl (lv_at hl 4 rfl) ?_
                refine lv_bipush (v := 16) hx hb d_R_illegal_280 (by decide) ?_
                refine lv_icmp_ne (tgt := 300) hx hb d_R_illegal_282 (by decide) (fun h4 => ?_) (fun h4 => ?_)
                · refine lv_iload_n hx hb d_R_illegal_300 rfl (lv_at hl 4 rfl) ?_
                  refine lv_bipush (v := 16) hx hb d_R_illegal_301 (by decide) ?_
                  refine lv_icmp_ne (tgt := 325) hx hb d_R_illegal_303 (by decide) (fun h5 => ?_) (fun h5 => ?_)
                  · refine lv_iconst (v := 0) hx hb d_R_illegal_325 (by decide) ?_
                    exact kw_zret hx hb hr hlocks hP hK hS (Or.inl rfl) ⟨by rw [hv273, kv_R_illegal_273, if_neg h1, if_neg h4, if_neg h5], rfl⟩ d_R_illegal_326
                  · refine lv_aload_n hx hb d_R_illegal_306 rfl (lv_at hl 5 rfl) ?_
                    refine kw_get hx hb hg in_R hown hK hP 0 (Nat.lt_of_lt_of_le (by decide : 0 < 19) hn) e0 rfl 16 (by decide) (hg _ kg_599) rfl rfl d_R_illegal_307 ?_
                    refine lv_iload_n hx hb d_R_illegal_310 rfl (lv_at hl 6 rfl) ?_
                    refine kw_iald hx hb hK hP 5 0 (Nat.lt_of_lt_of_le (by decide : 5 < 19) hn) e5 rfl k (rfl) (hk) (by omega) d_R_illegal_311 ?_
                    refine lv_aload_n hx hb d_R_illegal_312 rfl (lv_at hl 5 rfl) ?_
                    refine kw_get hx hb hg in_R hown hK hP 0 (Nat.lt_of_lt_of_le (by decide : 0 < 19) hn) e0 rfl 18 (by decide) (hg _ kg_601) rfl rfl d_R_illegal_313 ?_
                    refine lv_iload_n hx hb d_R_illegal_316 rfl (lv_at hl 6 rfl) ?_
                    refine kw_iald hx hb hK hP 7 0 (Nat.lt_of_lt_of_le (by decide : 7 < 19) hn) e7 rfl k (rfl) (hk) (by omega) d_R_illegal_317 ?_
                    refine lv_icmp_ne (tgt := 325) hx hb d_R_illegal_318 (by decide) (fun h6 => ?_) (fun h6 => ?_)
                    · refine lv_iconst (v := 0) hx hb d_R_illegal_325 (by decide) ?_
                      exact kw_zret hx hb hr hlocks hP hK hS (Or.inl rfl) ⟨by rw [hv273, kv_R_illegal_273, if_neg h1, if_neg h4, if_pos h5, if_neg h6], rfl⟩ d_R_illegal_326
                    · refine lv_iconst (v := 1) hx hb d_R_illegal_321 (by decide) ?_
                      refine lv_goto (tgt := 326) hx hb d_R_illegal_322 (by decide) ?_
                      exact kw_zret hx hb hr hlocks hP hK hS (Or.inr rfl) ⟨by rw [hv273, kv_R_illegal_273, if_neg h1, if_neg h4, if_pos h5, if_pos h6], rfl⟩ d_R_illegal_326
                · refine lv_aload_n hx hb d_R_illegal_285 rfl (lv_at hl 5 rfl) ?_
                  refine kw_get hx hb hg in_R hown hK hP 0 (Nat.lt_of_lt_of_le (by decide : 0 < 19) hn) e0 rfl 16 (by decide) (hg _ kg_599) rfl rfl d_R_illegal_286 ?_
                  refine lv_iload_n hx hb d_R_illegal_289 rfl (lv_at hl 6 rfl) ?_
                  refine kw_iald hx hb hK hP 5 0 (Nat.lt_of_lt_of_le (by decide : 5 < 19) hn) e5 rfl k (rfl) (hk) (by omega) d_R_illegal_290 ?_
                  refine lv_aload_n hx hb d_R_illegal_291 rfl (lv_at hl 5 rfl) ?_
                  refine kw_get hx hb hg in_R hown hK hP 0 (Nat.lt_of_lt_of_le (by decide : 0 < 19) hn) e0 rfl 17 (by decide) (hg _ kg_600) rfl rfl d_R_illegal_292 ?_
                  refine lv_iload_n hx hb d_R_illegal_295 rfl (lv_at hl 6 rfl) ?_
                  refine kw_iald hx hb hK hP 6 0 (Nat.lt_of_lt_of_le (by decide : 6 < 19) hn) e6 rfl k (rfl) (hk) (by omega) d_R_illegal_296 ?_
                  refine lv_icmp_eq (tgt := 321) hx hb d_R_illegal_297 (by decide) (fun h7 => ?_) (fun h7 => ?_)
                  · refine lv_iconst (v := 1) hx hb d_R_illegal_321 (by decide) ?_
                    refine lv_goto (tgt := 326) hx hb d_R_illegal_322 (by decide) ?_
                    exact kw_zret hx hb hr hlocks hP hK hS (Or.inr rfl) ⟨by rw [hv273, kv_R_illegal_273, if_neg h1, if_pos h4, if_pos h7], rfl⟩ d_R_illegal_326
                  · refine lv_iload_n hx hb d_R_illegal_300 rfl (lv_at hl 4 rfl) ?_
                    refine lv_bipush (v := 16) hx hb d_R_illegal_301 (by decide) ?_
                    refine lv_icmp_ne (tgt := 325) hx hb d_R_illegal_303 (by decide) (fun h8 => absurd (by rw [h4] <;> decide) h8) (fun _ => ?_)
                    refine lv_aload_n hx hb d_R_illegal_306 rfl (lv_at hl 5 rfl) ?_
                    refine kw_get hx hb hg in_R hown hK hP 0 (Nat.lt_of_lt_of_le (by decide : 0 < 19) hn) e0 rfl 16 (by decide) (hg _ kg_599) rfl rfl d_R_illegal_307 ?_
                    refine lv_iload_n hx hb d_R_illegal_310 rfl (lv_at hl 6 rfl) ?_
                    refine kw_iald hx hb hK hP 5 0 (Nat.lt_of_lt_of_le (by decide : 5 < 19) hn) e5 rfl k (rfl) (hk) (by omega) d_R_illegal_311 ?_
                    refine lv_aload_n hx hb d_R_illegal_312 rfl (lv_at hl 5 rfl) ?_
                    refine kw_get hx hb hg in_R hown hK hP 0 (Nat.lt_of_lt_of_le (by decide : 0 < 19) hn) e0 rfl 18 (by decide) (hg _ kg_601) rfl rfl d_R_illegal_313 ?_
                    refine lv_iload_n hx hb d_R_illegal_316 rfl (lv_at hl 6 rfl) ?_
                    refine kw_iald hx hb hK hP 7 0 (Nat.lt_of_lt_of_le (by decide : 7 < 19) hn) e7 rfl k (rfl) (hk) (by omega) d_R_illegal_317 ?_
                    refine lv_icmp_ne (tgt := 325) hx hb d_R_illegal_318 (by decide) (fun h9 => ?_) (fun h9 => ?_)
                    · refine lv_iconst (v := 0) hx hb d_R_illegal_325 (by decide) ?_
                      exact kw_zret hx hb hr hlocks hP hK hS (Or.inl rfl) ⟨by rw [hv273, kv_R_illegal_273, if_neg h1, if_pos h4, if_neg h7, if_neg h9], rfl⟩ d_R_illegal_326
                    · refine lv_iconst (v := 1) hx hb d_R_illegal_321 (by decide) ?_
                      refine lv_goto (tgt := 326) hx hb d_R_illegal_322 (by decide) ?_
                      exact kw_zret hx hb hr hlocks hP hK hS (Or.inr rfl) ⟨by rw [hv273, kv_R_illegal_273, if_neg h1, if_pos h4, if_neg h7, if_pos h9], rfl⟩ d_R_illegal_326
            refine lv_aload_n hx hb d_R_illegal_241 rfl (lv_at hl 5 rfl) ?_
            refine kw_get hx hb hg in_R hown hK hP 0 (Nat.lt_of_lt_of_le (by decide : 0 < 19) hn) e0 rfl 20 (by decide) (hg _ kg_603) rfl rfl d_R_illegal_242 ?_
            refine lv_iload_n hx hb d_R_illegal_245 rfl (lv_at hl 6 rfl) ?_
            refine kw_zald hx hb hK hP 9 1 (Nat.lt_of_lt_of_le (by decide : 9 < 19) hn) e9 rfl k (rfl) (hk) (by omega) d_R_illegal_246 ?_
            refine lv_if_eq (tgt := 273) hx hb d_R_illegal_247 (by decide) (fun h10 => ?_) (fun h10 => ?_)
            · exact K273 _ _ _ (by rw [hv241, kv_R_illegal_241, if_pos h10]) hP hS hl
            · refine lv_iload_n hx hb d_R_illegal_250 rfl (lv_at hl 4 rfl) ?_
              refine lv_bipush (v := 12) hx hb d_R_illegal_251 (by decide) ?_
              refine lv_icmp_eq (tgt := 273) hx hb d_R_illegal_253 (by decide) (fun h11 => ?_) (fun h11 => ?_)
              · exact K273 _ _ _ (by rw [hv241, kv_R_illegal_241, if_neg h10, if_pos h11]) hP hS hl
              · refine lv_iload_n hx hb d_R_illegal_256 rfl (lv_at hl 4 rfl) ?_
                refine lv_bipush (v := 18) hx hb d_R_illegal_257 (by decide) ?_
                refine lv_icmp_eq (tgt := 273) hx hb d_R_illegal_259 (by decide) (fun h12 => ?_) (fun h12 => ?_)
                · exact K273 _ _ _ (by rw [hv241, kv_R_illegal_241, if_neg h10, if_neg h11, if_pos h12]) hP hS hl
                · refine lv_aload_n hx hb d_R_illegal_262 rfl (lv_at hl 5 rfl) ?_
                  refine kw_get hx hb hg in_R hown hK hP 0 (Nat.lt_of_lt_of_le (by decide : 0 < 19) hn) e0 rfl 16 (by decide) (hg _ kg_599) rfl rfl d_R_illegal_263 ?_
                  refine lv_iload_n hx hb d_R_illegal_266 rfl (lv_at hl 6 rfl) ?_
                  refine kw_iald hx hb hK hP 5 0 (Nat.lt_of_lt_of_le (by decide : 5 < 19) hn) e5 rfl k (rfl) (hk) (by omega) d_R_illegal_267 ?_
                  refine lv_if_ne (tgt := 273) hx hb d_R_illegal_268 (by decide) (fun h13 => ?_) (fun h13 => ?_)
                  · exact K273 _ _ _ (by rw [hv241, kv_R_illegal_241, if_neg h10, if_neg h11, if_neg h12, if_neg h13]) hP hS hl
                  · refine lv_iconst (v := 1) hx hb d_R_illegal_271 (by decide) ?_
                    exact kw_zret hx hb hr hlocks hP hK hS (Or.inr rfl) ⟨by rw [hv241, kv_R_illegal_241, if_neg h10, if_neg h11, if_neg h12, if_pos h13], rfl⟩ d_R_illegal_272
          refine lv_iload_n hx hb d_R_illegal_152 rfl (lv_at hl 4 rfl) ?_
          refine lv_bipush (v := 13) hx hb d_R_illegal_153 (by decide) ?_
          refine lv_icmp_ne (tgt := 241) hx hb d_R_illegal_155 (by decide) (fun h14 => ?_) (fun h14 => ?_)
          · exact K241 _ _ _ (by rw [hv152, kv_R_illegal_152, if_neg h14]) hP hS hl
          · refine lv_aload_n hx hb d_R_illegal_158 rfl (lv_at hl 5 rfl) ?_
            refine kw_get hx hb hg in_R hown hK hP 0 (Nat.lt_of_lt_of_le (by decide : 0 < 19) hn) e0 rfl 4 (by decide) (hg _ kg_587) rfl rfl d_R_illegal_159 ?_
            refine lv_iconst (v := 4) hx hb d_R_illegal_162 (by decide) ?_
            refine lv_icmp_eq (tgt := 239) hx hb d_R_illegal_163 (by decide) (fun h15 => ?_) (fun h15 => ?_)
            · refine lv_iconst (v := 1) hx hb d_R_illegal_239 (by decide) ?_
              exact kw_zret hx hb hr hlocks hP hK hS (Or.inr rfl) ⟨by rw [hv152, kv_R_illegal_152, if_pos h14, if_pos h15], rfl⟩ d_R_illegal_240
            · refine lv_iload_n hx hb d_R_illegal_166 rfl (lv_at hl 3 rfl) ?_
              refine lv_iconst (v := 4) hx hb d_R_illegal_167 (by decide) ?_
              refine lv_icmp_eq (tgt := 239) hx hb d_R_illegal_168 (by decide) (fun h16 => ?_) (fun h16 => ?_)
              · refine lv_iconst (v := 1) hx hb d_R_illegal_239 (by decide) ?_
                exact kw_zret hx hb hr hlocks hP hK hS (Or.inr rfl) ⟨by rw [hv152, kv_R_illegal_152, if_pos h14, if_neg h15, if_pos h16], rfl⟩ d_R_illegal_240
              · refine lv_aload_n hx hb d_R_illegal_171 rfl (lv_at hl 5 rfl) ?_
                refine kw_get hx hb hg in_R hown hK hP 0 (Nat.lt_of_lt_of_le (by decide : 0 < 19) hn) e0 rfl 17 (by decide) (hg _ kg_600) rfl rfl d_R_illegal_172 ?_
                refine lv_iload_n hx hb d_R_illegal_175 rfl (lv_at hl 6 rfl) ?_
                refine kw_iald hx hb hK hP 6 0 (Nat.lt_of_lt_of_le (by decide : 6 < 19) hn) e6 rfl k (rfl) (hk) (by omega) d_R_illegal_176 ?_
                refine lv_aload_n hx hb d_R_illegal_177 rfl (lv_at hl 5 rfl) ?_
                refine kw_get hx hb hg in_R hown hK hP 0 (Nat.lt_of_lt_of_le (by decide : 0 < 19) hn) e0 rfl 16 (by decide) (hg _ kg_599) rfl rfl d_R_illegal_178 ?_
                refine lv_iload_n hx hb d_R_illegal_181 rfl (lv_at hl 6 rfl) ?_
                refine kw_iald hx hb hK hP 5 0 (Nat.lt_of_lt_of_le (by decide : 5 < 19) hn) e5 rfl k (rfl) (hk) (by omega) d_R_illegal_182 ?_
                refine lv_icmp_lt (tgt := 205) hx hb d_R_illegal_183 (by decide) (fun h17 => ?_) (fun h17 => ?_)
                · refine lv_aload_n hx hb d_R_illegal_205 rfl (lv_at hl 5 rfl) ?_
                  refine kw_get hx hb hg in_R hown hK hP 0 (Nat.lt_of_lt_of_le (by decide : 0 < 19) hn) e0 rfl 18 (by decide) (hg _ kg_601) rfl rfl d_R_illegal_206 ?_
                  refine lv_iload_n hx hb d_R_illegal_209 rfl (lv_at hl 6 rfl) ?_
                  refine kw_iald hx hb hK hP 7 0 (Nat.lt_of_lt_of_le (by decide : 7 < 19) hn) e7 rfl k (rfl) (hk) (by omega) d_R_illegal_210 ?_
                  refine lv_aload_n hx hb d_R_illegal_211 rfl (lv_at hl 5 rfl) ?_
                  refine kw_get hx hb hg in_R hown hK hP 0 (Nat.lt_of_lt_of_le (by decide : 0 < 19) hn) e0 rfl 16 (by decide) (hg _ kg_599) rfl rfl d_R_illegal_212 ?_
                  refine lv_iload_n hx hb d_R_illegal_215 rfl (lv_at hl 6 rfl) ?_
                  refine kw_iald hx hb hK hP 5 0 (Nat.lt_of_lt_of_le (by decide : 5 < 19) hn) e5 rfl k (rfl) (hk) (by omega) d_R_illegal_216 ?_
                  refine lv_icmp_lt (tgt := 241) hx hb d_R_illegal_217 (by decide) (fun h18 => ?_) (fun h18 => ?_)
                  · exact K241 _ _ _ (by rw [hv152, kv_R_illegal_152, if_pos h14, if_neg h15, if_neg h16, if_pos h17, if_pos h18]) hP hS hl
                  · refine lv_aload_n hx hb d_R_illegal_220 rfl (lv_at hl 5 rfl) ?_
                    refine kw_get hx hb hg in_R hown hK hP 0 (Nat.lt_of_lt_of_le (by decide : 0 < 19) hn) e0 rfl 18 (by decide) (hg _ kg_601) rfl rfl d_R_illegal_221 ?_
                    refine lv_iload_n hx hb d_R_illegal_224 rfl (lv_at hl 6 rfl) ?_
                    refine kw_iald hx hb hK hP 7 0 (Nat.lt_of_lt_of_le (by decide : 7 < 19) hn) e7 rfl k (rfl) (hk) (by omega) d_R_illegal_225 ?_
                    refine lv_aload_n hx hb d_R_illegal_226 rfl (lv_at hl 5 rfl) ?_
                    refine kw_get hx hb hg in_R hown hK hP 0 (Nat.lt_of_lt_of_le (by decide : 0 < 19) hn) e0 rfl 16 (by decide) (hg _ kg_599) rfl rfl d_R_illegal_227 ?_
                    refine lv_iload_n hx hb d_R_illegal_230 rfl (lv_at hl 6 rfl) ?_
                    refine kw_iald hx hb hK hP 5 0 (Nat.lt_of_lt_of_le (by decide : 5 < 19) hn) e5 rfl k (rfl) (hk) (by omega) d_R_illegal_231 ?_
                    refine lv_iconst (v := 2) hx hb d_R_illegal_232 (by decide) ?_
                    refine lv_iload_n hx hb d_R_illegal_233 rfl (lv_at hl 3 rfl) ?_
                    refine lv_imul hx hb d_R_illegal_234 ?_
                    refine lv_iadd hx hb d_R_illegal_235 ?_
                    refine lv_icmp_ge (tgt := 241) hx hb d_R_illegal_236 (by decide) (fun h19 => ?_) (fun h19 => ?_)
                    · exact K241 _ _ _ (by rw [hv152, kv_R_illegal_152, if_pos h14, if_neg h15, if_neg h16, if_pos h17, if_neg h18, if_pos h19]) hP hS hl
                    · refine lv_iconst (v := 1) hx hb d_R_illegal_239 (by decide) ?_
                      exact kw_zret hx hb hr hlocks hP hK hS (Or.inr rfl) ⟨by rw [hv152, kv_R_illegal_152, if_pos h14, if_neg h15, if_neg h16, if_pos h17, if_neg h18, if_neg h19], rfl⟩ d_R_illegal_240
                · refine lv_aload_n hx hb d_R_illegal_186 rfl (lv_at hl 5 rfl) ?_
                  refine kw_get hx hb hg in_R hown hK hP 0 (Nat.lt_of_lt_of_le (by decide : 0 < 19) hn) e0 rfl 17 (by decide) (hg _ kg_600) rfl rfl d_R_illegal_187 ?_
                  refine lv_iload_n hx hb d_R_illegal_190 rfl (lv_at hl 6 rfl) ?_
                  refine kw_iald hx hb hK hP 6 0 (Nat.lt_of_lt_of_le (by decide : 6 < 19) hn) e6 rfl k (rfl) (hk) (by omega) d_R_illegal_191 ?_
                  refine lv_aload_n hx hb d_R_illegal_192 rfl (lv_at hl 5 rfl) ?_
                  refine kw_get hx hb hg in_R hown hK hP 0 (Nat.lt_of_lt_of_le (by decide : 0 < 19) hn) e0 rfl 16 (by decide) (hg _ kg_599) rfl rfl d_R_illegal_193 ?_
                  refine lv_iload_n hx hb d_R_illegal_196 rfl (lv_at hl 6 rfl) ?_
                  refine kw_iald hx hb hK hP 5 0 (Nat.lt_of_lt_of_le (by decide : 5 < 19) hn) e5 rfl k (rfl) (hk) (by omega) d_R_illegal_197 ?_
                  refine lv_iconst (v := 2) hx hb d_R_illegal_198 (by decide) ?_
                  refine lv_iload_n hx hb d_R_illegal_199 rfl (lv_at hl 3 rfl) ?_
                  refine lv_imul hx hb d_R_illegal_200 ?_
                  refine lv_iadd hx hb d_R_illegal_201 ?_
                  refine lv_icmp_lt (tgt := 239) hx hb d_R_illegal_202 (by decide) (fun h20 => ?_) (fun h20 => ?_)
                  · refine lv_iconst (v := 1) hx hb d_R_illegal_239 (by decide) ?_
                    exact kw_zret hx hb hr hlocks hP hK hS (Or.inr rfl) ⟨by rw [hv152, kv_R_illegal_152, if_pos h14, if_neg h15, if_neg h16, if_neg h17, if_pos h20], rfl⟩ d_R_illegal_240
                  · refine lv_aload_n hx hb d_R_illegal_205 rfl (lv_at hl 5 rfl) ?_
                    refine kw_get hx hb hg in_R hown hK hP 0 (Nat.lt_of_lt_of_le (by decide : 0 < 19) hn) e0 rfl 18 (by decide) (hg _ kg_601) rfl rfl d_R_illegal_206 ?_
                    refine lv_iload_n hx hb d_R_illegal_209 rfl (lv_at hl 6 rfl) ?_
                    refine kw_iald hx hb hK hP 7 0 (Nat.lt_of_lt_of_le (by decide : 7 < 19) hn) e7 rfl k (rfl) (hk) (by omega) d_R_illegal_210 ?_
                    refine lv_aload_n hx hb d_R_illegal_211 rfl (lv_at hl 5 rfl) ?_
                    refine kw_get hx hb hg in_R hown hK hP 0 (Nat.lt_of_lt_of_le (by decide : 0 < 19) hn) e0 rfl 16 (by decide) (hg _ kg_599) rfl rfl d_R_illegal_212 ?_
                    refine lv_iload_n hx hb d_R_illegal_215 rfl (lv_at hl 6 rfl) ?_
                    refine kw_iald hx hb hK hP 5 0 (Nat.lt_of_lt_of_le (by decide : 5 < 19) hn) e5 rfl k (rfl) (hk) (by omega) d_R_illegal_216 ?_
                    refine lv_icmp_lt (tgt := 241) hx hb d_R_illegal_217 (by decide) (fun h21 => ?_) (fun h21 => ?_)
                    · exact K241 _ _ _ (by rw [hv152, kv_R_illegal_152, if_pos h14, if_neg h15, if_neg h16, if_neg h17, if_neg h20, if_pos h21]) hP hS hl
                    · refine lv_aload_n hx hb d_R_illegal_220 rfl (lv_at hl 5 rfl) ?_
                      refine kw_get hx hb hg in_R hown hK hP 0 (Nat.lt_of_lt_of_le (by decide : 0 < 19) hn) e0 rfl 18 (by decide) (hg _ kg_601) rfl rfl d_R_illegal_221 ?_
                      refine lv_iload_n hx hb d_R_illegal_224 rfl (lv_at hl 6 rfl) ?_
                      refine kw_iald hx hb hK hP 7 0 (Nat.lt_of_lt_of_le (by decide : 7 < 19) hn) e7 rfl k (rfl) (hk) (by omega) d_R_illegal_225 ?_
                      refine lv_aload_n hx hb d_R_illegal_226 rfl (lv_at hl 5 rfl) ?_
                      refine kw_get hx hb hg in_R hown hK hP 0 (Nat.lt_of_lt_of_le (by decide : 0 < 19) hn) e0 rfl 16 (by decide) (hg _ kg_599) rfl rfl d_R_illegal_227 ?_
                      refine lv_iload_n hx hb d_R_illegal_230 rfl (lv_at hl 6 rfl) ?_
                      refine kw_iald hx hb hK hP 5 0 (Nat.lt_of_lt_of_le (by decide : 5 < 19) hn) e5 rfl k (rfl) (hk) (by omega) d_R_illegal_231 ?_
                      refine lv_iconst (v := 2) hx hb d_R_illegal_232 (by decide) ?_
                      refine lv_iload_n hx hb d_R_illegal_233 rfl (lv_at hl 3 rfl) ?_
                      refine lv_imul hx hb d_R_illegal_234 ?_
                      refine lv_iadd hx hb d_R_illegal_235 ?_
                      refine lv_icmp_ge (tgt := 241) hx hb d_R_illegal_236 (by decide) (fun h22 => ?_) (fun h22 => ?_)
                      · exact K241 _ _ _ (by rw [hv152, kv_R_illegal_152, if_pos h14, if_neg h15, if_neg h16, if_neg h17, if_neg h20, if_neg h21, if_pos h22]) hP hS hl
                      · refine lv_iconst (v := 1) hx hb d_R_illegal_239 (by decide) ?_
                        exact kw_zret hx hb hr hlocks hP hK hS (Or.inr rfl) ⟨by rw [hv152, kv_R_illegal_152, if_pos h14, if_neg h15, if_neg h16, if_neg h17, if_neg h20, if_neg h21, if_neg h22], rfl⟩ d_R_illegal_240
        refine lv_iload hx hb d_R_illegal_81 (lv_at hl 2 rfl) ?_
        refine lv_if_eq (tgt := 100) hx hb d_R_illegal_83 (by decide) (fun h23 => ?_) (fun h23 => ?_)
        · refine lv_iload hx hb d_R_illegal_100 (lv_at hl 1 rfl) ?_
          refine lv_if_eq (tgt := 119) hx hb d_R_illegal_102 (by decide) (fun h24 => ?_) (fun h24 => ?_)
          · refine lv_iload hx hb d_R_illegal_119 (lv_at hl 0 rfl) ?_
            refine lv_if_eq (tgt := 152) hx hb d_R_illegal_121 (by decide) (fun h25 => ?_) (fun h25 => ?_)
            · exact K152 _ _ _ (by rw [kv_R_illegal, if_pos h23, if_pos h24, if_pos h25]) hP hS hl
            · refine lv_aload_n hx hb d_R_illegal_124 rfl (lv_at hl 5 rfl) ?_
              refine lv_aload_n hx hb d_R_illegal_125 rfl (lv_at hl 5 rfl) ?_
              refine kw_get hx hb hg in_R hown hK hP 0 (Nat.lt_of_lt_of_le (by decide : 0 < 19) hn) e0 rfl 16 (by decide) (hg _ kg_599) rfl rfl d_R_illegal_126 ?_
              refine lv_iload_n hx hb d_R_illegal_129 rfl (lv_at hl 6 rfl) ?_
              refine kw_iald hx hb hK hP 5 0 (Nat.lt_of_lt_of_le (by decide : 5 < 19) hn) e5 rfl k (rfl) (hk) (by omega) d_R_illegal_130 ?_
              have K144 : ∀ (H : Heap) (locs : List Loc) (ls : Array Slot), va_P D kc (kw_w ad cs n) H → va_S (kw_A ad n) s.heap H locs → lv_has ls 7 [(6, .int ((if (nI (po k)) = 12 then 0 else if (nI (po k)) = 14 then 0 else 1 : Int32))), (5, .int ((if (nI (po k)) ≤ 10 then 1 else if (nI (po k)) = 12 then 1 else if (nI (po k)) = 13 then 1 else if (nI (po k)) = 16 then 1 else if (nI (po k)) = 19 then 1 else 0 : Int32))), (4, .int ((if 16 < (nI (po k)) then 0 else 1 : Int32))), (3, .int (nI gp)), (2, .int (nI (po k))), (0, .ref (ad 0)), (1, .int (nI k))] → W p l e (kr 1) s m [.ref (ad 0), .int (nI k)].toArray below meth c H locs 0 0 (MQ below (va_Qi (fun r9 c9 => r9 = kv_R_illegal wi gp po pd pa pb pm k ∧ c9 = cs) (kw_Pre D kc (ktR cI cZ) ad n) (kw_A ad n)) [.ref (ad 0), .int (nI k)].toArray s 0 0 (kw_A ad n)) (F0 m 144 ls [.int ((if (nI (po k)) = 13 then (2 * (nI gp)) else (nI gp) : Int32)), .int (nI (pd k)), .ref (ad 0)]) := by
                intro H locs ls hP hS hl
                refine kw_callix (kw_rV (As := [.int (nI (pd k)), .int ((if (nI (po k)) = 13 then (2 * (nI gp)) else (nI gp) : Int32))]) (rest := []) (q0 := 0) ⟨hx, hb, hml, hown, hg⟩ ⟨callB_of 2 hg (kg_goodG kg_773) rfl rfl rfl (hg _ kg_7) (hg _ kg_770) (by decide +kernel) ⟨by decide, by decide⟩, hg _ kg_772, hg _ (kg_sel (q := (y_R_odd, 31)) (by decide +kernel))⟩ (c_R_odd l hgd ) hK hP (Nat.lt_of_lt_of_le (by decide : 0 < 19) hn) e0 rfl rfl hl.1 rfl (Nat.le_of_ble_eq_true rfl) d_R_illegal_144 ⟨Nat.zero_le _, Nat.zero_le _⟩) hA hS (fun H locs hP hS => ?_)
                refine lv_if_eq (tgt := 152) hx hb d_R_illegal_147 (by decide) (fun h26 => ?_) (fun h26 => ?_)
                · exact K152 _ _ _ (by rw [kv_R_illegal, if_pos h23, if_pos h24, if_neg h25, if_pos h26]) hP hS hl
                · refine lv_iconst (v := 1) hx hb d_R_illegal_150 (by decide) ?_
                  exact kw_zret hx hb hr hlocks hP hK hS (Or.inr rfl) ⟨by rw [kv_R_illegal, if_pos h23, if_pos h24, if_neg h25, if_neg h26], rfl⟩ d_R_illegal_151
              refine lv_iload_n hx hb d_R_illegal_131 rfl (lv_at hl 4 rfl) ?_
              refine lv_bipush (v := 13) hx hb d_R_illegal_132 (by decide) ?_
              refine lv_icmp_ne (tgt := 143) hx hb d_R_illegal_134 (by decide) (fun h27 => ?_) (fun h27 => ?_)
              · refine lv_iload_n hx hb d_R_illegal_143 rfl (lv_at hl 3 rfl) ?_
                exact W.eq (congrArg (fun z9 => F0 m 144 ls (.int z9 :: [.int (nI (pd k)), .ref (ad 0)])) (show nI gp = (if (nI (po k)) = 13 then (2 * (nI gp)) else (nI gp) : Int32) from (by rw [if_neg h27]))) (K144 _ _ _ hP hS hl)
              · refine lv_iconst (v := 2) hx hb d_R_illegal_137 (by decide) ?_
                refine lv_iload_n hx hb d_R_illegal_138 rfl (lv_at hl 3 rfl) ?_
                refine lv_imul hx hb d_R_illegal_139 ?_
                refine lv_goto (tgt := 144) hx hb d_R_illegal_140 (by decide) ?_
                exact W.eq (congrArg (fun z9 => F0 m 144 ls (.int z9 :: [.int (nI (pd k)), .ref (ad 0)])) (show 2 * (nI gp) = (if (nI (po k)) = 13 then (2 * (nI gp)) else (nI gp) : Int32) from (by rw [if_pos h27]))) (K144 _ _ _ hP hS hl)
          · refine lv_aload_n hx hb d_R_illegal_105 rfl (lv_at hl 5 rfl) ?_
            refine lv_aload_n hx hb d_R_illegal_106 rfl (lv_at hl 5 rfl) ?_
            refine kw_get hx hb hg in_R hown hK hP 0 (Nat.lt_of_lt_of_le (by decide : 0 < 19) hn) e0 rfl 18 (by decide) (hg _ kg_601) rfl rfl d_R_illegal_107 ?_
            refine lv_iload_n hx hb d_R_illegal_110 rfl (lv_at hl 6 rfl) ?_
            refine kw_iald hx hb hK hP 7 0 (Nat.lt_of_lt_of_le (by decide : 7 < 19) hn) e7 rfl k (rfl) (hk) (by omega) d_R_illegal_111 ?_
            refine lv_iload_n hx hb d_R_illegal_112 rfl (lv_at hl 3 rfl) ?_
            refine kw_callix (kw_rV (As := [.int (nI (pb k)), .int (nI gp)]) (rest := []) (q0 := 0) ⟨hx, hb, hml, hown, hg⟩ ⟨callB_of 2 hg (kg_goodG kg_773) rfl rfl rfl (hg _ kg_7) (hg _ kg_770) (by decide +kernel) ⟨by decide, by decide⟩, hg _ kg_772, hg _ (kg_sel (q := (y_R_odd, 31)) (by decide +kernel))⟩ (c_R_odd l hgz ) hK hP (Nat.lt_of_lt_of_le (by decide : 0 < 19) hn) e0 rfl rfl hl.1 rfl (Nat.le_of_ble_eq_true rfl) d_R_illegal_113 ⟨Nat.zero_le _, Nat.zero_le _⟩) hA hS (fun H locs hP hS => ?_)
            refine lv_if_ne (tgt := 150) hx hb d_R_illegal_116 (by decide) (fun h28 => ?_) (fun h28 => ?_)
            · refine lv_iconst (v := 1) hx hb d_R_illegal_150 (by decide) ?_
              exact kw_zret hx hb hr hlocks hP hK hS (Or.inr rfl) ⟨by rw [kv_R_illegal, if_pos h23, if_neg h24, if_neg h28], rfl⟩ d_R_illegal_151
            · refine lv_iload hx hb d_R_illegal_119 (lv_at hl 0 rfl) ?_
              refine lv_if_eq (tgt := 152) hx hb d_R_illegal_121 (by decide) (fun h29 => ?_) (fun h29 => ?_)
              · exact K152 _ _ _ (by rw [kv_R_illegal, if_pos h23, if_neg h24, if_pos h28, if_pos h29]) hP hS hl
              · refine lv_aload_n hx hb d_R_illegal_124 rfl (lv_at hl 5 rfl) ?_
                refine lv_aload_n hx hb d_R_illegal_125 rfl (lv_at hl 5 rfl) ?_
                refine kw_get hx hb hg in_R hown hK hP 0 (Nat.lt_of_lt_of_le (by decide : 0 < 19) hn) e0 rfl 16 (by decide) (hg _ kg_599) rfl rfl d_R_illegal_126 ?_
                refine lv_iload_n hx hb d_R_illegal_129 rfl (lv_at hl 6 rfl) ?_
                refine kw_iald hx hb hK hP 5 0 (Nat.lt_of_lt_of_le (by decide : 5 < 19) hn) e5 rfl k (rfl) (hk) (by omega) d_R_illegal_130 ?_
                have K144 : ∀ (H : Heap) (locs : List Loc) (ls : Array Slot), va_P D kc (kw_w ad cs n) H → va_S (kw_A ad n) s.heap H locs → lv_has ls 7 [(6, .int ((if (nI (po k)) = 12 then 0 else if (nI (po k)) = 14 then 0 else 1 : Int32))), (5, .int ((if (nI (po k)) ≤ 10 then 1 else if (nI (po k)) = 12 then 1 else if (nI (po k)) = 13 then 1 else if (nI (po k)) = 16 then 1 else if (nI (po k)) = 19 then 1 else 0 : Int32))), (4, .int ((if 16 < (nI (po k)) then 0 else 1 : Int32))), (3, .int (nI gp)), (2, .int (nI (po k))), (0, .ref (ad 0)), (1, .int (nI k))] → W p l e (kr 1) s m [.ref (ad 0), .int (nI k)].toArray below meth c H locs 0 0 (MQ below (va_Qi (fun r9 c9 => r9 = kv_R_illegal wi gp po pd pa pb pm k ∧ c9 = cs) (kw_Pre D kc (ktR cI cZ) ad n) (kw_A ad n)) [.ref (ad 0), .int (nI k)].toArray s 0 0 (kw_A ad n)) (F0 m 144 ls [.int ((if (nI (po k)) = 13 then (2 * (nI gp)) else (nI gp) : Int32)), .int (nI (pd k)), .ref (ad 0)]) := by
                  intro H locs ls hP hS hl
                  refine kw_callix (kw_rV (As := [.int (nI (pd k)), .int ((if (nI (po k)) = 13 then (2 * (nI gp)) else (nI gp) : Int32))]) (rest := []) (q0 := 0) ⟨hx, hb, hml, hown, hg⟩ ⟨callB_of 2 hg (kg_goodG kg_773) rfl rfl rfl (hg _ kg_7) (hg _ kg_770) (by decide +kernel) ⟨by decide, by decide⟩, hg _ kg_772, hg _ (kg_sel (q := (y_R_odd, 31)) (by decide +kernel))⟩ (c_R_odd l hgd ) hK hP (Nat.lt_of_lt_of_le (by decide : 0 < 19) hn) e0 rfl rfl hl.1 rfl (Nat.le_of_ble_eq_true rfl) d_R_illegal_144 ⟨Nat.zero_le _, Nat.zero_le _⟩) hA hS (fun H locs hP hS => ?_)
                  refine lv_if_eq (tgt := 152) hx hb d_R_illegal_147 (by decide) (fun h30 => ?_) (fun h30 => ?_)
                  · exact K152 _ _ _ (by rw [kv_R_illegal, if_pos h23, if_neg h24, if_pos h28, if_neg h29, if_pos h30]) hP hS hl
                  · refine lv_iconst (v := 1) hx hb d_R_illegal_150 (by decide) ?_
                    exact kw_zret hx hb hr hlocks hP hK hS (Or.inr rfl) ⟨by rw [kv_R_illegal, if_pos h23, if_neg h24, if_pos h28, if_neg h29, if_neg h30], rfl⟩ d_R_illegal_151
                refine lv_iload_n hx hb d_R_illegal_131 rfl (lv_at hl 4 rfl) ?_
                refine lv_bipush (v := 13) hx hb d_R_illegal_132 (by decide) ?_
                refine lv_icmp_ne (tgt := 143) hx hb d_R_illegal_134 (by decide) (fun h31 => ?_) (fun h31 => ?_)
                · refine lv_iload_n hx hb d_R_illegal_143 rfl (lv_at hl 3 rfl) ?_
                  exact W.eq (congrArg (fun z9 => F0 m 144 ls (.int z9 :: [.int (nI (pd k)), .ref (ad 0)])) (show nI gp = (if (nI (po k)) = 13 then (2 * (nI gp)) else (nI gp) : Int32) from (by rw [if_neg h31]))) (K144 _ _ _ hP hS hl)
                · refine lv_iconst (v := 2) hx hb d_R_illegal_137 (by decide) ?_
                  refine lv_iload_n hx hb d_R_illegal_138 rfl (lv_at hl 3 rfl) ?_
                  refine lv_imul hx hb d_R_illegal_139 ?_
                  refine lv_goto (tgt := 144) hx hb d_R_illegal_140 (by decide) ?_
                  exact W.eq (congrArg (fun z9 => F0 m 144 ls (.int z9 :: [.int (nI (pd k)), .ref (ad 0)])) (show 2 * (nI gp) = (if (nI (po k)) = 13 then (2 * (nI gp)) else (nI gp) : Int32) from (by rw [if_pos h31]))) (K144 _ _ _ hP hS hl)
        · refine lv_aload_n hx hb d_R_illegal_86 rfl (lv_at hl 5 rfl) ?_
          refine lv_aload_n hx hb d_R_illegal_87 rfl (lv_at hl 5 rfl) ?_
          refine kw_get hx hb hg in_R hown hK hP 0 (Nat.lt_of_lt_of_le (by decide : 0 < 19) hn) e0 rfl 17 (by decide) (hg _ kg_600) rfl rfl d_R_illegal_88 ?_
          refine lv_iload_n hx hb d_R_illegal_91 rfl (lv_at hl 6 rfl) ?_
          refine kw_iald hx hb hK hP 6 0 (Nat.lt_of_lt_of_le (by decide : 6 < 19) hn) e6 rfl k (rfl) (hk) (by omega) d_R_illegal_92 ?_
          refine lv_iload_n hx hb d_R_illegal_93 rfl (lv_at hl 3 rfl) ?_
          refine kw_callix (kw_rV (As := [.int (nI (pa k)), .int (nI gp)]) (rest := []) (q0 := 0) ⟨hx, hb, hml, hown, hg⟩ ⟨callB_of 2 hg (kg_goodG kg_773) rfl rfl rfl (hg _ kg_7) (hg _ kg_770) (by decide +kernel) ⟨by decide, by decide⟩, hg _ kg_772, hg _ (kg_sel (q := (y_R_odd, 31)) (by decide +kernel))⟩ (c_R_odd l hgz ) hK hP (Nat.lt_of_lt_of_le (by decide : 0 < 19) hn) e0 rfl rfl hl.1 rfl (Nat.le_of_ble_eq_true rfl) d_R_illegal_94 ⟨Nat.zero_le _, Nat.zero_le _⟩) hA hS (fun H locs hP hS => ?_)
          refine lv_if_ne (tgt := 150) hx hb d_R_illegal_97 (by decide) (fun h32 => ?_) (fun h32 => ?_)
          · refine lv_iconst (v := 1) hx hb d_R_illegal_150 (by decide) ?_
            exact kw_zret hx hb hr hlocks hP hK hS (Or.inr rfl) ⟨by rw [kv_R_illegal, if_neg h23, if_neg h32], rfl⟩ d_R_illegal_151
          · refine lv_iload hx hb d_R_illegal_100 (lv_at hl 1 rfl) ?_
            refine lv_if_eq (tgt := 119) hx hb d_R_illegal_102 (by decide) (fun h33 => ?_) (fun h33 => ?_)
            · refine lv_iload hx hb d_R_illegal_119 (lv_at hl 0 rfl) ?_
              refine lv_if_eq (tgt := 152) hx hb d_R_illegal_121 (by decide) (fun h34 => ?_) (fun h34 => ?_)
              · exact K152 _ _ _ (by rw [kv_R_illegal, if_neg h23, if_pos h32, if_pos h33, if_pos h34]) hP hS hl
              · refine lv_aload_n hx hb d_R_illegal_124 rfl (lv_at hl 5 rfl) ?_
                refine lv_aload_n hx hb d_R_illegal_125 rfl (lv_at hl 5 rfl) ?_
                refine kw_get hx hb hg in_R hown hK hP 0 (Nat.lt_of_lt_of_le (by decide : 0 < 19) hn) e0 rfl 16 (by decide) (hg _ kg_599) rfl rfl d_R_illegal_126 ?_
                refine lv_iload_n hx hb d_R_illegal_129 rfl (lv_at hl 6 rfl) ?_
                refine kw_iald hx hb hK hP 5 0 (Nat.lt_of_lt_of_le (by decide : 5 < 19) hn) e5 rfl k (rfl) (hk) (by omega) d_R_illegal_130 ?_
                have K144 : ∀ (H : Heap) (locs : List Loc) (ls : Array Slot), va_P D kc (kw_w ad cs n) H → va_S (kw_A ad n) s.heap H locs → lv_has ls 7 [(6, .int ((if (nI (po k)) = 12 then 0 else if (nI (po k)) = 14 then 0 else 1 : Int32))), (5, .int ((if (nI (po k)) ≤ 10 then 1 else if (nI (po k)) = 12 then 1 else if (nI (po k)) = 13 then 1 else if (nI (po k)) = 16 then 1 else if (nI (po k)) = 19 then 1 else 0 : Int32))), (4, .int ((if 16 < (nI (po k)) then 0 else 1 : Int32))), (3, .int (nI gp)), (2, .int (nI (po k))), (0, .ref (ad 0)), (1, .int (nI k))] → W p l e (kr 1) s m [.ref (ad 0), .int (nI k)].toArray below meth c H locs 0 0 (MQ below (va_Qi (fun r9 c9 => r9 = kv_R_illegal wi gp po pd pa pb pm k ∧ c9 = cs) (kw_Pre D kc (ktR cI cZ) ad n) (kw_A ad n)) [.ref (ad 0), .int (nI k)].toArray s 0 0 (kw_A ad n)) (F0 m 144 ls [.int ((if (nI (po k)) = 13 then (2 * (nI gp)) else (nI gp) : Int32)), .int (nI (pd k)), .ref (ad 0)]) := by
                  intro H locs ls hP hS hl
                  refine kw_callix (kw_rV (As := [.int (nI (pd k)), .int ((if (nI (po k)) = 13 then (2 * (nI gp)) else (nI gp) : Int32))]) (rest := []) (q0 := 0) ⟨hx, hb, hml, hown, hg⟩ ⟨callB_of 2 hg (kg_goodG kg_773) rfl rfl rfl (hg _ kg_7) (hg _ kg_770) (by decide +kernel) ⟨by decide, by decide⟩, hg _ kg_772, hg _ (kg_sel (q := (y_R_odd, 31)) (by decide +kernel))⟩ (c_R_odd l hgd ) hK hP (Nat.lt_of_lt_of_le (by decide : 0 < 19) hn) e0 rfl rfl hl.1 rfl (Nat.le_of_ble_eq_true rfl) d_R_illegal_144 ⟨Nat.zero_le _, Nat.zero_le _⟩) hA hS (fun H locs hP hS => ?_)
                  refine lv_if_eq (tgt := 152) hx hb d_R_illegal_147 (by decide) (fun h35 => ?_) (fun h35 => ?_)
                  · exact K152 _ _ _ (by rw [kv_R_illegal, if_neg h23, if_pos h32, if_pos h33, if_neg h34, if_pos h35]) hP hS hl
                  · refine lv_iconst (v := 1) hx hb d_R_illegal_150 (by decide) ?_
                    exact kw_zret hx hb hr hlocks hP hK hS (Or.inr rfl) ⟨by rw [kv_R_illegal, if_neg h23, if_pos h32, if_pos h33, if_neg h34, if_neg h35], rfl⟩ d_R_illegal_151
                refine lv_iload_n hx hb d_R_illegal_131 rfl (lv_at hl 4 rfl) ?_
                refine lv_bipush (v := 13) hx hb d_R_illegal_132 (by decide) ?_
                refine lv_icmp_ne (tgt := 143) hx hb d_R_illegal_134 (by decide) (fun h36 => ?_) (fun h36 => ?_)
                · refine lv_iload_n hx hb d_R_illegal_143 rfl (lv_at hl 3 rfl) ?_
                  exact W.eq (congrArg (fun z9 => F0 m 144 ls (.int z9 :: [.int (nI (pd k)), .ref (ad 0)])) (show nI gp = (if (nI (po k)) = 13 then (2 * (nI gp)) else (nI gp) : Int32) from (by rw [if_neg h36]))) (K144 _ _ _ hP hS hl)
                · refine lv_iconst (v := 2) hx hb d_R_illegal_137 (by decide) ?_
                  refine lv_iload_n hx hb d_R_illegal_138 rfl (lv_at hl 3 rfl) ?_
                  refine lv_imul hx hb d_R_illegal_139 ?_
                  refine lv_goto (tgt := 144) hx hb d_R_illegal_140 (by decide) ?_
                  exact W.eq (congrArg (fun z9 => F0 m 144 ls (.int z9 :: [.int (nI (pd k)), .ref (ad 0)])) (show 2 * (nI gp) = (if (nI (po k)) = 13 then (2 * (nI gp)) else (nI gp) : Int32) from (by rw [if_pos h36]))) (K144 _ _ _ hP hS hl)
            · refine lv_aload_n hx hb d_R_illegal_105 rfl (lv_at hl 5 rfl) ?_
              refine lv_aload_n hx hb d_R_illegal_106 rfl (lv_at hl 5 rfl) ?_
              refine kw_get hx hb hg in_R hown hK hP 0 (Nat.lt_of_lt_of_le (by decide : 0 < 19) hn) e0 rfl 18 (by decide) (hg _ kg_601) rfl rfl d_R_illegal_107 ?_
              refine lv_iload_n hx hb d_R_illegal_110 rfl (lv_at hl 6 rfl) ?_
              refine kw_iald hx hb hK hP 7 0 (Nat.lt_of_lt_of_le (by decide : 7 < 19) hn) e7 rfl k (rfl) (hk) (by omega) d_R_illegal_111 ?_
              refine lv_iload_n hx hb d_R_illegal_112 rfl (lv_at hl 3 rfl) ?_
              refine kw_callix (kw_rV (As := [.int (nI (pb k)), .int (nI gp)]) (rest := []) (q0 := 0) ⟨hx, hb, hml, hown, hg⟩ ⟨callB_of 2 hg (kg_goodG kg_773) rfl rfl rfl (hg _ kg_7) (hg _ kg_770) (by decide +kernel) ⟨by decide, by decide⟩, hg _ kg_772, hg _ (kg_sel (q := (y_R_odd, 31)) (by decide +kernel))⟩ (c_R_odd l hgz ) hK hP (Nat.lt_of_lt_of_le (by decide : 0 < 19) hn) e0 rfl rfl hl.1 rfl (Nat.le_of_ble_eq_true rfl) d_R_illegal_113 ⟨Nat.zero_le _, Nat.zero_le _⟩) hA hS (fun H locs hP hS => ?_)
              refine lv_if_ne (tgt := 150) hx hb d_R_illegal_116 (by decide) (fun h37 => ?_) (fun h37 => ?_)
              · refine lv_iconst (v := 1) hx hb d_R_illegal_150 (by decide) ?_
                exact kw_zret hx hb hr hlocks hP hK hS (Or.inr rfl) ⟨by rw [kv_R_illegal, if_neg h23, if_pos h32, if_neg h33, if_neg h37], rfl⟩ d_R_illegal_151
              · refine lv_iload hx hb d_R_illegal_119 (lv_at hl 0 rfl) ?_
                refine lv_if_eq (tgt := 152) hx hb d_R_illegal_121 (by decide) (fun h38 => ?_) (fun h38 => ?_)
                · exact K152 _ _ _ (by rw [kv_R_illegal, if_neg h23, if_pos h32, if_neg h33, if_pos h37, if_pos h38]) hP hS hl
                · refine lv_aload_n hx hb d_R_illegal_124 rfl (lv_at hl 5 rfl) ?_
                  refine lv_aload_n hx hb d_R_illegal_125 rfl (lv_at hl 5 rfl) ?_
                  refine kw_get hx hb hg in_R hown hK hP 0 (Nat.lt_of_lt_of_le (by decide : 0 < 19) hn) e0 rfl 16 (by decide) (hg _ kg_599) rfl rfl d_R_illegal_126 ?_
                  refine lv_iload_n hx hb d_R_illegal_129 rfl (lv_at hl 6 rfl) ?_
                  refine kw_iald hx hb hK hP 5 0 (Nat.lt_of_lt_of_le (by decide : 5 < 19) hn) e5 rfl k (rfl) (hk) (by omega) d_R_illegal_130 ?_
                  have K144 : ∀ (H : Heap) (locs : List Loc) (ls : Array Slot), va_P D kc (kw_w ad cs n) H → va_S (kw_A ad n) s.heap H locs → lv_has ls 7 [(6, .int ((if (nI (po k)) = 12 then 0 else if (nI (po k)) = 14 then 0 else 1 : Int32))), (5, .int ((if (nI (po k)) ≤ 10 then 1 else if (nI (po k)) = 12 then 1 else if (nI (po k)) = 13 then 1 else if (nI (po k)) = 16 then 1 else if (nI (po k)) = 19 then 1 else 0 : Int32))), (4, .int ((if 16 < (nI (po k)) then 0 else 1 : Int32))), (3, .int (nI gp)), (2, .int (nI (po k))), (0, .ref (ad 0)), (1, .int (nI k))] → W p l e (kr 1) s m [.ref (ad 0), .int (nI k)].toArray below meth c H locs 0 0 (MQ below (va_Qi (fun r9 c9 => r9 = kv_R_illegal wi gp po pd pa pb pm k ∧ c9 = cs) (kw_Pre D kc (ktR cI cZ) ad n) (kw_A ad n)) [.ref (ad 0), .int (nI k)].toArray s 0 0 (kw_A ad n)) (F0 m 144 ls [.int ((if (nI (po k)) = 13 then (2 * (nI gp)) else (nI gp) : Int32)), .int (nI (pd k)), .ref (ad 0)]) := by
                    intro H locs ls hP hS hl
                    refine kw_callix (kw_rV (As := [.int (nI (pd k)), .int ((if (nI (po k)) = 13 then (2 * (nI gp)) else (nI gp) : Int32))]) (rest := []) (q0 := 0) ⟨hx, hb, hml, hown, hg⟩ ⟨callB_of 2 hg (kg_goodG kg_773) rfl rfl rfl (hg _ kg_7) (hg _ kg_770) (by decide +kernel) ⟨by decide, by decide⟩, hg _ kg_772, hg _ (kg_sel (q := (y_R_odd, 31)) (by decide +kernel))⟩ (c_R_odd l hgd ) hK hP (Nat.lt_of_lt_of_le (by decide : 0 < 19) hn) e0 rfl rfl hl.1 rfl (Nat.le_of_ble_eq_true rfl) d_R_illegal_144 ⟨Nat.zero_le _, Nat.zero_le _⟩) hA hS (fun H locs hP hS => ?_)
                    refine lv_if_eq (tgt := 152) hx hb d_R_illegal_147 (by decide) (fun h39 => ?_) (fun h39 => ?_)
                    · exact K152 _ _ _ (by rw [kv_R_illegal, if_neg h23, if_pos h32, if_neg h33, if_pos h37, if_neg h38, if_pos h39]) hP hS hl
                    · refine lv_iconst (v := 1) hx hb d_R_illegal_150 (by decide) ?_
                      exact kw_zret hx hb hr hlocks hP hK hS (Or.inr rfl) ⟨by rw [kv_R_illegal, if_neg h23, if_pos h32, if_neg h33, if_pos h37, if_neg h38, if_neg h39], rfl⟩ d_R_illegal_151
                  refine lv_iload_n hx hb d_R_illegal_131 rfl (lv_at hl 4 rfl) ?_
                  refine lv_bipush (v := 13) hx hb d_R_illegal_132 (by decide) ?_
                  refine lv_icmp_ne (tgt := 143) hx hb d_R_illegal_134 (by decide) (fun h40 => ?_) (fun h40 => ?_)
                  · refine lv_iload_n hx hb d_R_illegal_143 rfl (lv_at hl 3 rfl) ?_
                    exact W.eq (congrArg (fun z9 => F0 m 144 ls (.int z9 :: [.int (nI (pd k)), .ref (ad 0)])) (show nI gp = (if (nI (po k)) = 13 then (2 * (nI gp)) else (nI gp) : Int32) from (by rw [if_neg h40]))) (K144 _ _ _ hP hS hl)
                  · refine lv_iconst (v := 2) hx hb d_R_illegal_137 (by decide) ?_
                    refine lv_iload_n hx hb d_R_illegal_138 rfl (lv_at hl 3 rfl) ?_
                    refine lv_imul hx hb d_R_illegal_139 ?_
                    refine lv_goto (tgt := 144) hx hb d_R_illegal_140 (by decide) ?_
                    exact W.eq (congrArg (fun z9 => F0 m 144 ls (.int z9 :: [.int (nI (pd k)), .ref (ad 0)])) (show 2 * (nI gp) = (if (nI (po k)) = 13 then (2 * (nI gp)) else (nI gp) : Int32) from (by rw [if_pos h40]))) (K144 _ _ _ hP hS hl)
      refine lv_iload_n hx hb d_R_illegal_62 rfl (lv_at hl 3 rfl) ?_
      refine lv_bipush (v := 12) hx hb d_R_illegal_63 (by decide) ?_
      refine lv_icmp_eq (tgt := 78) hx hb d_R_illegal_65 (by decide) (fun h41 => ?_) (fun h41 => ?_)
      · refine lv_iconst (v := 0) hx hb d_R_illegal_78 (by decide) ?_
        exact W.eq (congrArg (fun z9 => F0 m 79 ls (.int z9 :: [])) (show (0 : Int32) = (if (nI (po k)) = 12 then 0 else if (nI (po k)) = 14 then 0 else 1 : Int32) from (by rw [if_pos h41]))) (K79 _ _ _ hP hS hl)
      · refine lv_iload_n hx hb d_R_illegal_68 rfl (lv_at hl 3 rfl) ?_
        refine lv_bipush (v := 14) hx hb d_R_illegal_69 (by decide) ?_
        refine lv_icmp_eq (tgt := 78) hx hb d_R_illegal_71 (by decide) (fun h42 => ?_) (fun h42 => ?_)
        · refine lv_iconst (v := 0) hx hb d_R_illegal_78 (by decide) ?_
          exact W.eq (congrArg (fun z9 => F0 m 79 ls (.int z9 :: [])) (show (0 : Int32) = (if (nI (po k)) = 12 then 0 else if (nI (po k)) = 14 then 0 else 1 : Int32) from (by rw [if_neg h41, if_pos h42]))) (K79 _ _ _ hP hS hl)
        · refine lv_iconst (v := 1) hx hb d_R_illegal_74 (by decide) ?_
          refine lv_goto (tgt := 79) hx hb d_R_illegal_75 (by decide) ?_
          exact W.eq (congrArg (fun z9 => F0 m 79 ls (.int z9 :: [])) (show (1 : Int32) = (if (nI (po k)) = 12 then 0 else if (nI (po k)) = 14 then 0 else 1 : Int32) from (by rw [if_neg h41, if_neg h42]))) (K79 _ _ _ hP hS hl)
    refine lv_iload_n hx hb d_R_illegal_25 rfl (lv_at hl 2 rfl) ?_
    refine lv_bipush (v := 10) hx hb d_R_illegal_26 (by decide) ?_
    refine lv_icmp_le (tgt := 55) hx hb d_R_illegal_28 (by decide) (fun h43 => ?_) (fun h43 => ?_)
    · refine lv_iconst (v := 1) hx hb d_R_illegal_55 (by decide) ?_
      refine lv_goto (tgt := 60) hx hb d_R_illegal_56 (by decide) ?_
      exact W.eq (congrArg (fun z9 => F0 m 60 ls (.int z9 :: [])) (show (1 : Int32) = (if (nI (po k)) ≤ 10 then 1 else if (nI (po k)) = 12 then 1 else if (nI (po k)) = 13 then 1 else if (nI (po k)) = 16 then 1 else if (nI (po k)) = 19 then 1 else 0 : Int32) from (by rw [if_pos h43]))) (K60 _ _ _ hP hS hl)
    · refine lv_iload_n hx hb d_R_illegal_31 rfl (lv_at hl 2 rfl) ?_
      refine lv_bipush (v := 12) hx hb d_R_illegal_32 (by decide) ?_
      refine lv_icmp_eq (tgt := 55) hx hb d_R_illegal_34 (by decide) (fun h44 => ?_) (fun h44 => ?_)
      · refine lv_iconst (v := 1) hx hb d_R_illegal_55 (by decide) ?_
        refine lv_goto (tgt := 60) hx hb d_R_illegal_56 (by decide) ?_
        exact W.eq (congrArg (fun z9 => F0 m 60 ls (.int z9 :: [])) (show (1 : Int32) = (if (nI (po k)) ≤ 10 then 1 else if (nI (po k)) = 12 then 1 else if (nI (po k)) = 13 then 1 else if (nI (po k)) = 16 then 1 else if (nI (po k)) = 19 then 1 else 0 : Int32) from (by rw [if_neg h43, if_pos h44]))) (K60 _ _ _ hP hS hl)
      · refine lv_iload_n hx hb d_R_illegal_37 rfl (lv_at hl 2 rfl) ?_
        refine lv_bipush (v := 13) hx hb d_R_illegal_38 (by decide) ?_
        refine lv_icmp_eq (tgt := 55) hx hb d_R_illegal_40 (by decide) (fun h45 => ?_) (fun h45 => ?_)
        · refine lv_iconst (v := 1) hx hb d_R_illegal_55 (by decide) ?_
          refine lv_goto (tgt := 60) hx hb d_R_illegal_56 (by decide) ?_
          exact W.eq (congrArg (fun z9 => F0 m 60 ls (.int z9 :: [])) (show (1 : Int32) = (if (nI (po k)) ≤ 10 then 1 else if (nI (po k)) = 12 then 1 else if (nI (po k)) = 13 then 1 else if (nI (po k)) = 16 then 1 else if (nI (po k)) = 19 then 1 else 0 : Int32) from (by rw [if_neg h43, if_neg h44, if_pos h45]))) (K60 _ _ _ hP hS hl)
        · refine lv_iload_n hx hb d_R_illegal_43 rfl (lv_at hl 2 rfl) ?_
          refine lv_bipush (v := 16) hx hb d_R_illegal_44 (by decide) ?_
          refine lv_icmp_eq (tgt := 55) hx hb d_R_illegal_46 (by decide) (fun h46 => ?_) (fun h46 => ?_)
          · refine lv_iconst (v := 1) hx hb d_R_illegal_55 (by decide) ?_
            refine lv_goto (tgt := 60) hx hb d_R_illegal_56 (by decide) ?_
            exact W.eq (congrArg (fun z9 => F0 m 60 ls (.int z9 :: [])) (show (1 : Int32) = (if (nI (po k)) ≤ 10 then 1 else if (nI (po k)) = 12 then 1 else if (nI (po k)) = 13 then 1 else if (nI (po k)) = 16 then 1 else if (nI (po k)) = 19 then 1 else 0 : Int32) from (by rw [if_neg h43, if_neg h44, if_neg h45, if_pos h46]))) (K60 _ _ _ hP hS hl)
          · refine lv_iload_n hx hb d_R_illegal_49 rfl (lv_at hl 2 rfl) ?_
            refine lv_bipush (v := 19) hx hb d_R_illegal_50 (by decide) ?_
            refine lv_icmp_ne (tgt := 59) hx hb d_R_illegal_52 (by decide) (fun h47 => ?_) (fun h47 => ?_)
            · refine lv_iconst (v := 0) hx hb d_R_illegal_59 (by decide) ?_
              exact W.eq (congrArg (fun z9 => F0 m 60 ls (.int z9 :: [])) (show (0 : Int32) = (if (nI (po k)) ≤ 10 then 1 else if (nI (po k)) = 12 then 1 else if (nI (po k)) = 13 then 1 else if (nI (po k)) = 16 then 1 else if (nI (po k)) = 19 then 1 else 0 : Int32) from (by rw [if_neg h43, if_neg h44, if_neg h45, if_neg h46, if_neg h47]))) (K60 _ _ _ hP hS hl)
            · refine lv_iconst (v := 1) hx hb d_R_illegal_55 (by decide) ?_
              refine lv_goto (tgt := 60) hx hb d_R_illegal_56 (by decide) ?_
              exact W.eq (congrArg (fun z9 => F0 m 60 ls (.int z9 :: [])) (show (1 : Int32) = (if (nI (po k)) ≤ 10 then 1 else if (nI (po k)) = 12 then 1 else if (nI (po k)) = 13 then 1 else if (nI (po k)) = 16 then 1 else if (nI (po k)) = 19 then 1 else 0 : Int32) from (by rw [if_neg h43, if_neg h44, if_neg h45, if_neg h46, if_pos h47]))) (K60 _ _ _ hP hS hl)
  refine lv_iload_n hx hb d_R_illegal_12 rfl (lv_at hl 1 rfl) ?_
  refine lv_bipush (v := 16) hx hb d_R_illegal_13 (by decide) ?_
  refine lv_icmp_gt (tgt := 22) hx hb d_R_illegal_15 (by decide) (fun h48 => ?_) (fun h48 => ?_)
  · refine lv_iconst (v := 0) hx hb d_R_illegal_22 (by decide) ?_
    exact W.eq (congrArg (fun z9 => F0 m 23 ls (.int z9 :: [])) (show (0 : Int32) = (if 16 < (nI (po k)) then 0 else 1 : Int32) from (by rw [if_pos h48]))) (K23 _ _ _ hP hS hl)
  · refine lv_iconst (v := 1) hx hb d_R_illegal_18 (by decide) ?_
    refine lv_goto (tgt := 23) hx hb d_R_illegal_19 (by decide) ?_
    exact W.eq (congrArg (fun z9 => F0 m 23 ls (.int z9 :: [])) (show (1 : Int32) = (if 16 < (nI (po k)) then 0 else 1 : Int32) from (by rw [if_neg h48]))) (K23 _ _ _ hP hS hl)
