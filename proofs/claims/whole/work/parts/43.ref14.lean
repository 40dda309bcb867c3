/-! the reference: scalarDone -/
def kn_b (v : Int32) : Nat := if v < 0 then 0 else if 128 < v then 128 else v.toNatClampNeg
theorem kn_b_ok {v : Int32} : (if 0 ≤ v then (if v ≤ 128 then v else 128) else 0 : Int32) = nI (kn_b v) := by
  unfold kn_b
  by_cases h : v < 0
  · rw [if_neg (fun z => absurd h (Int32.not_lt.mpr z)), if_pos h]; rfl
  · rw [if_pos (Int32.not_lt.mp h), if_neg h]
    by_cases h2 : 128 < v
    · rw [if_neg (Int32.not_le.mpr h2), if_pos h2]; rfl
    · rw [if_pos (Int32.not_lt.mp h2), if_neg h2]
      obtain ⟨j, hj, rfl⟩ := nI_of h
      rw [nI_clamp hj]

def kv_R_scalarDone_nx (nx : Int32) (qu : Nat) (X : Nat → Int32) (po : Nat → Nat) (pa : Nat → Nat) (pb : Nat → Nat) (pn : Nat → Int32) (k : Nat) : Int32 := if (nI (po k)) = 5 then (if (nI qu) ≤ 0 then (nx + 1) else nx) else if (nI (po k)) = 6 then (if (nI qu) ≤ 0 then ((nx + 1)) else nx) else if (nI (po k)) = 7 then (if (nI qu) ≤ 0 then ((nx + 1)) else nx) else if (nI (po k)) = 0 then ((nx + 1)) else if (nI (po k)) = 1 then ((nx + 1)) else if (nI (po k)) = 2 then ((nx + 1)) else if (nI (po k)) = 3 then ((if (X (pa k)) = (X (pb k)) then (nx + 1) else (pn k) : Int32)) else if (nI (po k)) = 5 then (nx + 1) else ((nx + 1))
def kv_R_scalarDone_wi (wi : Nat) (qu : Nat) (po : Nat → Nat) (k : Nat) (cd : Nat) : Nat := if (nI (po k)) = 5 then wi else if (nI (po k)) = 6 then (if (nI qu) ≤ 0 then (kv_R_configures_wi cd) else wi) else if (nI (po k)) = 7 then wi else if (nI (po k)) = 0 then wi else if (nI (po k)) = 1 then wi else if (nI (po k)) = 2 then wi else if (nI (po k)) = 3 then wi else if (nI (po k)) = 5 then wi else if (nI (po k)) = 6 then (kv_R_configures_wi cd) else wi
def kv_R_scalarDone_gp (gp : Nat) (qu : Nat) (po : Nat → Nat) (k : Nat) (cd : Nat) : Nat := if (nI (po k)) = 5 then gp else if (nI (po k)) = 6 then (if (nI qu) ≤ 0 then (kv_R_configures_gp cd) else gp) else if (nI (po k)) = 7 then gp else if (nI (po k)) = 0 then gp else if (nI (po k)) = 1 then gp else if (nI (po k)) = 2 then gp else if (nI (po k)) = 3 then gp else if (nI (po k)) = 5 then gp else if (nI (po k)) = 6 then (kv_R_configures_gp cd) else gp
def kv_R_scalarDone_vl (vl : Nat) (qu : Nat) (X : Nat → Int32) (po : Nat → Nat) (pa : Nat → Nat) (k : Nat) (cd : Nat) : Nat := if (nI (po k)) = 5 then vl else if (nI (po k)) = 6 then (if (nI qu) ≤ 0 then (kv_R_configures_vl X pa k cd) else vl) else if (nI (po k)) = 7 then vl else if (nI (po k)) = 0 then vl else if (nI (po k)) = 1 then vl else if (nI (po k)) = 2 then vl else if (nI (po k)) = 3 then vl else if (nI (po k)) = 5 then vl else if (nI (po k)) = 6 then (kv_R_configures_vl X pa k cd) else vl
def kv_R_scalarDone_sa (sa : Nat) (qu : Nat) (po : Nat → Nat) (k : Nat) : Nat := if (nI (po k)) = 5 then sa else if (nI (po k)) = 6 then (if (nI qu) ≤ 0 then kv_R_configures_sa else sa) else if (nI (po k)) = 7 then sa else if (nI (po k)) = 0 then sa else if (nI (po k)) = 1 then sa else if (nI (po k)) = 2 then sa else if (nI (po k)) = 3 then sa else if (nI (po k)) = 5 then sa else if (nI (po k)) = 6 then kv_R_configures_sa else sa
def kv_R_scalarDone_bo (bo : Nat) (qu : Nat) (X : Nat → Int32) (po : Nat → Nat) (pa : Nat → Nat) (k : Nat) : Nat := if (nI (po k)) = 5 then (if (nI qu) ≤ 0 then (kn_b (X (pa k))) else bo) else if (nI (po k)) = 6 then bo else if (nI (po k)) = 7 then bo else if (nI (po k)) = 0 then bo else if (nI (po k)) = 1 then bo else if (nI (po k)) = 2 then bo else if (nI (po k)) = 3 then bo else if (nI (po k)) = 5 then (kn_b (X (pa k))) else bo
def kv_R_scalarDone_X (wi : Nat) (qu : Nat) (X : Nat → Int32) (F : Nat → Int32) (po : Nat → Nat) (pd : Nat → Nat) (pa : Nat → Nat) (pb : Nat → Nat) (pn : Nat → Int32) (k : Nat) (cd : Nat) : Nat → Int32 := if (nI (po k)) = 5 then X else if (nI (po k)) = 6 then (if (nI qu) ≤ 0 then (kv_R_configures_X X pd pa k cd) else X) else if (nI (po k)) = 7 then (if (nI qu) ≤ 0 then (kv_R_setX_X X (pd k) (kv_R_element F (pa k) 0 wi)) else X) else if (nI (po k)) = 0 then (kv_R_setX_X X (pd k) (pn k)) else if (nI (po k)) = 1 then (kv_R_setX_X X (pd k) ((X (pa k)) + (X (pb k)))) else if (nI (po k)) = 2 then (kv_R_setX_X X (pd k) ((X (pa k)) + (pn k))) else if (nI (po k)) = 3 then X else if (nI (po k)) = 5 then X else if (nI (po k)) = 6 then (kv_R_configures_X X pd pa k cd) else (kv_R_setX_X X (pd k) (kv_R_element F (pa k) 0 wi))
def kv_R_scalarDone (qu : Nat) (po : Nat → Nat) (k : Nat) : Int32 := if (nI (po k)) = 5 then (if (nI qu) ≤ 0 then 1 else 0) else if (nI (po k)) = 6 then (if (nI qu) ≤ 0 then 1 else 0) else if (nI (po k)) = 7 then (if (nI qu) ≤ 0 then 1 else 0) else if (nI (po k)) = 0 then 1 else if (nI (po k)) = 1 then 1 else if (nI (po k)) = 2 then 1 else if (nI (po k)) = 3 then 1 else if (nI (po k)) = 5 then 1 else if (nI (po k)) = 6 then 1 else 1
set_option maxRecDepth 100000 in
set_option maxHeartbeats 4000000 in
theorem c_R_scalarDone (l : Launch) {D : va_G} {ad : Nat → Nat} {n : Nat} {cs : Nat → va_E} (hJ : kw_J ad n) {cI : ClassId} {cZ : ClassId} {la : Nat} {th : Int32} {st : Nat} {nx : Int32} {wi : Nat} {gp : Nat} {vl : Nat} {sa : Nat} {bo : Nat} {cy : Int32} {sd : Int32} {ma : Nat} {qu : Nat} {X : Nat → Int32} {F : Nat → Int32} {M : Nat → Int32} {po : Nat → Nat} {pd : Nat → Nat} {pa : Nat → Nat} {pb : Nat → Nat} {pn : Nat → Int32} {pm : Nat → Int32} {wh : Nat → Nat} {wd : Nat → Nat} {rg : Nat → Nat} {fr : Nat → Nat} {sp : Nat → Nat} {dn : Nat → Nat} {bf : Nat → Nat} {XA : Nat → Int32} {XB : Nat → Int32} {k : Nat} {cd : Nat} (hn : 19 ≤ n) (hR : kR ad cI cZ cs la th st nx wi gp vl sa bo cy sd ma qu X F M po pd pa pb pn pm wh wd rg fr sp dn bf XA XB) (hk : k < 40) (ho9 : po k < 8) (hqu : qu ≤ 4) (hd8 : pd k < 8) (ha8 : pa k < 8) (hb8 : pb k < 8) (hc9 : po k = 6 → pn k = nI cd) (hc8 : po k = 6 → cd ≤ 10) (hfe : 8 * pa k + 0 * wi + wi ≤ 64) : kw_mi l y_R_scalarDone w_R_scalarDone (kr 3) D kc (ktR cI cZ) ad n cs [.ref (ad 0), .int (nI k)] (fun r9 c9 => r9 = kv_R_scalarDone qu po k ∧ kR ad cI cZ c9 la th st (kv_R_scalarDone_nx nx qu X po pa pb pn k) (kv_R_scalarDone_wi wi qu po k cd) (kv_R_scalarDone_gp gp qu po k cd) (kv_R_scalarDone_vl vl qu X po pa k cd) (kv_R_scalarDone_sa sa qu po k) (kv_R_scalarDone_bo bo qu X po pa k) cy sd ma qu (kv_R_scalarDone_X wi qu X F po pd pa pb pn k cd) F M po pd pa pb pn pm wh wd rg fr sp dn bf XA XB) := by
  refine kw_of (cc := b_R_scalarDone) (maxL := 4) (ret := (some .boolean)) (by decide) rfl (Nat.le_of_ble_eq_true rfl) ?_
  intro p e s m below meth c ls hx hb hr hml hown hts hlocks hP hK hl
  have hg : ∀ w9 ∈ kg_G, w9.before [.ref (ad 0), .int (nI k)].toArray s = true := fun w9 h9 => hts w9 (List.mem_cons_of_mem _ h9)
  have hown : s.vm.findClass "LaneMachineModel" = some m.cls := hown
  have hA : ∀ k, k < n → kw_A ad n (ad k) := fun k hk => ⟨k, hk, rfl⟩
  have hS : va_S (kw_A ad n) s.heap s.heap [] := va_S.rf
  have hl : lv_has ls 4 [(0, .ref (ad 0)), (1, .int (nI k))] := hl
  obtain ⟨e0, e1, e2, e3, e4, e5, e6, e7, e8, e9, e10, e11, e12, e13, e14, e15, e16, e17, e18⟩ := hR
  refine lv_aload_n hx hb d_R_scalarDone_0 rfl (lv_at hl 0 rfl) ?_
  refine kw_get hx hb hg in_R hown hK hP 0 (Nat.lt_of_lt_of_le (by decide : 0 < 19) hn) e0 rfl 15 (by decide) (hg _ kg_598) rfl rfl d_R_scalarDone_1 ?_
  refine lv_iload_n hx hb d_R_scalarDone_4 rfl (lv_at hl 1 rfl) ?_
  refine kw_iald hx hb hK hP 4 0 (Nat.lt_of_lt_of_le (by decide : 4 < 19) hn) e4 rfl k (rfl) (hk) (by omega) d_R_scalarDone_5 ?_
  refine lv_istore_n (lv' := [(2, .int (nI (po k))), (0, .ref (ad 0)), (1, .int (nI k))]) hx hb d_R_scalarDone_6 rfl hl (by decide) rfl (fun ls hl => ?_)
  refine lv_iload_n hx hb d_R_scalarDone_7 rfl (lv_at hl 0 rfl) ?_
  refine lv_iconst (v := 5) hx hb d_R_scalarDone_8 (by decide) ?_
  refine lv_icmp_eq (tgt := 24) hx hb d_R_scalarDone_9 (by decide) (fun h1 => ?_) (fun h1 => ?_)
  · refine lv_aload_n hx hb d_R_scalarDone_24 rfl (lv_at hl 1 rfl) ?_
    refine kw_get hx hb hg in_R hown hK hP 0 (Nat.lt_of_lt_of_le (by decide : 0 < 19) hn) e0 rfl 21 (by decide) (hg _ kg_604) rfl rfl d_R_scalarDone_25 ?_
    refine lv_if_le (tgt := 33) hx hb d_R_scalarDone_28 (by decide) (fun h2 => ?_) (fun h2 => ?_)
    · refine lv_aload_n hx hb d_R_scalarDone_33 rfl (lv_at hl 1 rfl) ?_
      refine lv_dup hx hb d_R_scalarDone_34 rfl ?_
      refine kw_get hx hb hg in_R hown hK hP 0 (Nat.lt_of_lt_of_le (by decide : 0 < 19) hn) e0 rfl 3 (by decide) (hg _ kg_586) rfl rfl d_R_scalarDone_35 ?_
      refine lv_iconst (v := 1) hx hb d_R_scalarDone_38 (by decide) ?_
      refine lv_iadd hx hb d_R_scalarDone_39 ?_
      refine kw_put (ty := .int) hx hb hg in_R t_R ty_R nm_R hown hK hP hJ hA hS 0 (Nat.lt_of_lt_of_le (by decide : 0 < 19) hn) e0 rfl 3 (by decide) (hg _ kg_586) rfl rfl (by decide +kernel) rfl rfl (Nat.le_of_ble_eq_true rfl) d_R_scalarDone_40 (fun H locs hP hS => ?_)
      obtain ⟨cs1, hccs1⟩ : ∃ z9, z9 = va_up cs 0 (.inr (5, [.int (nI la), .int th, .int (nI st), .int (nx + 1), .int (nI wi), .int (nI gp), .int (nI vl), .int (nI sa), .int (nI bo), .int cy, .int sd, .ref (ad 1), .ref (ad 2), .ref (ad 3), .int (nI ma), .ref (ad 4), .ref (ad 5), .ref (ad 6), .ref (ad 7), .ref (ad 8), .ref (ad 9), .int (nI qu), .ref (ad 10), .ref (ad 11), .ref (ad 12), .ref (ad 13), .ref (ad 14), .ref (ad 15), .ref (ad 16), .ref (ad 17), .ref (ad 18)])) := ⟨_, rfl⟩
      replace hP : va_P D kc (kw_w ad cs1 n) H := by rw [hccs1]; exact hP
      have e0 : cs1 0 = .inr (5, [.int (nI la), .int th, .int (nI st), .int (nx + 1), .int (nI wi), .int (nI gp), .int (nI vl), .int (nI sa), .int (nI bo), .int cy, .int sd, .ref (ad 1), .ref (ad 2), .ref (ad 3), .int (nI ma), .ref (ad 4), .ref (ad 5), .ref (ad 6), .ref (ad 7), .ref (ad 8), .ref (ad 9), .int (nI qu), .ref (ad 10), .ref (ad 11), .ref (ad 12), .ref (ad 13), .ref (ad 14), .ref (ad 15), .ref (ad 16), .ref (ad 17), .ref (ad 18)]) := by rw [hccs1]; exact va_up_self _ _ _
      replace e1 := (congrFun hccs1 1).trans ((va_up_ne _ _ (by decide)).trans e1)
      replace e2 := (congrFun hccs1 2).trans ((va_up_ne _ _ (by decide)).trans e2)
      replace e3 := (congrFun hccs1 3).trans ((va_up_ne _ _ (by decide)).trans e3)
      replace e4 := (congrFun hccs1 4).trans ((va_up_ne _ _ (by decide)).trans e4)
      replace e5 := (congrFun hccs1 5).trans ((va_up_ne _ _ (by decide)).trans e5)
      replace e6 := (congrFun hccs1 6).trans ((va_up_ne _ _ (by decide)).trans e6)
      replace e7 := (congrFun hccs1 7).trans ((va_up_ne _ _ (by decide)).trans e7)
      replace e8 := (congrFun hccs1 8).trans ((va_up_ne _ _ (by decide)).trans e8)
      replace e9 := (congrFun hccs1 9).trans ((va_up_ne _ _ (by decide)).trans e9)
      replace e10 := (congrFun hccs1 10).trans ((va_up_ne _ _ (by decide)).trans e10)
      replace e11 := (congrFun hccs1 11).trans ((va_up_ne _ _ (by decide)).trans e11)
      replace e12 := (congrFun hccs1 12).trans ((va_up_ne _ _ (by decide)).trans e12)
      replace e13 := (congrFun hccs1 13).trans ((va_up_ne _ _ (by decide)).trans e13)
      replace e14 := (congrFun hccs1 14).trans ((va_up_ne _ _ (by decide)).trans e14)
      replace e15 := (congrFun hccs1 15).trans ((va_up_ne _ _ (by decide)).trans e15)
      replace e16 := (congrFun hccs1 16).trans ((va_up_ne _ _ (by decide)).trans e16)
      replace e17 := (congrFun hccs1 17).trans ((va_up_ne _ _ (by decide)).trans e17)
      replace e18 := (congrFun hccs1 18).trans ((va_up_ne _ _ (by decide)).trans e18)
      clear hccs1
      refine lv_iload_n hx hb d_R_scalarDone_43 rfl (lv_at hl 0 rfl) ?_
      refine lv_if_ne (tgt := 66) hx hb d_R_scalarDone_44 (by decide) (fun _ => ?_) (fun h3 => absurd h3 (by rw [h1] <;> decide))
      refine lv_iload_n hx hb d_R_scalarDone_66 rfl (lv_at hl 0 rfl) ?_
      refine lv_iconst (v := 1) hx hb d_R_scalarDone_67 (by decide) ?_
      refine lv_icmp_ne (tgt := 107) hx hb d_R_scalarDone_68 (by decide) (fun _ => ?_) (fun h4 => absurd h4 (by rw [h1] <;> decide))
      refine lv_iload_n hx hb d_R_scalarDone_107 rfl (lv_at hl 0 rfl) ?_
      refine lv_iconst (v := 2) hx hb d_R_scalarDone_108 (by decide) ?_
      refine lv_icmp_ne (tgt := 143) hx hb d_R_scalarDone_109 (by decide) (fun _ => ?_) (fun h5 => absurd h5 (by rw [h1] <;> decide))
      refine lv_iload_n hx hb d_R_scalarDone_143 rfl (lv_at hl 0 rfl) ?_
      refine lv_iconst (v := 3) hx hb d_R_scalarDone_144 (by decide) ?_
      refine lv_icmp_ne (tgt := 193) hx hb d_R_scalarDone_145 (by decide) (fun _ => ?_) (fun h6 => absurd h6 (by rw [h1] <;> decide))
      refine lv_iload_n hx hb d_R_scalarDone_193 rfl (lv_at hl 0 rfl) ?_
      refine lv_iconst (v := 5) hx hb d_R_scalarDone_194 (by decide) ?_
      refine lv_icmp_ne (tgt := 239) hx hb d_R_scalarDone_195 (by decide) (fun h7 => absurd (by rw [h1] <;> decide) h7) (fun _ => ?_)
      refine lv_aload_n hx hb d_R_scalarDone_198 rfl (lv_at hl 1 rfl) ?_
      refine kw_get hx hb hg in_R hown hK hP 0 (Nat.lt_of_lt_of_le (by decide : 0 < 19) hn) e0 rfl 11 (by decide) (hg _ kg_594) rfl rfl d_R_scalarDone_199 ?_
      refine lv_aload_n hx hb d_R_scalarDone_202 rfl (lv_at hl 1 rfl) ?_
      refine kw_get hx hb hg in_R hown hK hP 0 (Nat.lt_of_lt_of_le (by decide : 0 < 19) hn) e0 rfl 17 (by decide) (hg _ kg_600) rfl rfl d_R_scalarDone_203 ?_
      refine lv_iload_n hx hb d_R_scalarDone_206 rfl (lv_at hl 2 rfl) ?_
      refine kw_iald hx hb hK hP 6 0 (Nat.lt_of_lt_of_le (by decide : 6 < 19) hn) e6 rfl k (rfl) (hk) (by omega) d_R_scalarDone_207 ?_
      refine kw_iald hx hb hK hP 1 0 (Nat.lt_of_lt_of_le (by decide : 1 < 19) hn) e1 rfl (pa k) (rfl) (ha8) (by omega) d_R_scalarDone_208 ?_
      refine lv_istore_n (lv' := [(3, .int (X (pa k))), (2, .int (nI (po k))), (0, .ref (ad 0)), (1, .int (nI k))]) hx hb d_R_scalarDone_209 rfl hl (by decide) rfl (fun ls hl => ?_)
      refine lv_aload_n hx hb d_R_scalarDone_210 rfl (lv_at hl 2 rfl) ?_
      have K233 : ∀ (H : Heap) (locs : List Loc) (ls : Array Slot), va_P D kc (kw_w ad cs1 n) H → va_S (kw_A ad n) s.heap H locs → lv_has ls 4 [(3, .int (X (pa k))), (2, .int (nI (po k))), (0, .ref (ad 0)), (1, .int (nI k))] → W p l e (kr 3) s m [.ref (ad 0), .int (nI k)].toArray below meth c H locs 0 0 (MQ below (va_Qi (fun r9 c9 => r9 = kv_R_scalarDone qu po k ∧ kR ad cI cZ c9 la th st (kv_R_scalarDone_nx nx qu X po pa pb pn k) (kv_R_scalarDone_wi wi qu po k cd) (kv_R_scalarDone_gp gp qu po k cd) (kv_R_scalarDone_vl vl qu X po pa k cd) (kv_R_scalarDone_sa sa qu po k) (kv_R_scalarDone_bo bo qu X po pa k) cy sd ma qu (kv_R_scalarDone_X wi qu X F po pd pa pb pn k cd) F M po pd pa pb pn pm wh wd rg fr sp dn bf XA XB) (kw_Pre D kc (ktR cI cZ) ad n) (kw_A ad n)) [.ref (ad 0), .int (nI k)].toArray s 0 0 (kw_A ad n)) (F0 m 233 ls [.int ((if 0 ≤ (X (pa k)) then (if (X (pa k)) ≤ 128 then (X (pa k)) else 128) else 0 : Int32)), .ref (ad 0)]) := by
        intro H locs ls hP hS hl
        rw [kn_b_ok]
        refine kw_put (ty := .int) hx hb hg in_R t_R ty_R nm_R hown hK hP hJ hA hS 0 (Nat.lt_of_lt_of_le (by decide : 0 < 19) hn) e0 rfl 8 (by decide) (hg _ kg_591) rfl rfl (by decide +kernel) rfl rfl (Nat.le_of_ble_eq_true rfl) d_R_scalarDone_233 (fun H locs hP hS => ?_)
        obtain ⟨cs2, hccs2⟩ : ∃ z9, z9 = va_up cs1 0 (.inr (5, [.int (nI la), .int th, .int (nI st), .int (nx + 1), .int (nI wi), .int (nI gp), .int (nI vl), .int (nI sa), .int (nI (kn_b (X (pa k)))), .int cy, .int sd, .ref (ad 1), .ref (ad 2), .ref (ad 3), .int (nI ma), .ref (ad 4), .ref (ad 5), .ref (ad 6), .ref (ad 7), .ref (ad 8), .ref (ad 9), .int (nI qu), .ref (ad 10), .ref (ad 11), .ref (ad 12), .ref (ad 13), .ref (ad 14), .ref (ad 15), .ref (ad 16), .ref (ad 17), .ref (ad 18)])) := ⟨_, rfl⟩
        replace hP : va_P D kc (kw_w ad cs2 n) H := by rw [hccs2]; exact hP
        have e0 : cs2 0 = .inr (5, [.int (nI la), .int th, .int (nI st), .int (nx + 1), .int (nI wi), .int (nI gp), .int (nI vl), .int (nI sa), .int (nI (kn_b (X (pa k)))), .int cy, .int sd, .ref (ad 1), .ref (ad 2), .ref (ad 3), .int (nI ma), .ref (ad 4), .ref (ad 5), .ref (ad 6), .ref (ad 7), .ref (ad 8), .ref (ad 9), .int (nI qu), .ref (ad 10), .ref (ad 11), .ref (ad 12), .ref (ad 13), .ref (ad 14), .ref (ad 15), .ref (ad 16), .ref (ad 17), .ref (ad 18)]) := by rw [hccs2]; exact va_up_self _ _ _
        replace e1 := (congrFun hccs2 1).trans ((va_up_ne _ _ (by decide)).trans e1)
        replace e2 := (congrFun hccs2 2).trans ((va_up_ne _ _ (by decide)).trans e2)
        replace e3 := (congrFun hccs2 3).trans ((va_up_ne _ _ (by decide)).trans e3)
        replace e4 := (congrFun hccs2 4).trans ((va_up_ne _ _ (by decide)).trans e4)
        replace e5 := (congrFun hccs2 5).trans ((va_up_ne _ _ (by decide)).trans e5)
        replace e6 := (congrFun hccs2 6).trans ((va_up_ne _ _ (by decide)).trans e6)
        replace e7 := (congrFun hccs2 7).trans ((va_up_ne _ _ (by decide)).trans e7)
        replace e8 := (congrFun hccs2 8).trans ((va_up_ne _ _ (by decide)).trans e8)
        replace e9 := (congrFun hccs2 9).trans ((va_up_ne _ _ (by decide)).trans e9)
        replace e10 := (congrFun hccs2 10).trans ((va_up_ne _ _ (by decide)).trans e10)
        replace e11 := (congrFun hccs2 11).trans ((va_up_ne _ _ (by decide)).trans e11)
        replace e12 := (congrFun hccs2 12).trans ((va_up_ne _ _ (by decide)).trans e12)
        replace e13 := (congrFun hccs2 13).trans ((va_up_ne _ _ (by decide)).trans e13)
        replace e14 := (congrFun hccs2 14).trans ((va_up_ne _ _ (by decide)).trans e14)
        replace e15 := (congrFun hccs2 15).trans ((va_up_ne _ _ (by decide)).trans e15)
        replace e16 := (congrFun hccs2 16).trans ((va_up_ne _ _ (by decide)).trans e16)
        replace e17 := (congrFun hccs2 17).trans ((va_up_ne _ _ (by decide)).trans e17)
        replace e18 := (congrFun hccs2 18).trans ((va_up_ne _ _ (by decide)).trans e18)
        clear hccs2
        refine lv_goto (tgt := 278) hx hb d_R_scalarDone_236 (by decide) ?_
        refine lv_iconst (v := 1) hx hb d_R_scalarDone_278 (by decide) ?_
        exact kw_zret hx hb hr hlocks hP hK hS (Or.inr rfl) ⟨by rw [kv_R_scalarDone, if_pos h1, if_pos h2], (by rw [show kv_R_scalarDone_nx nx qu X po pa pb pn k = nx + 1 from (by rw [kv_R_scalarDone_nx, if_pos h1, if_pos h2]), show kv_R_scalarDone_wi wi qu po k cd = wi from (by rw [kv_R_scalarDone_wi, if_pos h1]), show kv_R_scalarDone_gp gp qu po k cd = gp from (by rw [kv_R_scalarDone_gp, if_pos h1]), show kv_R_scalarDone_vl vl qu X po pa k cd = vl from (by rw [kv_R_scalarDone_vl, if_pos h1]), show kv_R_scalarDone_sa sa qu po k = sa from (by rw [kv_R_scalarDone_sa, if_pos h1]), show kv_R_scalarDone_bo bo qu X po pa k = kn_b (X (pa k)) from (by rw [kv_R_scalarDone_bo, if_pos h1, if_pos h2]), show kv_R_scalarDone_X wi qu X F po pd pa pb pn k cd = X from (by rw [kv_R_scalarDone_X, if_pos h1])]; exact ⟨e0, e1, e2, e3, e4, e5, e6, e7, e8, e9, e10, e11, e12, e13, e14, e15, e16, e17, e18⟩)⟩ d_R_scalarDone_279
      refine lv_iload_n hx hb d_R_scalarDone_211 rfl (lv_at hl 0 rfl) ?_
      refine lv_if_ge (tgt := 219) hx hb d_R_scalarDone_212 (by decide) (fun h8 => ?_) (fun h8 => ?_)
      · refine lv_iload_n hx hb d_R_scalarDone_219 rfl (lv_at hl 0 rfl) ?_
        refine lv_sipush (v := 128) hx hb d_R_scalarDone_220 (by decide) ?_
        refine lv_icmp_le (tgt := 232) hx hb d_R_scalarDone_223 (by decide) (fun h9 => ?_) (fun h9 => ?_)
        · refine lv_iload_n hx hb d_R_scalarDone_232 rfl (lv_at hl 0 rfl) ?_
          exact W.eq (congrArg (fun z9 => F0 m 233 ls (.int z9 :: [.ref (ad 0)])) (show X (pa k) = (if 0 ≤ (X (pa k)) then (if (X (pa k)) ≤ 128 then (X (pa k)) else 128) else 0 : Int32) from (by rw [if_pos h8, if_pos h9]))) (K233 _ _ _ hP hS hl)
        · refine lv_sipush (v := 128) hx hb d_R_scalarDone_226 (by decide) ?_
          refine lv_goto (tgt := 233) hx hb d_R_scalarDone_229 (by decide) ?_
          exact W.eq (congrArg (fun z9 => F0 m 233 ls (.int z9 :: [.ref (ad 0)])) (show (128 : Int32) = (if 0 ≤ (X (pa k)) then (if (X (pa k)) ≤ 128 then (X (pa k)) else 128) else 0 : Int32) from (by rw [if_pos h8, if_neg h9]))) (K233 _ _ _ hP hS hl)
      · refine lv_iconst (v := 0) hx hb d_R_scalarDone_215 (by decide) ?_
        refine lv_goto (tgt := 233) hx hb d_R_scalarDone_216 (by decide) ?_
        exact W.eq (congrArg (fun z9 => F0 m 233 ls (.int z9 :: [.ref (ad 0)])) (show (0 : Int32) = (if 0 ≤ (X (pa k)) then (if (X (pa k)) ≤ 128 then (X (pa k)) else 128) else 0 : Int32) from (by rw [if_neg h8]))) (K233 _ _ _ hP hS hl)
    · refine lv_iconst (v := 0) hx hb d_R_scalarDone_31 (by decide) ?_
      exact kw_zret hx hb hr hlocks hP hK hS (Or.inl rfl) ⟨by rw [kv_R_scalarDone, if_pos h1, if_neg h2], (by rw [show kv_R_scalarDone_nx nx qu X po pa pb pn k = nx from (by rw [kv_R_scalarDone_nx, if_pos h1, if_neg h2]), show kv_R_scalarDone_wi wi qu po k cd = wi from (by rw [kv_R_scalarDone_wi, if_pos h1]), show kv_R_scalarDone_gp gp qu po k cd = gp from (by rw [kv_R_scalarDone_gp, if_pos h1]), show kv_R_scalarDone_vl vl qu X po pa k cd = vl from (by rw [kv_R_scalarDone_vl, if_pos h1]), show kv_R_scalarDone_sa sa qu po k = sa from (by rw [kv_R_scalarDone_sa, if_pos h1]), show kv_R_scalarDone_bo bo qu X po pa k = bo from (by rw [kv_R_scalarDone_bo, if_pos h1, if_neg h2]), show kv_R_scalarDone_X wi qu X F po pd pa pb pn k cd = X from (by rw [kv_R_scalarDone_X, if_pos h1])]; exact ⟨e0, e1, e2, e3, e4, e5, e6, e7, e8, e9, e10, e11, e12, e13, e14, e15, e16, e17, e18⟩)⟩ d_R_scalarDone_32
  · refine lv_iload_n hx hb d_R_scalarDone_12 rfl (lv_at hl 0 rfl) ?_
    refine lv_bipush (v := 6) hx hb d_R_scalarDone_13 (by decide) ?_
    refine lv_icmp_eq (tgt := 24) hx hb d_R_scalarDone_15 (by decide) (fun h10 => ?_) (fun h10 => ?_)
    · refine lv_aload_n hx hb d_R_scalarDone_24 rfl (lv_at hl 1 rfl) ?_
      refine kw_get hx hb hg in_R hown hK hP 0 (Nat.lt_of_lt_of_le (by decide : 0 < 19) hn) e0 rfl 21 (by decide) (hg _ kg_604) rfl rfl d_R_scalarDone_25 ?_
      refine lv_if_le (tgt := 33) hx hb d_R_scalarDone_28 (by decide) (fun h11 => ?_) (fun h11 => ?_)
      · refine lv_aload_n hx hb d_R_scalarDone_33 rfl (lv_at hl 1 rfl) ?_
        refine lv_dup hx hb d_R_scalarDone_34 rfl ?_
        refine kw_get hx hb hg in_R hown hK hP 0 (Nat.lt_of_lt_of_le (by decide : 0 < 19) hn) e0 rfl 3 (by decide) (hg _ kg_586) rfl rfl d_R_scalarDone_35 ?_
        refine lv_iconst (v := 1) hx hb d_R_scalarDone_38 (by decide) ?_
        refine lv_iadd hx hb d_R_scalarDone_39 ?_
        refine kw_put (ty := .int) hx hb hg in_R t_R ty_R nm_R hown hK hP hJ hA hS 0 (Nat.lt_of_lt_of_le (by decide : 0 < 19) hn) e0 rfl 3 (by decide) (hg _ kg_586) rfl rfl (by decide +kernel) rfl rfl (Nat.le_of_ble_eq_true rfl) d_R_scalarDone_40 (fun H locs hP hS => ?_)
        obtain ⟨cs3, hccs3⟩ : ∃ z9, z9 = va_up cs 0 (.inr (5, [.int (nI la), .int th, .int (nI st), .int (nx + 1), .int (nI wi), .int (nI gp), .int (nI vl), .int (nI sa), .int (nI bo), .int cy, .int sd, .ref (ad 1), .ref (ad 2), .ref (ad 3), .int (nI ma), .ref (ad 4), .ref (ad 5), .ref (ad 6), .ref (ad 7), .ref (ad 8), .ref (ad 9), .int (nI qu), .ref (ad 10), .ref (ad 11), .ref (ad 12), .ref (ad 13), .ref (ad 14), .ref (ad 15), .ref (ad 16), .ref (ad 17), .ref (ad 18)])) := ⟨_, rfl⟩
        replace hP : va_P D kc (kw_w ad cs3 n) H := by rw [hccs3]; exact hP
        have e0 : cs3 0 = .inr (5, [.int (nI la), .int th, .int (nI st), .int (nx + 1), .int (nI wi), .int (nI gp), .int (nI vl), .int (nI sa), .int (nI bo), .int cy, .int sd, .ref (ad 1), .ref (ad 2), .ref (ad 3), .int (nI ma), .ref (ad 4), .ref (ad 5), .ref (ad 6), .ref (ad 7), .ref (ad 8), .ref (ad 9), .int (nI qu), .ref (ad 10), .ref (ad 11), .ref (ad 12), .ref (ad 13), .ref (ad 14), .ref (ad 15), .ref (ad 16), .ref (ad 17), .ref (ad 18)]) := by rw [hccs3]; exact va_up_self _ _ _
        replace e1 := (congrFun hccs3 1).trans ((va_up_ne _ _ (by decide)).trans e1)
        replace e2 := (congrFun hccs3 2).trans ((va_up_ne _ _ (by decide)).trans e2)
        replace e3 := (congrFun hccs3 3).trans ((va_up_ne _ _ (by decide)).trans e3)
        replace e4 := (congrFun hccs3 4).trans ((va_up_ne _ _ (by decide)).trans e4)
        replace e5 := (congrFun hccs3 5).trans ((va_up_ne _ _ (by decide)).trans e5)
        replace e6 := (congrFun hccs3 6).trans ((va_up_ne _ _ (by decide)).trans e6)
        replace e7 := (congrFun hccs3 7).trans ((va_up_ne _ _ (by decide)).trans e7)
        replace e8 := (congrFun hccs3 8).trans ((va_up_ne _ _ (by decide)).trans e8)
        replace e9 := (congrFun hccs3 9).trans ((va_up_ne _ _ (by decide)).trans e9)
        replace e10 := (congrFun hccs3 10).trans ((va_up_ne _ _ (by decide)).trans e10)
        replace e11 := (congrFun hccs3 11).trans ((va_up_ne _ _ (by decide)).trans e11)
        replace e12 := (congrFun hccs3 12).trans ((va_up_ne _ _ (by decide)).trans e12)
        replace e13 := (congrFun hccs3 13).trans ((va_up_ne _ _ (by decide)).trans e13)
        replace e14 := (congrFun hccs3 14).trans ((va_up_ne _ _ (by decide)).trans e14)
        replace e15 := (congrFun hccs3 15).trans ((va_up_ne _ _ (by decide)).trans e15)
        replace e16 := (congrFun hccs3 16).trans ((va_up_ne _ _ (by decide)).trans e16)
        replace e17 := (congrFun hccs3 17).trans ((va_up_ne _ _ (by decide)).trans e17)
        replace e18 := (congrFun hccs3 18).trans ((va_up_ne _ _ (by decide)).trans e18)
        clear hccs3
        refine lv_iload_n hx hb d_R_scalarDone_43 rfl (lv_at hl 0 rfl) ?_
        refine lv_if_ne (tgt := 66) hx hb d_R_scalarDone_44 (by decide) (fun _ => ?_) (fun h12 => absurd h12 (by rw [h10] <;> decide))
        refine lv_iload_n hx hb d_R_scalarDone_66 rfl (lv_at hl 0 rfl) ?_
        refine lv_iconst (v := 1) hx hb d_R_scalarDone_67 (by decide) ?_
        refine lv_icmp_ne (tgt := 107) hx hb d_R_scalarDone_68 (by decide) (fun _ => ?_) (fun h13 => absurd h13 (by rw [h10] <;> decide))
        refine lv_iload_n hx hb d_R_scalarDone_107 rfl (lv_at hl 0 rfl) ?_
        refine lv_iconst (v := 2) hx hb d_R_scalarDone_108 (by decide) ?_
        refine lv_icmp_ne (tgt := 143) hx hb d_R_scalarDone_109 (by decide) (fun _ => ?_) (fun h14 => absurd h14 (by rw [h10] <;> decide))
        refine lv_iload_n hx hb d_R_scalarDone_143 rfl (lv_at hl 0 rfl) ?_
        refine lv_iconst (v := 3) hx hb d_R_scalarDone_144 (by decide) ?_
        refine lv_icmp_ne (tgt := 193) hx hb d_R_scalarDone_145 (by decide) (fun _ => ?_) (fun h15 => absurd h15 (by rw [h10] <;> decide))
        refine lv_iload_n hx hb d_R_scalarDone_193 rfl (lv_at hl 0 rfl) ?_
        refine lv_iconst (v := 5) hx hb d_R_scalarDone_194 (by decide) ?_
        refine lv_icmp_ne (tgt := 239) hx hb d_R_scalarDone_195 (by decide) (fun _ => ?_) (fun h16 => absurd h16 (by rw [h10] <;> decide))
        refine lv_iload_n hx hb d_R_scalarDone_239 rfl (lv_at hl 0 rfl) ?_
        refine lv_bipush (v := 6) hx hb d_R_scalarDone_240 (by decide) ?_
        refine lv_icmp_ne (tgt := 253) hx hb d_R_scalarDone_242 (by decide) (fun h17 => absurd (by rw [h10] <;> decide) h17) (fun _ => ?_)
        refine lv_aload_n hx hb d_R_scalarDone_245 rfl (lv_at hl 1 rfl) ?_
        refine lv_iload_n hx hb d_R_scalarDone_246 rfl (lv_at hl 2 rfl) ?_
        refine kw_callv (kw_rV (As := [.int (nI k)]) (rest := []) (q0 := 0) ⟨hx, hb, hml, hown, hg⟩ ⟨callB_of 1 hg (kg_goodG kg_785) rfl rfl rfl (hg _ kg_7) (hg _ kg_782) (by decide +kernel) ⟨by decide, by decide⟩, hg _ kg_784, hg _ (kg_sel (q := (y_R_configures, 31)) (by decide +kernel))⟩ (c_R_configures l hJ hn ⟨e0, e1, e2, e3, e4, e5, e6, e7, e8, e9, e10, e11, e12, e13, e14, e15, e16, e17, e18⟩ hk (by have z0 : ¬ po k = 5 := fun z9 => h1 ((nI_eq (b := 5) (by omega) (by omega)).mpr z9); have z1 : po k = 6 := (nI_eq (b := 6) (by omega) (by omega)).mp h10; exact hc9 (by omega)) (by have z0 : ¬ po k = 5 := fun z9 => h1 ((nI_eq (b := 5) (by omega) (by omega)).mpr z9); have z1 : po k = 6 := (nI_eq (b := 6) (by omega) (by omega)).mp h10; exact hc8 (by omega)) hd8 ha8 (cd := cd)) hK hP (Nat.lt_of_lt_of_le (by decide : 0 < 19) hn) e0 rfl rfl hl.1 rfl (Nat.le_of_ble_eq_true rfl) d_R_scalarDone_247 ⟨Nat.zero_le _, Nat.zero_le _⟩) hA hS (fun cs4 H locs hp hP hS => ?_)
        obtain ⟨e0, e1, e2, e3, e4, e5, e6, e7, e8, e9, e10, e11, e12, e13, e14, e15, e16, e17, e18⟩ := hp
        refine lv_goto (tgt := 278) hx hb d_R_scalarDone_250 (by decide) ?_
        refine lv_iconst (v := 1) hx hb d_R_scalarDone_278 (by decide) ?_
        exact kw_zret hx hb hr hlocks hP hK hS (Or.inr rfl) ⟨by rw [kv_R_scalarDone, if_neg h1, if_pos h10, if_pos h11], (by rw [show kv_R_scalarDone_nx nx qu X po pa pb pn k = (nx + 1) from (by rw [kv_R_scalarDone_nx, if_neg h1, if_pos h10, if_pos h11]), show kv_R_scalarDone_wi wi qu po k cd = kv_R_configures_wi cd from (by rw [kv_R_scalarDone_wi, if_neg h1, if_pos h10, if_pos h11]), show kv_R_scalarDone_gp gp qu po k cd = kv_R_configures_gp cd from (by rw [kv_R_scalarDone_gp, if_neg h1, if_pos h10, if_pos h11]), show kv_R_scalarDone_vl vl qu X po pa k cd = kv_R_configures_vl X pa k cd from (by rw [kv_R_scalarDone_vl, if_neg h1, if_pos h10, if_pos h11]), show kv_R_scalarDone_sa sa qu po k = kv_R_configures_sa from (by rw [kv_R_scalarDone_sa, if_neg h1, if_pos h10, if_pos h11]), show kv_R_scalarDone_bo bo qu X po pa k = bo from (by rw [kv_R_scalarDone_bo, if_neg h1, if_pos h10]), show kv_R_scalarDone_X wi qu X F po pd pa pb pn k cd = kv_R_configures_X X pd pa k cd from (by rw [kv_R_scalarDone_X, if_neg h1, if_pos h10, if_pos h11])]; exact ⟨e0, e1, e2, e3, e4, e5, e6, e7, e8, e9, e10, e11, e12, e13, e14, e15, e16, e17, e18⟩)⟩ d_R_scalarDone_279
      · refine lv_iconst (v := 0) hx hb d_R_scalarDone_31 (by decide) ?_
        exact kw_zret hx hb hr hlocks hP hK hS (Or.inl rfl) ⟨by rw [kv_R_scalarDone, if_neg h1, if_pos h10, if_neg h11], (by rw [show kv_R_scalarDone_nx nx qu X po pa pb pn k = nx from (by rw [kv_R_scalarDone_nx, if_neg h1, if_pos h10, if_neg h11]), show kv_R_scalarDone_wi wi qu po k cd = wi from (by rw [kv_R_scalarDone_wi, if_neg h1, if_pos h10, if_neg h11]), show kv_R_scalarDone_gp gp qu po k cd = gp from (by rw [kv_R_scalarDone_gp, if_neg h1, if_pos h10, if_neg h11]), show kv_R_scalarDone_vl vl qu X po pa k cd = vl from (by rw [kv_R_scalarDone_vl, if_neg h1, if_pos h10, if_neg h11]), show kv_R_scalarDone_sa sa qu po k = sa from (by rw [kv_R_scalarDone_sa, if_neg h1, if_pos h10, if_neg h11]), show kv_R_scalarDone_bo bo qu X po pa k = bo from (by rw [kv_R_scalarDone_bo, if_neg h1, if_pos h10]), show kv_R_scalarDone_X wi qu X F po pd pa pb pn k cd = X from (by rw [kv_R_scalarDone_X, if_neg h1, if_pos h10, if_neg h11])]; exact ⟨e0, e1, e2, e3, e4, e5, e6, e7, e8, e9, e10, e11, e12, e13, e14, e15, e16, e17, e18⟩)⟩ d_R_scalarDone_32
    · refine lv_iload_n hx hb d_R_scalarDone_18 rfl (lv_at hl 0 rfl) ?_
      refine lv_bipush (v := 7) hx hb d_R_scalarDone_19 (by decide) ?_
      refine lv_icmp_ne (tgt := 33) hx hb d_R_scalarDone_21 (by decide) (fun h18 => ?_) (fun h18 => ?_)
      · refine lv_aload_n hx hb d_R_scalarDone_33 rfl (lv_at hl 1 rfl) ?_
        refine lv_dup hx hb d_R_scalarDone_34 rfl ?_
        refine kw_get hx hb hg in_R hown hK hP 0 (Nat.lt_of_lt_of_le (by decide : 0 < 19) hn) e0 rfl 3 (by decide) (hg _ kg_586) rfl rfl d_R_scalarDone_35 ?_
        refine lv_iconst (v := 1) hx hb d_R_scalarDone_38 (by decide) ?_
        refine lv_iadd hx hb d_R_scalarDone_39 ?_
        refine kw_put (ty := .int) hx hb hg in_R t_R ty_R nm_R hown hK hP hJ hA hS 0 (Nat.lt_of_lt_of_le (by decide : 0 < 19) hn) e0 rfl 3 (by decide) (hg _ kg_586) rfl rfl (by decide +kernel) rfl rfl (Nat.le_of_ble_eq_true rfl) d_R_scalarDone_40 (fun H locs hP hS => ?_)
        obtain ⟨cs5, hccs5⟩ : ∃ z9, z9 = va_up cs 0 (.inr (5, [.int (nI la), .int th, .int (nI st), .int (nx + 1), .int (nI wi), .int (nI gp), .int (nI vl), .int (nI sa), .int (nI bo), .int cy, .int sd, .ref (ad 1), .ref (ad 2), .ref (ad 3), .int (nI ma), .ref (ad 4), .ref (ad 5), .ref (ad 6), .ref (ad 7), .ref (ad 8), .ref (ad 9), .int (nI qu), .ref (ad 10), .ref (ad 11), .ref (ad 12), .ref (ad 13), .ref (ad 14), .ref (ad 15), .ref (ad 16), .ref (ad 17), .ref (ad 18)])) := ⟨_, rfl⟩
        replace hP : va_P D kc (kw_w ad cs5 n) H := by rw [hccs5]; exact hP
        have e0 : cs5 0 = .inr (5, [.int (nI la), .int th, .int (nI st), .int (nx + 1), .int (nI wi), .int (nI gp), .int (nI vl), .int (nI sa), .int (nI bo), .int cy, .int sd, .ref (ad 1), .ref (ad 2), .ref (ad 3), .int (nI ma), .ref (ad 4), .ref (ad 5), .ref (ad 6), .ref (ad 7), .ref (ad 8), .ref (ad 9), .int (nI qu), .ref (ad 10), .ref (ad 11), .ref (ad 12), .ref (ad 13), .ref (ad 14), .ref (ad 15), .ref (ad 16), .ref (ad 17), .ref (ad 18)]) := by rw [hccs5]; exact va_up_self _ _ _
        replace e1 := (congrFun hccs5 1).trans ((va_up_ne _ _ (by decide)).trans e1)
        replace e2 := (congrFun hccs5 2).trans ((va_up_ne _ _ (by decide)).trans e2)
        replace e3 := (congrFun hccs5 3).trans ((va_up_ne _ _ (by decide)).trans e3)
        replace e4 := (congrFun hccs5 4).trans ((va_up_ne _ _ (by decide)).trans e4)
        replace e5 := (congrFun hccs5 5).trans ((va_up_ne _ _ (by decide)).trans e5)
        replace e6 := (congrFun hccs5 6).trans ((va_up_ne _ _ (by decide)).trans e6)
        replace e7 := (congrFun hccs5 7).trans ((va_up_ne _ _ (by decide)).trans e7)
        replace e8 := (congrFun hccs5 8).trans ((va_up_ne _ _ (by decide)).trans e8)
        replace e9 := (congrFun hccs5 9).trans ((va_up_ne _ _ (by decide)).trans e9)
        replace e10 := (congrFun hccs5 10).trans ((va_up_ne _ _ (by decide)).trans e10)
        replace e11 := (congrFun hccs5 11).trans ((va_up_ne _ _ (by decide)).trans e11)
        replace e12 := (congrFun hccs5 12).trans ((va_up_ne _ _ (by decide)).trans e12)
        replace e13 := (congrFun hccs5 13).trans ((va_up_ne _ _ (by decide)).trans e13)
        replace e14 := (congrFun hccs5 14).trans ((va_up_ne _ _ (by decide)).trans e14)
        replace e15 := (congrFun hccs5 15).trans ((va_up_ne _ _ (by decide)).trans e15)
        replace e16 := (congrFun hccs5 16).trans ((va_up_ne _ _ (by decide)).trans e16)
        replace e17 := (congrFun hccs5 17).trans ((va_up_ne _ _ (by decide)).trans e17)
        replace e18 := (congrFun hccs5 18).trans ((va_up_ne _ _ (by decide)).trans e18)
        clear hccs5
        refine lv_iload_n hx hb d_R_scalarDone_43 rfl (lv_at hl 0 rfl) ?_
        refine lv_if_ne (tgt := 66) hx hb d_R_scalarDone_44 (by decide) (fun h19 => ?_) (fun h19 => ?_)
        · refine lv_iload_n hx hb d_R_scalarDone_66 rfl (lv_at hl 0 rfl) ?_
          refine lv_iconst (v := 1) hx hb d_R_scalarDone_67 (by decide) ?_
          refine lv_icmp_ne (tgt := 107) hx hb d_R_scalarDone_68 (by decide) (fun h20 => ?_) (fun h20 => ?_)
          · refine lv_iload_n hx hb d_R_scalarDone_107 rfl (lv_at hl 0 rfl) ?_
            refine lv_iconst (v := 2) hx hb d_R_scalarDone_108 (by decide) ?_
            refine lv_icmp_ne (tgt := 143) hx hb d_R_scalarDone_109 (by decide) (fun h21 => ?_) (fun h21 => ?_)
            · refine lv_iload_n hx hb d_R_scalarDone_143 rfl (lv_at hl 0 rfl) ?_
              refine lv_iconst (v := 3) hx hb d_R_scalarDone_144 (by decide) ?_
              refine lv_icmp_ne (tgt := 193) hx hb d_R_scalarDone_145 (by decide) (fun h22 => ?_) (fun h22 => ?_)
              · refine lv_iload_n hx hb d_R_scalarDone_193 rfl (lv_at hl 0 rfl) ?_
                refine lv_iconst (v := 5) hx hb d_R_scalarDone_194 (by decide) ?_
                refine lv_icmp_ne (tgt := 239) hx hb d_R_scalarDone_195 (by decide) (fun h23 => ?_) (fun h23 => ?_)
                · refine lv_iload_n hx hb d_R_scalarDone_239 rfl (lv_at hl 0 rfl) ?_
                  refine lv_bipush (v := 6) hx hb d_R_scalarDone_240 (by decide) ?_
                  refine lv_icmp_ne (tgt := 253) hx hb d_R_scalarDone_242 (by decide) (fun h24 => ?_) (fun h24 => ?_)
                  · refine lv_aload_n hx hb d_R_scalarDone_253 rfl (lv_at hl 1 rfl) ?_
                    refine lv_aload_n hx hb d_R_scalarDone_254 rfl (lv_at hl 1 rfl) ?_
                    refine kw_get hx hb hg in_R hown hK hP 0 (Nat.lt_of_lt_of_le (by decide : 0 < 19) hn) e0 rfl 16 (by decide) (hg _ kg_599) rfl rfl d_R_scalarDone_255 ?_
                    refine lv_iload_n hx hb d_R_scalarDone_258 rfl (lv_at hl 2 rfl) ?_
                    refine kw_iald hx hb hK hP 5 0 (Nat.lt_of_lt_of_le (by decide : 5 < 19) hn) e5 rfl k (rfl) (hk) (by omega) d_R_scalarDone_259 ?_
                    refine lv_aload_n hx hb d_R_scalarDone_260 rfl (lv_at hl 1 rfl) ?_
                    refine lv_aload_n hx hb d_R_scalarDone_261 rfl (lv_at hl 1 rfl) ?_
                    refine kw_get hx hb hg in_R hown hK hP 0 (Nat.lt_of_lt_of_le (by decide : 0 < 19) hn) e0 rfl 17 (by decide) (hg _ kg_600) rfl rfl d_R_scalarDone_262 ?_
                    refine lv_iload_n hx hb d_R_scalarDone_265 rfl (lv_at hl 2 rfl) ?_
                    refine kw_iald hx hb hK hP 6 0 (Nat.lt_of_lt_of_le (by decide : 6 < 19) hn) e6 rfl k (rfl) (hk) (by omega) d_R_scalarDone_266 ?_
                    refine lv_iconst (v := 0) hx hb d_R_scalarDone_267 (by decide) ?_
                    refine lv_aload_n hx hb d_R_scalarDone_268 rfl (lv_at hl 1 rfl) ?_
                    refine kw_get hx hb hg in_R hown hK hP 0 (Nat.lt_of_lt_of_le (by decide : 0 < 19) hn) e0 rfl 4 (by decide) (hg _ kg_587) rfl rfl d_R_scalarDone_269 ?_
                    refine kw_callix (kw_rV (As := [.int (nI (pa k)), .int 0, .int (nI wi)]) (rest := [.int (nI (pd k)), .ref (ad 0)]) (q0 := 0) ⟨hx, hb, hml, hown, hg⟩ ⟨callB_of 3 hg (kg_goodG kg_723) rfl rfl rfl (hg _ kg_7) (hg _ kg_720) (by decide +kernel) ⟨by decide, by decide⟩, hg _ kg_722, hg _ (kg_sel (q := (y_R_element, 31)) (by decide +kernel))⟩ (c_R_element l hn ⟨e0, e1, e2, e3, e4, e5, e6, e7, e8, e9, e10, e11, e12, e13, e14, e15, e16, e17, e18⟩ hfe (i := 0)) hK hP (Nat.lt_of_lt_of_le (by decide : 0 < 19) hn) e0 rfl rfl hl.1 rfl (Nat.le_of_ble_eq_true rfl) d_R_scalarDone_272 ⟨Nat.zero_le _, Nat.zero_le _⟩) hA hS (fun H locs hP hS => ?_)
                    refine kw_callv (kw_rV (As := [.int (nI (pd k)), .int (kv_R_element F (pa k) 0 wi)]) (rest := []) (q0 := 0) ⟨hx, hb, hml, hown, hg⟩ ⟨callB_of 2 hg (kg_goodG kg_781) rfl rfl rfl (hg _ kg_7) (hg _ kg_778) (by decide +kernel) ⟨by decide, by decide⟩, hg _ kg_780, hg _ (kg_sel (q := (y_R_setX, 31)) (by decide +kernel))⟩ (c_R_setX l hJ hn ⟨e0, e1, e2, e3, e4, e5, e6, e7, e8, e9, e10, e11, e12, e13, e14, e15, e16, e17, e18⟩ hd8 ) hK hP (Nat.lt_of_lt_of_le (by decide : 0 < 19) hn) e0 rfl rfl hl.1 rfl (Nat.le_of_ble_eq_true rfl) d_R_scalarDone_275 ⟨Nat.zero_le _, Nat.zero_le _⟩) hA hS (fun cs6 H locs hp hP hS => ?_)
                    obtain ⟨e0, e1, e2, e3, e4, e5, e6, e7, e8, e9, e10, e11, e12, e13, e14, e15, e16, e17, e18⟩ := hp
                    refine lv_iconst (v := 1) hx hb d_R_scalarDone_278 (by decide) ?_
                    exact kw_zret hx hb hr hlocks hP hK hS (Or.inr rfl) ⟨by rw [kv_R_scalarDone, if_neg h1, if_neg h10, if_neg h18, if_neg h19, if_neg h20, if_neg h21, if_neg h22, if_neg h23, if_neg h24], (by rw [show kv_R_scalarDone_nx nx qu X po pa pb pn k = (nx + 1) from (by rw [kv_R_scalarDone_nx, if_neg h1, if_neg h10, if_neg h18, if_neg h19, if_neg h20, if_neg h21, if_neg h22, if_neg h23]), show kv_R_scalarDone_wi wi qu po k cd = wi from (by rw [kv_R_scalarDone_wi, if_neg h1, if_neg h10, if_neg h18, if_neg h19, if_neg h20, if_neg h21, if_neg h22, if_neg h23, if_neg h24]), show kv_R_scalarDone_gp gp qu po k cd = gp from (by rw [kv_R_scalarDone_gp, if_neg h1, if_neg h10, if_neg h18, if_neg h19, if_neg h20, if_neg h21, if_neg h22, if_neg h23, if_neg h24]), show kv_R_scalarDone_vl vl qu X po pa k cd = vl from (by rw [kv_R_scalarDone_vl, if_neg h1, if_neg h10, if_neg h18, if_neg h19, if_neg h20, if_neg h21, if_neg h22, if_neg h23, if_neg h24]), show kv_R_scalarDone_sa sa qu po k = sa from (by rw [kv_R_scalarDone_sa, if_neg h1, if_neg h10, if_neg h18, if_neg h19, if_neg h20, if_neg h21, if_neg h22, if_neg h23, if_neg h24]), show kv_R_scalarDone_bo bo qu X po pa k = bo from (by rw [kv_R_scalarDone_bo, if_neg h1, if_neg h10, if_neg h18, if_neg h19, if_neg h20, if_neg h21, if_neg h22, if_neg h23]), show kv_R_scalarDone_X wi qu X F po pd pa pb pn k cd = kv_R_setX_X X (pd k) (kv_R_element F (pa k) 0 wi) from (by rw [kv_R_scalarDone_X, if_neg h1, if_neg h10, if_neg h18, if_neg h19, if_neg h20, if_neg h21, if_neg h22, if_neg h23, if_neg h24])]; exact ⟨e0, e1, e2, e3, e4, e5, e6, e7, e8, e9, e10, e11, e12, e13, e14, e15, e16, e17, e18⟩)⟩ d_R_scalarDone_279
                  · refine lv_aload_n hx hb d_R_scalarDone_245 rfl (lv_at hl 1 rfl) ?_
                    refine lv_iload_n hx hb d_R_scalarDone_246 rfl (lv_at hl 2 rfl) ?_
                    refine kw_callv (kw_rV (As := [.int (nI k)]) (rest := []) (q0 := 0) ⟨hx, hb, hml, hown, hg⟩ ⟨callB_of 1 hg (kg_goodG kg_785) rfl rfl rfl (hg _ kg_7) (hg _ kg_782) (by decide +kernel) ⟨by decide, by decide⟩, hg _ kg_784, hg _ (kg_sel (q := (y_R_configures, 31)) (by decide +kernel))⟩ (c_R_configures l hJ hn ⟨e0, e1, e2, e3, e4, e5, e6, e7, e8, e9, e10, e11, e12, e13, e14, e15, e16, e17, e18⟩ hk (by have z0 : ¬ po k = 5 := fun z9 => h1 ((nI_eq (b := 5) (by omega) (by omega)).mpr z9); have z1 : ¬ po k = 6 := fun z9 => h10 ((nI_eq (b := 6) (by omega) (by omega)).mpr z9); have z2 : ¬ po k = 7 := fun z9 => h18 ((nI_eq (b := 7) (by omega) (by omega)).mpr z9); have z3 : ¬ po k = 0 := fun z9 => h19 ((nI_eq (b := 0) (by omega) (by omega)).mpr z9); have z4 : ¬ po k = 1 := fun z9 => h20 ((nI_eq (b := 1) (by omega) (by omega)).mpr z9); have z5 : ¬ po k = 2 := fun z9 => h21 ((nI_eq (b := 2) (by omega) (by omega)).mpr z9); have z6 : ¬ po k = 3 := fun z9 => h22 ((nI_eq (b := 3) (by omega) (by omega)).mpr z9); have z7 : ¬ po k = 5 := fun z9 => h23 ((nI_eq (b := 5) (by omega) (by omega)).mpr z9); have z8 : po k = 6 := (nI_eq (b := 6) (by omega) (by omega)).mp h24; exact hc9 (by omega)) (by have z0 : ¬ po k = 5 := fun z9 => h1 ((nI_eq (b := 5) (by omega) (by omega)).mpr z9); have z1 : ¬ po k = 6 := fun z9 => h10 ((nI_eq (b := 6) (by omega) (by omega)).mpr z9); have z2 : ¬ po k = 7 := fun z9 => h18 ((nI_eq (b := 7) (by omega) (by omega)).mpr z9); have z3 : ¬ po k = 0 := fun z9 => h19 ((nI_eq (b := 0) (by omega) (by omega)).mpr z9); have z4 : ¬ po k = 1 := fun z9 => h20 ((nI_eq (b := 1) (by omega) (by omega)).mpr z9); have z5 : ¬ po k = 2 := fun z9 => h21 ((nI_eq (b := 2) (by omega) (by omega)).mpr z9); have z6 : ¬ po k = 3 := fun z9 => h22 ((nI_eq (b := 3) (by omega) (by omega)).mpr z9); have z7 : ¬ po k = 5 := fun z9 => h23 ((nI_eq (b := 5) (by omega) (by omega)).mpr z9); have z8 : po k = 6 := (nI_eq (b := 6) (by omega) (by omega)).mp h24; exact hc8 (by omega)) hd8 ha8 (cd := cd)) hK hP (Nat.lt_of_lt_of_le (by decide : 0 < 19) hn) e0 rfl rfl hl.1 rfl (Nat.le_of_ble_eq_true rfl) d_R_scalarDone_247 ⟨Nat.zero_le _, Nat.zero_le _⟩) hA hS (fun cs7 H locs hp hP hS => ?_)
                    obtain ⟨e0, e1, e2, e3, e4, e5, e6, e7, e8, e9, e10, e11, e12, e13, e14, e15, e16, e17, e18⟩ := hp
                    refine lv_goto (tgt := 278) hx hb d_R_scalarDone_250 (by decide) ?_
                    refine lv_iconst (v := 1) hx hb d_R_scalarDone_278 (by decide) ?_
                    exact kw_zret hx hb hr hlocks hP hK hS (Or.inr rfl) ⟨by rw [kv_R_scalarDone, if_neg h1, if_neg h10, if_neg h18, if_neg h19, if_neg h20, if_neg h21, if_neg h22, if_neg h23, if_pos h24], (by rw [show kv_R_scalarDone_nx nx qu X po pa pb pn k = (nx + 1) from (by rw [kv_R_scalarDone_nx, if_neg h1, if_neg h10, if_neg h18, if_neg h19, if_neg h20, if_neg h21, if_neg h22, if_neg h23]), show kv_R_scalarDone_wi wi qu po k cd = kv_R_configures_wi cd from (by rw [kv_R_scalarDone_wi, if_neg h1, if_neg h10, if_neg h18, if_neg h19, if_neg h20, if_neg h21, if_neg h22, if_neg h23, if_pos h24]), show kv_R_scalarDone_gp gp qu po k cd = kv_R_configures_gp cd from (by rw [kv_R_scalarDone_gp, if_neg h1, if_neg h10, if_neg h18, if_neg h19, if_neg h20, if_neg h21, if_neg h22, if_neg h23, if_pos h24]), show kv_R_scalarDone_vl vl qu X po pa k cd = kv_R_configures_vl X pa k cd from (by rw [kv_R_scalarDone_vl, if_neg h1, if_neg h10, if_neg h18, if_neg h19, if_neg h20, if_neg h21, if_neg h22, if_neg h23, if_pos h24]), show kv_R_scalarDone_sa sa qu po k = kv_R_configures_sa from (by rw [kv_R_scalarDone_sa, if_neg h1, if_neg h10, if_neg h18, if_neg h19, if_neg h20, if_neg h21, if_neg h22, if_neg h23, if_pos h24]), show kv_R_scalarDone_bo bo qu X po pa k = bo from (by rw [kv_R_scalarDone_bo, if_neg h1, if_neg h10, if_neg h18, if_neg h19, if_neg h20, if_neg h21, if_neg h22, if_neg h23]), show kv_R_scalarDone_X wi qu X F po pd pa pb pn k cd = kv_R_configures_X X pd pa k cd from (by rw [kv_R_scalarDone_X, if_neg h1, if_neg h10, if_neg h18, if_neg h19, if_neg h20, if_neg h21, if_neg h22, if_neg h23, if_pos h24])]; exact ⟨e0, e1, e2, e3, e4, e5, e6, e7, e8, e9, e10, e11, e12, e13, e14, e15, e16, e17, e18⟩)⟩ d_R_scalarDone_279
                · refine lv_aload_n hx hb d_R_scalarDone_198 rfl (lv_at hl 1 rfl) ?_
                  refine kw_get hx hb hg in_R hown hK hP 0 (Nat.lt_of_lt_of_le (by decide : 0 < 19) hn) e0 rfl 11 (by decide) (hg _ kg_594) rfl rfl d_R_scalarDone_199 ?_
                  refine lv_aload_n hx hb d_R_scalarDone_202 rfl (lv_at hl 1 rfl) ?_
                  refine kw_get hx hb hg in_R hown hK hP 0 (Nat.lt_of_lt_of_le (by decide : 0 < 19) hn) e0 rfl 17 (by decide) (hg _ kg_600) rfl rfl d_R_scalarDone_203 ?_
                  refine lv_iload_n hx hb d_R_scalarDone_206 rfl (lv_at hl 2 rfl) ?_
                  refine kw_iald hx hb hK hP 6 0 (Nat.lt_of_lt_of_le (by decide : 6 < 19) hn) e6 rfl k (rfl) (hk) (by omega) d_R_scalarDone_207 ?_
                  refine kw_iald hx hb hK hP 1 0 (Nat.lt_of_lt_of_le (by decide : 1 < 19) hn) e1 rfl (pa k) (rfl) (ha8) (by omega) d_R_scalarDone_208 ?_
                  refine lv_istore_n (lv' := [(3, .int (X (pa k))), (2, .int (nI (po k))), (0, .ref (ad 0)), (1, .int (nI k))]) hx hb d_R_scalarDone_209 rfl hl (by decide) rfl (fun ls hl => ?_)
                  refine lv_aload_n hx hb d_R_scalarDone_210 rfl (lv_at hl 2 rfl) ?_
                  have K233 : ∀ (H : Heap) (locs : List Loc) (ls : Array Slot), va_P D kc (kw_w ad cs5 n) H → va_S (kw_A ad n) s.heap H locs → lv_has ls 4 [(3, .int (X (pa k))), (2, .int (nI (po k))), (0, .ref (ad 0)), (1, .int (nI k))] → W p l e (kr 3) s m [.ref (ad 0), .int (nI k)].toArray below meth c H locs 0 0 (MQ below (va_Qi (fun r9 c9 => r9 = kv_R_scalarDone qu po k ∧ kR ad cI cZ c9 la th st (kv_R_scalarDone_nx nx qu X po pa pb pn k) (kv_R_scalarDone_wi wi qu po k cd) (kv_R_scalarDone_gp gp qu po k cd) (kv_R_scalarDone_vl vl qu X po pa k cd) (kv_R_scalarDone_sa sa qu po k) (kv_R_scalarDone_bo bo qu X po pa k) cy sd ma qu (kv_R_scalarDone_X wi qu X F po pd pa pb pn k cd) F M po pd pa pb pn pm wh wd rg fr sp dn bf XA XB) (kw_Pre D kc (ktR cI cZ) ad n) (kw_A ad n)) [.ref (ad 0), .int (nI k)].toArray s 0 0 (kw_A ad n)) (F0 m 233 ls [.int ((if 0 ≤ (X (pa k)) then (if (X (pa k)) ≤ 128 then (X (pa k)) else 128) else 0 : Int32)), .ref (ad 0)]) := by
                    intro H locs ls hP hS hl
                    rw [kn_b_ok]
                    refine kw_put (ty := .int) hx hb hg in_R t_R ty_R nm_R hown hK hP hJ hA hS 0 (Nat.lt_of_lt_of_le (by decide : 0 < 19) hn) e0 rfl 8 (by decide) (hg _ kg_591) rfl rfl (by decide +kernel) rfl rfl (Nat.le_of_ble_eq_true rfl) d_R_scalarDone_233 (fun H locs hP hS => ?_)
                    obtain ⟨cs8, hccs8⟩ : ∃ z9, z9 = va_up cs5 0 (.inr (5, [.int (nI la), .int th, .int (nI st), .int (nx + 1), .int (nI wi), .int (nI gp), .int (nI vl), .int (nI sa), .int (nI (kn_b (X (pa k)))), .int cy, .int sd, .ref (ad 1), .ref (ad 2), .ref (ad 3), .int (nI ma), .ref (ad 4), .ref (ad 5), .ref (ad 6), .ref (ad 7), .ref (ad 8), .ref (ad 9), .int (nI qu), .ref (ad 10), .ref (ad 11), .ref (ad 12), .ref (ad 13), .ref (ad 14), .ref (ad 15), .ref (ad 16), .ref (ad 17), .ref (ad 18)])) := ⟨_, rfl⟩
                    replace hP : va_P D kc (kw_w ad cs8 n) H := by rw [hccs8]; exact hP
                    have e0 : cs8 0 = .inr (5, [.int (nI la), .int th, .int (nI st), .int (nx + 1), .int (nI wi), .int (nI gp), .int (nI vl), .int (nI sa), .int (nI (kn_b (X (pa k)))), .int cy, .int sd, .ref (ad 1), .ref (ad 2), .ref (ad 3), .int (nI ma), .ref (ad 4), .ref (ad 5), .ref (ad 6), .ref (ad 7), .ref (ad 8), .ref (ad 9), .int (nI qu), .ref (ad 10), .ref (ad 11), .ref (ad 12), .ref (ad 13), .ref (ad 14), .ref (ad 15), .ref (ad 16), .ref (ad 17), .ref (ad 18)]) := by rw [hccs8]; exact va_up_self _ _ _
                    replace e1 := (congrFun hccs8 1).trans ((va_up_ne _ _ (by decide)).trans e1)
                    replace e2 := (congrFun hccs8 2).trans ((va_up_ne _ _ (by decide)).trans e2)
                    replace e3 := (congrFun hccs8 3).trans ((va_up_ne _ _ (by decide)).trans e3)
                    replace e4 := (congrFun hccs8 4).trans ((va_up_ne _ _ (by decide)).trans e4)
                    replace e5 := (congrFun hccs8 5).trans ((va_up_ne _ _ (by decide)).trans e5)
                    replace e6 := (congrFun hccs8 6).trans ((va_up_ne _ _ (by decide)).trans e6)
                    replace e7 := (congrFun hccs8 7).trans ((va_up_ne _ _ (by decide)).trans e7)
                    replace e8 := (congrFun hccs8 8).trans ((va_up_ne _ _ (by decide)).trans e8)
                    replace e9 := (congrFun hccs8 9).trans ((va_up_ne _ _ (by decide)).trans e9)
                    replace e10 := (congrFun hccs8 10).trans ((va_up_ne _ _ (by decide)).trans e10)
                    replace e11 := (congrFun hccs8 11).trans ((va_up_ne _ _ (by decide)).trans e11)
                    replace e12 := (congrFun hccs8 12).trans ((va_up_ne _ _ (by decide)).trans e12)
                    replace e13 := (congrFun hccs8 13).trans ((va_up_ne _ _ (by decide)).trans e13)
                    replace e14 := (congrFun hccs8 14).trans ((va_up_ne _ _ (by decide)).trans e14)
                    replace e15 := (congrFun hccs8 15).trans ((va_up_ne _ _ (by decide)).trans e15)
                    replace e16 := (congrFun hccs8 16).trans ((va_up_ne _ _ (by decide)).trans e16)
                    replace e17 := (congrFun hccs8 17).trans ((va_up_ne _ _ (by decide)).trans e17)
                    replace e18 := (congrFun hccs8 18).trans ((va_up_ne _ _ (by decide)).trans e18)
                    clear hccs8
                    refine lv_goto (tgt := 278) hx hb d_R_scalarDone_236 (by decide) ?_
                    refine lv_iconst (v := 1) hx hb d_R_scalarDone_278 (by decide) ?_
                    exact kw_zret hx hb hr hlocks hP hK hS (Or.inr rfl) ⟨by rw [kv_R_scalarDone, if_neg h1, if_neg h10, if_neg h18, if_neg h19, if_neg h20, if_neg h21, if_neg h22, if_pos h23], (by rw [show kv_R_scalarDone_nx nx qu X po pa pb pn k = nx + 1 from (by rw [kv_R_scalarDone_nx, if_neg h1, if_neg h10, if_neg h18, if_neg h19, if_neg h20, if_neg h21, if_neg h22, if_pos h23]), show kv_R_scalarDone_wi wi qu po k cd = wi from (by rw [kv_R_scalarDone_wi, if_neg h1, if_neg h10, if_neg h18, if_neg h19, if_neg h20, if_neg h21, if_neg h22, if_pos h23]), show kv_R_scalarDone_gp gp qu po k cd = gp from (by rw [kv_R_scalarDone_gp, if_neg h1, if_neg h10, if_neg h18, if_neg h19, if_neg h20, if_neg h21, if_neg h22, if_pos h23]), show kv_R_scalarDone_vl vl qu X po pa k cd = vl from (by rw [kv_R_scalarDone_vl, if_neg h1, if_neg h10, if_neg h18, if_neg h19, if_neg h20, if_neg h21, if_neg h22, if_pos h23]), show kv_R_scalarDone_sa sa qu po k = sa from (by rw [kv_R_scalarDone_sa, if_neg h1, if_neg h10, if_neg h18, if_neg h19, if_neg h20, if_neg h21, if_neg h22, if_pos h23]), show kv_R_scalarDone_bo bo qu X po pa k = kn_b (X (pa k)) from (by rw [kv_R_scalarDone_bo, if_neg h1, if_neg h10, if_neg h18, if_neg h19, if_neg h20, if_neg h21, if_neg h22, if_pos h23]), show kv_R_scalarDone_X wi qu X F po pd pa pb pn k cd = X from (by rw [kv_R_scalarDone_X, if_neg h1, if_neg h10, if_neg h18, if_neg h19, if_neg h20, if_neg h21, if_neg h22, if_pos h23])]; exact ⟨e0, e1, e2, e3, e4, e5, e6, e7, e8, e9, e10, e11, e12, e13, e14, e15, e16, e17, e18⟩)⟩ d_R_scalarDone_279
                  refine lv_iload_n hx hb d_R_scalarDone_211 rfl (lv_at hl 0 rfl) ?_
                  refine lv_if_ge (tgt := 219) hx hb d_R_scalarDone_212 (by decide) (fun h25 => ?_) (fun h25 => ?_)
                  · refine lv_iload_n hx hb d_R_scalarDone_219 rfl (lv_at hl 0 rfl) ?_
                    refine lv_sipush (v := 128) hx hb d_R_scalarDone_220 (by decide) ?_
                    refine lv_icmp_le (tgt := 232) hx hb d_R_scalarDone_223 (by decide) (fun h26 => ?_) (fun h26 => ?_)
                    · refine lv_iload_n hx hb d_R_scalarDone_232 rfl (lv_at hl 0 rfl) ?_
                      exact W.eq (congrArg (fun z9 => F0 m 233 ls (.int z9 :: [.ref (ad 0)])) (show X (pa k) = (if 0 ≤ (X (pa k)) then (if (X (pa k)) ≤ 128 then (X (pa k)) else 128) else 0 : Int32) from (by rw [if_pos h25, if_pos h26]))) (K233 _ _ _ hP hS hl)
                    · refine lv_sipush (v := 128) hx hb d_R_scalarDone_226 (by decide) ?_
                      refine lv_goto (tgt := 233) hx hb d_R_scalarDone_229 (by decide) ?_
                      exact W.eq (congrArg (fun z9 => F0 m 233 ls (.int z9 :: [.ref (ad 0)])) (show (128 : Int32) = (if 0 ≤ (X (pa k)) then (if (X (pa k)) ≤ 128 then (X (pa k)) else 128) else 0 : Int32) from (by rw [if_pos h25, if_neg h26]))) (K233 _ _ _ hP hS hl)
                  · refine lv_iconst (v := 0) hx hb d_R_scalarDone_215 (by decide) ?_
                    refine lv_goto (tgt := 233) hx hb d_R_scalarDone_216 (by decide) ?_
                    exact W.eq (congrArg (fun z9 => F0 m 233 ls (.int z9 :: [.ref (ad 0)])) (show (0 : Int32) = (if 0 ≤ (X (pa k)) then (if (X (pa k)) ≤ 128 then (X (pa k)) else 128) else 0 : Int32) from (by rw [if_neg h25]))) (K233 _ _ _ hP hS hl)
              · refine lv_aload_n hx hb d_R_scalarDone_148 rfl (lv_at hl 1 rfl) ?_
                have K187 : ∀ (H : Heap) (locs : List Loc) (ls : Array Slot), va_P D kc (kw_w ad cs5 n) H → va_S (kw_A ad n) s.heap H locs → lv_has ls 4 [(2, .int (nI (po k))), (0, .ref (ad 0)), (1, .int (nI k))] → W p l e (kr 3) s m [.ref (ad 0), .int (nI k)].toArray below meth c H locs 0 0 (MQ below (va_Qi (fun r9 c9 => r9 = kv_R_scalarDone qu po k ∧ kR ad cI cZ c9 la th st (kv_R_scalarDone_nx nx qu X po pa pb pn k) (kv_R_scalarDone_wi wi qu po k cd) (kv_R_scalarDone_gp gp qu po k cd) (kv_R_scalarDone_vl vl qu X po pa k cd) (kv_R_scalarDone_sa sa qu po k) (kv_R_scalarDone_bo bo qu X po pa k) cy sd ma qu (kv_R_scalarDone_X wi qu X F po pd pa pb pn k cd) F M po pd pa pb pn pm wh wd rg fr sp dn bf XA XB) (kw_Pre D kc (ktR cI cZ) ad n) (kw_A ad n)) [.ref (ad 0), .int (nI k)].toArray s 0 0 (kw_A ad n)) (F0 m 187 ls [.int ((if (X (pa k)) = (X (pb k)) then (nx + 1) else (pn k) : Int32)), .ref (ad 0)]) := by
                  intro H locs ls hP hS hl
                  refine kw_put (ty := .int) hx hb hg in_R t_R ty_R nm_R hown hK hP hJ hA hS 0 (Nat.lt_of_lt_of_le (by decide : 0 < 19) hn) e0 rfl 3 (by decide) (hg _ kg_586) rfl rfl (by decide +kernel) rfl rfl (Nat.le_of_ble_eq_true rfl) d_R_scalarDone_187 (fun H locs hP hS => ?_)
                  obtain ⟨cs9, hccs9⟩ : ∃ z9, z9 = va_up cs5 0 (.inr (5, [.int (nI la), .int th, .int (nI st), .int ((if (X (pa k)) = (X (pb k)) then (nx + 1) else (pn k) : Int32)), .int (nI wi), .int (nI gp), .int (nI vl), .int (nI sa), .int (nI bo), .int cy, .int sd, .ref (ad 1), .ref (ad 2), .ref (ad 3), .int (nI ma), .ref (ad 4), .ref (ad 5), .ref (ad 6), .ref (ad 7), .ref (ad 8), .ref (ad 9), .int (nI qu), .ref (ad 10), .ref (ad 11), .ref (ad 12), .ref (ad 13), .ref (ad 14), .ref (ad 15), .ref (ad 16), .ref (ad 17), .ref (ad 18)])) := ⟨_, rfl⟩
                  replace hP : va_P D kc (kw_w ad cs9 n) H := by rw [hccs9]; exact hP
                  have e0 : cs9 0 = .inr (5, [.int (nI la), .int th, .int (nI st), .int ((if (X (pa k)) = (X (pb k)) then (nx + 1) else (pn k) : Int32)), .int (nI wi), .int (nI gp), .int (nI vl), .int (nI sa), .int (nI bo), .int cy, .int sd, .ref (ad 1), .ref (ad 2), .ref (ad 3), .int (nI ma), .ref (ad 4), .ref (ad 5), .ref (ad 6), .ref (ad 7), .ref (ad 8), .ref (ad 9), .int (nI qu), .ref (ad 10), .ref (ad 11), .ref (ad 12), .ref (ad 13), .ref (ad 14), .ref (ad 15), .ref (ad 16), .ref (ad 17), .ref (ad 18)]) := by rw [hccs9]; exact va_up_self _ _ _
                  replace e1 := (congrFun hccs9 1).trans ((va_up_ne _ _ (by decide)).trans e1)
                  replace e2 := (congrFun hccs9 2).trans ((va_up_ne _ _ (by decide)).trans e2)
                  replace e3 := (congrFun hccs9 3).trans ((va_up_ne _ _ (by decide)).trans e3)
                  replace e4 := (congrFun hccs9 4).trans ((va_up_ne _ _ (by decide)).trans e4)
                  replace e5 := (congrFun hccs9 5).trans ((va_up_ne _ _ (by decide)).trans e5)
                  replace e6 := (congrFun hccs9 6).trans ((va_up_ne _ _ (by decide)).trans e6)
                  replace e7 := (congrFun hccs9 7).trans ((va_up_ne _ _ (by decide)).trans e7)
                  replace e8 := (congrFun hccs9 8).trans ((va_up_ne _ _ (by decide)).trans e8)
                  replace e9 := (congrFun hccs9 9).trans ((va_up_ne _ _ (by decide)).trans e9)
                  replace e10 := (congrFun hccs9 10).trans ((va_up_ne _ _ (by decide)).trans e10)
                  replace e11 := (congrFun hccs9 11).trans ((va_up_ne _ _ (by decide)).trans e11)
                  replace e12 := (congrFun hccs9 12).trans ((va_up_ne _ _ (by decide)).trans e12)
                  replace e13 := (congrFun hccs9 13).trans ((va_up_ne _ _ (by decide)).trans e13)
                  replace e14 := (congrFun hccs9 14).trans ((va_up_ne _ _ (by decide)).trans e14)
                  replace e15 := (congrFun hccs9 15).trans ((va_up_ne _ _ (by decide)).trans e15)
                  replace e16 := (congrFun hccs9 16).trans ((va_up_ne _ _ (by decide)).trans e16)
                  replace e17 := (congrFun hccs9 17).trans ((va_up_ne _ _ (by decide)).trans e17)
                  replace e18 := (congrFun hccs9 18).trans ((va_up_ne _ _ (by decide)).trans e18)
                  clear hccs9
                  refine lv_goto (tgt := 278) hx hb d_R_scalarDone_190 (by decide) ?_
                  refine lv_iconst (v := 1) hx hb d_R_scalarDone_278 (by decide) ?_
                  exact kw_zret hx hb hr hlocks hP hK hS (Or.inr rfl) ⟨by rw [kv_R_scalarDone, if_neg h1, if_neg h10, if_neg h18, if_neg h19, if_neg h20, if_neg h21, if_pos h22], (by rw [show kv_R_scalarDone_nx nx qu X po pa pb pn k = (if (X (pa k)) = (X (pb k)) then (nx + 1) else (pn k) : Int32) from (by rw [kv_R_scalarDone_nx, if_neg h1, if_neg h10, if_neg h18, if_neg h19, if_neg h20, if_neg h21, if_pos h22]), show kv_R_scalarDone_wi wi qu po k cd = wi from (by rw [kv_R_scalarDone_wi, if_neg h1, if_neg h10, if_neg h18, if_neg h19, if_neg h20, if_neg h21, if_pos h22]), show kv_R_scalarDone_gp gp qu po k cd = gp from (by rw [kv_R_scalarDone_gp, if_neg h1, if_neg h10, if_neg h18, if_neg h19, if_neg h20, if_neg h21, if_pos h22]), show kv_R_scalarDone_vl vl qu X po pa k cd = vl from (by rw [kv_R_scalarDone_vl, if_neg h1, if_neg h10, if_neg h18, if_neg h19, if_neg h20, if_neg h21, if_pos h22]), show kv_R_scalarDone_sa sa qu po k = sa from (by rw [kv_R_scalarDone_sa, if_neg h1, if_neg h10, if_neg h18, if_neg h19, if_neg h20, if_neg h21, if_pos h22]), show kv_R_scalarDone_bo bo qu X po pa k = bo from (by rw [kv_R_scalarDone_bo, if_neg h1, if_neg h10, if_neg h18, if_neg h19, if_neg h20, if_neg h21, if_pos h22]), show kv_R_scalarDone_X wi qu X F po pd pa pb pn k cd = X from (by rw [kv_R_scalarDone_X, if_neg h1, if_neg h10, if_neg h18, if_neg h19, if_neg h20, if_neg h21, if_pos h22])]; exact ⟨e0, e1, e2, e3, e4, e5, e6, e7, e8, e9, e10, e11, e12, e13, e14, e15, e16, e17, e18⟩)⟩ d_R_scalarDone_279
                refine lv_aload_n hx hb d_R_scalarDone_149 rfl (lv_at hl 1 rfl) ?_
                refine kw_get hx hb hg in_R hown hK hP 0 (Nat.lt_of_lt_of_le (by decide : 0 < 19) hn) e0 rfl 11 (by decide) (hg _ kg_594) rfl rfl d_R_scalarDone_150 ?_
                refine lv_aload_n hx hb d_R_scalarDone_153 rfl (lv_at hl 1 rfl) ?_
                refine kw_get hx hb hg in_R hown hK hP 0 (Nat.lt_of_lt_of_le (by decide : 0 < 19) hn) e0 rfl 17 (by decide) (hg _ kg_600) rfl rfl d_R_scalarDone_154 ?_
                refine lv_iload_n hx hb d_R_scalarDone_157 rfl (lv_at hl 2 rfl) ?_
                refine kw_iald hx hb hK hP 6 0 (Nat.lt_of_lt_of_le (by decide : 6 < 19) hn) e6 rfl k (rfl) (hk) (by omega) d_R_scalarDone_158 ?_
                refine kw_iald hx hb hK hP 1 0 (Nat.lt_of_lt_of_le (by decide : 1 < 19) hn) e1 rfl (pa k) (rfl) (ha8) (by omega) d_R_scalarDone_159 ?_
                refine lv_aload_n hx hb d_R_scalarDone_160 rfl (lv_at hl 1 rfl) ?_
                refine kw_get hx hb hg in_R hown hK hP 0 (Nat.lt_of_lt_of_le (by decide : 0 < 19) hn) e0 rfl 11 (by decide) (hg _ kg_594) rfl rfl d_R_scalarDone_161 ?_
                refine lv_aload_n hx hb d_R_scalarDone_164 rfl (lv_at hl 1 rfl) ?_
                refine kw_get hx hb hg in_R hown hK hP 0 (Nat.lt_of_lt_of_le (by decide : 0 < 19) hn) e0 rfl 18 (by decide) (hg _ kg_601) rfl rfl d_R_scalarDone_165 ?_
                refine lv_iload_n hx hb d_R_scalarDone_168 rfl (lv_at hl 2 rfl) ?_
                refine kw_iald hx hb hK hP 7 0 (Nat.lt_of_lt_of_le (by decide : 7 < 19) hn) e7 rfl k (rfl) (hk) (by omega) d_R_scalarDone_169 ?_
                refine kw_iald hx hb hK hP 1 0 (Nat.lt_of_lt_of_le (by decide : 1 < 19) hn) e1 rfl (pb k) (rfl) (hb8) (by omega) d_R_scalarDone_170 ?_
                refine lv_icmp_eq (tgt := 183) hx hb d_R_scalarDone_171 (by decide) (fun h27 => ?_) (fun h27 => ?_)
                · refine lv_aload_n hx hb d_R_scalarDone_183 rfl (lv_at hl 1 rfl) ?_
                  refine kw_get hx hb hg in_R hown hK hP 0 (Nat.lt_of_lt_of_le (by decide : 0 < 19) hn) e0 rfl 3 (by decide) (hg _ kg_586) rfl rfl d_R_scalarDone_184 ?_
                  exact W.eq (congrArg (fun z9 => F0 m 187 ls (.int z9 :: [.ref (ad 0)])) (show nx + 1 = (if (X (pa k)) = (X (pb k)) then (nx + 1) else (pn k) : Int32) from (by rw [if_pos h27]))) (K187 _ _ _ hP hS hl)
                · refine lv_aload_n hx hb d_R_scalarDone_174 rfl (lv_at hl 1 rfl) ?_
                  refine kw_get hx hb hg in_R hown hK hP 0 (Nat.lt_of_lt_of_le (by decide : 0 < 19) hn) e0 rfl 19 (by decide) (hg _ kg_602) rfl rfl d_R_scalarDone_175 ?_
                  refine lv_iload_n hx hb d_R_scalarDone_178 rfl (lv_at hl 2 rfl) ?_
                  refine kw_iald hx hb hK hP 8 0 (Nat.lt_of_lt_of_le (by decide : 8 < 19) hn) e8 rfl k (rfl) (hk) (by omega) d_R_scalarDone_179 ?_
                  refine lv_goto (tgt := 187) hx hb d_R_scalarDone_180 (by decide) ?_
                  exact W.eq (congrArg (fun z9 => F0 m 187 ls (.int z9 :: [.ref (ad 0)])) (show pn k = (if (X (pa k)) = (X (pb k)) then (nx + 1) else (pn k) : Int32) from (by rw [if_neg h27]))) (K187 _ _ _ hP hS hl)
            · refine lv_aload_n hx hb d_R_scalarDone_112 rfl (lv_at hl 1 rfl) ?_
              refine lv_aload_n hx hb d_R_scalarDone_113 rfl (lv_at hl 1 rfl) ?_
              refine kw_get hx hb hg in_R hown hK hP 0 (Nat.lt_of_lt_of_le (by decide : 0 < 19) hn) e0 rfl 16 (by decide) (hg _ kg_599) rfl rfl d_R_scalarDone_114 ?_
              refine lv_iload_n hx hb d_R_scalarDone_117 rfl (lv_at hl 2 rfl) ?_
              refine kw_iald hx hb hK hP 5 0 (Nat.lt_of_lt_of_le (by decide : 5 < 19) hn) e5 rfl k (rfl) (hk) (by omega) d_R_scalarDone_118 ?_
              refine lv_aload_n hx hb d_R_scalarDone_119 rfl (lv_at hl 1 rfl) ?_
              refine kw_get hx hb hg in_R hown hK hP 0 (Nat.lt_of_lt_of_le (by decide : 0 < 19) hn) e0 rfl 11 (by decide) (hg _ kg_594) rfl rfl d_R_scalarDone_120 ?_
              refine lv_aload_n hx hb d_R_scalarDone_123 rfl (lv_at hl 1 rfl) ?_
              refine kw_get hx hb hg in_R hown hK hP 0 (Nat.lt_of_lt_of_le (by decide : 0 < 19) hn) e0 rfl 17 (by decide) (hg _ kg_600) rfl rfl d_R_scalarDone_124 ?_
              refine lv_iload_n hx hb d_R_scalarDone_127 rfl (lv_at hl 2 rfl) ?_
              refine kw_iald hx hb hK hP 6 0 (Nat.lt_of_lt_of_le (by decide : 6 < 19) hn) e6 rfl k (rfl) (hk) (by omega) d_R_scalarDone_128 ?_
              refine kw_iald hx hb hK hP 1 0 (Nat.lt_of_lt_of_le (by decide : 1 < 19) hn) e1 rfl (pa k) (rfl) (ha8) (by omega) d_R_scalarDone_129 ?_
              refine lv_aload_n hx hb d_R_scalarDone_130 rfl (lv_at hl 1 rfl) ?_
              refine kw_get hx hb hg in_R hown hK hP 0 (Nat.lt_of_lt_of_le (by decide : 0 < 19) hn) e0 rfl 19 (by decide) (hg _ kg_602) rfl rfl d_R_scalarDone_131 ?_
              refine lv_iload_n hx hb d_R_scalarDone_134 rfl (lv_at hl 2 rfl) ?_
              refine kw_iald hx hb hK hP 8 0 (Nat.lt_of_lt_of_le (by decide : 8 < 19) hn) e8 rfl k (rfl) (hk) (by omega) d_R_scalarDone_135 ?_
              refine lv_iadd hx hb d_R_scalarDone_136 ?_
              refine kw_callv (kw_rV (As := [.int (nI (pd k)), .int ((X (pa k)) + (pn k))]) (rest := []) (q0 := 0) ⟨hx, hb, hml, hown, hg⟩ ⟨callB_of 2 hg (kg_goodG kg_781) rfl rfl rfl (hg _ kg_7) (hg _ kg_778) (by decide +kernel) ⟨by decide, by decide⟩, hg _ kg_780, hg _ (kg_sel (q := (y_R_setX, 31)) (by decide +kernel))⟩ (c_R_setX l hJ hn ⟨e0, e1, e2, e3, e4, e5, e6, e7, e8, e9, e10, e11, e12, e13, e14, e15, e16, e17, e18⟩ hd8 ) hK hP (Nat.lt_of_lt_of_le (by decide : 0 < 19) hn) e0 rfl rfl hl.1 rfl (Nat.le_of_ble_eq_true rfl) d_R_scalarDone_137 ⟨Nat.zero_le _, Nat.zero_le _⟩) hA hS (fun cs10 H locs hp hP hS => ?_)
              obtain ⟨e0, e1, e2, e3, e4, e5, e6, e7, e8, e9, e10, e11, e12, e13, e14, e15, e16, e17, e18⟩ := hp
              refine lv_goto (tgt := 278) hx hb d_R_scalarDone_140 (by decide) ?_
              refine lv_iconst (v := 1) hx hb d_R_scalarDone_278 (by decide) ?_
              exact kw_zret hx hb hr hlocks hP hK hS (Or.inr rfl) ⟨by rw [kv_R_scalarDone, if_neg h1, if_neg h10, if_neg h18, if_neg h19, if_neg h20, if_pos h21], (by rw [show kv_R_scalarDone_nx nx qu X po pa pb pn k = (nx + 1) from (by rw [kv_R_scalarDone_nx, if_neg h1, if_neg h10, if_neg h18, if_neg h19, if_neg h20, if_pos h21]), show kv_R_scalarDone_wi wi qu po k cd = wi from (by rw [kv_R_scalarDone_wi, if_neg h1, if_neg h10, if_neg h18, if_neg h19, if_neg h20, if_pos h21]), show kv_R_scalarDone_gp gp qu po k cd = gp from (by rw [kv_R_scalarDone_gp, if_neg h1, if_neg h10, if_neg h18, if_neg h19, if_neg h20, if_pos h21]), show kv_R_scalarDone_vl vl qu X po pa k cd = vl from (by rw [kv_R_scalarDone_vl, if_neg h1, if_neg h10, if_neg h18, if_neg h19, if_neg h20, if_pos h21]), show kv_R_scalarDone_sa sa qu po k = sa from (by rw [kv_R_scalarDone_sa, if_neg h1, if_neg h10, if_neg h18, if_neg h19, if_neg h20, if_pos h21]), show kv_R_scalarDone_bo bo qu X po pa k = bo from (by rw [kv_R_scalarDone_bo, if_neg h1, if_neg h10, if_neg h18, if_neg h19, if_neg h20, if_pos h21]), show kv_R_scalarDone_X wi qu X F po pd pa pb pn k cd = kv_R_setX_X X (pd k) ((X (pa k)) + (pn k)) from (by rw [kv_R_scalarDone_X, if_neg h1, if_neg h10, if_neg h18, if_neg h19, if_neg h20, if_pos h21])]; exact ⟨e0, e1, e2, e3, e4, e5, e6, e7, e8, e9, e10, e11, e12, e13, e14, e15, e16, e17, e18⟩)⟩ d_R_scalarDone_279
          · refine lv_aload_n hx hb d_R_scalarDone_71 rfl (lv_at hl 1 rfl) ?_
            refine lv_aload_n hx hb d_R_scalarDone_72 rfl (lv_at hl 1 rfl) ?_
            refine kw_get hx hb hg in_R hown hK hP 0 (Nat.lt_of_lt_of_le (by decide : 0 < 19) hn) e0 rfl 16 (by decide) (hg _ kg_599) rfl rfl d_R_scalarDone_73 ?_
            refine lv_iload_n hx hb d_R_scalarDone_76 rfl (lv_at hl 2 rfl) ?_
            refine kw_iald hx hb hK hP 5 0 (Nat.lt_of_lt_of_le (by decide : 5 < 19) hn) e5 rfl k (rfl) (hk) (by omega) d_R_scalarDone_77 ?_
            refine lv_aload_n hx hb d_R_scalarDone_78 rfl (lv_at hl 1 rfl) ?_
            refine kw_get hx hb hg in_R hown hK hP 0 (Nat.lt_of_lt_of_le (by decide : 0 < 19) hn) e0 rfl 11 (by decide) (hg _ kg_594) rfl rfl d_R_scalarDone_79 ?_
            refine lv_aload_n hx hb d_R_scalarDone_82 rfl (lv_at hl 1 rfl) ?_
            refine kw_get hx hb hg in_R hown hK hP 0 (Nat.lt_of_lt_of_le (by decide : 0 < 19) hn) e0 rfl 17 (by decide) (hg _ kg_600) rfl rfl d_R_scalarDone_83 ?_
            refine lv_iload_n hx hb d_R_scalarDone_86 rfl (lv_at hl 2 rfl) ?_
            refine kw_iald hx hb hK hP 6 0 (Nat.lt_of_lt_of_le (by decide : 6 < 19) hn) e6 rfl k (rfl) (hk) (by omega) d_R_scalarDone_87 ?_
            refine kw_iald hx hb hK hP 1 0 (Nat.lt_of_lt_of_le (by decide : 1 < 19) hn) e1 rfl (pa k) (rfl) (ha8) (by omega) d_R_scalarDone_88 ?_
            refine lv_aload_n hx hb d_R_scalarDone_89 rfl (lv_at hl 1 rfl) ?_
            refine kw_get hx hb hg in_R hown hK hP 0 (Nat.lt_of_lt_of_le (by decide : 0 < 19) hn) e0 rfl 11 (by decide) (hg _ kg_594) rfl rfl d_R_scalarDone_90 ?_
            refine lv_aload_n hx hb d_R_scalarDone_93 rfl (lv_at hl 1 rfl) ?_
            refine kw_get hx hb hg in_R hown hK hP 0 (Nat.lt_of_lt_of_le (by decide : 0 < 19) hn) e0 rfl 18 (by decide) (hg _ kg_601) rfl rfl d_R_scalarDone_94 ?_
            refine lv_iload_n hx hb d_R_scalarDone_97 rfl (lv_at hl 2 rfl) ?_
            refine kw_iald hx hb hK hP 7 0 (Nat.lt_of_lt_of_le (by decide : 7 < 19) hn) e7 rfl k (rfl) (hk) (by omega) d_R_scalarDone_98 ?_
            refine kw_iald hx hb hK hP 1 0 (Nat.lt_of_lt_of_le (by decide : 1 < 19) hn) e1 rfl (pb k) (rfl) (hb8) (by omega) d_R_scalarDone_99 ?_
            refine lv_iadd hx hb d_R_scalarDone_100 ?_
            refine kw_callv (kw_rV (As := [.int (nI (pd k)), .int ((X (pa k)) + (X (pb k)))]) (rest := []) (q0 := 0) ⟨hx, hb, hml, hown, hg⟩ ⟨callB_of 2 hg (kg_goodG kg_781) rfl rfl rfl (hg _ kg_7) (hg _ kg_778) (by decide +kernel) ⟨by decide, by decide⟩, hg _ kg_780, hg _ (kg_sel (q := (y_R_setX, 31)) (by decide +kernel))⟩ (c_R_setX l hJ hn ⟨e0, e1, e2, e3, e4, e5, e6, e7, e8, e9, e10, e11, e12, e13, e14, e15, e16, e17, e18⟩ hd8 ) hK hP (Nat.lt_of_lt_of_le (by decide : 0 < 19) hn) e0 rfl rfl hl.1 rfl (Nat.le_of_ble_eq_true rfl) d_R_scalarDone_101 ⟨Nat.zero_le _, Nat.zero_le _⟩) hA hS (fun cs11 H locs hp hP hS => ?_)
            obtain ⟨e0, e1, e2, e3, e4, e5, e6, e7, e8, e9, e10, e11, e12, e13, e14, e15, e16, e17, e18⟩ := hp
            refine lv_goto (tgt := 278) hx hb d_R_scalarDone_104 (by decide) ?_
            refine lv_iconst (v := 1) hx hb d_R_scalarDone_278 (by decide) ?_
            exact kw_zret hx hb hr hlocks hP hK hS (Or.inr rfl) ⟨by rw [kv_R_scalarDone, if_neg h1, if_neg h10, if_neg h18, if_neg h19, if_pos h20], (by rw [show kv_R_scalarDone_nx nx qu X po pa pb pn k = (nx + 1) from (by rw [kv_R_scalarDone_nx, if_neg h1, if_neg h10, if_neg h18, if_neg h19, if_pos h20]), show kv_R_scalarDone_wi wi qu po k cd = wi from (by rw [kv_R_scalarDone_wi, if_neg h1, if_neg h10, if_neg h18, if_neg h19, if_pos h20]), show kv_R_scalarDone_gp gp qu po k cd = gp from (by rw [kv_R_scalarDone_gp, if_neg h1, if_neg h10, if_neg h18, if_neg h19, if_pos h20]), show kv_R_scalarDone_vl vl qu X po pa k cd = vl from (by rw [kv_R_scalarDone_vl, if_neg h1, if_neg h10, if_neg h18, if_neg h19, if_pos h20]), show kv_R_scalarDone_sa sa qu po k = sa from (by rw [kv_R_scalarDone_sa, if_neg h1, if_neg h10, if_neg h18, if_neg h19, if_pos h20]), show kv_R_scalarDone_bo bo qu X po pa k = bo from (by rw [kv_R_scalarDone_bo, if_neg h1, if_neg h10, if_neg h18, if_neg h19, if_pos h20]), show kv_R_scalarDone_X wi qu X F po pd pa pb pn k cd = kv_R_setX_X X (pd k) ((X (pa k)) + (X (pb k))) from (by rw [kv_R_scalarDone_X, if_neg h1, if_neg h10, if_neg h18, if_neg h19, if_pos h20])]; exact ⟨e0, e1, e2, e3, e4, e5, e6, e7, e8, e9, e10, e11, e12, e13, e14, e15, e16, e17, e18⟩)⟩ d_R_scalarDone_279
        · refine lv_aload_n hx hb d_R_scalarDone_47 rfl (lv_at hl 1 rfl) ?_
          refine lv_aload_n hx hb d_R_scalarDone_48 rfl (lv_at hl 1 rfl) ?_
          refine kw_get hx hb hg in_R hown hK hP 0 (Nat.lt_of_lt_of_le (by decide : 0 < 19) hn) e0 rfl 16 (by decide) (hg _ kg_599) rfl rfl d_R_scalarDone_49 ?_
          refine lv_iload_n hx hb d_R_scalarDone_52 rfl (lv_at hl 2 rfl) ?_
          refine kw_iald hx hb hK hP 5 0 (Nat.lt_of_lt_of_le (by decide : 5 < 19) hn) e5 rfl k (rfl) (hk) (by omega) d_R_scalarDone_53 ?_
          refine lv_aload_n hx hb d_R_scalarDone_54 rfl (lv_at hl 1 rfl) ?_
          refine kw_get hx hb hg in_R hown hK hP 0 (Nat.lt_of_lt_of_le (by decide : 0 < 19) hn) e0 rfl 19 (by decide) (hg _ kg_602) rfl rfl d_R_scalarDone_55 ?_
          refine lv_iload_n hx hb d_R_scalarDone_58 rfl (lv_at hl 2 rfl) ?_
          refine kw_iald hx hb hK hP 8 0 (Nat.lt_of_lt_of_le (by decide : 8 < 19) hn) e8 rfl k (rfl) (hk) (by omega) d_R_scalarDone_59 ?_
          refine kw_callv (kw_rV (As := [.int (nI (pd k)), .int (pn k)]) (rest := []) (q0 := 0) ⟨hx, hb, hml, hown, hg⟩ ⟨callB_of 2 hg (kg_goodG kg_781) rfl rfl rfl (hg _ kg_7) (hg _ kg_778) (by decide +kernel) ⟨by decide, by decide⟩, hg _ kg_780, hg _ (kg_sel (q := (y_R_setX, 31)) (by decide +kernel))⟩ (c_R_setX l hJ hn ⟨e0, e1, e2, e3, e4, e5, e6, e7, e8, e9, e10, e11, e12, e13, e14, e15, e16, e17, e18⟩ hd8 ) hK hP (Nat.lt_of_lt_of_le (by decide : 0 < 19) hn) e0 rfl rfl hl.1 rfl (Nat.le_of_ble_eq_true rfl) d_R_scalarDone_60 ⟨Nat.zero_le _, Nat.zero_le _⟩) hA hS (fun cs12 H locs hp hP hS => ?_)
          obtain ⟨e0, e1, e2, e3, e4, e5, e6, e7, e8, e9, e10, e11, e12, e13, e14, e15, e16, e17, e18⟩ := hp
          refine lv_goto (tgt := 278) hx hb d_R_scalarDone_63 (by decide) ?_
          refine lv_iconst (v := 1) hx hb d_R_scalarDone_278 (by decide) ?_
          exact kw_zret hx hb hr hlocks hP hK hS (Or.inr rfl) ⟨by rw [kv_R_scalarDone, if_neg h1, if_neg h10, if_neg h18, if_pos h19], (by rw [show kv_R_scalarDone_nx nx qu X po pa pb pn k = (nx + 1) from (by rw [kv_R_scalarDone_nx, if_neg h1, if_neg h10, if_neg h18, if_pos h19]), show kv_R_scalarDone_wi wi qu po k cd = wi from (by rw [kv_R_scalarDone_wi, if_neg h1, if_neg h10, if_neg h18, if_pos h19]), show kv_R_scalarDone_gp gp qu po k cd = gp from (by rw [kv_R_scalarDone_gp, if_neg h1, if_neg h10, if_neg h18, if_pos h19]), show kv_R_scalarDone_vl vl qu X po pa k cd = vl from (by rw [kv_R_scalarDone_vl, if_neg h1, if_neg h10, if_neg h18, if_pos h19]), show kv_R_scalarDone_sa sa qu po k = sa from (by rw [kv_R_scalarDone_sa, if_neg h1, if_neg h10, if_neg h18, if_pos h19]), show kv_R_scalarDone_bo bo qu X po pa k = bo from (by rw [kv_R_scalarDone_bo, if_neg h1, if_neg h10, if_neg h18, if_pos h19]), show kv_R_scalarDone_X wi qu X F po pd pa pb pn k cd = kv_R_setX_X X (pd k) (pn k) from (by rw [kv_R_scalarDone_X, if_neg h1, if_neg h10, if_neg h18, if_pos h19])]; exact ⟨e0, e1, e2, e3, e4, e5, e6, e7, e8, e9, e10, e11, e12, e13, e14, e15, e16, e17, e18⟩)⟩ d_R_scalarDone_279
      · refine lv_aload_n hx hb d_R_scalarDone_24 rfl (lv_at hl 1 rfl) ?_
        refine kw_get hx hb hg in_R hown hK hP 0 (Nat.lt_of_lt_of_le (by decide : 0 < 19) hn) e0 rfl 21 (by decide) (hg _ kg_604) rfl rfl d_R_scalarDone_25 ?_
        refine lv_if_le (tgt := 33) hx hb d_R_scalarDone_28 (by decide) (fun h28 => ?_) (fun h28 => ?_)
        · refine lv_aload_n hx hb d_R_scalarDone_33 rfl (lv_at hl 1 rfl) ?_
          refine lv_dup hx hb d_R_scalarDone_34 rfl ?_
          refine kw_get hx hb hg in_R hown hK hP 0 (Nat.lt_of_lt_of_le (by decide : 0 < 19) hn) e0 rfl 3 (by decide) (hg _ kg_586) rfl rfl d_R_scalarDone_35 ?_
          refine lv_iconst (v := 1) hx hb d_R_scalarDone_38 (by decide) ?_
          refine lv_iadd hx hb d_R_scalarDone_39 ?_
          refine kw_put (ty := .int) hx hb hg in_R t_R ty_R nm_R hown hK hP hJ hA hS 0 (Nat.lt_of_lt_of_le (by decide : 0 < 19) hn) e0 rfl 3 (by decide) (hg _ kg_586) rfl rfl (by decide +kernel) rfl rfl (Nat.le_of_ble_eq_true rfl) d_R_scalarDone_40 (fun H locs hP hS => ?_)
          obtain ⟨cs13, hccs13⟩ : ∃ z9, z9 = va_up cs 0 (.inr (5, [.int (nI la), .int th, .int (nI st), .int (nx + 1), .int (nI wi), .int (nI gp), .int (nI vl), .int (nI sa), .int (nI bo), .int cy, .int sd, .ref (ad 1), .ref (ad 2), .ref (ad 3), .int (nI ma), .ref (ad 4), .ref (ad 5), .ref (ad 6), .ref (ad 7), .ref (ad 8), .ref (ad 9), .int (nI qu), .ref (ad 10), .ref (ad 11), .ref (ad 12), .ref (ad 13), .ref (ad 14), .ref (ad 15), .ref (ad 16), .ref (ad 17), .ref (ad 18)])) := ⟨_, rfl⟩
          replace hP : va_P D kc (kw_w ad cs13 n) H := by rw [hccs13]; exact hP
          have e0 : cs13 0 = .inr (5, [.int (nI la), .int th, .int (nI st), .int (nx + 1), .int (nI wi), .int (nI gp), .int (nI vl), .int (nI sa), .int (nI bo), .int cy, .int sd, .ref (ad 1), .ref (ad 2), .ref (ad 3), .int (nI ma), .ref (ad 4), .ref (ad 5), .ref (ad 6), .ref (ad 7), .ref (ad 8), .ref (ad 9), .int (nI qu), .ref (ad 10), .ref (ad 11), .ref (ad 12), .ref (ad 13), .ref (ad 14), .ref (ad 15), .ref (ad 16), .ref (ad 17), .ref (ad 18)]) := by rw [hccs13]; exact va_up_self _ _ _
          replace e1 := (congrFun hccs13 1).trans ((va_up_ne _ _ (by decide)).trans e1)
          replace e2 := (congrFun hccs13 2).trans ((va_up_ne _ _ (by decide)).trans e2)
          replace e3 := (congrFun hccs13 3).trans ((va_up_ne _ _ (by decide)).trans e3)
          replace e4 := (congrFun hccs13 4).trans ((va_up_ne _ _ (by decide)).trans e4)
          replace e5 := (congrFun hccs13 5).trans ((va_up_ne _ _ (by decide)).trans e5)
          replace e6 := (congrFun hccs13 6).trans ((va_up_ne _ _ (by decide)).trans e6)
          replace e7 := (congrFun hccs13 7).trans ((va_up_ne _ _ (by decide)).trans e7)
          replace e8 := (congrFun hccs13 8).trans ((va_up_ne _ _ (by decide)).trans e8)
          replace e9 := (congrFun hccs13 9).trans ((va_up_ne _ _ (by decide)).trans e9)
          replace e10 := (congrFun hccs13 10).trans ((va_up_ne _ _ (by decide)).trans e10)
          replace e11 := (congrFun hccs13 11).trans ((va_up_ne _ _ (by decide)).trans e11)
          replace e12 := (congrFun hccs13 12).trans ((va_up_ne _ _ (by decide)).trans e12)
          replace e13 := (congrFun hccs13 13).trans ((va_up_ne _ _ (by decide)).trans e13)
          replace e14 := (congrFun hccs13 14).trans ((va_up_ne _ _ (by decide)).trans e14)
          replace e15 := (congrFun hccs13 15).trans ((va_up_ne _ _ (by decide)).trans e15)
          replace e16 := (congrFun hccs13 16).trans ((va_up_ne _ _ (by decide)).trans e16)
          replace e17 := (congrFun hccs13 17).trans ((va_up_ne _ _ (by decide)).trans e17)
          replace e18 := (congrFun hccs13 18).trans ((va_up_ne _ _ (by decide)).trans e18)
          clear hccs13
          refine lv_iload_n hx hb d_R_scalarDone_43 rfl (lv_at hl 0 rfl) ?_
          refine lv_if_ne (tgt := 66) hx hb d_R_scalarDone_44 (by decide) (fun _ => ?_) (fun h29 => absurd h29 (by rw [h18] <;> decide))
          refine lv_iload_n hx hb d_R_scalarDone_66 rfl (lv_at hl 0 rfl) ?_
          refine lv_iconst (v := 1) hx hb d_R_scalarDone_67 (by decide) ?_
          refine lv_icmp_ne (tgt := 107) hx hb d_R_scalarDone_68 (by decide) (fun _ => ?_) (fun h30 => absurd h30 (by rw [h18] <;> decide))
          refine lv_iload_n hx hb d_R_scalarDone_107 rfl (lv_at hl 0 rfl) ?_
          refine lv_iconst (v := 2) hx hb d_R_scalarDone_108 (by decide) ?_
          refine lv_icmp_ne (tgt := 143) hx hb d_R_scalarDone_109 (by decide) (fun _ => ?_) (fun h31 => absurd h31 (by rw [h18] <;> decide))
          refine lv_iload_n hx hb d_R_scalarDone_143 rfl (lv_at hl 0 rfl) ?_
          refine lv_iconst (v := 3) hx hb d_R_scalarDone_144 (by decide) ?_
          refine lv_icmp_ne (tgt := 193) hx hb d_R_scalarDone_145 (by decide) (fun _ => ?_) (fun h32 => absurd h32 (by rw [h18] <;> decide))
          refine lv_iload_n hx hb d_R_scalarDone_193 rfl (lv_at hl 0 rfl) ?_
          refine lv_iconst (v := 5) hx hb d_R_scalarDone_194 (by decide) ?_
          refine lv_icmp_ne (tgt := 239) hx hb d_R_scalarDone_195 (by decide) (fun _ => ?_) (fun h33 => absurd h33 (by rw [h18] <;> decide))
          refine lv_iload_n hx hb d_R_scalarDone_239 rfl (lv_at hl 0 rfl) ?_
          refine lv_bipush (v := 6) hx hb d_R_scalarDone_240 (by decide) ?_
          refine lv_icmp_ne (tgt := 253) hx hb d_R_scalarDone_242 (by decide) (fun _ => ?_) (fun h34 => absurd h34 (by rw [h18] <;> decide))
          refine lv_aload_n hx hb d_R_scalarDone_253 rfl (lv_at hl 1 rfl) ?_
          refine lv_aload_n hx hb d_R_scalarDone_254 rfl (lv_at hl 1 rfl) ?_
          refine kw_get hx hb hg in_R hown hK hP 0 (Nat.lt_of_lt_of_le (by decide : 0 < 19) hn) e0 rfl 16 (by decide) (hg _ kg_599) rfl rfl d_R_scalarDone_255 ?_
          refine lv_iload_n hx hb d_R_scalarDone_258 rfl (lv_at hl 2 rfl) ?_
          refine kw_iald hx hb hK hP 5 0 (Nat.lt_of_lt_of_le (by decide : 5 < 19) hn) e5 rfl k (rfl) (hk) (by omega) d_R_scalarDone_259 ?_
          refine lv_aload_n hx hb d_R_scalarDone_260 rfl (lv_at hl 1 rfl) ?_
          refine lv_aload_n hx hb d_R_scalarDone_261 rfl (lv_at hl 1 rfl) ?_
          refine kw_get hx hb hg in_R hown hK hP 0 (Nat.lt_of_lt_of_le (by decide : 0 < 19) hn) e0 rfl 17 (by decide) (hg _ kg_600) rfl rfl d_R_scalarDone_262 ?_
          refine lv_iload_n hx hb d_R_scalarDone_265 rfl (lv_at hl 2 rfl) ?_
          refine kw_iald hx hb hK hP 6 0 (Nat.lt_of_lt_of_le (by decide : 6 < 19) hn) e6 rfl k (rfl) (hk) (by omega) d_R_scalarDone_266 ?_
          refine lv_iconst (v := 0) hx hb d_R_scalarDone_267 (by decide) ?_
          refine lv_aload_n hx hb d_R_scalarDone_268 rfl (lv_at hl 1 rfl) ?_
          refine kw_get hx hb hg in_R hown hK hP 0 (Nat.lt_of_lt_of_le (by decide : 0 < 19) hn) e0 rfl 4 (by decide) (hg _ kg_587) rfl rfl d_R_scalarDone_269 ?_
          refine kw_callix (kw_rV (As := [.int (nI (pa k)), .int 0, .int (nI wi)]) (rest := [.int (nI (pd k)), .ref (ad 0)]) (q0 := 0) ⟨hx, hb, hml, hown, hg⟩ ⟨callB_of 3 hg (kg_goodG kg_723) rfl rfl rfl (hg _ kg_7) (hg _ kg_720) (by decide +kernel) ⟨by decide, by decide⟩, hg _ kg_722, hg _ (kg_sel (q := (y_R_element, 31)) (by decide +kernel))⟩ (c_R_element l hn ⟨e0, e1, e2, e3, e4, e5, e6, e7, e8, e9, e10, e11, e12, e13, e14, e15, e16, e17, e18⟩ hfe (i := 0)) hK hP (Nat.lt_of_lt_of_le (by decide : 0 < 19) hn) e0 rfl rfl hl.1 rfl (Nat.le_of_ble_eq_true rfl) d_R_scalarDone_272 ⟨Nat.zero_le _, Nat.zero_le _⟩) hA hS (fun H locs hP hS => ?_)
          refine kw_callv (kw_rV (As := [.int (nI (pd k)), .int (kv_R_element F (pa k) 0 wi)]) (rest := []) (q0 := 0) ⟨hx, hb, hml, hown, hg⟩ ⟨callB_of 2 hg (kg_goodG kg_781) rfl rfl rfl (hg _ kg_7) (hg _ kg_778) (by decide +kernel) ⟨by decide, by decide⟩, hg _ kg_780, hg _ (kg_sel (q := (y_R_setX, 31)) (by decide +kernel))⟩ (c_R_setX l hJ hn ⟨e0, e1, e2, e3, e4, e5, e6, e7, e8, e9, e10, e11, e12, e13, e14, e15, e16, e17, e18⟩ hd8 ) hK hP (Nat.lt_of_lt_of_le (by decide : 0 < 19) hn) e0 rfl rfl hl.1 rfl (Nat.le_of_ble_eq_true rfl) d_R_scalarDone_275 ⟨Nat.zero_le _, Nat.zero_le _⟩) hA hS (fun cs14 H locs hp hP hS => ?_)
          obtain ⟨e0, e1, e2, e3, e4, e5, e6, e7, e8, e9, e10, e11, e12, e13, e14, e15, e16, e17, e18⟩ := hp
          refine lv_iconst (v := 1) hx hb d_R_scalarDone_278 (by decide) ?_
          exact kw_zret hx hb hr hlocks hP hK hS (Or.inr rfl) ⟨by rw [kv_R_scalarDone, if_neg h1, if_neg h10, if_pos h18, if_pos h28], (by rw [show kv_R_scalarDone_nx nx qu X po pa pb pn k = (nx + 1) from (by rw [kv_R_scalarDone_nx, if_neg h1, if_neg h10, if_pos h18, if_pos h28]), show kv_R_scalarDone_wi wi qu po k cd = wi from (by rw [kv_R_scalarDone_wi, if_neg h1, if_neg h10, if_pos h18]), show kv_R_scalarDone_gp gp qu po k cd = gp from (by rw [kv_R_scalarDone_gp, if_neg h1, if_neg h10, if_pos h18]), show kv_R_scalarDone_vl vl qu X po pa k cd = vl from (by rw [kv_R_scalarDone_vl, if_neg h1, if_neg h10, if_pos h18]), show kv_R_scalarDone_sa sa qu po k = sa from (by rw [kv_R_scalarDone_sa, if_neg h1, if_neg h10, if_pos h18]), show kv_R_scalarDone_bo bo qu X po pa k = bo from (by rw [kv_R_scalarDone_bo, if_neg h1, if_neg h10, if_pos h18]), show kv_R_scalarDone_X wi qu X F po pd pa pb pn k cd = kv_R_setX_X X (pd k) (kv_R_element F (pa k) 0 wi) from (by rw [kv_R_scalarDone_X, if_neg h1, if_neg h10, if_pos h18, if_pos h28])]; exact ⟨e0, e1, e2, e3, e4, e5, e6, e7, e8, e9, e10, e11, e12, e13, e14, e15, e16, e17, e18⟩)⟩ d_R_scalarDone_279
        · refine lv_iconst (v := 0) hx hb d_R_scalarDone_31 (by decide) ?_
          exact kw_zret hx hb hr hlocks hP hK hS (Or.inl rfl) ⟨by rw [kv_R_scalarDone, if_neg h1, if_neg h10, if_pos h18, if_neg h28], (by rw [show kv_R_scalarDone_nx nx qu X po pa pb pn k = nx from (by rw [kv_R_scalarDone_nx, if_neg h1, if_neg h10, if_pos h18, if_neg h28]), show kv_R_scalarDone_wi wi qu po k cd = wi from (by rw [kv_R_scalarDone_wi, if_neg h1, if_neg h10, if_pos h18]), show kv_R_scalarDone_gp gp qu po k cd = gp from (by rw [kv_R_scalarDone_gp, if_neg h1, if_neg h10, if_pos h18]), show kv_R_scalarDone_vl vl qu X po pa k cd = vl from (by rw [kv_R_scalarDone_vl, if_neg h1, if_neg h10, if_pos h18]), show kv_R_scalarDone_sa sa qu po k = sa from (by rw [kv_R_scalarDone_sa, if_neg h1, if_neg h10, if_pos h18]), show kv_R_scalarDone_bo bo qu X po pa k = bo from (by rw [kv_R_scalarDone_bo, if_neg h1, if_neg h10, if_pos h18]), show kv_R_scalarDone_X wi qu X F po pd pa pb pn k cd = X from (by rw [kv_R_scalarDone_X, if_neg h1, if_neg h10, if_pos h18, if_neg h28])]; exact ⟨e0, e1, e2, e3, e4, e5, e6, e7, e8, e9, e10, e11, e12, e13, e14, e15, e16, e17, e18⟩)⟩ d_R_scalarDone_32
