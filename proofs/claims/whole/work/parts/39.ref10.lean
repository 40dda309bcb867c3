/-! the reference: resume, go, limit -/
theorem kw_upn {f : Nat → Nat} {j x : Nat} : upd (fun i => nI (f i)) j (nI x) = fun i => nI ((va_up f j x) i) := funext fun i => by
  by_cases h : i = j
  · subst h; rw [pk_us, va_up_self]
  · rw [pk_un h, va_up_ne _ _ h]

def kv_R_resume_th (st : Nat) (qu : Nat) : Int32 := (if (nI st) = 2 then (if (nI qu) ≤ 0 then 0 else 1) else 1 : Int32)
def kv_R_resume_st (st : Nat) (qu : Nat) : Nat := if ((if (nI st) = 2 then (if (nI qu) ≤ 0 then 0 else 1) else 1 : Int32)) ≤ 0 then 0 else st
def kv_R_resume (st : Nat) (sa : Nat) (qu : Nat) : Int32 := if ((if (nI st) = 2 then (if (nI qu) ≤ 0 then 0 else 1) else 1 : Int32)) ≤ 0 then (nI sa) else 0
set_option maxRecDepth 100000 in
set_option maxHeartbeats 4000000 in
theorem c_R_resume (l : Launch) {D : va_G} {ad : Nat → Nat} {n : Nat} {cs : Nat → va_E} (hJ : kw_J ad n) {cI : ClassId} {cZ : ClassId} {la : Nat} {th : Int32} {st : Nat} {nx : Int32} {wi : Nat} {gp : Nat} {vl : Nat} {sa : Nat} {bo : Nat} {cy : Int32} {sd : Int32} {ma : Nat} {qu : Nat} {X : Nat → Int32} {F : Nat → Int32} {M : Nat → Int32} {po : Nat → Nat} {pd : Nat → Nat} {pa : Nat → Nat} {pb : Nat → Nat} {pn : Nat → Int32} {pm : Nat → Int32} {wh : Nat → Nat} {wd : Nat → Nat} {rg : Nat → Nat} {fr : Nat → Nat} {sp : Nat → Nat} {dn : Nat → Nat} {bf : Nat → Nat} {XA : Nat → Int32} {XB : Nat → Int32} (hn : 19 ≤ n) (hR : kR ad cI cZ cs la th st nx wi gp vl sa bo cy sd ma qu X F M po pd pa pb pn pm wh wd rg fr sp dn bf XA XB)  : kw_mi l y_R_resume w_R_resume (kr 0) D kc (ktR cI cZ) ad n cs [.ref (ad 0)] (fun r9 c9 => r9 = kv_R_resume st sa qu ∧ kR ad cI cZ c9 la (kv_R_resume_th st qu) (kv_R_resume_st st qu) nx wi gp vl sa bo cy sd ma qu X F M po pd pa pb pn pm wh wd rg fr sp dn bf XA XB) := by
  refine kw_of (cc := b_R_resume) (maxL := 1) (ret := (some .int)) (by decide) rfl (Nat.le_of_ble_eq_true rfl) ?_
  intro p e s m below meth c ls hx hb hr hml hown hts hlocks hP hK hl
  have hg : ∀ w9 ∈ kg_G, w9.before [.ref (ad 0)].toArray s = true := fun w9 h9 => hts w9 (List.mem_cons_of_mem _ h9)
  have hown : s.vm.findClass "LaneMachineModel" = some m.cls := hown
  have hA : ∀ k, k < n → kw_A ad n (ad k) := fun k hk => ⟨k, hk, rfl⟩
  have hS : va_S (kw_A ad n) s.heap s.heap [] := va_S.rf
  have hl : lv_has ls 1 [(0, .ref (ad 0))] := hl
  obtain ⟨e0, e1, e2, e3, e4, e5, e6, e7, e8, e9, e10, e11, e12, e13, e14, e15, e16, e17, e18⟩ := hR
  refine lv_aload_n hx hb d_R_resume_0 rfl (lv_at hl 0 rfl) ?_
  have K21 : ∀ (H : Heap) (locs : List Loc) (ls : Array Slot), va_P D kc (kw_w ad cs n) H → va_S (kw_A ad n) s.heap H locs → lv_has ls 1 [(0, .ref (ad 0))] → W p l e (kr 0) s m [.ref (ad 0)].toArray below meth c H locs 0 0 (MQ below (va_Qi (fun r9 c9 => r9 = kv_R_resume st sa qu ∧ kR ad cI cZ c9 la (kv_R_resume_th st qu) (kv_R_resume_st st qu) nx wi gp vl sa bo cy sd ma qu X F M po pd pa pb pn pm wh wd rg fr sp dn bf XA XB) (kw_Pre D kc (ktR cI cZ) ad n) (kw_A ad n)) [.ref (ad 0)].toArray s 0 0 (kw_A ad n)) (F0 m 21 ls [.int ((if (nI st) = 2 then (if (nI qu) ≤ 0 then 0 else 1) else 1 : Int32)), .ref (ad 0)]) := by
    intro H locs ls hP hS hl
    refine kw_put (ty := .int) hx hb hg in_R t_R ty_R nm_R hown hK hP hJ hA hS 0 (Nat.lt_of_lt_of_le (by decide : 0 < 19) hn) e0 rfl 1 (by decide) (hg _ kg_584) rfl rfl (by decide +kernel) rfl rfl (Nat.le_of_ble_eq_true rfl) d_R_resume_21 (fun H locs hP hS => ?_)
    obtain ⟨cs1, hccs1⟩ : ∃ z9, z9 = va_up cs 0 (.inr (5, [.int (nI la), .int ((if (nI st) = 2 then (if (nI qu) ≤ 0 then 0 else 1) else 1 : Int32)), .int (nI st), .int nx, .int (nI wi), .int (nI gp), .int (nI vl), .int (nI sa), .int (nI bo), .int cy, .int sd, .ref (ad 1), .ref (ad 2), .ref (ad 3), .int (nI ma), .ref (ad 4), .ref (ad 5), .ref (ad 6), .ref (ad 7), .ref (ad 8), .ref (ad 9), .int (nI qu), .ref (ad 10), .ref (ad 11), .ref (ad 12), .ref (ad 13), .ref (ad 14), .ref (ad 15), .ref (ad 16), .ref (ad 17), .ref (ad 18)])) := ⟨_, rfl⟩
    replace hP : va_P D kc (kw_w ad cs1 n) H := by rw [hccs1]; exact hP
    have e0 : cs1 0 = .inr (5, [.int (nI la), .int ((if (nI st) = 2 then (if (nI qu) ≤ 0 then 0 else 1) else 1 : Int32)), .int (nI st), .int nx, .int (nI wi), .int (nI gp), .int (nI vl), .int (nI sa), .int (nI bo), .int cy, .int sd, .ref (ad 1), .ref (ad 2), .ref (ad 3), .int (nI ma), .ref (ad 4), .ref (ad 5), .ref (ad 6), .ref (ad 7), .ref (ad 8), .ref (ad 9), .int (nI qu), .ref (ad 10), .ref (ad 11), .ref (ad 12), .ref (ad 13), .ref (ad 14), .ref (ad 15), .ref (ad 16), .ref (ad 17), .ref (ad 18)]) := by rw [hccs1]; exact va_up_self _ _ _
    replace e1 := (congrFun hccs1 1).trans ((va_up_ne _ _ (by decide)).trans e1)
    replace e2 := (congrFun hccs1 2).trans ((va_up_ne _ _ (by decide)).trans e2)
    replace e3 := (congrFun hccs1 3).trans ((va_up_ne _ _ (by decide)).trans e3)
    replace e4 := (congrFun hccs1 4).trans ((va_up_ne _ _ (by decide)).trans e4)
    replace e5 := (congrFun hccs1 5).trans ((va_up_ne _ _ (by decide)).trans e5)
    replace e6 := (congrFun hccs1 6).trans ((va_up_ne _ _ (by decide)).trans e6)
    replace e7 := (congrFun hccs1 7).trans ((va_up_ne _ _ (by decide)).trans e7)
    replace e8 := (congrFun hccs1 8).trans ((va_up_ne _ _ (by decide)).trans e8)
    replace e9 := (congrFun hccs1 9).trans ((va_up_ne _ _ (by decide)).trans e9)
    replace e10 := (congrFun hccs1 10).trans ((va_up_ne _ _ (by decide)).trans e10)
    replace e11 := (congrFun hccs1 11).trans ((va_up_ne _ _ (by decide)).trans e11)
    replace e12 := (congrFun hccs1 12).trans ((va_up_ne _ _ (by decide)).trans e12)
    replace e13 := (congrFun hccs1 13).trans ((va_up_ne _ _ (by decide)).trans e13)
    replace e14 := (congrFun hccs1 14).trans ((va_up_ne _ _ (by decide)).trans e14)
    replace e15 := (congrFun hccs1 15).trans ((va_up_ne _ _ (by decide)).trans e15)
    replace e16 := (congrFun hccs1 16).trans ((va_up_ne _ _ (by decide)).trans e16)
    replace e17 := (congrFun hccs1 17).trans ((va_up_ne _ _ (by decide)).trans e17)
    replace e18 := (congrFun hccs1 18).trans ((va_up_ne _ _ (by decide)).trans e18)
    clear hccs1
    refine lv_aload_n hx hb d_R_resume_24 rfl (lv_at hl 0 rfl) ?_
    refine kw_get hx hb hg in_R hown hK hP 0 (Nat.lt_of_lt_of_le (by decide : 0 < 19) hn) e0 rfl 1 (by decide) (hg _ kg_584) rfl rfl d_R_resume_25 ?_
    refine lv_if_le (tgt := 33) hx hb d_R_resume_28 (by decide) (fun h1 => ?_) (fun h1 => ?_)
    · refine lv_aload_n hx hb d_R_resume_33 rfl (lv_at hl 0 rfl) ?_
      refine lv_iconst (v := 0) hx hb d_R_resume_34 (by decide) ?_
      refine kw_put (ty := .int) hx hb hg in_R t_R ty_R nm_R hown hK hP hJ hA hS 0 (Nat.lt_of_lt_of_le (by decide : 0 < 19) hn) e0 rfl 2 (by decide) (hg _ kg_585) rfl rfl (by decide +kernel) rfl rfl (Nat.le_of_ble_eq_true rfl) d_R_resume_35 (fun H locs hP hS => ?_)
      obtain ⟨cs2, hccs2⟩ : ∃ z9, z9 = va_up cs1 0 (.inr (5, [.int (nI la), .int ((if (nI st) = 2 then (if (nI qu) ≤ 0 then 0 else 1) else 1 : Int32)), .int 0, .int nx, .int (nI wi), .int (nI gp), .int (nI vl), .int (nI sa), .int (nI bo), .int cy, .int sd, .ref (ad 1), .ref (ad 2), .ref (ad 3), .int (nI ma), .ref (ad 4), .ref (ad 5), .ref (ad 6), .ref (ad 7), .ref (ad 8), .ref (ad 9), .int (nI qu), .ref (ad 10), .ref (ad 11), .ref (ad 12), .ref (ad 13), .ref (ad 14), .ref (ad 15), .ref (ad 16), .ref (ad 17), .ref (ad 18)])) := ⟨_, rfl⟩
      replace hP : va_P D kc (kw_w ad cs2 n) H := by rw [hccs2]; exact hP
      have e0 : cs2 0 = .inr (5, [.int (nI la), .int ((if (nI st) = 2 then (if (nI qu) ≤ 0 then 0 else 1) else 1 : Int32)), .int 0, .int nx, .int (nI wi), .int (nI gp), .int (nI vl), .int (nI sa), .int (nI bo), .int cy, .int sd, .ref (ad 1), .ref (ad 2), .ref (ad 3), .int (nI ma), .ref (ad 4), .ref (ad 5), .ref (ad 6), .ref (ad 7), .ref (ad 8), .ref (ad 9), .int (nI qu), .ref (ad 10), .ref (ad 11), .ref (ad 12), .ref (ad 13), .ref (ad 14), .ref (ad 15), .ref (ad 16), .ref (ad 17), .ref (ad 18)]) := by rw [hccs2]; exact va_up_self _ _ _
      replace e1 := (congrFun hccs2 1).trans ((va_up_ne _ _ (by decide)).trans e1)
      replace e2 := (congrFun hccs2 2).trans ((va_up_ne _ _ (by decide)).trans e2)
      replace e3 := (congrFun hccs2 3).trans ((va_up_ne _ _ (by decide)).trans e3)
      replace e4 := (congrFun hccs2 4).trans ((va_up_ne _ _ (by decide)).trans e4)
      replace e5 := (congrFun hccs2 5).trans ((va_up_ne _ _ (by decide)).trans e5)
      replace e6 := (congrFun hccs2 6).trans ((va_up_ne _ _ (by decide)).trans e6)
      replace e7 := (congrFun hccs2 7).trans ((va_up_ne _ _ (by decide)).trans e7)
      replace e8 := (congrFun hccs2 8).trans ((va_up_ne _ _ (by decide)).trans e8)
      replace e9 := (congrFun hccs2 9).trans ((va_up_ne _ _ (by decide)).trans e9)
      replace e10 := (congrFun hccs2 10).trans ((va_up_ne _ _ (by decide)).trans e10)
      replace e11 := (congrFun hccs2 11).trans ((va_up_ne _ _ (by decide)).trans e11)
      replace e12 := (congrFun hccs2 12).trans ((va_up_ne _ _ (by decide)).trans e12)
      replace e13 := (congrFun hccs2 13).trans ((va_up_ne _ _ (by decide)).trans e13)
      replace e14 := (congrFun hccs2 14).trans ((va_up_ne _ _ (by decide)).trans e14)
      replace e15 := (congrFun hccs2 15).trans ((va_up_ne _ _ (by decide)).trans e15)
      replace e16 := (congrFun hccs2 16).trans ((va_up_ne _ _ (by decide)).trans e16)
      replace e17 := (congrFun hccs2 17).trans ((va_up_ne _ _ (by decide)).trans e17)
      replace e18 := (congrFun hccs2 18).trans ((va_up_ne _ _ (by decide)).trans e18)
      clear hccs2
      refine lv_aload_n hx hb d_R_resume_38 rfl (lv_at hl 0 rfl) ?_
      refine kw_get hx hb hg in_R hown hK hP 0 (Nat.lt_of_lt_of_le (by decide : 0 < 19) hn) e0 rfl 7 (by decide) (hg _ kg_590) rfl rfl d_R_resume_39 ?_
      exact kw_iret hx hb hr hlocks hP hK hS ⟨by rw [kv_R_resume, if_pos h1], (by rw [show kv_R_resume_th st qu = (if (nI st) = 2 then (if (nI qu) ≤ 0 then 0 else 1) else 1 : Int32) from (by rw [kv_R_resume_th]), show kv_R_resume_st st qu = 0 from (by rw [kv_R_resume_st, if_pos h1])]; exact ⟨e0, e1, e2, e3, e4, e5, e6, e7, e8, e9, e10, e11, e12, e13, e14, e15, e16, e17, e18⟩)⟩ d_R_resume_42
    · refine lv_iconst (v := 0) hx hb d_R_resume_31 (by decide) ?_
      exact kw_iret hx hb hr hlocks hP hK hS ⟨by rw [kv_R_resume, if_neg h1], (by rw [show kv_R_resume_th st qu = (if (nI st) = 2 then (if (nI qu) ≤ 0 then 0 else 1) else 1 : Int32) from (by rw [kv_R_resume_th]), show kv_R_resume_st st qu = st from (by rw [kv_R_resume_st, if_neg h1])]; exact ⟨e0, e1, e2, e3, e4, e5, e6, e7, e8, e9, e10, e11, e12, e13, e14, e15, e16, e17, e18⟩)⟩ d_R_resume_32
  refine lv_aload_n hx hb d_R_resume_1 rfl (lv_at hl 0 rfl) ?_
  refine kw_get hx hb hg in_R hown hK hP 0 (Nat.lt_of_lt_of_le (by decide : 0 < 19) hn) e0 rfl 2 (by decide) (hg _ kg_585) rfl rfl d_R_resume_2 ?_
  refine lv_iconst (v := 2) hx hb d_R_resume_5 (by decide) ?_
  refine lv_icmp_ne (tgt := 16) hx hb d_R_resume_6 (by decide) (fun h2 => ?_) (fun h2 => ?_)
  · refine lv_iconst (v := 1) hx hb d_R_resume_16 (by decide) ?_
    refine lv_goto (tgt := 21) hx hb d_R_resume_17 (by decide) ?_
    exact W.eq (congrArg (fun z9 => F0 m 21 ls (.int z9 :: [.ref (ad 0)])) (show (1 : Int32) = (if (nI st) = 2 then (if (nI qu) ≤ 0 then 0 else 1) else 1 : Int32) from (by rw [if_neg h2]))) (K21 _ _ _ hP hS hl)
  · refine lv_aload_n hx hb d_R_resume_9 rfl (lv_at hl 0 rfl) ?_
    refine kw_get hx hb hg in_R hown hK hP 0 (Nat.lt_of_lt_of_le (by decide : 0 < 19) hn) e0 rfl 21 (by decide) (hg _ kg_604) rfl rfl d_R_resume_10 ?_
    refine lv_if_le (tgt := 20) hx hb d_R_resume_13 (by decide) (fun h3 => ?_) (fun h3 => ?_)
    · refine lv_iconst (v := 0) hx hb d_R_resume_20 (by decide) ?_
      exact W.eq (congrArg (fun z9 => F0 m 21 ls (.int z9 :: [.ref (ad 0)])) (show (0 : Int32) = (if (nI st) = 2 then (if (nI qu) ≤ 0 then 0 else 1) else 1 : Int32) from (by rw [if_pos h2, if_pos h3]))) (K21 _ _ _ hP hS hl)
    · refine lv_iconst (v := 1) hx hb d_R_resume_16 (by decide) ?_
      refine lv_goto (tgt := 21) hx hb d_R_resume_17 (by decide) ?_
      exact W.eq (congrArg (fun z9 => F0 m 21 ls (.int z9 :: [.ref (ad 0)])) (show (1 : Int32) = (if (nI st) = 2 then (if (nI qu) ≤ 0 then 0 else 1) else 1 : Int32) from (by rw [if_pos h2, if_neg h3]))) (K21 _ _ _ hP hS hl)

def kv_R_go_th (st : Nat) (ma : Nat) (qu : Nat) (x : Int32) : Int32 := (if x < 0 then 1 else if x < (nI ma) then (if (nI st) = 0 then 2 else if (nI qu) ≤ 0 then 0 else 2) else 1 : Int32)
def kv_R_go_st (st : Nat) (ma : Nat) (qu : Nat) (x : Int32) : Nat := if ((if x < 0 then 1 else if x < (nI ma) then (if (nI st) = 0 then 2 else if (nI qu) ≤ 0 then 0 else 2) else 1 : Int32)) ≤ 0 then 0 else st
def kv_R_go_nx (st : Nat) (nx : Int32) (ma : Nat) (qu : Nat) (x : Int32) : Int32 := if ((if x < 0 then 1 else if x < (nI ma) then (if (nI st) = 0 then 2 else if (nI qu) ≤ 0 then 0 else 2) else 1 : Int32)) ≤ 0 then x else nx
def kv_R_go_sa (st : Nat) (sa : Nat) (ma : Nat) (qu : Nat) (x : Int32) : Nat := if ((if x < 0 then 1 else if x < (nI ma) then (if (nI st) = 0 then 2 else if (nI qu) ≤ 0 then 0 else 2) else 1 : Int32)) ≤ 0 then 0 else sa
def kv_R_go (st : Nat) (ma : Nat) (qu : Nat) (x : Int32) : Int32 := if ((if x < 0 then 1 else if x < (nI ma) then (if (nI st) = 0 then 2 else if (nI qu) ≤ 0 then 0 else 2) else 1 : Int32)) ≤ 0 then x else 0
set_option maxRecDepth 100000 in
set_option maxHeartbeats 4000000 in
theorem c_R_go (l : Launch) {D : va_G} {ad : Nat → Nat} {n : Nat} {cs : Nat → va_E} (hJ : kw_J ad n) {cI : ClassId} {cZ : ClassId} {la : Nat} {th : Int32} {st : Nat} {nx : Int32} {wi : Nat} {gp : Nat} {vl : Nat} {sa : Nat} {bo : Nat} {cy : Int32} {sd : Int32} {ma : Nat} {qu : Nat} {X : Nat → Int32} {F : Nat → Int32} {M : Nat → Int32} {po : Nat → Nat} {pd : Nat → Nat} {pa : Nat → Nat} {pb : Nat → Nat} {pn : Nat → Int32} {pm : Nat → Int32} {wh : Nat → Nat} {wd : Nat → Nat} {rg : Nat → Nat} {fr : Nat → Nat} {sp : Nat → Nat} {dn : Nat → Nat} {bf : Nat → Nat} {XA : Nat → Int32} {XB : Nat → Int32} {x : Int32} (hn : 19 ≤ n) (hR : kR ad cI cZ cs la th st nx wi gp vl sa bo cy sd ma qu X F M po pd pa pb pn pm wh wd rg fr sp dn bf XA XB)  : kw_mi l y_R_go w_R_go (kr 0) D kc (ktR cI cZ) ad n cs [.ref (ad 0), .int x] (fun r9 c9 => r9 = kv_R_go st ma qu x ∧ kR ad cI cZ c9 la (kv_R_go_th st ma qu x) (kv_R_go_st st ma qu x) (kv_R_go_nx st nx ma qu x) wi gp vl (kv_R_go_sa st sa ma qu x) bo cy sd ma qu X F M po pd pa pb pn pm wh wd rg fr sp dn bf XA XB) := by
  refine kw_of (cc := b_R_go) (maxL := 2) (ret := (some .int)) (by decide) rfl (Nat.le_of_ble_eq_true rfl) ?_
  intro p e s m below meth c ls hx hb hr hml hown hts hlocks hP hK hl
  have hg : ∀ w9 ∈ kg_G, w9.before [.ref (ad 0), .int x].toArray s = true := fun w9 h9 => hts w9 (List.mem_cons_of_mem _ h9)
  have hown : s.vm.findClass "LaneMachineModel" = some m.cls := hown
  have hA : ∀ k, k < n → kw_A ad n (ad k) := fun k hk => ⟨k, hk, rfl⟩
  have hS : va_S (kw_A ad n) s.heap s.heap [] := va_S.rf
  have hl : lv_has ls 2 [(0, .ref (ad 0)), (1, .int x)] := hl
  obtain ⟨e0, e1, e2, e3, e4, e5, e6, e7, e8, e9, e10, e11, e12, e13, e14, e15, e16, e17, e18⟩ := hR
  refine lv_aload_n hx hb d_R_go_0 rfl (lv_at hl 0 rfl) ?_
  have K36 : ∀ (H : Heap) (locs : List Loc) (ls : Array Slot), va_P D kc (kw_w ad cs n) H → va_S (kw_A ad n) s.heap H locs → lv_has ls 2 [(0, .ref (ad 0)), (1, .int x)] → W p l e (kr 0) s m [.ref (ad 0), .int x].toArray below meth c H locs 0 0 (MQ below (va_Qi (fun r9 c9 => r9 = kv_R_go st ma qu x ∧ kR ad cI cZ c9 la (kv_R_go_th st ma qu x) (kv_R_go_st st ma qu x) (kv_R_go_nx st nx ma qu x) wi gp vl (kv_R_go_sa st sa ma qu x) bo cy sd ma qu X F M po pd pa pb pn pm wh wd rg fr sp dn bf XA XB) (kw_Pre D kc (ktR cI cZ) ad n) (kw_A ad n)) [.ref (ad 0), .int x].toArray s 0 0 (kw_A ad n)) (F0 m 36 ls [.int ((if x < 0 then 1 else if x < (nI ma) then (if (nI st) = 0 then 2 else if (nI qu) ≤ 0 then 0 else 2) else 1 : Int32)), .ref (ad 0)]) := by
    intro H locs ls hP hS hl
    refine kw_put (ty := .int) hx hb hg in_R t_R ty_R nm_R hown hK hP hJ hA hS 0 (Nat.lt_of_lt_of_le (by decide : 0 < 19) hn) e0 rfl 1 (by decide) (hg _ kg_584) rfl rfl (by decide +kernel) rfl rfl (Nat.le_of_ble_eq_true rfl) d_R_go_36 (fun H locs hP hS => ?_)
    obtain ⟨cs1, hccs1⟩ : ∃ z9, z9 = va_up cs 0 (.inr (5, [.int (nI la), .int ((if x < 0 then 1 else if x < (nI ma) then (if (nI st) = 0 then 2 else if (nI qu) ≤ 0 then 0 else 2) else 1 : Int32)), .int (nI st), .int nx, .int (nI wi), .int (nI gp), .int (nI vl), .int (nI sa), .int (nI bo), .int cy, .int sd, .ref (ad 1), .ref (ad 2), .ref (ad 3), .int (nI ma), .ref (ad 4), .ref (ad 5), .ref (ad 6), .ref (ad 7), .ref (ad 8), .ref (ad 9), .int (nI qu), .ref (ad 10), .ref (ad 11), .ref (ad 12), .ref (ad 13), .ref (ad 14), .ref (ad 15), .ref (ad 16), .ref (ad 17), .ref (ad 18)])) := ⟨_, rfl⟩
    replace hP : va_P D kc (kw_w ad cs1 n) H := by rw [hccs1]; exact hP
    have e0 : cs1 0 = .inr (5, [.int (nI la), .int ((if x < 0 then 1 else if x < (nI ma) then (if (nI st) = 0 then 2 else if (nI qu) ≤ 0 then 0 else 2) else 1 : Int32)), .int (nI st), .int nx, .int (nI wi), .int (nI gp), .int (nI vl), .int (nI sa), .int (nI bo), .int cy, .int sd, .ref (ad 1), .ref (ad 2), .ref (ad 3), .int (nI ma), .ref (ad 4), .ref (ad 5), .ref (ad 6), .ref (ad 7), .ref (ad 8), .ref (ad 9), .int (nI qu), .ref (ad 10), .ref (ad 11), .ref (ad 12), .ref (ad 13), .ref (ad 14), .ref (ad 15), .ref (ad 16), .ref (ad 17), .ref (ad 18)]) := by rw [hccs1]; exact va_up_self _ _ _
    replace e1 := (congrFun hccs1 1).trans ((va_up_ne _ _ (by decide)).trans e1)
    replace e2 := (congrFun hccs1 2).trans ((va_up_ne _ _ (by decide)).trans e2)
    replace e3 := (congrFun hccs1 3).trans ((va_up_ne _ _ (by decide)).trans e3)
    replace e4 := (congrFun hccs1 4).trans ((va_up_ne _ _ (by decide)).trans e4)
    replace e5 := (congrFun hccs1 5).trans ((va_up_ne _ _ (by decide)).trans e5)
    replace e6 := (congrFun hccs1 6).trans ((va_up_ne _ _ (by decide)).trans e6)
    replace e7 := (congrFun hccs1 7).trans ((va_up_ne _ _ (by decide)).trans e7)
    replace e8 := (congrFun hccs1 8).trans ((va_up_ne _ _ (by decide)).trans e8)
    replace e9 := (congrFun hccs1 9).trans ((va_up_ne _ _ (by decide)).trans e9)
    replace e10 := (congrFun hccs1 10).trans ((va_up_ne _ _ (by decide)).trans e10)
    replace e11 := (congrFun hccs1 11).trans ((va_up_ne _ _ (by decide)).trans e11)
    replace e12 := (congrFun hccs1 12).trans ((va_up_ne _ _ (by decide)).trans e12)
    replace e13 := (congrFun hccs1 13).trans ((va_up_ne _ _ (by decide)).trans e13)
    replace e14 := (congrFun hccs1 14).trans ((va_up_ne _ _ (by decide)).trans e14)
    replace e15 := (congrFun hccs1 15).trans ((va_up_ne _ _ (by decide)).trans e15)
    replace e16 := (congrFun hccs1 16).trans ((va_up_ne _ _ (by decide)).trans e16)
    replace e17 := (congrFun hccs1 17).trans ((va_up_ne _ _ (by decide)).trans e17)
    replace e18 := (congrFun hccs1 18).trans ((va_up_ne _ _ (by decide)).trans e18)
    clear hccs1
    refine lv_aload_n hx hb d_R_go_39 rfl (lv_at hl 0 rfl) ?_
    refine kw_get hx hb hg in_R hown hK hP 0 (Nat.lt_of_lt_of_le (by decide : 0 < 19) hn) e0 rfl 1 (by decide) (hg _ kg_584) rfl rfl d_R_go_40 ?_
    refine lv_if_le (tgt := 48) hx hb d_R_go_43 (by decide) (fun h1 => ?_) (fun h1 => ?_)
    · refine lv_aload_n hx hb d_R_go_48 rfl (lv_at hl 0 rfl) ?_
      refine lv_iload_n hx hb d_R_go_49 rfl (lv_at hl 1 rfl) ?_
      refine kw_put (ty := .int) hx hb hg in_R t_R ty_R nm_R hown hK hP hJ hA hS 0 (Nat.lt_of_lt_of_le (by decide : 0 < 19) hn) e0 rfl 3 (by decide) (hg _ kg_586) rfl rfl (by decide +kernel) rfl rfl (Nat.le_of_ble_eq_true rfl) d_R_go_50 (fun H locs hP hS => ?_)
      obtain ⟨cs2, hccs2⟩ : ∃ z9, z9 = va_up cs1 0 (.inr (5, [.int (nI la), .int ((if x < 0 then 1 else if x < (nI ma) then (if (nI st) = 0 then 2 else if (nI qu) ≤ 0 then 0 else 2) else 1 : Int32)), .int (nI st), .int x, .int (nI wi), .int (nI gp), .int (nI vl), .int (nI sa), .int (nI bo), .int cy, .int sd, .ref (ad 1), .ref (ad 2), .ref (ad 3), .int (nI ma), .ref (ad 4), .ref (ad 5), .ref (ad 6), .ref (ad 7), .ref (ad 8), .ref (ad 9), .int (nI qu), .ref (ad 10), .ref (ad 11), .ref (ad 12), .ref (ad 13), .ref (ad 14), .ref (ad 15), .ref (ad 16), .ref (ad 17), .ref (ad 18)])) := ⟨_, rfl⟩
      replace hP : va_P D kc (kw_w ad cs2 n) H := by rw [hccs2]; exact hP
      have e0 : cs2 0 = .inr (5, [.int (nI la), .int ((if x < 0 then 1 else if x < (nI ma) then (if (nI st) = 0 then 2 else if (nI qu) ≤ 0 then 0 else 2) else 1 : Int32)), .int (nI st), .int x, .int (nI wi), .int (nI gp), .int (nI vl), .int (nI sa), .int (nI bo), .int cy, .int sd, .ref (ad 1), .ref (ad 2), .ref (ad 3), .int (nI ma), .ref (ad 4), .ref (ad 5), .ref (ad 6), .ref (ad 7), .ref (ad 8), .ref (ad 9), .int (nI qu), .ref (ad 10), .ref (ad 11), .ref (ad 12), .ref (ad 13), .ref (ad 14), .ref (ad 15), .ref (ad 16), .ref (ad 17), .ref (ad 18)]) := by rw [hccs2]; exact va_up_self _ _ _
      replace e1 := (congrFun hccs2 1).trans ((va_up_ne _ _ (by decide)).trans e1)
      replace e2 := (congrFun hccs2 2).trans ((va_up_ne _ _ (by decide)).trans e2)
      replace e3 := (congrFun hccs2 3).trans ((va_up_ne _ _ (by decide)).trans e3)
      replace e4 := (congrFun hccs2 4).trans ((va_up_ne _ _ (by decide)).trans e4)
      replace e5 := (congrFun hccs2 5).trans ((va_up_ne _ _ (by decide)).trans e5)
      replace e6 := (congrFun hccs2 6).trans ((va_up_ne _ _ (by decide)).trans e6)
      replace e7 := (congrFun hccs2 7).trans ((va_up_ne _ _ (by decide)).trans e7)
      replace e8 := (congrFun hccs2 8).trans ((va_up_ne _ _ (by decide)).trans e8)
      replace e9 := (congrFun hccs2 9).trans ((va_up_ne _ _ (by decide)).trans e9)
      replace e10 := (congrFun hccs2 10).trans ((va_up_ne _ _ (by decide)).trans e10)
      replace e11 := (congrFun hccs2 11).trans ((va_up_ne _ _ (by decide)).trans e11)
      replace e12 := (congrFun hccs2 12).trans ((va_up_ne _ _ (by decide)).trans e12)
      replace e13 := (congrFun hccs2 13).trans ((va_up_ne _ _ (by decide)).trans e13)
      replace e14 := (congrFun hccs2 14).trans ((va_up_ne _ _ (by decide)).trans e14)
      replace e15 := (congrFun hccs2 15).trans ((va_up_ne _ _ (by decide)).trans e15)
      replace e16 := (congrFun hccs2 16).trans ((va_up_ne _ _ (by decide)).trans e16)
      replace e17 := (congrFun hccs2 17).trans ((va_up_ne _ _ (by decide)).trans e17)
      replace e18 := (congrFun hccs2 18).trans ((va_up_ne _ _ (by decide)).trans e18)
      clear hccs2
      refine lv_aload_n hx hb d_R_go_53 rfl (lv_at hl 0 rfl) ?_
      refine lv_iconst (v := 0) hx hb d_R_go_54 (by decide) ?_
      refine kw_put (ty := .int) hx hb hg in_R t_R ty_R nm_R hown hK hP hJ hA hS 0 (Nat.lt_of_lt_of_le (by decide : 0 < 19) hn) e0 rfl 7 (by decide) (hg _ kg_590) rfl rfl (by decide +kernel) rfl rfl (Nat.le_of_ble_eq_true rfl) d_R_go_55 (fun H locs hP hS => ?_)
      obtain ⟨cs3, hccs3⟩ : ∃ z9, z9 = va_up cs2 0 (.inr (5, [.int (nI la), .int ((if x < 0 then 1 else if x < (nI ma) then (if (nI st) = 0 then 2 else if (nI qu) ≤ 0 then 0 else 2) else 1 : Int32)), .int (nI st), .int x, .int (nI wi), .int (nI gp), .int (nI vl), .int 0, .int (nI bo), .int cy, .int sd, .ref (ad 1), .ref (ad 2), .ref (ad 3), .int (nI ma), .ref (ad 4), .ref (ad 5), .ref (ad 6), .ref (ad 7), .ref (ad 8), .ref (ad 9), .int (nI qu), .ref (ad 10), .ref (ad 11), .ref (ad 12), .ref (ad 13), .ref (ad 14), .ref (ad 15), .ref (ad 16), .ref (ad 17), .ref (ad 18)])) := ⟨_, rfl⟩
      replace hP : va_P D kc (kw_w ad cs3 n) H := by rw [hccs3]; exact hP
      have e0 : cs3 0 = .inr (5, [.int (nI la), .int ((if x < 0 then 1 else if x < (nI ma) then (if (nI st) = 0 then 2 else if (nI qu) ≤ 0 then 0 else 2) else 1 : Int32)), .int (nI st), .int x, .int (nI wi), .int (nI gp), .int (nI vl), .int 0, .int (nI bo), .int cy, .int sd, .ref (ad 1), .ref (ad 2), .ref (ad 3), .int (nI ma), .ref (ad 4), .ref (ad 5), .ref (ad 6), .ref (ad 7), .ref (ad 8), .ref (ad 9), .int (nI qu), .ref (ad 10), .ref (ad 11), .ref (ad 12), .ref (ad 13), .ref (ad 14), .ref (ad 15), .ref (ad 16), .ref (ad 17), .ref (ad 18)]) := by rw [hccs3]; exact va_up_self _ _ _
      replace e1 := (congrFun hccs3 1).trans ((va_up_ne _ _ (by decide)).trans e1)
      replace e2 := (congrFun hccs3 2).trans ((va_up_ne _ _ (by decide)).trans e2)
      replace e3 := (congrFun hccs3 3).trans ((va_up_ne _ _ (by decide)).trans e3)
      replace e4 := (congrFun hccs3 4).trans ((va_up_ne _ _ (by decide)).trans e4)
      replace e5 := (congrFun hccs3 5).trans ((va_up_ne _ _ (by decide)).trans e5)
      replace e6 := (congrFun hccs3 6).trans ((va_up_ne _ _ (by decide)).trans e6)
      replace e7 := (congrFun hccs3 7).trans ((va_up_ne _ _ (by decide)).trans e7)
      replace e8 := (congrFun hccs3 8).trans ((va_up_ne _ _ (by decide)).trans e8)
      replace e9 := (congrFun hccs3 9).trans ((va_up_ne _ _ (by decide)).trans e9)
      replace e10 := (congrFun hccs3 10).trans ((va_up_ne _ _ (by decide)).trans e10)
      replace e11 := (congrFun hccs3 11).trans ((va_up_ne _ _ (by decide)).trans e11)
      replace e12 := (congrFun hccs3 12).trans ((va_up_ne _ _ (by decide)).trans e12)
      replace e13 := (congrFun hccs3 13).trans ((va_up_ne _ _ (by decide)).trans e13)
      replace e14 := (congrFun hccs3 14).trans ((va_up_ne _ _ (by decide)).trans e14)
      replace e15 := (congrFun hccs3 15).trans ((va_up_ne _ _ (by decide)).trans e15)
      replace e16 := (congrFun hccs3 16).trans ((va_up_ne _ _ (by decide)).trans e16)
      replace e17 := (congrFun hccs3 17).trans ((va_up_ne _ _ (by decide)).trans e17)
      replace e18 := (congrFun hccs3 18).trans ((va_up_ne _ _ (by decide)).trans e18)
      clear hccs3
      refine lv_aload_n hx hb d_R_go_58 rfl (lv_at hl 0 rfl) ?_
      refine lv_iconst (v := 0) hx hb d_R_go_59 (by decide) ?_
      refine kw_put (ty := .int) hx hb hg in_R t_R ty_R nm_R hown hK hP hJ hA hS 0 (Nat.lt_of_lt_of_le (by decide : 0 < 19) hn) e0 rfl 2 (by decide) (hg _ kg_585) rfl rfl (by decide +kernel) rfl rfl (Nat.le_of_ble_eq_true rfl) d_R_go_60 (fun H locs hP hS => ?_)
      obtain ⟨cs4, hccs4⟩ : ∃ z9, z9 = va_up cs3 0 (.inr (5, [.int (nI la), .int ((if x < 0 then 1 else if x < (nI ma) then (if (nI st) = 0 then 2 else if (nI qu) ≤ 0 then 0 else 2) else 1 : Int32)), .int 0, .int x, .int (nI wi), .int (nI gp), .int (nI vl), .int 0, .int (nI bo), .int cy, .int sd, .ref (ad 1), .ref (ad 2), .ref (ad 3), .int (nI ma), .ref (ad 4), .ref (ad 5), .ref (ad 6), .ref (ad 7), .ref (ad 8), .ref (ad 9), .int (nI qu), .ref (ad 10), .ref (ad 11), .ref (ad 12), .ref (ad 13), .ref (ad 14), .ref (ad 15), .ref (ad 16), .ref (ad 17), .ref (ad 18)])) := ⟨_, rfl⟩
      replace hP : va_P D kc (kw_w ad cs4 n) H := by rw [hccs4]; exact hP
      have e0 : cs4 0 = .inr (5, [.int (nI la), .int ((if x < 0 then 1 else if x < (nI ma) then (if (nI st) = 0 then 2 else if (nI qu) ≤ 0 then 0 else 2) else 1 : Int32)), .int 0, .int x, .int (nI wi), .int (nI gp), .int (nI vl), .int 0, .int (nI bo), .int cy, .int sd, .ref (ad 1), .ref (ad 2), .ref (ad 3), .int (nI ma), .ref (ad 4), .ref (ad 5), .ref (ad 6), .ref (ad 7), .ref (ad 8), .ref (ad 9), .int (nI qu), .ref (ad 10), .ref (ad 11), .ref (ad 12), .ref (ad 13), .ref (ad 14), .ref (ad 15), .ref (ad 16), .ref (ad 17), .ref (ad 18)]) := by rw [hccs4]; exact va_up_self _ _ _
      replace e1 := (congrFun hccs4 1).trans ((va_up_ne _ _ (by decide)).trans e1)
      replace e2 := (congrFun hccs4 2).trans ((va_up_ne _ _ (by decide)).trans e2)
      replace e3 := (congrFun hccs4 3).trans ((va_up_ne _ _ (by decide)).trans e3)
      replace e4 := (congrFun hccs4 4).trans ((va_up_ne _ _ (by decide)).trans e4)
      replace e5 := (congrFun hccs4 5).trans ((va_up_ne _ _ (by decide)).trans e5)
      replace e6 := (congrFun hccs4 6).trans ((va_up_ne _ _ (by decide)).trans e6)
      replace e7 := (congrFun hccs4 7).trans ((va_up_ne _ _ (by decide)).trans e7)
      replace e8 := (congrFun hccs4 8).trans ((va_up_ne _ _ (by decide)).trans e8)
      replace e9 := (congrFun hccs4 9).trans ((va_up_ne _ _ (by decide)).trans e9)
      replace e10 := (congrFun hccs4 10).trans ((va_up_ne _ _ (by decide)).trans e10)
      replace e11 := (congrFun hccs4 11).trans ((va_up_ne _ _ (by decide)).trans e11)
      replace e12 := (congrFun hccs4 12).trans ((va_up_ne _ _ (by decide)).trans e12)
      replace e13 := (congrFun hccs4 13).trans ((va_up_ne _ _ (by decide)).trans e13)
      replace e14 := (congrFun hccs4 14).trans ((va_up_ne _ _ (by decide)).trans e14)
      replace e15 := (congrFun hccs4 15).trans ((va_up_ne _ _ (by decide)).trans e15)
      replace e16 := (congrFun hccs4 16).trans ((va_up_ne _ _ (by decide)).trans e16)
      replace e17 := (congrFun hccs4 17).trans ((va_up_ne _ _ (by decide)).trans e17)
      replace e18 := (congrFun hccs4 18).trans ((va_up_ne _ _ (by decide)).trans e18)
      clear hccs4
      refine lv_iload_n hx hb d_R_go_63 rfl (lv_at hl 1 rfl) ?_
      exact kw_iret hx hb hr hlocks hP hK hS ⟨by rw [kv_R_go, if_pos h1], (by rw [show kv_R_go_th st ma qu x = (if x < 0 then 1 else if x < (nI ma) then (if (nI st) = 0 then 2 else if (nI qu) ≤ 0 then 0 else 2) else 1 : Int32) from (by rw [kv_R_go_th]), show kv_R_go_st st ma qu x = 0 from (by rw [kv_R_go_st, if_pos h1]), show kv_R_go_nx st nx ma qu x = x from (by rw [kv_R_go_nx, if_pos h1]), show kv_R_go_sa st sa ma qu x = 0 from (by rw [kv_R_go_sa, if_pos h1])]; exact ⟨e0, e1, e2, e3, e4, e5, e6, e7, e8, e9, e10, e11, e12, e13, e14, e15, e16, e17, e18⟩)⟩ d_R_go_64
    · refine lv_iconst (v := 0) hx hb d_R_go_46 (by decide) ?_
      exact kw_iret hx hb hr hlocks hP hK hS ⟨by rw [kv_R_go, if_neg h1], (by rw [show kv_R_go_th st ma qu x = (if x < 0 then 1 else if x < (nI ma) then (if (nI st) = 0 then 2 else if (nI qu) ≤ 0 then 0 else 2) else 1 : Int32) from (by rw [kv_R_go_th]), show kv_R_go_st st ma qu x = st from (by rw [kv_R_go_st, if_neg h1]), show kv_R_go_nx st nx ma qu x = nx from (by rw [kv_R_go_nx, if_neg h1]), show kv_R_go_sa st sa ma qu x = sa from (by rw [kv_R_go_sa, if_neg h1])]; exact ⟨e0, e1, e2, e3, e4, e5, e6, e7, e8, e9, e10, e11, e12, e13, e14, e15, e16, e17, e18⟩)⟩ d_R_go_47
  refine lv_iload_n hx hb d_R_go_1 rfl (lv_at hl 1 rfl) ?_
  refine lv_if_lt (tgt := 13) hx hb d_R_go_2 (by decide) (fun h2 => ?_) (fun h2 => ?_)
  · refine lv_iconst (v := 1) hx hb d_R_go_13 (by decide) ?_
    refine lv_goto (tgt := 36) hx hb d_R_go_14 (by decide) ?_
    exact W.eq (congrArg (fun z9 => F0 m 36 ls (.int z9 :: [.ref (ad 0)])) (show (1 : Int32) = (if x < 0 then 1 else if x < (nI ma) then (if (nI st) = 0 then 2 else if (nI qu) ≤ 0 then 0 else 2) else 1 : Int32) from (by rw [if_pos h2]))) (K36 _ _ _ hP hS hl)
  · refine lv_iload_n hx hb d_R_go_5 rfl (lv_at hl 1 rfl) ?_
    refine lv_aload_n hx hb d_R_go_6 rfl (lv_at hl 0 rfl) ?_
    refine kw_get hx hb hg in_R hown hK hP 0 (Nat.lt_of_lt_of_le (by decide : 0 < 19) hn) e0 rfl 14 (by decide) (hg _ kg_597) rfl rfl d_R_go_7 ?_
    refine lv_icmp_lt (tgt := 17) hx hb d_R_go_10 (by decide) (fun h3 => ?_) (fun h3 => ?_)
    · refine lv_aload_n hx hb d_R_go_17 rfl (lv_at hl 0 rfl) ?_
      refine kw_get hx hb hg in_R hown hK hP 0 (Nat.lt_of_lt_of_le (by decide : 0 < 19) hn) e0 rfl 2 (by decide) (hg _ kg_585) rfl rfl d_R_go_18 ?_
      refine lv_if_eq (tgt := 31) hx hb d_R_go_21 (by decide) (fun h4 => ?_) (fun h4 => ?_)
      · refine lv_iconst (v := 2) hx hb d_R_go_31 (by decide) ?_
        refine lv_goto (tgt := 36) hx hb d_R_go_32 (by decide) ?_
        exact W.eq (congrArg (fun z9 => F0 m 36 ls (.int z9 :: [.ref (ad 0)])) (show (2 : Int32) = (if x < 0 then 1 else if x < (nI ma) then (if (nI st) = 0 then 2 else if (nI qu) ≤ 0 then 0 else 2) else 1 : Int32) from (by rw [if_neg h2, if_pos h3, if_pos h4]))) (K36 _ _ _ hP hS hl)
      · refine lv_aload_n hx hb d_R_go_24 rfl (lv_at hl 0 rfl) ?_
        refine kw_get hx hb hg in_R hown hK hP 0 (Nat.lt_of_lt_of_le (by decide : 0 < 19) hn) e0 rfl 21 (by decide) (hg _ kg_604) rfl rfl d_R_go_25 ?_
        refine lv_if_le (tgt := 35) hx hb d_R_go_28 (by decide) (fun h5 => ?_) (fun h5 => ?_)
        · refine lv_iconst (v := 0) hx hb d_R_go_35 (by decide) ?_
          exact W.eq (congrArg (fun z9 => F0 m 36 ls (.int z9 :: [.ref (ad 0)])) (show (0 : Int32) = (if x < 0 then 1 else if x < (nI ma) then (if (nI st) = 0 then 2 else if (nI qu) ≤ 0 then 0 else 2) else 1 : Int32) from (by rw [if_neg h2, if_pos h3, if_neg h4, if_pos h5]))) (K36 _ _ _ hP hS hl)
        · refine lv_iconst (v := 2) hx hb d_R_go_31 (by decide) ?_
          refine lv_goto (tgt := 36) hx hb d_R_go_32 (by decide) ?_
          exact W.eq (congrArg (fun z9 => F0 m 36 ls (.int z9 :: [.ref (ad 0)])) (show (2 : Int32) = (if x < 0 then 1 else if x < (nI ma) then (if (nI st) = 0 then 2 else if (nI qu) ≤ 0 then 0 else 2) else 1 : Int32) from (by rw [if_neg h2, if_pos h3, if_neg h4, if_neg h5]))) (K36 _ _ _ hP hS hl)
    · refine lv_iconst (v := 1) hx hb d_R_go_13 (by decide) ?_
      refine lv_goto (tgt := 36) hx hb d_R_go_14 (by decide) ?_
      exact W.eq (congrArg (fun z9 => F0 m 36 ls (.int z9 :: [.ref (ad 0)])) (show (1 : Int32) = (if x < 0 then 1 else if x < (nI ma) then (if (nI st) = 0 then 2 else if (nI qu) ≤ 0 then 0 else 2) else 1 : Int32) from (by rw [if_neg h2, if_neg h3]))) (K36 _ _ _ hP hS hl)

def kv_R_limit_th (st : Nat) (qu : Nat) (y9 : Nat) : Int32 := (if (nI y9) < 0 then 1 else if (nI y9) ≤ 128 then (if (nI st) = 0 then 2 else if (nI qu) ≤ 0 then 0 else 2) else 1 : Int32)
def kv_R_limit_bo (st : Nat) (bo : Nat) (qu : Nat) (y9 : Nat) : Nat := if ((if (nI y9) < 0 then 1 else if (nI y9) ≤ 128 then (if (nI st) = 0 then 2 else if (nI qu) ≤ 0 then 0 else 2) else 1 : Int32)) ≤ 0 then y9 else bo
def kv_R_limit (st : Nat) (qu : Nat) (y9 : Nat) : Int32 := if ((if (nI y9) < 0 then 1 else if (nI y9) ≤ 128 then (if (nI st) = 0 then 2 else if (nI qu) ≤ 0 then 0 else 2) else 1 : Int32)) ≤ 0 then 1 else 0
set_option maxRecDepth 100000 in
set_option maxHeartbeats 4000000 in
theorem c_R_limit (l : Launch) {D : va_G} {ad : Nat → Nat} {n : Nat} {cs : Nat → va_E} (hJ : kw_J ad n) {cI : ClassId} {cZ : ClassId} {la : Nat} {th : Int32} {st : Nat} {nx : Int32} {wi : Nat} {gp : Nat} {vl : Nat} {sa : Nat} {bo : Nat} {cy : Int32} {sd : Int32} {ma : Nat} {qu : Nat} {X : Nat → Int32} {F : Nat → Int32} {M : Nat → Int32} {po : Nat → Nat} {pd : Nat → Nat} {pa : Nat → Nat} {pb : Nat → Nat} {pn : Nat → Int32} {pm : Nat → Int32} {wh : Nat → Nat} {wd : Nat → Nat} {rg : Nat → Nat} {fr : Nat → Nat} {sp : Nat → Nat} {dn : Nat → Nat} {bf : Nat → Nat} {XA : Nat → Int32} {XB : Nat → Int32} {y9 : Nat} (hn : 19 ≤ n) (hR : kR ad cI cZ cs la th st nx wi gp vl sa bo cy sd ma qu X F M po pd pa pb pn pm wh wd rg fr sp dn bf XA XB)  : kw_mi l y_R_limit w_R_limit (kr 0) D kc (ktR cI cZ) ad n cs [.ref (ad 0), .int (nI y9)] (fun r9 c9 => r9 = kv_R_limit st qu y9 ∧ kR ad cI cZ c9 la (kv_R_limit_th st qu y9) st nx wi gp vl sa (kv_R_limit_bo st bo qu y9) cy sd ma qu X F M po pd pa pb pn pm wh wd rg fr sp dn bf XA XB) := by
  refine kw_of (cc := b_R_limit) (maxL := 2) (ret := (some .boolean)) (by decide) rfl (Nat.le_of_ble_eq_true rfl) ?_
  intro p e s m below meth c ls hx hb hr hml hown hts hlocks hP hK hl
  have hg : ∀ w9 ∈ kg_G, w9.before [.ref (ad 0), .int (nI y9)].toArray s = true := fun w9 h9 => hts w9 (List.mem_cons_of_mem _ h9)
  have hown : s.vm.findClass "LaneMachineModel" = some m.cls := hown
  have hA : ∀ k, k < n → kw_A ad n (ad k) := fun k hk => ⟨k, hk, rfl⟩
  have hS : va_S (kw_A ad n) s.heap s.heap [] := va_S.rf
  have hl : lv_has ls 2 [(0, .ref (ad 0)), (1, .int (nI y9))] := hl
  obtain ⟨e0, e1, e2, e3, e4, e5, e6, e7, e8, e9, e10, e11, e12, e13, e14, e15, e16, e17, e18⟩ := hR
  refine lv_aload_n hx hb d_R_limit_0 rfl (lv_at hl 0 rfl) ?_
  have K35 : ∀ (H : Heap) (locs : List Loc) (ls : Array Slot), va_P D kc (kw_w ad cs n) H → va_S (kw_A ad n) s.heap H locs → lv_has ls 2 [(0, .ref (ad 0)), (1, .int (nI y9))] → W p l e (kr 0) s m [.ref (ad 0), .int (nI y9)].toArray below meth c H locs 0 0 (MQ below (va_Qi (fun r9 c9 => r9 = kv_R_limit st qu y9 ∧ kR ad cI cZ c9 la (kv_R_limit_th st qu y9) st nx wi gp vl sa (kv_R_limit_bo st bo qu y9) cy sd ma qu X F M po pd pa pb pn pm wh wd rg fr sp dn bf XA XB) (kw_Pre D kc (ktR cI cZ) ad n) (kw_A ad n)) [.ref (ad 0), .int (nI y9)].toArray s 0 0 (kw_A ad n)) (F0 m 35 ls [.int ((if (nI y9) < 0 then 1 else if (nI y9) ≤ 128 then (if (nI st) = 0 then 2 else if (nI qu) ≤ 0 then 0 else 2) else 1 : Int32)), .ref (ad 0)]) := by
    intro H locs ls hP hS hl
    refine kw_put (ty := .int) hx hb hg in_R t_R ty_R nm_R hown hK hP hJ hA hS 0 (Nat.lt_of_lt_of_le (by decide : 0 < 19) hn) e0 rfl 1 (by decide) (hg _ kg_584) rfl rfl (by decide +kernel) rfl rfl (Nat.le_of_ble_eq_true rfl) d_R_limit_35 (fun H locs hP hS => ?_)
    obtain ⟨cs1, hccs1⟩ : ∃ z9, z9 = va_up cs 0 (.inr (5, [.int (nI la), .int ((if (nI y9) < 0 then 1 else if (nI y9) ≤ 128 then (if (nI st) = 0 then 2 else if (nI qu) ≤ 0 then 0 else 2) else 1 : Int32)), .int (nI st), .int nx, .int (nI wi), .int (nI gp), .int (nI vl), .int (nI sa), .int (nI bo), .int cy, .int sd, .ref (ad 1), .ref (ad 2), .ref (ad 3), .int (nI ma), .ref (ad 4), .ref (ad 5), .ref (ad 6), .ref (ad 7), .ref (ad 8), .ref (ad 9), .int (nI qu), .ref (ad 10), .ref (ad 11), .ref (ad 12), .ref (ad 13), .ref (ad 14), .ref (ad 15), .ref (ad 16), .ref (ad 17), .ref (ad 18)])) := ⟨_, rfl⟩
    replace hP : va_P D kc (kw_w ad cs1 n) H := by rw [hccs1]; exact hP
    have e0 : cs1 0 = .inr (5, [.int (nI la), .int ((if (nI y9) < 0 then 1 else if (nI y9) ≤ 128 then (if (nI st) = 0 then 2 else if (nI qu) ≤ 0 then 0 else 2) else 1 : Int32)), .int (nI st), .int nx, .int (nI wi), .int (nI gp), .int (nI vl), .int (nI sa), .int (nI bo), .int cy, .int sd, .ref (ad 1), .ref (ad 2), .ref (ad 3), .int (nI ma), .ref (ad 4), .ref (ad 5), .ref (ad 6), .ref (ad 7), .ref (ad 8), .ref (ad 9), .int (nI qu), .ref (ad 10), .ref (ad 11), .ref (ad 12), .ref (ad 13), .ref (ad 14), .ref (ad 15), .ref (ad 16), .ref (ad 17), .ref (ad 18)]) := by rw [hccs1]; exact va_up_self _ _ _
    replace e1 := (congrFun hccs1 1).trans ((va_up_ne _ _ (by decide)).trans e1)
    replace e2 := (congrFun hccs1 2).trans ((va_up_ne _ _ (by decide)).trans e2)
    replace e3 := (congrFun hccs1 3).trans ((va_up_ne _ _ (by decide)).trans e3)
    replace e4 := (congrFun hccs1 4).trans ((va_up_ne _ _ (by decide)).trans e4)
    replace e5 := (congrFun hccs1 5).trans ((va_up_ne _ _ (by decide)).trans e5)
    replace e6 := (congrFun hccs1 6).trans ((va_up_ne _ _ (by decide)).trans e6)
    replace e7 := (congrFun hccs1 7).trans ((va_up_ne _ _ (by decide)).trans e7)
    replace e8 := (congrFun hccs1 8).trans ((va_up_ne _ _ (by decide)).trans e8)
    replace e9 := (congrFun hccs1 9).trans ((va_up_ne _ _ (by decide)).trans e9)
    replace e10 := (congrFun hccs1 10).trans ((va_up_ne _ _ (by decide)).trans e10)
    replace e11 := (congrFun hccs1 11).trans ((va_up_ne _ _ (by decide)).trans e11)
    replace e12 := (congrFun hccs1 12).trans ((va_up_ne _ _ (by decide)).trans e12)
    replace e13 := (congrFun hccs1 13).trans ((va_up_ne _ _ (by decide)).trans e13)
    replace e14 := (congrFun hccs1 14).trans ((va_up_ne _ _ (by decide)).trans e14)
    replace e15 := (congrFun hccs1 15).trans ((va_up_ne _ _ (by decide)).trans e15)
    replace e16 := (congrFun hccs1 16).trans ((va_up_ne _ _ (by decide)).trans e16)
    replace e17 := (congrFun hccs1 17).trans ((va_up_ne _ _ (by decide)).trans e17)
    replace e18 := (congrFun hccs1 18).trans ((va_up_ne _ _ (by decide)).trans e18)
    clear hccs1
    refine lv_aload_n hx hb d_R_limit_38 rfl (lv_at hl 0 rfl) ?_
    refine kw_get hx hb hg in_R hown hK hP 0 (Nat.lt_of_lt_of_le (by decide : 0 < 19) hn) e0 rfl 1 (by decide) (hg _ kg_584) rfl rfl d_R_limit_39 ?_
    refine lv_if_le (tgt := 47) hx hb d_R_limit_42 (by decide) (fun h1 => ?_) (fun h1 => ?_)
    · refine lv_aload_n hx hb d_R_limit_47 rfl (lv_at hl 0 rfl) ?_
      refine lv_iload_n hx hb d_R_limit_48 rfl (lv_at hl 1 rfl) ?_
      refine kw_put (ty := .int) hx hb hg in_R t_R ty_R nm_R hown hK hP hJ hA hS 0 (Nat.lt_of_lt_of_le (by decide : 0 < 19) hn) e0 rfl 8 (by decide) (hg _ kg_591) rfl rfl (by decide +kernel) rfl rfl (Nat.le_of_ble_eq_true rfl) d_R_limit_49 (fun H locs hP hS => ?_)
      obtain ⟨cs2, hccs2⟩ : ∃ z9, z9 = va_up cs1 0 (.inr (5, [.int (nI la), .int ((if (nI y9) < 0 then 1 else if (nI y9) ≤ 128 then (if (nI st) = 0 then 2 else if (nI qu) ≤ 0 then 0 else 2) else 1 : Int32)), .int (nI st), .int nx, .int (nI wi), .int (nI gp), .int (nI vl), .int (nI sa), .int (nI y9), .int cy, .int sd, .ref (ad 1), .ref (ad 2), .ref (ad 3), .int (nI ma), .ref (ad 4), .ref (ad 5), .ref (ad 6), .ref (ad 7), .ref (ad 8), .ref (ad 9), .int (nI qu), .ref (ad 10), .ref (ad 11), .ref (ad 12), .ref (ad 13), .ref (ad 14), .ref (ad 15), .ref (ad 16), .ref (ad 17), .ref (ad 18)])) := ⟨_, rfl⟩
      replace hP : va_P D kc (kw_w ad cs2 n) H := by rw [hccs2]; exact hP
      have e0 : cs2 0 = .inr (5, [.int (nI la), .int ((if (nI y9) < 0 then 1 else if (nI y9) ≤ 128 then (if (nI st) = 0 then 2 else if (nI qu) ≤ 0 then 0 else 2) else 1 : Int32)), .int (nI st), .int nx, .int (nI wi), .int (nI gp), .int (nI vl), .int (nI sa), .int (nI y9), .int cy, .int sd, .ref (ad 1), .ref (ad 2), .ref (ad 3), .int (nI ma), .ref (ad 4), .ref (ad 5), .ref (ad 6), .ref (ad 7), .ref (ad 8), .ref (ad 9), .int (nI qu), .ref (ad 10), .ref (ad 11), .ref (ad 12), .ref (ad 13), .ref (ad 14), .ref (ad 15), .ref (ad 16), .ref (ad 17), .ref (ad 18)]) := by rw [hccs2]; exact va_up_self _ _ _
      replace e1 := (congrFun hccs2 1).trans ((va_up_ne _ _ (by decide)).trans e1)
      replace e2 := (congrFun hccs2 2).trans ((va_up_ne _ _ (by decide)).trans e2)
      replace e3 := (congrFun hccs2 3).trans ((va_up_ne _ _ (by decide)).trans e3)
      replace e4 := (congrFun hccs2 4).trans ((va_up_ne _ _ (by decide)).trans e4)
      replace e5 := (congrFun hccs2 5).trans ((va_up_ne _ _ (by decide)).trans e5)
      replace e6 := (congrFun hccs2 6).trans ((va_up_ne _ _ (by decide)).trans e6)
      replace e7 := (congrFun hccs2 7).trans ((va_up_ne _ _ (by decide)).trans e7)
      replace e8 := (congrFun hccs2 8).trans ((va_up_ne _ _ (by decide)).trans e8)
      replace e9 := (congrFun hccs2 9).trans ((va_up_ne _ _ (by decide)).trans e9)
      replace e10 := (congrFun hccs2 10).trans ((va_up_ne _ _ (by decide)).trans e10)
      replace e11 := (congrFun hccs2 11).trans ((va_up_ne _ _ (by decide)).trans e11)
      replace e12 := (congrFun hccs2 12).trans ((va_up_ne _ _ (by decide)).trans e12)
      replace e13 := (congrFun hccs2 13).trans ((va_up_ne _ _ (by decide)).trans e13)
      replace e14 := (congrFun hccs2 14).trans ((va_up_ne _ _ (by decide)).trans e14)
      replace e15 := (congrFun hccs2 15).trans ((va_up_ne _ _ (by decide)).trans e15)
      replace e16 := (congrFun hccs2 16).trans ((va_up_ne _ _ (by decide)).trans e16)
      replace e17 := (congrFun hccs2 17).trans ((va_up_ne _ _ (by decide)).trans e17)
      replace e18 := (congrFun hccs2 18).trans ((va_up_ne _ _ (by decide)).trans e18)
      clear hccs2
      refine lv_iconst (v := 1) hx hb d_R_limit_52 (by decide) ?_
      exact kw_zret hx hb hr hlocks hP hK hS (Or.inr rfl) ⟨by rw [kv_R_limit, if_pos h1], (by rw [show kv_R_limit_th st qu y9 = (if (nI y9) < 0 then 1 else if (nI y9) ≤ 128 then (if (nI st) = 0 then 2 else if (nI qu) ≤ 0 then 0 else 2) else 1 : Int32) from (by rw [kv_R_limit_th]), show kv_R_limit_bo st bo qu y9 = y9 from (by rw [kv_R_limit_bo, if_pos h1])]; exact ⟨e0, e1, e2, e3, e4, e5, e6, e7, e8, e9, e10, e11, e12, e13, e14, e15, e16, e17, e18⟩)⟩ d_R_limit_53
    · refine lv_iconst (v := 0) hx hb d_R_limit_45 (by decide) ?_
      exact kw_zret hx hb hr hlocks hP hK hS (Or.inl rfl) ⟨by rw [kv_R_limit, if_neg h1], (by rw [show kv_R_limit_th st qu y9 = (if (nI y9) < 0 then 1 else if (nI y9) ≤ 128 then (if (nI st) = 0 then 2 else if (nI qu) ≤ 0 then 0 else 2) else 1 : Int32) from (by rw [kv_R_limit_th]), show kv_R_limit_bo st bo qu y9 = bo from (by rw [kv_R_limit_bo, if_neg h1])]; exact ⟨e0, e1, e2, e3, e4, e5, e6, e7, e8, e9, e10, e11, e12, e13, e14, e15, e16, e17, e18⟩)⟩ d_R_limit_46
  refine lv_iload_n hx hb d_R_limit_1 rfl (lv_at hl 1 rfl) ?_
  refine lv_if_lt (tgt := 12) hx hb d_R_limit_2 (by decide) (fun h2 => ?_) (fun h2 => ?_)
  · refine lv_iconst (v := 1) hx hb d_R_limit_12 (by decide) ?_
    refine lv_goto (tgt := 35) hx hb d_R_limit_13 (by decide) ?_
    exact W.eq (congrArg (fun z9 => F0 m 35 ls (.int z9 :: [.ref (ad 0)])) (show (1 : Int32) = (if (nI y9) < 0 then 1 else if (nI y9) ≤ 128 then (if (nI st) = 0 then 2 else if (nI qu) ≤ 0 then 0 else 2) else 1 : Int32) from (by rw [if_pos h2]))) (K35 _ _ _ hP hS hl)
  · refine lv_iload_n hx hb d_R_limit_5 rfl (lv_at hl 1 rfl) ?_
    refine lv_sipush (v := 128) hx hb d_R_limit_6 (by decide) ?_
    refine lv_icmp_le (tgt := 16) hx hb d_R_limit_9 (by decide) (fun h3 => ?_) (fun h3 => ?_)
    · refine lv_aload_n hx hb d_R_limit_16 rfl (lv_at hl 0 rfl) ?_
      refine kw_get hx hb hg in_R hown hK hP 0 (Nat.lt_of_lt_of_le (by decide : 0 < 19) hn) e0 rfl 2 (by decide) (hg _ kg_585) rfl rfl d_R_limit_17 ?_
      refine lv_if_eq (tgt := 30) hx hb d_R_limit_20 (by decide) (fun h4 => ?_) (fun h4 => ?_)
      · refine lv_iconst (v := 2) hx hb d_R_limit_30 (by decide) ?_
        refine lv_goto (tgt := 35) hx hb d_R_limit_31 (by decide) ?_
        exact W.eq (congrArg (fun z9 => F0 m 35 ls (.int z9 :: [.ref (ad 0)])) (show (2 : Int32) = (if (nI y9) < 0 then 1 else if (nI y9) ≤ 128 then (if (nI st) = 0 then 2 else if (nI qu) ≤ 0 then 0 else 2) else 1 : Int32) from (by rw [if_neg h2, if_pos h3, if_pos h4]))) (K35 _ _ _ hP hS hl)
      · refine lv_aload_n hx hb d_R_limit_23 rfl (lv_at hl 0 rfl) ?_
        refine kw_get hx hb hg in_R hown hK hP 0 (Nat.lt_of_lt_of_le (by decide : 0 < 19) hn) e0 rfl 21 (by decide) (hg _ kg_604) rfl rfl d_R_limit_24 ?_
        refine lv_if_le (tgt := 34) hx hb d_R_limit_27 (by decide) (fun h5 => ?_) (fun h5 => ?_)
        · refine lv_iconst (v := 0) hx hb d_R_limit_34 (by decide) ?_
          exact W.eq (congrArg (fun z9 => F0 m 35 ls (.int z9 :: [.ref (ad 0)])) (show (0 : Int32) = (if (nI y9) < 0 then 1 else if (nI y9) ≤ 128 then (if (nI st) = 0 then 2 else if (nI qu) ≤ 0 then 0 else 2) else 1 : Int32) from (by rw [if_neg h2, if_pos h3, if_neg h4, if_pos h5]))) (K35 _ _ _ hP hS hl)
        · refine lv_iconst (v := 2) hx hb d_R_limit_30 (by decide) ?_
          refine lv_goto (tgt := 35) hx hb d_R_limit_31 (by decide) ?_
          exact W.eq (congrArg (fun z9 => F0 m 35 ls (.int z9 :: [.ref (ad 0)])) (show (2 : Int32) = (if (nI y9) < 0 then 1 else if (nI y9) ≤ 128 then (if (nI st) = 0 then 2 else if (nI qu) ≤ 0 then 0 else 2) else 1 : Int32) from (by rw [if_neg h2, if_pos h3, if_neg h4, if_neg h5]))) (K35 _ _ _ hP hS hl)
    · refine lv_iconst (v := 1) hx hb d_R_limit_12 (by decide) ?_
      refine lv_goto (tgt := 35) hx hb d_R_limit_13 (by decide) ?_
      exact W.eq (congrArg (fun z9 => F0 m 35 ls (.int z9 :: [.ref (ad 0)])) (show (1 : Int32) = (if (nI y9) < 0 then 1 else if (nI y9) ≤ 128 then (if (nI st) = 0 then 2 else if (nI qu) ≤ 0 then 0 else 2) else 1 : Int32) from (by rw [if_neg h2, if_neg h3]))) (K35 _ _ _ hP hS hl)
