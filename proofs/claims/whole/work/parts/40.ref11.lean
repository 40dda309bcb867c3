/-! the reference: queue, poke, setX, put -/
theorem kw_rq {x : Int32} {a : Nat} (h1 : ¬ x < 0) (h2 : x < nI a) (ha : a ≤ 5) : x = nI x.toNatClampNeg ∧ x.toNatClampNeg < 5 := by
  obtain ⟨j, hj, rfl⟩ := nI_of h1
  rw [nI_ltI hj (by omega)] at h2
  rw [nI_clamp hj]
  exact ⟨rfl, by omega⟩
theorem kw_pk {x y : Int32} (h : (if x < 0 then 1 else if 127 < x then 1 else if y < (-128) then 1 else if y ≤ 255 then 0 else 1 : Int32) ≤ 0) : x = nI x.toNatClampNeg ∧ x.toNatClampNeg < 128 := by
  by_cases h1 : x < 0
  · rw [if_pos h1] at h; exact absurd h (by decide)
  · by_cases h2 : 127 < x
    · rw [if_neg h1, if_pos h2] at h; exact absurd h (by decide)
    · have h3 := kw_rng (M := 127) h1 h2 (by decide)
      exact ⟨h3.1, by omega⟩

def kv_R_queue_th  : Int32 := 0
def kv_R_queue (qu : Nat) (wh : Nat → Nat) (sp : Nat → Nat) (dn : Nat → Nat) (x : Int32) (y : Int32) : Int32 := if x < 0 then ((-1)) else if x < (nI qu) then (if y = 0 then (nI (wh x.toNatClampNeg)) else if y = 1 then (nI (sp x.toNatClampNeg)) else if y = 2 then (nI (dn x.toNatClampNeg)) else ((-1))) else ((-1))
set_option maxRecDepth 100000 in
set_option maxHeartbeats 4000000 in
theorem c_R_queue (l : Launch) {D : va_G} {ad : Nat → Nat} {n : Nat} {cs : Nat → va_E} (hJ : kw_J ad n) {cI : ClassId} {cZ : ClassId} {la : Nat} {th : Int32} {st : Nat} {nx : Int32} {wi : Nat} {gp : Nat} {vl : Nat} {sa : Nat} {bo : Nat} {cy : Int32} {sd : Int32} {ma : Nat} {qu : Nat} {X : Nat → Int32} {F : Nat → Int32} {M : Nat → Int32} {po : Nat → Nat} {pd : Nat → Nat} {pa : Nat → Nat} {pb : Nat → Nat} {pn : Nat → Int32} {pm : Nat → Int32} {wh : Nat → Nat} {wd : Nat → Nat} {rg : Nat → Nat} {fr : Nat → Nat} {sp : Nat → Nat} {dn : Nat → Nat} {bf : Nat → Nat} {XA : Nat → Int32} {XB : Nat → Int32} {x : Int32} {y : Int32} (hn : 19 ≤ n) (hR : kR ad cI cZ cs la th st nx wi gp vl sa bo cy sd ma qu X F M po pd pa pb pn pm wh wd rg fr sp dn bf XA XB) (hqu : qu ≤ 5) : kw_mi l y_R_queue w_R_queue (kr 0) D kc (ktR cI cZ) ad n cs [.ref (ad 0), .int x, .int y] (fun r9 c9 => r9 = kv_R_queue qu wh sp dn x y ∧ kR ad cI cZ c9 la kv_R_queue_th st nx wi gp vl sa bo cy sd ma qu X F M po pd pa pb pn pm wh wd rg fr sp dn bf XA XB) := by
  refine kw_of (cc := b_R_queue) (maxL := 3) (ret := (some .int)) (by decide) rfl (Nat.le_of_ble_eq_true rfl) ?_
  intro p e s m below meth c ls hx hb hr hml hown hts hlocks hP hK hl
  have hg : ∀ w9 ∈ kg_G, w9.before [.ref (ad 0), .int x, .int y].toArray s = true := fun w9 h9 => hts w9 (List.mem_cons_of_mem _ h9)
  have hown : s.vm.findClass "LaneMachineModel" = some m.cls := hown
  have hA : ∀ k, k < n → kw_A ad n (ad k) := fun k hk => ⟨k, hk, rfl⟩
  have hS : va_S (kw_A ad n) s.heap s.heap [] := va_S.rf
  have hl : lv_has ls 3 [(0, .ref (ad 0)), (1, .int x), (2, .int y)] := hl
  obtain ⟨e0, e1, e2, e3, e4, e5, e6, e7, e8, e9, e10, e11, e12, e13, e14, e15, e16, e17, e18⟩ := hR
  refine lv_aload_n hx hb d_R_queue_0 rfl (lv_at hl 0 rfl) ?_
  refine lv_iconst (v := 0) hx hb d_R_queue_1 (by decide) ?_
  refine kw_put (ty := .int) hx hb hg in_R t_R ty_R nm_R hown hK hP hJ hA hS 0 (Nat.lt_of_lt_of_le (by decide : 0 < 19) hn) e0 rfl 1 (by decide) (hg _ kg_584) rfl rfl (by decide +kernel) rfl rfl (Nat.le_of_ble_eq_true rfl) d_R_queue_2 (fun H locs hP hS => ?_)
  obtain ⟨cs1, hccs1⟩ : ∃ z9, z9 = va_up cs 0 (.inr (5, [.int (nI la), .int 0, .int (nI st), .int nx, .int (nI wi), .int (nI gp), .int (nI vl), .int (nI sa), .int (nI bo), .int cy, .int sd, .ref (ad 1), .ref (ad 2), .ref (ad 3), .int (nI ma), .ref (ad 4), .ref (ad 5), .ref (ad 6), .ref (ad 7), .ref (ad 8), .ref (ad 9), .int (nI qu), .ref (ad 10), .ref (ad 11), .ref (ad 12), .ref (ad 13), .ref (ad 14), .ref (ad 15), .ref (ad 16), .ref (ad 17), .ref (ad 18)])) := ⟨_, rfl⟩
  replace hP : va_P D kc (kw_w ad cs1 n) H := by rw [hccs1]; exact hP
  have e0 : cs1 0 = .inr (5, [.int (nI la), .int 0, .int (nI st), .int nx, .int (nI wi), .int (nI gp), .int (nI vl), .int (nI sa), .int (nI bo), .int cy, .int sd, .ref (ad 1), .ref (ad 2), .ref (ad 3), .int (nI ma), .ref (ad 4), .ref (ad 5), .ref (ad 6), .ref (ad 7), .ref (ad 8), .ref (ad 9), .int (nI qu), .ref (ad 10), .ref (ad 11), .ref (ad 12), .ref (ad 13), .ref (ad 14), .ref (ad 15), .ref (ad 16), .ref (ad 17), .ref (ad 18)]) := by rw [hccs1]; exact va_up_self _ _ _
  replace e1 := (congrFun hccs1 1).trans ((va_up_ne _ _ (by decide)).trans e1)
  replace e2 := (congrFun hccs1 2).trans ((va_up_ne _ _ (by decide)).trans e2)
  replace e3 := (congrFun hccs1 3).trans ((va_up_ne _ _ (by decide)).trans e3)
  replace e4 := (congrFun hccs1 4).trans ((va_up_ne _ _ (by decide)).trans e4)
  replace e5 := (congrFun hccs1 5).trans ((va_up_ne _ _ (by decide)).trans e5)
  replace e6 := (congrFun hccs1 6).trans ((va_up_ne _ _ (by decide)).trans e6)
  replace e7 := (congrFun hccs1 7).trans ((va_up_ne _ _ (by decide)).trans e7)
  replace e8 := (congrFun hccs1 8).trans ((va_up_ne _ _ (by decide)).trans e8)
  replace e9 := (congrFun hccs1 9).trans ((va_up_ne _ _ (by decide)).trans e9)
  replace e10 := (congrFun hccs1 10).trans ((va_up_ne _ _ (by decide)).trans e10)
  replace e11 := (congrFun hccs1 11).trans ((va_up_ne _ _ (by decide)).trans e11)
  replace e12 := (congrFun hccs1 12).trans ((va_up_ne _ _ (by decide)).trans e12)
  replace e13 := (congrFun hccs1 13).trans ((va_up_ne _ _ (by decide)).trans e13)
  replace e14 := (congrFun hccs1 14).trans ((va_up_ne _ _ (by decide)).trans e14)
  replace e15 := (congrFun hccs1 15).trans ((va_up_ne _ _ (by decide)).trans e15)
  replace e16 := (congrFun hccs1 16).trans ((va_up_ne _ _ (by decide)).trans e16)
  replace e17 := (congrFun hccs1 17).trans ((va_up_ne _ _ (by decide)).trans e17)
  replace e18 := (congrFun hccs1 18).trans ((va_up_ne _ _ (by decide)).trans e18)
  clear hccs1
  refine lv_iload_n hx hb d_R_queue_5 rfl (lv_at hl 1 rfl) ?_
  refine lv_if_lt (tgt := 17) hx hb d_R_queue_6 (by decide) (fun h1 => ?_) (fun h1 => ?_)
  · refine lv_iconst (v := (-1)) hx hb d_R_queue_17 (by decide) ?_
    exact kw_iret hx hb hr hlocks hP hK hS ⟨by rw [kv_R_queue, if_pos h1], (by rw [show kv_R_queue_th = 0 from (by rw [kv_R_queue_th])]; exact ⟨e0, e1, e2, e3, e4, e5, e6, e7, e8, e9, e10, e11, e12, e13, e14, e15, e16, e17, e18⟩)⟩ d_R_queue_18
  · refine lv_iload_n hx hb d_R_queue_9 rfl (lv_at hl 1 rfl) ?_
    refine lv_aload_n hx hb d_R_queue_10 rfl (lv_at hl 0 rfl) ?_
    refine kw_get hx hb hg in_R hown hK hP 0 (Nat.lt_of_lt_of_le (by decide : 0 < 19) hn) e0 rfl 21 (by decide) (hg _ kg_604) rfl rfl d_R_queue_11 ?_
    refine lv_icmp_lt (tgt := 19) hx hb d_R_queue_14 (by decide) (fun h2 => ?_) (fun h2 => ?_)
    · refine lv_iload_n hx hb d_R_queue_19 rfl (lv_at hl 2 rfl) ?_
      refine lv_if_ne (tgt := 32) hx hb d_R_queue_20 (by decide) (fun h3 => ?_) (fun h3 => ?_)
      · refine lv_iload_n hx hb d_R_queue_32 rfl (lv_at hl 2 rfl) ?_
        refine lv_iconst (v := 1) hx hb d_R_queue_33 (by decide) ?_
        refine lv_icmp_ne (tgt := 46) hx hb d_R_queue_34 (by decide) (fun h4 => ?_) (fun h4 => ?_)
        · refine lv_iload_n hx hb d_R_queue_46 rfl (lv_at hl 2 rfl) ?_
          refine lv_iconst (v := 2) hx hb d_R_queue_47 (by decide) ?_
          refine lv_icmp_ne (tgt := 60) hx hb d_R_queue_48 (by decide) (fun h5 => ?_) (fun h5 => ?_)
          · refine lv_iconst (v := (-1)) hx hb d_R_queue_60 (by decide) ?_
            exact kw_iret hx hb hr hlocks hP hK hS ⟨by rw [kv_R_queue, if_neg h1, if_pos h2, if_neg h3, if_neg h4, if_neg h5], (by rw [show kv_R_queue_th = 0 from (by rw [kv_R_queue_th])]; exact ⟨e0, e1, e2, e3, e4, e5, e6, e7, e8, e9, e10, e11, e12, e13, e14, e15, e16, e17, e18⟩)⟩ d_R_queue_61
          · refine lv_aload_n hx hb d_R_queue_51 rfl (lv_at hl 0 rfl) ?_
            refine kw_get hx hb hg in_R hown hK hP 0 (Nat.lt_of_lt_of_le (by decide : 0 < 19) hn) e0 rfl 27 (by decide) (hg _ kg_610) rfl rfl d_R_queue_52 ?_
            refine lv_iload_n hx hb d_R_queue_55 rfl (lv_at hl 1 rfl) ?_
            refine kw_iald hx hb hK hP 15 0 (Nat.lt_of_lt_of_le (by decide : 15 < 19) hn) e15 rfl x.toNatClampNeg ((kw_rq h1 h2 hqu).1) ((kw_rq h1 h2 hqu).2) (by omega) d_R_queue_56 ?_
            refine lv_goto (tgt := 61) hx hb d_R_queue_57 (by decide) ?_
            exact kw_iret hx hb hr hlocks hP hK hS ⟨by rw [kv_R_queue, if_neg h1, if_pos h2, if_neg h3, if_neg h4, if_pos h5], (by rw [show kv_R_queue_th = 0 from (by rw [kv_R_queue_th])]; exact ⟨e0, e1, e2, e3, e4, e5, e6, e7, e8, e9, e10, e11, e12, e13, e14, e15, e16, e17, e18⟩)⟩ d_R_queue_61
        · refine lv_aload_n hx hb d_R_queue_37 rfl (lv_at hl 0 rfl) ?_
          refine kw_get hx hb hg in_R hown hK hP 0 (Nat.lt_of_lt_of_le (by decide : 0 < 19) hn) e0 rfl 26 (by decide) (hg _ kg_609) rfl rfl d_R_queue_38 ?_
          refine lv_iload_n hx hb d_R_queue_41 rfl (lv_at hl 1 rfl) ?_
          refine kw_iald hx hb hK hP 14 0 (Nat.lt_of_lt_of_le (by decide : 14 < 19) hn) e14 rfl x.toNatClampNeg ((kw_rq h1 h2 hqu).1) ((kw_rq h1 h2 hqu).2) (by omega) d_R_queue_42 ?_
          refine lv_goto (tgt := 61) hx hb d_R_queue_43 (by decide) ?_
          exact kw_iret hx hb hr hlocks hP hK hS ⟨by rw [kv_R_queue, if_neg h1, if_pos h2, if_neg h3, if_pos h4], (by rw [show kv_R_queue_th = 0 from (by rw [kv_R_queue_th])]; exact ⟨e0, e1, e2, e3, e4, e5, e6, e7, e8, e9, e10, e11, e12, e13, e14, e15, e16, e17, e18⟩)⟩ d_R_queue_61
      · refine lv_aload_n hx hb d_R_queue_23 rfl (lv_at hl 0 rfl) ?_
        refine kw_get hx hb hg in_R hown hK hP 0 (Nat.lt_of_lt_of_le (by decide : 0 < 19) hn) e0 rfl 22 (by decide) (hg _ kg_605) rfl rfl d_R_queue_24 ?_
        refine lv_iload_n hx hb d_R_queue_27 rfl (lv_at hl 1 rfl) ?_
        refine kw_iald hx hb hK hP 10 0 (Nat.lt_of_lt_of_le (by decide : 10 < 19) hn) e10 rfl x.toNatClampNeg ((kw_rq h1 h2 hqu).1) ((kw_rq h1 h2 hqu).2) (by omega) d_R_queue_28 ?_
        refine lv_goto (tgt := 61) hx hb d_R_queue_29 (by decide) ?_
        exact kw_iret hx hb hr hlocks hP hK hS ⟨by rw [kv_R_queue, if_neg h1, if_pos h2, if_pos h3], (by rw [show kv_R_queue_th = 0 from (by rw [kv_R_queue_th])]; exact ⟨e0, e1, e2, e3, e4, e5, e6, e7, e8, e9, e10, e11, e12, e13, e14, e15, e16, e17, e18⟩)⟩ d_R_queue_61
    · refine lv_iconst (v := (-1)) hx hb d_R_queue_17 (by decide) ?_
      exact kw_iret hx hb hr hlocks hP hK hS ⟨by rw [kv_R_queue, if_neg h1, if_neg h2], (by rw [show kv_R_queue_th = 0 from (by rw [kv_R_queue_th])]; exact ⟨e0, e1, e2, e3, e4, e5, e6, e7, e8, e9, e10, e11, e12, e13, e14, e15, e16, e17, e18⟩)⟩ d_R_queue_18

def kv_R_poke_th (x : Int32) (y : Int32) : Int32 := (if x < 0 then 1 else if 127 < x then 1 else if y < ((-128)) then 1 else if y ≤ 255 then 0 else 1 : Int32)
def kv_R_poke_M (M : Nat → Int32) (x : Int32) (y : Int32) : Nat → Int32 := if ((if x < 0 then 1 else if 127 < x then 1 else if y < ((-128)) then 1 else if y ≤ 255 then 0 else 1 : Int32)) ≤ 0 then (upd M x.toNatClampNeg ((y <<< (24 &&& 31)) >>> (24 &&& 31))) else M
def kv_R_poke (x : Int32) (y : Int32) : Int32 := if ((if x < 0 then 1 else if 127 < x then 1 else if y < ((-128)) then 1 else if y ≤ 255 then 0 else 1 : Int32)) ≤ 0 then 1 else 0
set_option maxRecDepth 100000 in
set_option maxHeartbeats 4000000 in
theorem c_R_poke (l : Launch) {D : va_G} {ad : Nat → Nat} {n : Nat} {cs : Nat → va_E} (hJ : kw_J ad n) {cI : ClassId} {cZ : ClassId} {la : Nat} {th : Int32} {st : Nat} {nx : Int32} {wi : Nat} {gp : Nat} {vl : Nat} {sa : Nat} {bo : Nat} {cy : Int32} {sd : Int32} {ma : Nat} {qu : Nat} {X : Nat → Int32} {F : Nat → Int32} {M : Nat → Int32} {po : Nat → Nat} {pd : Nat → Nat} {pa : Nat → Nat} {pb : Nat → Nat} {pn : Nat → Int32} {pm : Nat → Int32} {wh : Nat → Nat} {wd : Nat → Nat} {rg : Nat → Nat} {fr : Nat → Nat} {sp : Nat → Nat} {dn : Nat → Nat} {bf : Nat → Nat} {XA : Nat → Int32} {XB : Nat → Int32} {x : Int32} {y : Int32} (hn : 19 ≤ n) (hR : kR ad cI cZ cs la th st nx wi gp vl sa bo cy sd ma qu X F M po pd pa pb pn pm wh wd rg fr sp dn bf XA XB)  : kw_mi l y_R_poke w_R_poke (kr 0) D kc (ktR cI cZ) ad n cs [.ref (ad 0), .int x, .int y] (fun r9 c9 => r9 = kv_R_poke x y ∧ kR ad cI cZ c9 la (kv_R_poke_th x y) st nx wi gp vl sa bo cy sd ma qu X F (kv_R_poke_M M x y) po pd pa pb pn pm wh wd rg fr sp dn bf XA XB) := by
  refine kw_of (cc := b_R_poke) (maxL := 3) (ret := (some .boolean)) (by decide) rfl (Nat.le_of_ble_eq_true rfl) ?_
  intro p e s m below meth c ls hx hb hr hml hown hts hlocks hP hK hl
  have hg : ∀ w9 ∈ kg_G, w9.before [.ref (ad 0), .int x, .int y].toArray s = true := fun w9 h9 => hts w9 (List.mem_cons_of_mem _ h9)
  have hown : s.vm.findClass "LaneMachineModel" = some m.cls := hown
  have hA : ∀ k, k < n → kw_A ad n (ad k) := fun k hk => ⟨k, hk, rfl⟩
  have hS : va_S (kw_A ad n) s.heap s.heap [] := va_S.rf
  have hl : lv_has ls 3 [(0, .ref (ad 0)), (1, .int x), (2, .int y)] := hl
  obtain ⟨e0, e1, e2, e3, e4, e5, e6, e7, e8, e9, e10, e11, e12, e13, e14, e15, e16, e17, e18⟩ := hR
  refine lv_aload_n hx hb d_R_poke_0 rfl (lv_at hl 0 rfl) ?_
  have K29 : ∀ (H : Heap) (locs : List Loc) (ls : Array Slot), va_P D kc (kw_w ad cs n) H → va_S (kw_A ad n) s.heap H locs → lv_has ls 3 [(0, .ref (ad 0)), (1, .int x), (2, .int y)] → W p l e (kr 0) s m [.ref (ad 0), .int x, .int y].toArray below meth c H locs 0 0 (MQ below (va_Qi (fun r9 c9 => r9 = kv_R_poke x y ∧ kR ad cI cZ c9 la (kv_R_poke_th x y) st nx wi gp vl sa bo cy sd ma qu X F (kv_R_poke_M M x y) po pd pa pb pn pm wh wd rg fr sp dn bf XA XB) (kw_Pre D kc (ktR cI cZ) ad n) (kw_A ad n)) [.ref (ad 0), .int x, .int y].toArray s 0 0 (kw_A ad n)) (F0 m 29 ls [.int ((if x < 0 then 1 else if 127 < x then 1 else if y < ((-128)) then 1 else if y ≤ 255 then 0 else 1 : Int32)), .ref (ad 0)]) := by
    intro H locs ls hP hS hl
    refine kw_put (ty := .int) hx hb hg in_R t_R ty_R nm_R hown hK hP hJ hA hS 0 (Nat.lt_of_lt_of_le (by decide : 0 < 19) hn) e0 rfl 1 (by decide) (hg _ kg_584) rfl rfl (by decide +kernel) rfl rfl (Nat.le_of_ble_eq_true rfl) d_R_poke_29 (fun H locs hP hS => ?_)
    obtain ⟨cs1, hccs1⟩ : ∃ z9, z9 = va_up cs 0 (.inr (5, [.int (nI la), .int ((if x < 0 then 1 else if 127 < x then 1 else if y < ((-128)) then 1 else if y ≤ 255 then 0 else 1 : Int32)), .int (nI st), .int nx, .int (nI wi), .int (nI gp), .int (nI vl), .int (nI sa), .int (nI bo), .int cy, .int sd, .ref (ad 1), .ref (ad 2), .ref (ad 3), .int (nI ma), .ref (ad 4), .ref (ad 5), .ref (ad 6), .ref (ad 7), .ref (ad 8), .ref (ad 9), .int (nI qu), .ref (ad 10), .ref (ad 11), .ref (ad 12), .ref (ad 13), .ref (ad 14), .ref (ad 15), .ref (ad 16), .ref (ad 17), .ref (ad 18)])) := ⟨_, rfl⟩
    replace hP : va_P D kc (kw_w ad cs1 n) H := by rw [hccs1]; exact hP
    have e0 : cs1 0 = .inr (5, [.int (nI la), .int ((if x < 0 then 1 else if 127 < x then 1 else if y < ((-128)) then 1 else if y ≤ 255 then 0 else 1 : Int32)), .int (nI st), .int nx, .int (nI wi), .int (nI gp), .int (nI vl), .int (nI sa), .int (nI bo), .int cy, .int sd, .ref (ad 1), .ref (ad 2), .ref (ad 3), .int (nI ma), .ref (ad 4), .ref (ad 5), .ref (ad 6), .ref (ad 7), .ref (ad 8), .ref (ad 9), .int (nI qu), .ref (ad 10), .ref (ad 11), .ref (ad 12), .ref (ad 13), .ref (ad 14), .ref (ad 15), .ref (ad 16), .ref (ad 17), .ref (ad 18)]) := by rw [hccs1]; exact va_up_self _ _ _
    replace e1 := (congrFun hccs1 1).trans ((va_up_ne _ _ (by decide)).trans e1)
    replace e2 := (congrFun hccs1 2).trans ((va_up_ne _ _ (by decide)).trans e2)
    replace e3 := (congrFun hccs1 3).trans ((va_up_ne _ _ (by decide)).trans e3)
    replace e4 := (congrFun hccs1 4).trans ((va_up_ne _ _ (by decide)).trans e4)
    replace e5 := (congrFun hccs1 5).trans ((va_up_ne _ _ (by decide)).trans e5)
    replace e6 := (congrFun hccs1 6).trans ((va_up_ne _ _ (by decide)).trans e6)
    replace e7 := (congrFun hccs1 7).trans ((va_up_ne _ _ (by decide)).trans e7)
    replace e8 := (congrFun hccs1 8).trans ((va_up_ne _ _ (by decide)).trans e8)
    replace e9 := (congrFun hccs1 9).trans ((va_up_ne _ _ (by decide)).trans e9)
    replace e10 := (congrFun hccs1 10).trans ((va_up_ne _ _ (by decide)).trans e10)
    replace e11 := (congrFun hccs1 11).trans ((va_up_ne _ _ (by decide)).trans e11)
    replace e12 := (congrFun hccs1 12).trans ((va_up_ne _ _ (by decide)).trans e12)
    replace e13 := (congrFun hccs1 13).trans ((va_up_ne _ _ (by decide)).trans e13)
    replace e14 := (congrFun hccs1 14).trans ((va_up_ne _ _ (by decide)).trans e14)
    replace e15 := (congrFun hccs1 15).trans ((va_up_ne _ _ (by decide)).trans e15)
    replace e16 := (congrFun hccs1 16).trans ((va_up_ne _ _ (by decide)).trans e16)
    replace e17 := (congrFun hccs1 17).trans ((va_up_ne _ _ (by decide)).trans e17)
    replace e18 := (congrFun hccs1 18).trans ((va_up_ne _ _ (by decide)).trans e18)
    clear hccs1
    refine lv_aload_n hx hb d_R_poke_32 rfl (lv_at hl 0 rfl) ?_
    refine kw_get hx hb hg in_R hown hK hP 0 (Nat.lt_of_lt_of_le (by decide : 0 < 19) hn) e0 rfl 1 (by decide) (hg _ kg_584) rfl rfl d_R_poke_33 ?_
    refine lv_if_le (tgt := 41) hx hb d_R_poke_36 (by decide) (fun h1 => ?_) (fun h1 => ?_)
    · refine lv_aload_n hx hb d_R_poke_41 rfl (lv_at hl 0 rfl) ?_
      refine kw_get hx hb hg in_R hown hK hP 0 (Nat.lt_of_lt_of_le (by decide : 0 < 19) hn) e0 rfl 13 (by decide) (hg _ kg_596) rfl rfl d_R_poke_42 ?_
      refine lv_iload_n hx hb d_R_poke_45 rfl (lv_at hl 1 rfl) ?_
      refine lv_iload_n hx hb d_R_poke_46 rfl (lv_at hl 2 rfl) ?_
      refine lv_bipush (v := 24) hx hb d_R_poke_47 (by decide) ?_
      refine lv_ishl hx hb d_R_poke_49 ?_
      refine lv_bipush (v := 24) hx hb d_R_poke_50 (by decide) ?_
      refine lv_ishr hx hb d_R_poke_52 ?_
      refine kw_iast hx hb hK hP hJ hA hS 3 0 (Nat.lt_of_lt_of_le (by decide : 3 < 19) hn) e3 rfl x.toNatClampNeg ((kw_pk h1).1) ((kw_pk h1).2) (by omega) d_R_poke_53 (fun H locs hP hS => ?_)
      obtain ⟨cs2, hccs2⟩ : ∃ z9, z9 = va_up cs1 3 (.inl (cI, 128, .inl (upd M x.toNatClampNeg ((y <<< (24 &&& 31)) >>> (24 &&& 31))))) := ⟨_, rfl⟩
      replace hP : va_P D kc (kw_w ad cs2 n) H := by rw [hccs2]; exact hP
      replace e0 := (congrFun hccs2 0).trans ((va_up_ne _ _ (by decide)).trans e0)
      replace e1 := (congrFun hccs2 1).trans ((va_up_ne _ _ (by decide)).trans e1)
      replace e2 := (congrFun hccs2 2).trans ((va_up_ne _ _ (by decide)).trans e2)
      have e3 : cs2 3 = .inl (cI, 128, .inl (upd M x.toNatClampNeg ((y <<< (24 &&& 31)) >>> (24 &&& 31)))) := by rw [hccs2]; exact va_up_self _ _ _
      replace e4 := (congrFun hccs2 4).trans ((va_up_ne _ _ (by decide)).trans e4)
      replace e5 := (congrFun hccs2 5).trans ((va_up_ne _ _ (by decide)).trans e5)
      replace e6 := (congrFun hccs2 6).trans ((va_up_ne _ _ (by decide)).trans e6)
      replace e7 := (congrFun hccs2 7).trans ((va_up_ne _ _ (by decide)).trans e7)
      replace e8 := (congrFun hccs2 8).trans ((va_up_ne _ _ (by decide)).trans e8)
      replace e9 := (congrFun hccs2 9).trans ((va_up_ne _ _ (by decide)).trans e9)
      replace e10 := (congrFun hccs2 10).trans ((va_up_ne _ _ (by decide)).trans e10)
      replace e11 := (congrFun hccs2 11).trans ((va_up_ne _ _ (by decide)).trans e11)
      replace e12 := (congrFun hccs2 12).trans ((va_up_ne _ _ (by decide)).trans e12)
      replace e13 := (congrFun hccs2 13).trans ((va_up_ne _ _ (by decide)).trans e13)
      replace e14 := (congrFun hccs2 14).trans ((va_up_ne _ _ (by decide)).trans e14)
      replace e15 := (congrFun hccs2 15).trans ((va_up_ne _ _ (by decide)).trans e15)
      replace e16 := (congrFun hccs2 16).trans ((va_up_ne _ _ (by decide)).trans e16)
      replace e17 := (congrFun hccs2 17).trans ((va_up_ne _ _ (by decide)).trans e17)
      replace e18 := (congrFun hccs2 18).trans ((va_up_ne _ _ (by decide)).trans e18)
      clear hccs2
      refine lv_iconst (v := 1) hx hb d_R_poke_54 (by decide) ?_
      exact kw_zret hx hb hr hlocks hP hK hS (Or.inr rfl) ⟨by rw [kv_R_poke, if_pos h1], (by rw [show kv_R_poke_th x y = (if x < 0 then 1 else if 127 < x then 1 else if y < ((-128)) then 1 else if y ≤ 255 then 0 else 1 : Int32) from (by rw [kv_R_poke_th]), show kv_R_poke_M M x y = upd M x.toNatClampNeg ((y <<< (24 &&& 31)) >>> (24 &&& 31)) from (by rw [kv_R_poke_M, if_pos h1])]; exact ⟨e0, e1, e2, e3, e4, e5, e6, e7, e8, e9, e10, e11, e12, e13, e14, e15, e16, e17, e18⟩)⟩ d_R_poke_55
    · refine lv_iconst (v := 0) hx hb d_R_poke_39 (by decide) ?_
      exact kw_zret hx hb hr hlocks hP hK hS (Or.inl rfl) ⟨by rw [kv_R_poke, if_neg h1], (by rw [show kv_R_poke_th x y = (if x < 0 then 1 else if 127 < x then 1 else if y < ((-128)) then 1 else if y ≤ 255 then 0 else 1 : Int32) from (by rw [kv_R_poke_th]), show kv_R_poke_M M x y = M from (by rw [kv_R_poke_M, if_neg h1])]; exact ⟨e0, e1, e2, e3, e4, e5, e6, e7, e8, e9, e10, e11, e12, e13, e14, e15, e16, e17, e18⟩)⟩ d_R_poke_40
  refine lv_iload_n hx hb d_R_poke_1 rfl (lv_at hl 1 rfl) ?_
  refine lv_if_lt (tgt := 24) hx hb d_R_poke_2 (by decide) (fun h2 => ?_) (fun h2 => ?_)
  · refine lv_iconst (v := 1) hx hb d_R_poke_24 (by decide) ?_
    refine lv_goto (tgt := 29) hx hb d_R_poke_25 (by decide) ?_
    exact W.eq (congrArg (fun z9 => F0 m 29 ls (.int z9 :: [.ref (ad 0)])) (show (1 : Int32) = (if x < 0 then 1 else if 127 < x then 1 else if y < ((-128)) then 1 else if y ≤ 255 then 0 else 1 : Int32) from (by rw [if_pos h2]))) (K29 _ _ _ hP hS hl)
  · refine lv_iload_n hx hb d_R_poke_5 rfl (lv_at hl 1 rfl) ?_
    refine lv_bipush (v := 127) hx hb d_R_poke_6 (by decide) ?_
    refine lv_icmp_gt (tgt := 24) hx hb d_R_poke_8 (by decide) (fun h3 => ?_) (fun h3 => ?_)
    · refine lv_iconst (v := 1) hx hb d_R_poke_24 (by decide) ?_
      refine lv_goto (tgt := 29) hx hb d_R_poke_25 (by decide) ?_
      exact W.eq (congrArg (fun z9 => F0 m 29 ls (.int z9 :: [.ref (ad 0)])) (show (1 : Int32) = (if x < 0 then 1 else if 127 < x then 1 else if y < ((-128)) then 1 else if y ≤ 255 then 0 else 1 : Int32) from (by rw [if_neg h2, if_pos h3]))) (K29 _ _ _ hP hS hl)
    · refine lv_iload_n hx hb d_R_poke_11 rfl (lv_at hl 2 rfl) ?_
      refine lv_bipush (v := (-128)) hx hb d_R_poke_12 (by decide) ?_
      refine lv_icmp_lt (tgt := 24) hx hb d_R_poke_14 (by decide) (fun h4 => ?_) (fun h4 => ?_)
      · refine lv_iconst (v := 1) hx hb d_R_poke_24 (by decide) ?_
        refine lv_goto (tgt := 29) hx hb d_R_poke_25 (by decide) ?_
        exact W.eq (congrArg (fun z9 => F0 m 29 ls (.int z9 :: [.ref (ad 0)])) (show (1 : Int32) = (if x < 0 then 1 else if 127 < x then 1 else if y < ((-128)) then 1 else if y ≤ 255 then 0 else 1 : Int32) from (by rw [if_neg h2, if_neg h3, if_pos h4]))) (K29 _ _ _ hP hS hl)
      · refine lv_iload_n hx hb d_R_poke_17 rfl (lv_at hl 2 rfl) ?_
        refine lv_sipush (v := 255) hx hb d_R_poke_18 (by decide) ?_
        refine lv_icmp_le (tgt := 28) hx hb d_R_poke_21 (by decide) (fun h5 => ?_) (fun h5 => ?_)
        · refine lv_iconst (v := 0) hx hb d_R_poke_28 (by decide) ?_
          exact W.eq (congrArg (fun z9 => F0 m 29 ls (.int z9 :: [.ref (ad 0)])) (show (0 : Int32) = (if x < 0 then 1 else if 127 < x then 1 else if y < ((-128)) then 1 else if y ≤ 255 then 0 else 1 : Int32) from (by rw [if_neg h2, if_neg h3, if_neg h4, if_pos h5]))) (K29 _ _ _ hP hS hl)
        · refine lv_iconst (v := 1) hx hb d_R_poke_24 (by decide) ?_
          refine lv_goto (tgt := 29) hx hb d_R_poke_25 (by decide) ?_
          exact W.eq (congrArg (fun z9 => F0 m 29 ls (.int z9 :: [.ref (ad 0)])) (show (1 : Int32) = (if x < 0 then 1 else if 127 < x then 1 else if y < ((-128)) then 1 else if y ≤ 255 then 0 else 1 : Int32) from (by rw [if_neg h2, if_neg h3, if_neg h4, if_neg h5]))) (K29 _ _ _ hP hS hl)

def kv_R_setX_X (X : Nat → Int32) (i : Nat) (y : Int32) : Nat → Int32 := upd X i ((if (nI i) = 0 then 0 else y : Int32))
set_option maxRecDepth 100000 in
set_option maxHeartbeats 4000000 in
theorem c_R_setX (l : Launch) {D : va_G} {ad : Nat → Nat} {n : Nat} {cs : Nat → va_E} (hJ : kw_J ad n) {cI : ClassId} {cZ : ClassId} {la : Nat} {th : Int32} {st : Nat} {nx : Int32} {wi : Nat} {gp : Nat} {vl : Nat} {sa : Nat} {bo : Nat} {cy : Int32} {sd : Int32} {ma : Nat} {qu : Nat} {X : Nat → Int32} {F : Nat → Int32} {M : Nat → Int32} {po : Nat → Nat} {pd : Nat → Nat} {pa : Nat → Nat} {pb : Nat → Nat} {pn : Nat → Int32} {pm : Nat → Int32} {wh : Nat → Nat} {wd : Nat → Nat} {rg : Nat → Nat} {fr : Nat → Nat} {sp : Nat → Nat} {dn : Nat → Nat} {bf : Nat → Nat} {XA : Nat → Int32} {XB : Nat → Int32} {i : Nat} {y : Int32} (hn : 19 ≤ n) (hR : kR ad cI cZ cs la th st nx wi gp vl sa bo cy sd ma qu X F M po pd pa pb pn pm wh wd rg fr sp dn bf XA XB) (hi8 : i < 8) : kw_mv l y_R_setX w_R_setX (kr 0) D kc (ktR cI cZ) ad n cs [.ref (ad 0), .int (nI i), .int y] (fun c9 => kR ad cI cZ c9 la th st nx wi gp vl sa bo cy sd ma qu (kv_R_setX_X X i y) F M po pd pa pb pn pm wh wd rg fr sp dn bf XA XB) := by
  refine kw_of (cc := b_R_setX) (maxL := 3) (ret := none) (by decide) rfl (Nat.le_of_ble_eq_true rfl) ?_
  intro p e s m below meth c ls hx hb hr hml hown hts hlocks hP hK hl
  have hg : ∀ w9 ∈ kg_G, w9.before [.ref (ad 0), .int (nI i), .int y].toArray s = true := fun w9 h9 => hts w9 (List.mem_cons_of_mem _ h9)
  have hown : s.vm.findClass "LaneMachineModel" = some m.cls := hown
  have hA : ∀ k, k < n → kw_A ad n (ad k) := fun k hk => ⟨k, hk, rfl⟩
  have hS : va_S (kw_A ad n) s.heap s.heap [] := va_S.rf
  have hl : lv_has ls 3 [(0, .ref (ad 0)), (1, .int (nI i)), (2, .int y)] := hl
  obtain ⟨e0, e1, e2, e3, e4, e5, e6, e7, e8, e9, e10, e11, e12, e13, e14, e15, e16, e17, e18⟩ := hR
  refine lv_aload_n hx hb d_R_setX_0 rfl (lv_at hl 0 rfl) ?_
  refine kw_get hx hb hg in_R hown hK hP 0 (Nat.lt_of_lt_of_le (by decide : 0 < 19) hn) e0 rfl 11 (by decide) (hg _ kg_594) rfl rfl d_R_setX_1 ?_
  refine lv_iload_n hx hb d_R_setX_4 rfl (lv_at hl 1 rfl) ?_
  have K14 : ∀ (H : Heap) (locs : List Loc) (ls : Array Slot), va_P D kc (kw_w ad cs n) H → va_S (kw_A ad n) s.heap H locs → lv_has ls 3 [(0, .ref (ad 0)), (1, .int (nI i)), (2, .int y)] → W p l e (kr 0) s m [.ref (ad 0), .int (nI i), .int y].toArray below meth c H locs 0 0 (MQ below (va_Qv (fun c9 => kR ad cI cZ c9 la th st nx wi gp vl sa bo cy sd ma qu (kv_R_setX_X X i y) F M po pd pa pb pn pm wh wd rg fr sp dn bf XA XB) (kw_Pre D kc (ktR cI cZ) ad n) (kw_A ad n)) [.ref (ad 0), .int (nI i), .int y].toArray s 0 0 (kw_A ad n)) (F0 m 14 ls [.int ((if (nI i) = 0 then 0 else y : Int32)), .int (nI i), .ref (ad 1)]) := by
    intro H locs ls hP hS hl
    refine kw_iast hx hb hK hP hJ hA hS 1 0 (Nat.lt_of_lt_of_le (by decide : 1 < 19) hn) e1 rfl i (rfl) (hi8) (by omega) d_R_setX_14 (fun H locs hP hS => ?_)
    obtain ⟨cs1, hccs1⟩ : ∃ z9, z9 = va_up cs 1 (.inl (cI, 8, .inl (upd X i ((if (nI i) = 0 then 0 else y : Int32))))) := ⟨_, rfl⟩
    replace hP : va_P D kc (kw_w ad cs1 n) H := by rw [hccs1]; exact hP
    replace e0 := (congrFun hccs1 0).trans ((va_up_ne _ _ (by decide)).trans e0)
    have e1 : cs1 1 = .inl (cI, 8, .inl (upd X i ((if (nI i) = 0 then 0 else y : Int32)))) := by rw [hccs1]; exact va_up_self _ _ _
    replace e2 := (congrFun hccs1 2).trans ((va_up_ne _ _ (by decide)).trans e2)
    replace e3 := (congrFun hccs1 3).trans ((va_up_ne _ _ (by decide)).trans e3)
    replace e4 := (congrFun hccs1 4).trans ((va_up_ne _ _ (by decide)).trans e4)
    replace e5 := (congrFun hccs1 5).trans ((va_up_ne _ _ (by decide)).trans e5)
    replace e6 := (congrFun hccs1 6).trans ((va_up_ne _ _ (by decide)).trans e6)
    replace e7 := (congrFun hccs1 7).trans ((va_up_ne _ _ (by decide)).trans e7)
    replace e8 := (congrFun hccs1 8).trans ((va_up_ne _ _ (by decide)).trans e8)
    replace e9 := (congrFun hccs1 9).trans ((va_up_ne _ _ (by decide)).trans e9)
    replace e10 := (congrFun hccs1 10).trans ((va_up_ne _ _ (by decide)).trans e10)
    replace e11 := (congrFun hccs1 11).trans ((va_up_ne _ _ (by decide)).trans e11)
    replace e12 := (congrFun hccs1 12).trans ((va_up_ne _ _ (by decide)).trans e12)
    replace e13 := (congrFun hccs1 13).trans ((va_up_ne _ _ (by decide)).trans e13)
    replace e14 := (congrFun hccs1 14).trans ((va_up_ne _ _ (by decide)).trans e14)
    replace e15 := (congrFun hccs1 15).trans ((va_up_ne _ _ (by decide)).trans e15)
    replace e16 := (congrFun hccs1 16).trans ((va_up_ne _ _ (by decide)).trans e16)
    replace e17 := (congrFun hccs1 17).trans ((va_up_ne _ _ (by decide)).trans e17)
    replace e18 := (congrFun hccs1 18).trans ((va_up_ne _ _ (by decide)).trans e18)
    clear hccs1
    exact kw_vret hx hb hr hlocks hP hK hS (by rw [show kv_R_setX_X X i y = upd X i ((if (nI i) = 0 then 0 else y : Int32)) from (by rw [kv_R_setX_X])]; exact ⟨e0, e1, e2, e3, e4, e5, e6, e7, e8, e9, e10, e11, e12, e13, e14, e15, e16, e17, e18⟩) d_R_setX_15
  refine lv_iload_n hx hb d_R_setX_5 rfl (lv_at hl 1 rfl) ?_
  refine lv_if_ne (tgt := 13) hx hb d_R_setX_6 (by decide) (fun h1 => ?_) (fun h1 => ?_)
  · refine lv_iload_n hx hb d_R_setX_13 rfl (lv_at hl 2 rfl) ?_
    exact W.eq (congrArg (fun z9 => F0 m 14 ls (.int z9 :: [.int (nI i), .ref (ad 1)])) (show y = (if (nI i) = 0 then 0 else y : Int32) from (by rw [if_neg h1]))) (K14 _ _ _ hP hS hl)
  · refine lv_iconst (v := 0) hx hb d_R_setX_9 (by decide) ?_
    refine lv_goto (tgt := 14) hx hb d_R_setX_10 (by decide) ?_
    exact W.eq (congrArg (fun z9 => F0 m 14 ls (.int z9 :: [.int (nI i), .ref (ad 1)])) (show (0 : Int32) = (if (nI i) = 0 then 0 else y : Int32) from (by rw [if_pos h1]))) (K14 _ _ _ hP hS hl)

theorem kw_p40 {g st : Int32} {ma : Nat} (hm : ma ≤ 40) (h : (if g = 0 then 1 else if nI ma = 40 then 2 else if st = 0 then 2 else 0 : Int32) ≤ 0) : ma < 40 := by
  by_cases h1 : g = 0
  · rw [if_pos h1] at h; exact absurd h (by decide)
  · by_cases h2 : nI ma = 40
    · rw [if_neg h1, if_pos h2] at h; exact absurd h (by decide)
    · have h3 : ma ≠ 40 := fun z => h2 (by rw [z]; rfl)
      omega

def kv_R_put_th (st : Nat) (ma : Nat) (o9 : Nat) (d9 : Nat) (a9 : Nat) (b9 : Nat) (x : Int32) : Int32 := (if ((if (nI o9) < 0 then 0 else if 20 < (nI o9) then 0 else if (kv_R_isRegister (nI d9)) = 0 then 0 else if (kv_R_isRegister (nI a9)) = 0 then 0 else if (kv_R_isRegister (nI b9)) = 0 then 0 else if (nI o9) = 6 then (if x < 0 then 0 else if 10 < x then 0 else if (x - x / 4 * 4) = 3 then 0 else 1) else 1 : Int32)) = 0 then 1 else if (nI ma) = 40 then 2 else if (nI st) = 0 then 2 else 0 : Int32)
def kv_R_put_ma (st : Nat) (ma : Nat) (o9 : Nat) (d9 : Nat) (a9 : Nat) (b9 : Nat) (x : Int32) : Nat := if ((if ((if (nI o9) < 0 then 0 else if 20 < (nI o9) then 0 else if (kv_R_isRegister (nI d9)) = 0 then 0 else if (kv_R_isRegister (nI a9)) = 0 then 0 else if (kv_R_isRegister (nI b9)) = 0 then 0 else if (nI o9) = 6 then (if x < 0 then 0 else if 10 < x then 0 else if (x - x / 4 * 4) = 3 then 0 else 1) else 1 : Int32)) = 0 then 1 else if (nI ma) = 40 then 2 else if (nI st) = 0 then 2 else 0 : Int32)) ≤ 0 then (ma + 1) else ma
def kv_R_put_po (st : Nat) (ma : Nat) (po : Nat → Nat) (o9 : Nat) (d9 : Nat) (a9 : Nat) (b9 : Nat) (x : Int32) : Nat → Nat := if ((if ((if (nI o9) < 0 then 0 else if 20 < (nI o9) then 0 else if (kv_R_isRegister (nI d9)) = 0 then 0 else if (kv_R_isRegister (nI a9)) = 0 then 0 else if (kv_R_isRegister (nI b9)) = 0 then 0 else if (nI o9) = 6 then (if x < 0 then 0 else if 10 < x then 0 else if (x - x / 4 * 4) = 3 then 0 else 1) else 1 : Int32)) = 0 then 1 else if (nI ma) = 40 then 2 else if (nI st) = 0 then 2 else 0 : Int32)) ≤ 0 then (va_up po ma o9) else po
def kv_R_put_pd (st : Nat) (ma : Nat) (pd : Nat → Nat) (o9 : Nat) (d9 : Nat) (a9 : Nat) (b9 : Nat) (x : Int32) : Nat → Nat := if ((if ((if (nI o9) < 0 then 0 else if 20 < (nI o9) then 0 else if (kv_R_isRegister (nI d9)) = 0 then 0 else if (kv_R_isRegister (nI a9)) = 0 then 0 else if (kv_R_isRegister (nI b9)) = 0 then 0 else if (nI o9) = 6 then (if x < 0 then 0 else if 10 < x then 0 else if (x - x / 4 * 4) = 3 then 0 else 1) else 1 : Int32)) = 0 then 1 else if (nI ma) = 40 then 2 else if (nI st) = 0 then 2 else 0 : Int32)) ≤ 0 then (va_up pd ma d9) else pd
def kv_R_put_pa (st : Nat) (ma : Nat) (pa : Nat → Nat) (o9 : Nat) (d9 : Nat) (a9 : Nat) (b9 : Nat) (x : Int32) : Nat → Nat := if ((if ((if (nI o9) < 0 then 0 else if 20 < (nI o9) then 0 else if (kv_R_isRegister (nI d9)) = 0 then 0 else if (kv_R_isRegister (nI a9)) = 0 then 0 else if (kv_R_isRegister (nI b9)) = 0 then 0 else if (nI o9) = 6 then (if x < 0 then 0 else if 10 < x then 0 else if (x - x / 4 * 4) = 3 then 0 else 1) else 1 : Int32)) = 0 then 1 else if (nI ma) = 40 then 2 else if (nI st) = 0 then 2 else 0 : Int32)) ≤ 0 then (va_up pa ma a9) else pa
def kv_R_put_pb (st : Nat) (ma : Nat) (pb : Nat → Nat) (o9 : Nat) (d9 : Nat) (a9 : Nat) (b9 : Nat) (x : Int32) : Nat → Nat := if ((if ((if (nI o9) < 0 then 0 else if 20 < (nI o9) then 0 else if (kv_R_isRegister (nI d9)) = 0 then 0 else if (kv_R_isRegister (nI a9)) = 0 then 0 else if (kv_R_isRegister (nI b9)) = 0 then 0 else if (nI o9) = 6 then (if x < 0 then 0 else if 10 < x then 0 else if (x - x / 4 * 4) = 3 then 0 else 1) else 1 : Int32)) = 0 then 1 else if (nI ma) = 40 then 2 else if (nI st) = 0 then 2 else 0 : Int32)) ≤ 0 then (va_up pb ma b9) else pb
def kv_R_put_pn (st : Nat) (ma : Nat) (pn : Nat → Int32) (o9 : Nat) (d9 : Nat) (a9 : Nat) (b9 : Nat) (x : Int32) : Nat → Int32 := if ((if ((if (nI o9) < 0 then 0 else if 20 < (nI o9) then 0 else if (kv_R_isRegister (nI d9)) = 0 then 0 else if (kv_R_isRegister (nI a9)) = 0 then 0 else if (kv_R_isRegister (nI b9)) = 0 then 0 else if (nI o9) = 6 then (if x < 0 then 0 else if 10 < x then 0 else if (x - x / 4 * 4) = 3 then 0 else 1) else 1 : Int32)) = 0 then 1 else if (nI ma) = 40 then 2 else if (nI st) = 0 then 2 else 0 : Int32)) ≤ 0 then (upd pn ma x) else pn
def kv_R_put_pm (st : Nat) (ma : Nat) (pm : Nat → Int32) (o9 : Nat) (d9 : Nat) (a9 : Nat) (b9 : Nat) (x : Int32) (y : Int32) : Nat → Int32 := if ((if ((if (nI o9) < 0 then 0 else if 20 < (nI o9) then 0 else if (kv_R_isRegister (nI d9)) = 0 then 0 else if (kv_R_isRegister (nI a9)) = 0 then 0 else if (kv_R_isRegister (nI b9)) = 0 then 0 else if (nI o9) = 6 then (if x < 0 then 0 else if 10 < x then 0 else if (x - x / 4 * 4) = 3 then 0 else 1) else 1 : Int32)) = 0 then 1 else if (nI ma) = 40 then 2 else if (nI st) = 0 then 2 else 0 : Int32)) ≤ 0 then (upd pm ma (vp_nar .boolean y)) else pm
def kv_R_put (st : Nat) (ma : Nat) (o9 : Nat) (d9 : Nat) (a9 : Nat) (b9 : Nat) (x : Int32) : Int32 := if ((if ((if (nI o9) < 0 then 0 else if 20 < (nI o9) then 0 else if (kv_R_isRegister (nI d9)) = 0 then 0 else if (kv_R_isRegister (nI a9)) = 0 then 0 else if (kv_R_isRegister (nI b9)) = 0 then 0 else if (nI o9) = 6 then (if x < 0 then 0 else if 10 < x then 0 else if (x - x / 4 * 4) = 3 then 0 else 1) else 1 : Int32)) = 0 then 1 else if (nI ma) = 40 then 2 else if (nI st) = 0 then 2 else 0 : Int32)) ≤ 0 then (nI ma) else 0
set_option maxRecDepth 100000 in
set_option maxHeartbeats 4000000 in
theorem c_R_put (l : Launch) {D : va_G} {ad : Nat → Nat} {n : Nat} {cs : Nat → va_E} (hJ : kw_J ad n) {cI : ClassId} {cZ : ClassId} {la : Nat} {th : Int32} {st : Nat} {nx : Int32} {wi : Nat} {gp : Nat} {vl : Nat} {sa : Nat} {bo : Nat} {cy : Int32} {sd : Int32} {ma : Nat} {qu : Nat} {X : Nat → Int32} {F : Nat → Int32} {M : Nat → Int32} {po : Nat → Nat} {pd : Nat → Nat} {pa : Nat → Nat} {pb : Nat → Nat} {pn : Nat → Int32} {pm : Nat → Int32} {wh : Nat → Nat} {wd : Nat → Nat} {rg : Nat → Nat} {fr : Nat → Nat} {sp : Nat → Nat} {dn : Nat → Nat} {bf : Nat → Nat} {XA : Nat → Int32} {XB : Nat → Int32} {o9 : Nat} {d9 : Nat} {a9 : Nat} {b9 : Nat} {x : Int32} {y : Int32} (hn : 19 ≤ n) (hR : kR ad cI cZ cs la th st nx wi gp vl sa bo cy sd ma qu X F M po pd pa pb pn pm wh wd rg fr sp dn bf XA XB) (hma : ma ≤ 40) : kw_mi l y_R_put w_R_put (kr 1) D kc (ktR cI cZ) ad n cs [.ref (ad 0), .int (nI o9), .int (nI d9), .int (nI a9), .int (nI b9), .int x, .int y] (fun r9 c9 => r9 = kv_R_put st ma o9 d9 a9 b9 x ∧ kR ad cI cZ c9 la (kv_R_put_th st ma o9 d9 a9 b9 x) st nx wi gp vl sa bo cy sd (kv_R_put_ma st ma o9 d9 a9 b9 x) qu X F M (kv_R_put_po st ma po o9 d9 a9 b9 x) (kv_R_put_pd st ma pd o9 d9 a9 b9 x) (kv_R_put_pa st ma pa o9 d9 a9 b9 x) (kv_R_put_pb st ma pb o9 d9 a9 b9 x) (kv_R_put_pn st ma pn o9 d9 a9 b9 x) (kv_R_put_pm st ma pm o9 d9 a9 b9 x y) wh wd rg fr sp dn bf XA XB) := by
  refine kw_of (cc := b_R_put) (maxL := 8) (ret := (some .int)) (by decide) rfl (Nat.le_of_ble_eq_true rfl) ?_
  intro p e s m below meth c ls hx hb hr hml hown hts hlocks hP hK hl
  have hg : ∀ w9 ∈ kg_G, w9.before [.ref (ad 0), .int (nI o9), .int (nI d9), .int (nI a9), .int (nI b9), .int x, .int y].toArray s = true := fun w9 h9 => hts w9 (List.mem_cons_of_mem _ h9)
  have hown : s.vm.findClass "LaneMachineModel" = some m.cls := hown
  have hA : ∀ k, k < n → kw_A ad n (ad k) := fun k hk => ⟨k, hk, rfl⟩
  have hS : va_S (kw_A ad n) s.heap s.heap [] := va_S.rf
  have hl : lv_has ls 8 [(0, .ref (ad 0)), (1, .int (nI o9)), (2, .int (nI d9)), (3, .int (nI a9)), (4, .int (nI b9)), (5, .int x), (6, .int y)] := hl
  obtain ⟨e0, e1, e2, e3, e4, e5, e6, e7, e8, e9, e10, e11, e12, e13, e14, e15, e16, e17, e18⟩ := hR
  have K63 : ∀ (H : Heap) (locs : List Loc) (ls : Array Slot), va_P D kc (kw_w ad cs n) H → va_S (kw_A ad n) s.heap H locs → lv_has ls 8 [(0, .ref (ad 0)), (1, .int (nI o9)), (2, .int (nI d9)), (3, .int (nI a9)), (4, .int (nI b9)), (5, .int x), (6, .int y)] → W p l e (kr 1) s m [.ref (ad 0), .int (nI o9), .int (nI d9), .int (nI a9), .int (nI b9), .int x, .int y].toArray below meth c H locs 0 0 (MQ below (va_Qi (fun r9 c9 => r9 = kv_R_put st ma o9 d9 a9 b9 x ∧ kR ad cI cZ c9 la (kv_R_put_th st ma o9 d9 a9 b9 x) st nx wi gp vl sa bo cy sd (kv_R_put_ma st ma o9 d9 a9 b9 x) qu X F M (kv_R_put_po st ma po o9 d9 a9 b9 x) (kv_R_put_pd st ma pd o9 d9 a9 b9 x) (kv_R_put_pa st ma pa o9 d9 a9 b9 x) (kv_R_put_pb st ma pb o9 d9 a9 b9 x) (kv_R_put_pn st ma pn o9 d9 a9 b9 x) (kv_R_put_pm st ma pm o9 d9 a9 b9 x y) wh wd rg fr sp dn bf XA XB) (kw_Pre D kc (ktR cI cZ) ad n) (kw_A ad n)) [.ref (ad 0), .int (nI o9), .int (nI d9), .int (nI a9), .int (nI b9), .int x, .int y].toArray s 0 0 (kw_A ad n)) (F0 m 63 ls [.int ((if (nI o9) < 0 then 0 else if 20 < (nI o9) then 0 else if (kv_R_isRegister (nI d9)) = 0 then 0 else if (kv_R_isRegister (nI a9)) = 0 then 0 else if (kv_R_isRegister (nI b9)) = 0 then 0 else if (nI o9) = 6 then (if x < 0 then 0 else if 10 < x then 0 else if (x - x / 4 * 4) = 3 then 0 else 1) else 1 : Int32))]) := by
    intro H locs ls hP hS hl
    refine lv_istore (lv' := [(7, .int ((if (nI o9) < 0 then 0 else if 20 < (nI o9) then 0 else if (kv_R_isRegister (nI d9)) = 0 then 0 else if (kv_R_isRegister (nI a9)) = 0 then 0 else if (kv_R_isRegister (nI b9)) = 0 then 0 else if (nI o9) = 6 then (if x < 0 then 0 else if 10 < x then 0 else if (x - x / 4 * 4) = 3 then 0 else 1) else 1 : Int32))), (0, .ref (ad 0)), (1, .int (nI o9)), (2, .int (nI d9)), (3, .int (nI a9)), (4, .int (nI b9)), (5, .int x), (6, .int y)]) hx hb d_R_put_63 hl (by decide) rfl (fun ls hl => ?_)
    refine lv_aload_n hx hb d_R_put_65 rfl (lv_at hl 1 rfl) ?_
    have K96 : ∀ (H : Heap) (locs : List Loc) (ls : Array Slot), va_P D kc (kw_w ad cs n) H → va_S (kw_A ad n) s.heap H locs → lv_has ls 8 [(7, .int ((if (nI o9) < 0 then 0 else if 20 < (nI o9) then 0 else if (kv_R_isRegister (nI d9)) = 0 then 0 else if (kv_R_isRegister (nI a9)) = 0 then 0 else if (kv_R_isRegister (nI b9)) = 0 then 0 else if (nI o9) = 6 then (if x < 0 then 0 else if 10 < x then 0 else if (x - x / 4 * 4) = 3 then 0 else 1) else 1 : Int32))), (0, .ref (ad 0)), (1, .int (nI o9)), (2, .int (nI d9)), (3, .int (nI a9)), (4, .int (nI b9)), (5, .int x), (6, .int y)] → W p l e (kr 1) s m [.ref (ad 0), .int (nI o9), .int (nI d9), .int (nI a9), .int (nI b9), .int x, .int y].toArray below meth c H locs 0 0 (MQ below (va_Qi (fun r9 c9 => r9 = kv_R_put st ma o9 d9 a9 b9 x ∧ kR ad cI cZ c9 la (kv_R_put_th st ma o9 d9 a9 b9 x) st nx wi gp vl sa bo cy sd (kv_R_put_ma st ma o9 d9 a9 b9 x) qu X F M (kv_R_put_po st ma po o9 d9 a9 b9 x) (kv_R_put_pd st ma pd o9 d9 a9 b9 x) (kv_R_put_pa st ma pa o9 d9 a9 b9 x) (kv_R_put_pb st ma pb o9 d9 a9 b9 x) (kv_R_put_pn st ma pn o9 d9 a9 b9 x) (kv_R_put_pm st ma pm o9 d9 a9 b9 x y) wh wd rg fr sp dn bf XA XB) (kw_Pre D kc (ktR cI cZ) ad n) (kw_A ad n)) [.ref (ad 0), .int (nI o9), .int (nI d9), .int (nI a9), .int (nI b9), .int x, .int y].toArray s 0 0 (kw_A ad n)) (F0 m 96 ls [.int ((if ((if (nI o9) < 0 then 0 else if 20 < (nI o9) then 0 else if (kv_R_isRegister (nI d9)) = 0 then 0 else if (kv_R_isRegister (nI a9)) = 0 then 0 else if (kv_R_isRegister (nI b9)) = 0 then 0 else if (nI o9) = 6 then (if x < 0 then 0 else if 10 < x then 0 else if (x - x / 4 * 4) = 3 then 0 else 1) else 1 : Int32)) = 0 then 1 else if (nI ma) = 40 then 2 else if (nI st) = 0 then 2 else 0 : Int32)), .ref (ad 0)]) := by
      intro H locs ls hP hS hl
      refine kw_put (ty := .int) hx hb hg in_R t_R ty_R nm_R hown hK hP hJ hA hS 0 (Nat.lt_of_lt_of_le (by decide : 0 < 19) hn) e0 rfl 1 (by decide) (hg _ kg_584) rfl rfl (by decide +kernel) rfl rfl (Nat.le_of_ble_eq_true rfl) d_R_put_96 (fun H locs hP hS => ?_)
      obtain ⟨cs1, hccs1⟩ : ∃ z9, z9 = va_up cs 0 (.inr (5, [.int (nI la), .int ((if ((if (nI o9) < 0 then 0 else if 20 < (nI o9) then 0 else if (kv_R_isRegister (nI d9)) = 0 then 0 else if (kv_R_isRegister (nI a9)) = 0 then 0 else if (kv_R_isRegister (nI b9)) = 0 then 0 else if (nI o9) = 6 then (if x < 0 then 0 else if 10 < x then 0 else if (x - x / 4 * 4) = 3 then 0 else 1) else 1 : Int32)) = 0 then 1 else if (nI ma) = 40 then 2 else if (nI st) = 0 then 2 else 0 : Int32)), .int (nI st), .int nx, .int (nI wi), .int (nI gp), .int (nI vl), .int (nI sa), .int (nI bo), .int cy, .int sd, .ref (ad 1), .ref (ad 2), .ref (ad 3), .int (nI ma), .ref (ad 4), .ref (ad 5), .ref (ad 6), .ref (ad 7), .ref (ad 8), .ref (ad 9), .int (nI qu), .ref (ad 10), .ref (ad 11), .ref (ad 12), .ref (ad 13), .ref (ad 14), .ref (ad 15), .ref (ad 16), .ref (ad 17), .ref (ad 18)])) := ⟨_, rfl⟩
      replace hP : va_P D kc (kw_w ad cs1 n) H := by rw [hccs1]; exact hP
      have e0 : cs1 0 = .inr (5, [.int (nI la), .int ((if ((if (nI o9) < 0 then 0 else if 20 < (nI o9) then 0 else if (kv_R_isRegister (nI d9)) = 0 then 0 else if (kv_R_isRegister (nI a9)) = 0 then 0 else if (kv_R_isRegister (nI b9)) = 0 then 0 else if (nI o9) = 6 then (if x < 0 then 0 else if 10 < x then 0 else if (x - x / 4 * 4) = 3 then 0 else 1) else 1 : Int32)) = 0 then 1 else if (nI ma) = 40 then 2 else if (nI st) = 0 then 2 else 0 : Int32)), .int (nI st), .int nx, .int (nI wi), .int (nI gp), .int (nI vl), .int (nI sa), .int (nI bo), .int cy, .int sd, .ref (ad 1), .ref (ad 2), .ref (ad 3), .int (nI ma), .ref (ad 4), .ref (ad 5), .ref (ad 6), .ref (ad 7), .ref (ad 8), .ref (ad 9), .int (nI qu), .ref (ad 10), .ref (ad 11), .ref (ad 12), .ref (ad 13), .ref (ad 14), .ref (ad 15), .ref (ad 16), .ref (ad 17), .ref (ad 18)]) := by rw [hccs1]; exact va_up_self _ _ _
      replace e1 := (congrFun hccs1 1).trans ((va_up_ne _ _ (by decide)).trans e1)
      replace e2 := (congrFun hccs1 2).trans ((va_up_ne _ _ (by decide)).trans e2)
      replace e3 := (congrFun hccs1 3).trans ((va_up_ne _ _ (by decide)).trans e3)
      replace e4 := (congrFun hccs1 4).trans ((va_up_ne _ _ (by decide)).trans e4)
      replace e5 := (congrFun hccs1 5).trans ((va_up_ne _ _ (by decide)).trans e5)
      replace e6 := (congrFun hccs1 6).trans ((va_up_ne _ _ (by decide)).trans e6)
      replace e7 := (congrFun hccs1 7).trans ((va_up_ne _ _ (by decide)).trans e7)
      replace e8 := (congrFun hccs1 8).trans ((va_up_ne _ _ (by decide)).trans e8)
      replace e9 := (congrFun hccs1 9).trans ((va_up_ne _ _ (by decide)).trans e9)
      replace e10 := (congrFun hccs1 10).trans ((va_up_ne _ _ (by decide)).trans e10)
      replace e11 := (congrFun hccs1 11).trans ((va_up_ne _ _ (by decide)).trans e11)
      replace e12 := (congrFun hccs1 12).trans ((va_up_ne _ _ (by decide)).trans e12)
      replace e13 := (congrFun hccs1 13).trans ((va_up_ne _ _ (by decide)).trans e13)
      replace e14 := (congrFun hccs1 14).trans ((va_up_ne _ _ (by decide)).trans e14)
      replace e15 := (congrFun hccs1 15).trans ((va_up_ne _ _ (by decide)).trans e15)
      replace e16 := (congrFun hccs1 16).trans ((va_up_ne _ _ (by decide)).trans e16)
      replace e17 := (congrFun hccs1 17).trans ((va_up_ne _ _ (by decide)).trans e17)
      replace e18 := (congrFun hccs1 18).trans ((va_up_ne _ _ (by decide)).trans e18)
      clear hccs1
      refine lv_aload_n hx hb d_R_put_99 rfl (lv_at hl 1 rfl) ?_
      refine kw_get hx hb hg in_R hown hK hP 0 (Nat.lt_of_lt_of_le (by decide : 0 < 19) hn) e0 rfl 1 (by decide) (hg _ kg_584) rfl rfl d_R_put_100 ?_
      refine lv_if_le (tgt := 108) hx hb d_R_put_103 (by decide) (fun h1 => ?_) (fun h1 => ?_)
      · refine lv_aload_n hx hb d_R_put_108 rfl (lv_at hl 1 rfl) ?_
        refine kw_get hx hb hg in_R hown hK hP 0 (Nat.lt_of_lt_of_le (by decide : 0 < 19) hn) e0 rfl 15 (by decide) (hg _ kg_598) rfl rfl d_R_put_109 ?_
        refine lv_aload_n hx hb d_R_put_112 rfl (lv_at hl 1 rfl) ?_
        refine kw_get hx hb hg in_R hown hK hP 0 (Nat.lt_of_lt_of_le (by decide : 0 < 19) hn) e0 rfl 14 (by decide) (hg _ kg_597) rfl rfl d_R_put_113 ?_
        refine lv_iload_n hx hb d_R_put_116 rfl (lv_at hl 2 rfl) ?_
        refine kw_iast hx hb hK hP hJ hA hS 4 0 (Nat.lt_of_lt_of_le (by decide : 4 < 19) hn) e4 rfl ma (rfl) (kw_p40 hma h1) (by omega) d_R_put_117 (fun H locs hP hS => ?_)
        rw [kw_upn] at hP
        obtain ⟨cs2, hccs2⟩ : ∃ z9, z9 = va_up cs1 4 (.inl (cI, 40, .inl (fun i => nI ((va_up po ma o9) i)))) := ⟨_, rfl⟩
        replace hP : va_P D kc (kw_w ad cs2 n) H := by rw [hccs2]; exact hP
        replace e0 := (congrFun hccs2 0).trans ((va_up_ne _ _ (by decide)).trans e0)
        replace e1 := (congrFun hccs2 1).trans ((va_up_ne _ _ (by decide)).trans e1)
        replace e2 := (congrFun hccs2 2).trans ((va_up_ne _ _ (by decide)).trans e2)
        replace e3 := (congrFun hccs2 3).trans ((va_up_ne _ _ (by decide)).trans e3)
        have e4 : cs2 4 = .inl (cI, 40, .inl (fun i => nI ((va_up po ma o9) i))) := by rw [hccs2]; exact va_up_self _ _ _
        replace e5 := (congrFun hccs2 5).trans ((va_up_ne _ _ (by decide)).trans e5)
        replace e6 := (congrFun hccs2 6).trans ((va_up_ne _ _ (by decide)).trans e6)
        replace e7 := (congrFun hccs2 7).trans ((va_up_ne _ _ (by decide)).trans e7)
        replace e8 := (congrFun hccs2 8).trans ((va_up_ne _ _ (by decide)).trans e8)
        replace e9 := (congrFun hccs2 9).trans ((va_up_ne _ _ (by decide)).trans e9)
        replace e10 := (congrFun hccs2 10).trans ((va_up_ne _ _ (by decide)).trans e10)
        replace e11 := (congrFun hccs2 11).trans ((va_up_ne _ _ (by decide)).trans e11)
        replace e12 := (congrFun hccs2 12).trans ((va_up_ne _ _ (by decide)).trans e12)
        replace e13 := (congrFun hccs2 13).trans ((va_up_ne _ _ (by decide)).trans e13)
        replace e14 := (congrFun hccs2 14).trans ((va_up_ne _ _ (by decide)).trans e14)
        replace e15 := (congrFun hccs2 15).trans ((va_up_ne _ _ (by decide)).trans e15)
        replace e16 := (congrFun hccs2 16).trans ((va_up_ne _ _ (by decide)).trans e16)
        replace e17 := (congrFun hccs2 17).trans ((va_up_ne _ _ (by decide)).trans e17)
        replace e18 := (congrFun hccs2 18).trans ((va_up_ne _ _ (by decide)).trans e18)
        clear hccs2
        refine lv_aload_n hx hb d_R_put_118 rfl (lv_at hl 1 rfl) ?_
        refine kw_get hx hb hg in_R hown hK hP 0 (Nat.lt_of_lt_of_le (by decide : 0 < 19) hn) e0 rfl 16 (by decide) (hg _ kg_599) rfl rfl d_R_put_119 ?_
        refine lv_aload_n hx hb d_R_put_122 rfl (lv_at hl 1 rfl) ?_
        refine kw_get hx hb hg in_R hown hK hP 0 (Nat.lt_of_lt_of_le (by decide : 0 < 19) hn) e0 rfl 14 (by decide) (hg _ kg_597) rfl rfl d_R_put_123 ?_
        refine lv_iload_n hx hb d_R_put_126 rfl (lv_at hl 3 rfl) ?_
        refine kw_iast hx hb hK hP hJ hA hS 5 0 (Nat.lt_of_lt_of_le (by decide : 5 < 19) hn) e5 rfl ma (rfl) (kw_p40 hma h1) (by omega) d_R_put_127 (fun H locs hP hS => ?_)
        rw [kw_upn] at hP
        obtain ⟨cs3, hccs3⟩ : ∃ z9, z9 = va_up cs2 5 (.inl (cI, 40, .inl (fun i => nI ((va_up pd ma d9) i)))) := ⟨_, rfl⟩
        replace hP : va_P D kc (kw_w ad cs3 n) H := by rw [hccs3]; exact hP
        replace e0 := (congrFun hccs3 0).trans ((va_up_ne _ _ (by decide)).trans e0)
        replace e1 := (congrFun hccs3 1).trans ((va_up_ne _ _ (by decide)).trans e1)
        replace e2 := (congrFun hccs3 2).trans ((va_up_ne _ _ (by decide)).trans e2)
        replace e3 := (congrFun hccs3 3).trans ((va_up_ne _ _ (by decide)).trans e3)
        replace e4 := (congrFun hccs3 4).trans ((va_up_ne _ _ (by decide)).trans e4)
        have e5 : cs3 5 = .inl (cI, 40, .inl (fun i => nI ((va_up pd ma d9) i))) := by rw [hccs3]; exact va_up_self _ _ _
        replace e6 := (congrFun hccs3 6).trans ((va_up_ne _ _ (by decide)).trans e6)
        replace e7 := (congrFun hccs3 7).trans ((va_up_ne _ _ (by decide)).trans e7)
        replace e8 := (congrFun hccs3 8).trans ((va_up_ne _ _ (by decide)).trans e8)
        replace e9 := (congrFun hccs3 9).trans ((va_up_ne _ _ (by decide)).trans e9)
        replace e10 := (congrFun hccs3 10).trans ((va_up_ne _ _ (by decide)).trans e10)
        replace e11 := (congrFun hccs3 11).trans ((va_up_ne _ _ (by decide)).trans e11)
        replace e12 := (congrFun hccs3 12).trans ((va_up_ne _ _ (by decide)).trans e12)
        replace e13 := (congrFun hccs3 13).trans ((va_up_ne _ _ (by decide)).trans e13)
        replace e14 := (congrFun hccs3 14).trans ((va_up_ne _ _ (by decide)).trans e14)
        replace e15 := (congrFun hccs3 15).trans ((va_up_ne _ _ (by decide)).trans e15)
        replace e16 := (congrFun hccs3 16).trans ((va_up_ne _ _ (by decide)).trans e16)
        replace e17 := (congrFun hccs3 17).trans ((va_up_ne _ _ (by decide)).trans e17)
        replace e18 := (congrFun hccs3 18).trans ((va_up_ne _ _ (by decide)).trans e18)
        clear hccs3
        refine lv_aload_n hx hb d_R_put_128 rfl (lv_at hl 1 rfl) ?_
        refine kw_get hx hb hg in_R hown hK hP 0 (Nat.lt_of_lt_of_le (by decide : 0 < 19) hn) e0 rfl 17 (by decide) (hg _ kg_600) rfl rfl d_R_put_129 ?_
        refine lv_aload_n hx hb d_R_put_132 rfl (lv_at hl 1 rfl) ?_
        refine kw_get hx hb hg in_R hown hK hP 0 (Nat.lt_of_lt_of_le (by decide : 0 < 19) hn) e0 rfl 14 (by decide) (hg _ kg_597) rfl rfl d_R_put_133 ?_
        refine lv_iload_n hx hb d_R_put_136 rfl (lv_at hl 4 rfl) ?_
        refine kw_iast hx hb hK hP hJ hA hS 6 0 (Nat.lt_of_lt_of_le (by decide : 6 < 19) hn) e6 rfl ma (rfl) (kw_p40 hma h1) (by omega) d_R_put_137 (fun H locs hP hS => ?_)
        rw [kw_upn] at hP
        obtain ⟨cs4, hccs4⟩ : ∃ z9, z9 = va_up cs3 6 (.inl (cI, 40, .inl (fun i => nI ((va_up pa ma a9) i)))) := ⟨_, rfl⟩
        replace hP : va_P D kc (kw_w ad cs4 n) H := by rw [hccs4]; exact hP
        replace e0 := (congrFun hccs4 0).trans ((va_up_ne _ _ (by decide)).trans e0)
        replace e1 := (congrFun hccs4 1).trans ((va_up_ne _ _ (by decide)).trans e1)
        replace e2 := (congrFun hccs4 2).trans ((va_up_ne _ _ (by decide)).trans e2)
        replace e3 := (congrFun hccs4 3).trans ((va_up_ne _ _ (by decide)).trans e3)
        replace e4 := (congrFun hccs4 4).trans ((va_up_ne _ _ (by decide)).trans e4)
        replace e5 := (congrFun hccs4 5).trans ((va_up_ne _ _ (by decide)).trans e5)
        have e6 : cs4 6 = .inl (cI, 40, .inl (fun i => nI ((va_up pa ma a9) i))) := by rw [hccs4]; exact va_up_self _ _ _
        replace e7 := (congrFun hccs4 7).trans ((va_up_ne _ _ (by decide)).trans e7)
        replace e8 := (congrFun hccs4 8).trans ((va_up_ne _ _ (by decide)).trans e8)
        replace e9 := (congrFun hccs4 9).trans ((va_up_ne _ _ (by decide)).trans e9)
        replace e10 := (congrFun hccs4 10).trans ((va_up_ne _ _ (by decide)).trans e10)
        replace e11 := (congrFun hccs4 11).trans ((va_up_ne _ _ (by decide)).trans e11)
        replace e12 := (congrFun hccs4 12).trans ((va_up_ne _ _ (by decide)).trans e12)
        replace e13 := (congrFun hccs4 13).trans ((va_up_ne _ _ (by decide)).trans e13)
        replace e14 := (congrFun hccs4 14).trans ((va_up_ne _ _ (by decide)).trans e14)
        replace e15 := (congrFun hccs4 15).trans ((va_up_ne _ _ (by decide)).trans e15)
        replace e16 := (congrFun hccs4 16).trans ((va_up_ne _ _ (by decide)).trans e16)
        replace e17 := (congrFun hccs4 17).trans ((va_up_ne _ _ (by decide)).trans e17)
        replace e18 := (congrFun hccs4 18).trans ((va_up_ne _ _ (by decide)).trans e18)
        clear hccs4
        refine lv_aload_n hx hb d_R_put_138 rfl (lv_at hl 1 rfl) ?_
        refine kw_get hx hb hg in_R hown hK hP 0 (Nat.lt_of_lt_of_le (by decide : 0 < 19) hn) e0 rfl 18 (by decide) (hg _ kg_601) rfl rfl d_R_put_139 ?_
        refine lv_aload_n hx hb d_R_put_142 rfl (lv_at hl 1 rfl) ?_
        refine kw_get hx hb hg in_R hown hK hP 0 (Nat.lt_of_lt_of_le (by decide : 0 < 19) hn) e0 rfl 14 (by decide) (hg _ kg_597) rfl rfl d_R_put_143 ?_
        refine lv_iload hx hb d_R_put_146 (lv_at hl 5 rfl) ?_
        refine kw_iast hx hb hK hP hJ hA hS 7 0 (Nat.lt_of_lt_of_le (by decide : 7 < 19) hn) e7 rfl ma (rfl) (kw_p40 hma h1) (by omega) d_R_put_148 (fun H locs hP hS => ?_)
        rw [kw_upn] at hP
        obtain ⟨cs5, hccs5⟩ : ∃ z9, z9 = va_up cs4 7 (.inl (cI, 40, .inl (fun i => nI ((va_up pb ma b9) i)))) := ⟨_, rfl⟩
        replace hP : va_P D kc (kw_w ad cs5 n) H := by rw [hccs5]; exact hP
        replace e0 := (congrFun hccs5 0).trans ((va_up_ne _ _ (by decide)).trans e0)
        replace e1 := (congrFun hccs5 1).trans ((va_up_ne _ _ (by decide)).trans e1)
        replace e2 := (congrFun hccs5 2).trans ((va_up_ne _ _ (by decide)).trans e2)
        replace e3 := (congrFun hccs5 3).trans ((va_up_ne _ _ (by decide)).trans e3)
        replace e4 := (congrFun hccs5 4).trans ((va_up_ne _ _ (by decide)).trans e4)
        replace e5 := (congrFun hccs5 5).trans ((va_up_ne _ _ (by decide)).trans e5)
        replace e6 := (congrFun hccs5 6).trans ((va_up_ne _ _ (by decide)).trans e6)
        have e7 : cs5 7 = .inl (cI, 40, .inl (fun i => nI ((va_up pb ma b9) i))) := by rw [hccs5]; exact va_up_self _ _ _
        replace e8 := (congrFun hccs5 8).trans ((va_up_ne _ _ (by decide)).trans e8)
        replace e9 := (congrFun hccs5 9).trans ((va_up_ne _ _ (by decide)).trans e9)
        replace e10 := (congrFun hccs5 10).trans ((va_up_ne _ _ (by decide)).trans e10)
        replace e11 := (congrFun hccs5 11).trans ((va_up_ne _ _ (by decide)).trans e11)
        replace e12 := (congrFun hccs5 12).trans ((va_up_ne _ _ (by decide)).trans e12)
        replace e13 := (congrFun hccs5 13).trans ((va_up_ne _ _ (by decide)).trans e13)
        replace e14 := (congrFun hccs5 14).trans ((va_up_ne _ _ (by decide)).trans e14)
        replace e15 := (congrFun hccs5 15).trans ((va_up_ne _ _ (by decide)).trans e15)
        replace e16 := (congrFun hccs5 16).trans ((va_up_ne _ _ (by decide)).trans e16)
        replace e17 := (congrFun hccs5 17).trans ((va_up_ne _ _ (by decide)).trans e17)
        replace e18 := (congrFun hccs5 18).trans ((va_up_ne _ _ (by decide)).trans e18)
        clear hccs5
        refine lv_aload_n hx hb d_R_put_149 rfl (lv_at hl 1 rfl) ?_
        refine kw_get hx hb hg in_R hown hK hP 0 (Nat.lt_of_lt_of_le (by decide : 0 < 19) hn) e0 rfl 19 (by decide) (hg _ kg_602) rfl rfl d_R_put_150 ?_
        refine lv_aload_n hx hb d_R_put_153 rfl (lv_at hl 1 rfl) ?_
        refine kw_get hx hb hg in_R hown hK hP 0 (Nat.lt_of_lt_of_le (by decide : 0 < 19) hn) e0 rfl 14 (by decide) (hg _ kg_597) rfl rfl d_R_put_154 ?_
        refine lv_iload hx hb d_R_put_157 (lv_at hl 6 rfl) ?_
        refine kw_iast hx hb hK hP hJ hA hS 8 0 (Nat.lt_of_lt_of_le (by decide : 8 < 19) hn) e8 rfl ma (rfl) (kw_p40 hma h1) (by omega) d_R_put_159 (fun H locs hP hS => ?_)
        obtain ⟨cs6, hccs6⟩ : ∃ z9, z9 = va_up cs5 8 (.inl (cI, 40, .inl (upd pn ma x))) := ⟨_, rfl⟩
        replace hP : va_P D kc (kw_w ad cs6 n) H := by rw [hccs6]; exact hP
        replace e0 := (congrFun hccs6 0).trans ((va_up_ne _ _ (by decide)).trans e0)
        replace e1 := (congrFun hccs6 1).trans ((va_up_ne _ _ (by decide)).trans e1)
        replace e2 := (congrFun hccs6 2).trans ((va_up_ne _ _ (by decide)).trans e2)
        replace e3 := (congrFun hccs6 3).trans ((va_up_ne _ _ (by decide)).trans e3)
        replace e4 := (congrFun hccs6 4).trans ((va_up_ne _ _ (by decide)).trans e4)
        replace e5 := (congrFun hccs6 5).trans ((va_up_ne _ _ (by decide)).trans e5)
        replace e6 := (congrFun hccs6 6).trans ((va_up_ne _ _ (by decide)).trans e6)
        replace e7 := (congrFun hccs6 7).trans ((va_up_ne _ _ (by decide)).trans e7)
        have e8 : cs6 8 = .inl (cI, 40, .inl (upd pn ma x)) := by rw [hccs6]; exact va_up_self _ _ _
        replace e9 := (congrFun hccs6 9).trans ((va_up_ne _ _ (by decide)).trans e9)
        replace e10 := (congrFun hccs6 10).trans ((va_up_ne _ _ (by decide)).trans e10)
        replace e11 := (congrFun hccs6 11).trans ((va_up_ne _ _ (by decide)).trans e11)
        replace e12 := (congrFun hccs6 12).trans ((va_up_ne _ _ (by decide)).trans e12)
        replace e13 := (congrFun hccs6 13).trans ((va_up_ne _ _ (by decide)).trans e13)
        replace e14 := (congrFun hccs6 14).trans ((va_up_ne _ _ (by decide)).trans e14)
        replace e15 := (congrFun hccs6 15).trans ((va_up_ne _ _ (by decide)).trans e15)
        replace e16 := (congrFun hccs6 16).trans ((va_up_ne _ _ (by decide)).trans e16)
        replace e17 := (congrFun hccs6 17).trans ((va_up_ne _ _ (by decide)).trans e17)
        replace e18 := (congrFun hccs6 18).trans ((va_up_ne _ _ (by decide)).trans e18)
        clear hccs6
        refine lv_aload_n hx hb d_R_put_160 rfl (lv_at hl 1 rfl) ?_
        refine kw_get hx hb hg in_R hown hK hP 0 (Nat.lt_of_lt_of_le (by decide : 0 < 19) hn) e0 rfl 20 (by decide) (hg _ kg_603) rfl rfl d_R_put_161 ?_
        refine lv_aload_n hx hb d_R_put_164 rfl (lv_at hl 1 rfl) ?_
        refine kw_get hx hb hg in_R hown hK hP 0 (Nat.lt_of_lt_of_le (by decide : 0 < 19) hn) e0 rfl 14 (by decide) (hg _ kg_597) rfl rfl d_R_put_165 ?_
        refine lv_iload hx hb d_R_put_168 (lv_at hl 7 rfl) ?_
        refine kw_zast hx hb hK hP hJ hA hS 9 1 (Nat.lt_of_lt_of_le (by decide : 9 < 19) hn) e9 rfl ma (rfl) (kw_p40 hma h1) (by omega) d_R_put_170 (fun H locs hP hS => ?_)
        obtain ⟨cs7, hccs7⟩ : ∃ z9, z9 = va_up cs6 9 (.inl (cZ, 40, .inl (upd pm ma (vp_nar .boolean y)))) := ⟨_, rfl⟩
        replace hP : va_P D kc (kw_w ad cs7 n) H := by rw [hccs7]; exact hP
        replace e0 := (congrFun hccs7 0).trans ((va_up_ne _ _ (by decide)).trans e0)
        replace e1 := (congrFun hccs7 1).trans ((va_up_ne _ _ (by decide)).trans e1)
        replace e2 := (congrFun hccs7 2).trans ((va_up_ne _ _ (by decide)).trans e2)
        replace e3 := (congrFun hccs7 3).trans ((va_up_ne _ _ (by decide)).trans e3)
        replace e4 := (congrFun hccs7 4).trans ((va_up_ne _ _ (by decide)).trans e4)
        replace e5 := (congrFun hccs7 5).trans ((va_up_ne _ _ (by decide)).trans e5)
        replace e6 := (congrFun hccs7 6).trans ((va_up_ne _ _ (by decide)).trans e6)
        replace e7 := (congrFun hccs7 7).trans ((va_up_ne _ _ (by decide)).trans e7)
        replace e8 := (congrFun hccs7 8).trans ((va_up_ne _ _ (by decide)).trans e8)
        have e9 : cs7 9 = .inl (cZ, 40, .inl (upd pm ma (vp_nar .boolean y))) := by rw [hccs7]; exact va_up_self _ _ _
        replace e10 := (congrFun hccs7 10).trans ((va_up_ne _ _ (by decide)).trans e10)
        replace e11 := (congrFun hccs7 11).trans ((va_up_ne _ _ (by decide)).trans e11)
        replace e12 := (congrFun hccs7 12).trans ((va_up_ne _ _ (by decide)).trans e12)
        replace e13 := (congrFun hccs7 13).trans ((va_up_ne _ _ (by decide)).trans e13)
        replace e14 := (congrFun hccs7 14).trans ((va_up_ne _ _ (by decide)).trans e14)
        replace e15 := (congrFun hccs7 15).trans ((va_up_ne _ _ (by decide)).trans e15)
        replace e16 := (congrFun hccs7 16).trans ((va_up_ne _ _ (by decide)).trans e16)
        replace e17 := (congrFun hccs7 17).trans ((va_up_ne _ _ (by decide)).trans e17)
        replace e18 := (congrFun hccs7 18).trans ((va_up_ne _ _ (by decide)).trans e18)
        clear hccs7
        refine lv_aload_n hx hb d_R_put_171 rfl (lv_at hl 1 rfl) ?_
        refine lv_dup hx hb d_R_put_172 rfl ?_
        refine kw_get hx hb hg in_R hown hK hP 0 (Nat.lt_of_lt_of_le (by decide : 0 < 19) hn) e0 rfl 14 (by decide) (hg _ kg_597) rfl rfl d_R_put_173 ?_
        refine lv_iconst (v := 1) hx hb d_R_put_176 (by decide) ?_
        refine lv_iadd hx hb d_R_put_177 ?_
        rw [nI_1]
        refine kw_put (ty := .int) hx hb hg in_R t_R ty_R nm_R hown hK hP hJ hA hS 0 (Nat.lt_of_lt_of_le (by decide : 0 < 19) hn) e0 rfl 14 (by decide) (hg _ kg_597) rfl rfl (by decide +kernel) rfl rfl (Nat.le_of_ble_eq_true rfl) d_R_put_178 (fun H locs hP hS => ?_)
        obtain ⟨cs8, hccs8⟩ : ∃ z9, z9 = va_up cs7 0 (.inr (5, [.int (nI la), .int ((if ((if (nI o9) < 0 then 0 else if 20 < (nI o9) then 0 else if (kv_R_isRegister (nI d9)) = 0 then 0 else if (kv_R_isRegister (nI a9)) = 0 then 0 else if (kv_R_isRegister (nI b9)) = 0 then 0 else if (nI o9) = 6 then (if x < 0 then 0 else if 10 < x then 0 else if (x - x / 4 * 4) = 3 then 0 else 1) else 1 : Int32)) = 0 then 1 else if (nI ma) = 40 then 2 else if (nI st) = 0 then 2 else 0 : Int32)), .int (nI st), .int nx, .int (nI wi), .int (nI gp), .int (nI vl), .int (nI sa), .int (nI bo), .int cy, .int sd, .ref (ad 1), .ref (ad 2), .ref (ad 3), .int (nI (ma + 1)), .ref (ad 4), .ref (ad 5), .ref (ad 6), .ref (ad 7), .ref (ad 8), .ref (ad 9), .int (nI qu), .ref (ad 10), .ref (ad 11), .ref (ad 12), .ref (ad 13), .ref (ad 14), .ref (ad 15), .ref (ad 16), .ref (ad 17), .ref (ad 18)])) := ⟨_, rfl⟩
        replace hP : va_P D kc (kw_w ad cs8 n) H := by rw [hccs8]; exact hP
        have e0 : cs8 0 = .inr (5, [.int (nI la), .int ((if ((if (nI o9) < 0 then 0 else if 20 < (nI o9) then 0 else if (kv_R_isRegister (nI d9)) = 0 then 0 else if (kv_R_isRegister (nI a9)) = 0 then 0 else if (kv_R_isRegister (nI b9)) = 0 then 0 else if (nI o9) = 6 then (if x < 0 then 0 else if 10 < x then 0 else if (x - x / 4 * 4) = 3 then 0 else 1) else 1 : Int32)) = 0 then 1 else if (nI ma) = 40 then 2 else if (nI st) = 0 then 2 else 0 : Int32)), .int (nI st), .int nx, .int (nI wi), .int (nI gp), .int (nI vl), .int (nI sa), .int (nI bo), .int cy, .int sd, .ref (ad 1), .ref (ad 2), .ref (ad 3), .int (nI (ma + 1)), .ref (ad 4), .ref (ad 5), .ref (ad 6), .ref (ad 7), .ref (ad 8), .ref (ad 9), .int (nI qu), .ref (ad 10), .ref (ad 11), .ref (ad 12), .ref (ad 13), .ref (ad 14), .ref (ad 15), .ref (ad 16), .ref (ad 17), .ref (ad 18)]) := by rw [hccs8]; exact va_up_self _ _ _
        replace e1 := (congrFun hccs8 1).trans ((va_up_ne _ _ (by decide)).trans e1)
        replace e2 := (congrFun hccs8 2).trans ((va_up_ne _ _ (by decide)).trans e2)
        replace e3 := (congrFun hccs8 3).trans ((va_up_ne _ _ (by decide)).trans e3)
        replace e4 := (congrFun hccs8 4).trans ((va_up_ne _ _ (by decide)).trans e4)
        replace e5 := (congrFun hccs8 5).trans ((va_up_ne _ _ (by decide)).trans e5)
        replace e6 := (congrFun hccs8 6).trans ((va_up_ne _ _ (by decide)).trans e6)
        replace e7 := (congrFun hccs8 7).trans ((va_up_ne _ _ (by decide)).trans e7)
        replace e8 := (congrFun hccs8 8).trans ((va_up_ne _ _ (by decide)).trans e8)
        replace e9 := (congrFun hccs8 9).trans ((va_up_ne _ _ (by decide)).trans e9)
        replace e10 := (congrFun hccs8 10).trans ((va_up_ne _ _ (by decide)).trans e10)
        replace e11 := (congrFun hccs8 11).trans ((va_up_ne _ _ (by decide)).trans e11)
        replace e12 := (congrFun hccs8 12).trans ((va_up_ne _ _ (by decide)).trans e12)
        replace e13 := (congrFun hccs8 13).trans ((va_up_ne _ _ (by decide)).trans e13)
        replace e14 := (congrFun hccs8 14).trans ((va_up_ne _ _ (by decide)).trans e14)
        replace e15 := (congrFun hccs8 15).trans ((va_up_ne _ _ (by decide)).trans e15)
        replace e16 := (congrFun hccs8 16).trans ((va_up_ne _ _ (by decide)).trans e16)
        replace e17 := (congrFun hccs8 17).trans ((va_up_ne _ _ (by decide)).trans e17)
        replace e18 := (congrFun hccs8 18).trans ((va_up_ne _ _ (by decide)).trans e18)
        clear hccs8
        refine lv_aload_n hx hb d_R_put_181 rfl (lv_at hl 1 rfl) ?_
        refine kw_get hx hb hg in_R hown hK hP 0 (Nat.lt_of_lt_of_le (by decide : 0 < 19) hn) e0 rfl 14 (by decide) (hg _ kg_597) rfl rfl d_R_put_182 ?_
        refine lv_iconst (v := 1) hx hb d_R_put_185 (by decide) ?_
        refine lv_isub hx hb d_R_put_186 ?_
        rw [nI_pred]
        exact kw_iret hx hb hr hlocks hP hK hS ⟨by rw [kv_R_put, if_pos h1], (by rw [show kv_R_put_th st ma o9 d9 a9 b9 x = (if ((if (nI o9) < 0 then 0 else if 20 < (nI o9) then 0 else if (kv_R_isRegister (nI d9)) = 0 then 0 else if (kv_R_isRegister (nI a9)) = 0 then 0 else if (kv_R_isRegister (nI b9)) = 0 then 0 else if (nI o9) = 6 then (if x < 0 then 0 else if 10 < x then 0 else if (x - x / 4 * 4) = 3 then 0 else 1) else 1 : Int32)) = 0 then 1 else if (nI ma) = 40 then 2 else if (nI st) = 0 then 2 else 0 : Int32) from (by rw [kv_R_put_th]), show kv_R_put_ma st ma o9 d9 a9 b9 x = ma + 1 from (by rw [kv_R_put_ma, if_pos h1]), show kv_R_put_po st ma po o9 d9 a9 b9 x = va_up po ma o9 from (by rw [kv_R_put_po, if_pos h1]), show kv_R_put_pd st ma pd o9 d9 a9 b9 x = va_up pd ma d9 from (by rw [kv_R_put_pd, if_pos h1]), show kv_R_put_pa st ma pa o9 d9 a9 b9 x = va_up pa ma a9 from (by rw [kv_R_put_pa, if_pos h1]), show kv_R_put_pb st ma pb o9 d9 a9 b9 x = va_up pb ma b9 from (by rw [kv_R_put_pb, if_pos h1]), show kv_R_put_pn st ma pn o9 d9 a9 b9 x = upd pn ma x from (by rw [kv_R_put_pn, if_pos h1]), show kv_R_put_pm st ma pm o9 d9 a9 b9 x y = upd pm ma (vp_nar .boolean y) from (by rw [kv_R_put_pm, if_pos h1])]; exact ⟨e0, e1, e2, e3, e4, e5, e6, e7, e8, e9, e10, e11, e12, e13, e14, e15, e16, e17, e18⟩)⟩ d_R_put_187
      · refine lv_iconst (v := 0) hx hb d_R_put_106 (by decide) ?_
        exact kw_iret hx hb hr hlocks hP hK hS ⟨by rw [kv_R_put, if_neg h1], (by rw [show kv_R_put_th st ma o9 d9 a9 b9 x = (if ((if (nI o9) < 0 then 0 else if 20 < (nI o9) then 0 else if (kv_R_isRegister (nI d9)) = 0 then 0 else if (kv_R_isRegister (nI a9)) = 0 then 0 else if (kv_R_isRegister (nI b9)) = 0 then 0 else if (nI o9) = 6 then (if x < 0 then 0 else if 10 < x then 0 else if (x - x / 4 * 4) = 3 then 0 else 1) else 1 : Int32)) = 0 then 1 else if (nI ma) = 40 then 2 else if (nI st) = 0 then 2 else 0 : Int32) from (by rw [kv_R_put_th]), show kv_R_put_ma st ma o9 d9 a9 b9 x = ma from (by rw [kv_R_put_ma, if_neg h1]), show kv_R_put_po st ma po o9 d9 a9 b9 x = po from (by rw [kv_R_put_po, if_neg h1]), show kv_R_put_pd st ma pd o9 d9 a9 b9 x = pd from (by rw [kv_R_put_pd, if_neg h1]), show kv_R_put_pa st ma pa o9 d9 a9 b9 x = pa from (by rw [kv_R_put_pa, if_neg h1]), show kv_R_put_pb st ma pb o9 d9 a9 b9 x = pb from (by rw [kv_R_put_pb, if_neg h1]), show kv_R_put_pn st ma pn o9 d9 a9 b9 x = pn from (by rw [kv_R_put_pn, if_neg h1]), show kv_R_put_pm st ma pm o9 d9 a9 b9 x y = pm from (by rw [kv_R_put_pm, if_neg h1])]; exact ⟨e0, e1, e2, e3, e4, e5, e6, e7, e8, e9, e10, e11, e12, e13, e14, e15, e16, e17, e18⟩)⟩ d_R_put_107
    refine lv_iload hx hb d_R_put_66 (lv_at hl 0 rfl) ?_
    refine lv_if_ne (tgt := 75) hx hb d_R_put_68 (by decide) (fun h2 => ?_) (fun h2 => ?_)
    · refine lv_aload_n hx hb d_R_put_75 rfl (lv_at hl 1 rfl) ?_
      refine kw_get hx hb hg in_R hown hK hP 0 (Nat.lt_of_lt_of_le (by decide : 0 < 19) hn) e0 rfl 14 (by decide) (hg _ kg_597) rfl rfl d_R_put_76 ?_
      refine lv_bipush (v := 40) hx hb d_R_put_79 (by decide) ?_
      refine lv_icmp_eq (tgt := 91) hx hb d_R_put_81 (by decide) (fun h3 => ?_) (fun h3 => ?_)
      · refine lv_iconst (v := 2) hx hb d_R_put_91 (by decide) ?_
        refine lv_goto (tgt := 96) hx hb d_R_put_92 (by decide) ?_
        exact W.eq (congrArg (fun z9 => F0 m 96 ls (.int z9 :: [.ref (ad 0)])) (show (2 : Int32) = (if ((if (nI o9) < 0 then 0 else if 20 < (nI o9) then 0 else if (kv_R_isRegister (nI d9)) = 0 then 0 else if (kv_R_isRegister (nI a9)) = 0 then 0 else if (kv_R_isRegister (nI b9)) = 0 then 0 else if (nI o9) = 6 then (if x < 0 then 0 else if 10 < x then 0 else if (x - x / 4 * 4) = 3 then 0 else 1) else 1 : Int32)) = 0 then 1 else if (nI ma) = 40 then 2 else if (nI st) = 0 then 2 else 0 : Int32) from (by rw [if_neg h2, if_pos h3]))) (K96 _ _ _ hP hS hl)
      · refine lv_aload_n hx hb d_R_put_84 rfl (lv_at hl 1 rfl) ?_
        refine kw_get hx hb hg in_R hown hK hP 0 (Nat.lt_of_lt_of_le (by decide : 0 < 19) hn) e0 rfl 2 (by decide) (hg _ kg_585) rfl rfl d_R_put_85 ?_
        refine lv_if_ne (tgt := 95) hx hb d_R_put_88 (by decide) (fun h4 => ?_) (fun h4 => ?_)
        · refine lv_iconst (v := 0) hx hb d_R_put_95 (by decide) ?_
          exact W.eq (congrArg (fun z9 => F0 m 96 ls (.int z9 :: [.ref (ad 0)])) (show (0 : Int32) = (if ((if (nI o9) < 0 then 0 else if 20 < (nI o9) then 0 else if (kv_R_isRegister (nI d9)) = 0 then 0 else if (kv_R_isRegister (nI a9)) = 0 then 0 else if (kv_R_isRegister (nI b9)) = 0 then 0 else if (nI o9) = 6 then (if x < 0 then 0 else if 10 < x then 0 else if (x - x / 4 * 4) = 3 then 0 else 1) else 1 : Int32)) = 0 then 1 else if (nI ma) = 40 then 2 else if (nI st) = 0 then 2 else 0 : Int32) from (by rw [if_neg h2, if_neg h3, if_neg h4]))) (K96 _ _ _ hP hS hl)
        · refine lv_iconst (v := 2) hx hb d_R_put_91 (by decide) ?_
          refine lv_goto (tgt := 96) hx hb d_R_put_92 (by decide) ?_
          exact W.eq (congrArg (fun z9 => F0 m 96 ls (.int z9 :: [.ref (ad 0)])) (show (2 : Int32) = (if ((if (nI o9) < 0 then 0 else if 20 < (nI o9) then 0 else if (kv_R_isRegister (nI d9)) = 0 then 0 else if (kv_R_isRegister (nI a9)) = 0 then 0 else if (kv_R_isRegister (nI b9)) = 0 then 0 else if (nI o9) = 6 then (if x < 0 then 0 else if 10 < x then 0 else if (x - x / 4 * 4) = 3 then 0 else 1) else 1 : Int32)) = 0 then 1 else if (nI ma) = 40 then 2 else if (nI st) = 0 then 2 else 0 : Int32) from (by rw [if_neg h2, if_neg h3, if_pos h4]))) (K96 _ _ _ hP hS hl)
    · refine lv_iconst (v := 1) hx hb d_R_put_71 (by decide) ?_
      refine lv_goto (tgt := 96) hx hb d_R_put_72 (by decide) ?_
      exact W.eq (congrArg (fun z9 => F0 m 96 ls (.int z9 :: [.ref (ad 0)])) (show (1 : Int32) = (if ((if (nI o9) < 0 then 0 else if 20 < (nI o9) then 0 else if (kv_R_isRegister (nI d9)) = 0 then 0 else if (kv_R_isRegister (nI a9)) = 0 then 0 else if (kv_R_isRegister (nI b9)) = 0 then 0 else if (nI o9) = 6 then (if x < 0 then 0 else if 10 < x then 0 else if (x - x / 4 * 4) = 3 then 0 else 1) else 1 : Int32)) = 0 then 1 else if (nI ma) = 40 then 2 else if (nI st) = 0 then 2 else 0 : Int32) from (by rw [if_pos h2]))) (K96 _ _ _ hP hS hl)
  refine lv_iload_n hx hb d_R_put_0 rfl (lv_at hl 1 rfl) ?_
  refine lv_if_lt (tgt := 62) hx hb d_R_put_1 (by decide) (fun h5 => ?_) (fun h5 => ?_)
  · refine lv_iconst (v := 0) hx hb d_R_put_62 (by decide) ?_
    exact W.eq (congrArg (fun z9 => F0 m 63 ls (.int z9 :: [])) (show (0 : Int32) = (if (nI o9) < 0 then 0 else if 20 < (nI o9) then 0 else if (kv_R_isRegister (nI d9)) = 0 then 0 else if (kv_R_isRegister (nI a9)) = 0 then 0 else if (kv_R_isRegister (nI b9)) = 0 then 0 else if (nI o9) = 6 then (if x < 0 then 0 else if 10 < x then 0 else if (x - x / 4 * 4) = 3 then 0 else 1) else 1 : Int32) from (by rw [if_pos h5]))) (K63 _ _ _ hP hS hl)
  · refine lv_iload_n hx hb d_R_put_4 rfl (lv_at hl 1 rfl) ?_
    refine lv_bipush (v := 20) hx hb d_R_put_5 (by decide) ?_
    refine lv_icmp_gt (tgt := 62) hx hb d_R_put_7 (by decide) (fun h6 => ?_) (fun h6 => ?_)
    · refine lv_iconst (v := 0) hx hb d_R_put_62 (by decide) ?_
      exact W.eq (congrArg (fun z9 => F0 m 63 ls (.int z9 :: [])) (show (0 : Int32) = (if (nI o9) < 0 then 0 else if 20 < (nI o9) then 0 else if (kv_R_isRegister (nI d9)) = 0 then 0 else if (kv_R_isRegister (nI a9)) = 0 then 0 else if (kv_R_isRegister (nI b9)) = 0 then 0 else if (nI o9) = 6 then (if x < 0 then 0 else if 10 < x then 0 else if (x - x / 4 * 4) = 3 then 0 else 1) else 1 : Int32) from (by rw [if_neg h5, if_pos h6]))) (K63 _ _ _ hP hS hl)
    · refine lv_iload_n hx hb d_R_put_10 rfl (lv_at hl 2 rfl) ?_
      refine kw_callix (kw_rS (As := [.int (nI d9)]) (rest := []) ⟨hx, hb, hml, hown, hg⟩ ⟨callB_of 1 hg (kg_goodG kg_804) rfl rfl rfl (hg _ kg_7) (hg _ kg_802) (by decide +kernel) ⟨by decide, by decide⟩, hg _ kg_803⟩ (c_R_isRegister l  ) hK hP rfl hl.1 rfl (Nat.le_of_ble_eq_true rfl) d_R_put_11 ⟨Nat.zero_le _, Nat.zero_le _⟩) hA hS (fun H locs hP hS => ?_)
      refine lv_if_eq (tgt := 62) hx hb d_R_put_14 (by decide) (fun h7 => ?_) (fun h7 => ?_)
      · refine lv_iconst (v := 0) hx hb d_R_put_62 (by decide) ?_
        exact W.eq (congrArg (fun z9 => F0 m 63 ls (.int z9 :: [])) (show (0 : Int32) = (if (nI o9) < 0 then 0 else if 20 < (nI o9) then 0 else if (kv_R_isRegister (nI d9)) = 0 then 0 else if (kv_R_isRegister (nI a9)) = 0 then 0 else if (kv_R_isRegister (nI b9)) = 0 then 0 else if (nI o9) = 6 then (if x < 0 then 0 else if 10 < x then 0 else if (x - x / 4 * 4) = 3 then 0 else 1) else 1 : Int32) from (by rw [if_neg h5, if_neg h6, if_pos h7]))) (K63 _ _ _ hP hS hl)
      · refine lv_iload_n hx hb d_R_put_17 rfl (lv_at hl 3 rfl) ?_
        refine kw_callix (kw_rS (As := [.int (nI a9)]) (rest := []) ⟨hx, hb, hml, hown, hg⟩ ⟨callB_of 1 hg (kg_goodG kg_804) rfl rfl rfl (hg _ kg_7) (hg _ kg_802) (by decide +kernel) ⟨by decide, by decide⟩, hg _ kg_803⟩ (c_R_isRegister l  ) hK hP rfl hl.1 rfl (Nat.le_of_ble_eq_true rfl) d_R_put_18 ⟨Nat.zero_le _, Nat.zero_le _⟩) hA hS (fun H locs hP hS => ?_)
        refine lv_if_eq (tgt := 62) hx hb d_R_put_21 (by decide) (fun h8 => ?_) (fun h8 => ?_)
        · refine lv_iconst (v := 0) hx hb d_R_put_62 (by decide) ?_
          exact W.eq (congrArg (fun z9 => F0 m 63 ls (.int z9 :: [])) (show (0 : Int32) = (if (nI o9) < 0 then 0 else if 20 < (nI o9) then 0 else if (kv_R_isRegister (nI d9)) = 0 then 0 else if (kv_R_isRegister (nI a9)) = 0 then 0 else if (kv_R_isRegister (nI b9)) = 0 then 0 else if (nI o9) = 6 then (if x < 0 then 0 else if 10 < x then 0 else if (x - x / 4 * 4) = 3 then 0 else 1) else 1 : Int32) from (by rw [if_neg h5, if_neg h6, if_neg h7, if_pos h8]))) (K63 _ _ _ hP hS hl)
        · refine lv_iload hx hb d_R_put_24 (lv_at hl 4 rfl) ?_
          refine kw_callix (kw_rS (As := [.int (nI b9)]) (rest := []) ⟨hx, hb, hml, hown, hg⟩ ⟨callB_of 1 hg (kg_goodG kg_804) rfl rfl rfl (hg _ kg_7) (hg _ kg_802) (by decide +kernel) ⟨by decide, by decide⟩, hg _ kg_803⟩ (c_R_isRegister l  ) hK hP rfl hl.1 rfl (Nat.le_of_ble_eq_true rfl) d_R_put_26 ⟨Nat.zero_le _, Nat.zero_le _⟩) hA hS (fun H locs hP hS => ?_)
          refine lv_if_eq (tgt := 62) hx hb d_R_put_29 (by decide) (fun h9 => ?_) (fun h9 => ?_)
          · refine lv_iconst (v := 0) hx hb d_R_put_62 (by decide) ?_
            exact W.eq (congrArg (fun z9 => F0 m 63 ls (.int z9 :: [])) (show (0 : Int32) = (if (nI o9) < 0 then 0 else if 20 < (nI o9) then 0 else if (kv_R_isRegister (nI d9)) = 0 then 0 else if (kv_R_isRegister (nI a9)) = 0 then 0 else if (kv_R_isRegister (nI b9)) = 0 then 0 else if (nI o9) = 6 then (if x < 0 then 0 else if 10 < x then 0 else if (x - x / 4 * 4) = 3 then 0 else 1) else 1 : Int32) from (by rw [if_neg h5, if_neg h6, if_neg h7, if_neg h8, if_pos h9]))) (K63 _ _ _ hP hS hl)
          · refine lv_iload_n hx hb d_R_put_32 rfl (lv_at hl 1 rfl) ?_
            refine lv_bipush (v := 6) hx hb d_R_put_33 (by decide) ?_
            refine lv_icmp_ne (tgt := 58) hx hb d_R_put_35 (by decide) (fun h10 => ?_) (fun h10 => ?_)
            · refine lv_iconst (v := 1) hx hb d_R_put_58 (by decide) ?_
              refine lv_goto (tgt := 63) hx hb d_R_put_59 (by decide) ?_
              exact W.eq (congrArg (fun z9 => F0 m 63 ls (.int z9 :: [])) (show (1 : Int32) = (if (nI o9) < 0 then 0 else if 20 < (nI o9) then 0 else if (kv_R_isRegister (nI d9)) = 0 then 0 else if (kv_R_isRegister (nI a9)) = 0 then 0 else if (kv_R_isRegister (nI b9)) = 0 then 0 else if (nI o9) = 6 then (if x < 0 then 0 else if 10 < x then 0 else if (x - x / 4 * 4) = 3 then 0 else 1) else 1 : Int32) from (by rw [if_neg h5, if_neg h6, if_neg h7, if_neg h8, if_neg h9, if_neg h10]))) (K63 _ _ _ hP hS hl)
            · refine lv_iload hx hb d_R_put_38 (lv_at hl 5 rfl) ?_
              refine lv_if_lt (tgt := 62) hx hb d_R_put_40 (by decide) (fun h11 => ?_) (fun h11 => ?_)
              · refine lv_iconst (v := 0) hx hb d_R_put_62 (by decide) ?_
                exact W.eq (congrArg (fun z9 => F0 m 63 ls (.int z9 :: [])) (show (0 : Int32) = (if (nI o9) < 0 then 0 else if 20 < (nI o9) then 0 else if (kv_R_isRegister (nI d9)) = 0 then 0 else if (kv_R_isRegister (nI a9)) = 0 then 0 else if (kv_R_isRegister (nI b9)) = 0 then 0 else if (nI o9) = 6 then (if x < 0 then 0 else if 10 < x then 0 else if (x - x / 4 * 4) = 3 then 0 else 1) else 1 : Int32) from (by rw [if_neg h5, if_neg h6, if_neg h7, if_neg h8, if_neg h9, if_pos h10, if_pos h11]))) (K63 _ _ _ hP hS hl)
              · refine lv_iload hx hb d_R_put_43 (lv_at hl 5 rfl) ?_
                refine lv_bipush (v := 10) hx hb d_R_put_45 (by decide) ?_
                refine lv_icmp_gt (tgt := 62) hx hb d_R_put_47 (by decide) (fun h12 => ?_) (fun h12 => ?_)
                · refine lv_iconst (v := 0) hx hb d_R_put_62 (by decide) ?_
                  exact W.eq (congrArg (fun z9 => F0 m 63 ls (.int z9 :: [])) (show (0 : Int32) = (if (nI o9) < 0 then 0 else if 20 < (nI o9) then 0 else if (kv_R_isRegister (nI d9)) = 0 then 0 else if (kv_R_isRegister (nI a9)) = 0 then 0 else if (kv_R_isRegister (nI b9)) = 0 then 0 else if (nI o9) = 6 then (if x < 0 then 0 else if 10 < x then 0 else if (x - x / 4 * 4) = 3 then 0 else 1) else 1 : Int32) from (by rw [if_neg h5, if_neg h6, if_neg h7, if_neg h8, if_neg h9, if_pos h10, if_neg h11, if_pos h12]))) (K63 _ _ _ hP hS hl)
                · refine lv_iload hx hb d_R_put_50 (lv_at hl 5 rfl) ?_
                  refine lv_iconst (v := 4) hx hb d_R_put_52 (by decide) ?_
                  refine lv_irem hx hb d_R_put_53 (by decide) ?_
                  refine lv_iconst (v := 3) hx hb d_R_put_54 (by decide) ?_
                  refine lv_icmp_eq (tgt := 62) hx hb d_R_put_55 (by decide) (fun h13 => ?_) (fun h13 => ?_)
                  · refine lv_iconst (v := 0) hx hb d_R_put_62 (by decide) ?_
                    exact W.eq (congrArg (fun z9 => F0 m 63 ls (.int z9 :: [])) (show (0 : Int32) = (if (nI o9) < 0 then 0 else if 20 < (nI o9) then 0 else if (kv_R_isRegister (nI d9)) = 0 then 0 else if (kv_R_isRegister (nI a9)) = 0 then 0 else if (kv_R_isRegister (nI b9)) = 0 then 0 else if (nI o9) = 6 then (if x < 0 then 0 else if 10 < x then 0 else if (x - x / 4 * 4) = 3 then 0 else 1) else 1 : Int32) from (by rw [if_neg h5, if_neg h6, if_neg h7, if_neg h8, if_neg h9, if_pos h10, if_neg h11, if_neg h12, if_pos h13]))) (K63 _ _ _ hP hS hl)
                  · refine lv_iconst (v := 1) hx hb d_R_put_58 (by decide) ?_
                    refine lv_goto (tgt := 63) hx hb d_R_put_59 (by decide) ?_
                    exact W.eq (congrArg (fun z9 => F0 m 63 ls (.int z9 :: [])) (show (1 : Int32) = (if (nI o9) < 0 then 0 else if 20 < (nI o9) then 0 else if (kv_R_isRegister (nI d9)) = 0 then 0 else if (kv_R_isRegister (nI a9)) = 0 then 0 else if (kv_R_isRegister (nI b9)) = 0 then 0 else if (nI o9) = 6 then (if x < 0 then 0 else if 10 < x then 0 else if (x - x / 4 * 4) = 3 then 0 else 1) else 1 : Int32) from (by rw [if_neg h5, if_neg h6, if_neg h7, if_neg h8, if_neg h9, if_pos h10, if_neg h11, if_neg h12, if_neg h13]))) (K63 _ _ _ hP hS hl)
