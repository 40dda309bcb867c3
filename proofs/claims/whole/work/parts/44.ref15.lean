/-! the reference: handsOut -/
theorem kw_ite {c : Prop} [Decidable c] {a b : Nat} : (if c then nI a else nI b : Int32) = nI (if c then a else b) := by split <;> rfl
theorem kw_ite01 {c : Prop} [Decidable c] : (if c then 0 else 1 : Int32) = nI (if c then 0 else 1) := by split <;> rfl
def kn_s (o a b : Nat) : Nat := if nI b < nI a then (if nI o = 14 then 1 else a - b) else 0
theorem kn_s_ok {o a b : Nat} (ha : a < 2 ^ 20) (hb : b < 2 ^ 20) : (if nI b < nI a then (if nI o = 14 then 1 else nI a - nI b) else 0 : Int32) = nI (kn_s o a b) := by
  unfold kn_s
  by_cases h : nI b < nI a
  · rw [if_pos h, if_pos h]
    have h2 := (nI_ltI (by omega) (by omega)).mp h
    by_cases h3 : nI o = 14
    · rw [if_pos h3, if_pos h3]; rfl
    · rw [if_neg h3, if_neg h3, pk_sub (by omega)]
  · rw [if_neg h, if_neg h]; rfl
theorem kv_bd_le (F : Nat → Int32) (po pb : Nat → Nat) (pm : Nat → Int32) (wh wd : Nat → Nat) (XA XB : Nat → Int32) (wi vl bo q : Nat) : ∀ (k i : Nat), i + k ≤ vl → kv_bd F po pb pm wh wd XA XB wi vl bo q k i ≤ vl := by
  intro k
  induction k with
  | zero => intro i h; exact Nat.le_refl _
  | succ k ih =>
    intro i h
    have h1 := ih (i + 1) (by omega)
    rw [kv_bd]
    split
    · split
      · omega
      · split
        · exact h1
        · omega
    · split
      · exact h1
      · split
        · omega
        · split
          · exact h1
          · omega
def kn_e (F : Nat → Int32) (po pb : Nat → Nat) (pm : Nat → Int32) (wh wd : Nat → Nat) (XA XB : Nat → Int32) (wi vl sa bo q k : Nat) : Nat := if nI (po k) < 17 then vl else kv_bd F po pb pm wh wd XA XB wi vl bo q (vl - sa) sa
theorem kn_e_le {F : Nat → Int32} {po pb : Nat → Nat} {pm : Nat → Int32} {wh wd : Nat → Nat} {XA XB : Nat → Int32} {wi vl sa bo q k : Nat} (h : sa ≤ vl) : kn_e F po pb pm wh wd XA XB wi vl sa bo q k ≤ vl := by
  unfold kn_e
  split
  · exact Nat.le_refl _
  · exact kv_bd_le _ _ _ _ _ _ _ _ _ _ _ _ _ _ (by omega)

def kv_R_handsOut_st (st : Nat) (vl : Nat) (po : Nat → Nat) (k : Nat) (en : Nat) : Nat := if ((if (nI (po k)) < 17 then 0 else if (nI vl) ≤ (nI en) then 0 else 1 : Int32)) = 0 then st else if (nI (po k)) = 20 then (if 0 < (nI en) then st else 2) else 2
def kv_R_handsOut_nx (nx : Int32) (vl : Nat) (po : Nat → Nat) (k : Nat) (en : Nat) : Int32 := if ((if (nI (po k)) < 17 then 0 else if (nI vl) ≤ (nI en) then 0 else 1 : Int32)) = 0 then (nx + 1) else if (nI (po k)) = 20 then (if 0 < (nI en) then (nx + 1) else nx) else nx
def kv_R_handsOut_vl (vl : Nat) (po : Nat → Nat) (k : Nat) (en : Nat) : Nat := if ((if (nI (po k)) < 17 then 0 else if (nI vl) ≤ (nI en) then 0 else 1 : Int32)) = 0 then vl else if (nI (po k)) = 20 then (if 0 < (nI en) then (if ((if (nI (po k)) < 17 then 0 else if (nI vl) ≤ (nI en) then 0 else 1 : Int32)) = 0 then vl else en) else vl) else vl
def kv_R_handsOut_sa (vl : Nat) (po : Nat → Nat) (k : Nat) (en : Nat) : Nat := if ((if (nI (po k)) < 17 then 0 else if (nI vl) ≤ (nI en) then 0 else 1 : Int32)) = 0 then 0 else if (nI (po k)) = 20 then (if 0 < (nI en) then 0 else en) else en
def kv_R_handsOut_qu (sa : Nat) (qu : Nat) (po : Nat → Nat) (sp : Nat → Nat) (k : Nat) (en : Nat) : Nat := qu + (if (nI ((va_up sp qu (kn_s (po k) en sa)) qu)) ≤ 0 then 0 else 1)
def kv_R_handsOut_wh (qu : Nat) (wh : Nat → Nat) (k : Nat) : Nat → Nat := va_up wh qu k
def kv_R_handsOut_wd (wi : Nat) (qu : Nat) (wd : Nat → Nat) : Nat → Nat := va_up wd qu wi
def kv_R_handsOut_rg (gp : Nat) (qu : Nat) (rg : Nat → Nat) : Nat → Nat := va_up rg qu gp
def kv_R_handsOut_fr (sa : Nat) (qu : Nat) (fr : Nat → Nat) : Nat → Nat := va_up fr qu sa
def kv_R_handsOut_sp (sa : Nat) (qu : Nat) (po : Nat → Nat) (sp : Nat → Nat) (k : Nat) (en : Nat) : Nat → Nat := va_up sp qu (kn_s (po k) en sa)
def kv_R_handsOut_dn (qu : Nat) (dn : Nat → Nat) : Nat → Nat := va_up dn qu 0
def kv_R_handsOut_bf (qu : Nat) (bf : Nat → Nat) : Nat → Nat := va_up bf qu 0
def kv_R_handsOut_XA (vl : Nat) (qu : Nat) (X : Nat → Int32) (po : Nat → Nat) (pa : Nat → Nat) (XA : Nat → Int32) (k : Nat) : Nat → Int32 := upd XA qu ((if (nI (po k)) = 14 then (nI vl) else (X (pa k)) : Int32))
def kv_R_handsOut_XB (qu : Nat) (X : Nat → Int32) (pb : Nat → Nat) (XB : Nat → Int32) (k : Nat) : Nat → Int32 := upd XB qu (X (pb k))
set_option maxRecDepth 100000 in
set_option maxHeartbeats 4000000 in
theorem c_R_handsOut (l : Launch) {D : va_G} {ad : Nat → Nat} {n : Nat} {cs : Nat → va_E} (hJ : kw_J ad n) {cI : ClassId} {cZ : ClassId} {la : Nat} {th : Int32} {st : Nat} {nx : Int32} {wi : Nat} {gp : Nat} {vl : Nat} {sa : Nat} {bo : Nat} {cy : Int32} {sd : Int32} {ma : Nat} {qu : Nat} {X : Nat → Int32} {F : Nat → Int32} {M : Nat → Int32} {po : Nat → Nat} {pd : Nat → Nat} {pa : Nat → Nat} {pb : Nat → Nat} {pn : Nat → Int32} {pm : Nat → Int32} {wh : Nat → Nat} {wd : Nat → Nat} {rg : Nat → Nat} {fr : Nat → Nat} {sp : Nat → Nat} {dn : Nat → Nat} {bf : Nat → Nat} {XA : Nat → Int32} {XB : Nat → Int32} {k : Nat} (hn : 19 ≤ n) (hR : kR ad cI cZ cs la th st nx wi gp vl sa bo cy sd ma qu X F M po pd pa pb pn pm wh wd rg fr sp dn bf XA XB) (hk : k < 40) (ho9 : po k < 21) (hqu : qu < 4) (ha8 : pa k < 8) (hb8 : pb k < 8) (hsv : sa ≤ vl) (hvl : vl ≤ 64) (hb9 : po k = 19 → ∀ i, i < vl → 8 * pb k + i * wi + wi ≤ 64) : kw_mv l y_R_handsOut w_R_handsOut (kr 4) D kc (ktR cI cZ) ad n cs [.ref (ad 0), .int (nI k)] (fun c9 => kR ad cI cZ c9 la th (kv_R_handsOut_st st vl po k (kn_e F po pb pm (va_up wh qu k) (va_up wd qu wi) (upd XA qu ((if (nI (po k)) = 14 then (nI vl) else (X (pa k)) : Int32))) (upd XB qu (X (pb k))) wi vl sa bo qu k)) (kv_R_handsOut_nx nx vl po k (kn_e F po pb pm (va_up wh qu k) (va_up wd qu wi) (upd XA qu ((if (nI (po k)) = 14 then (nI vl) else (X (pa k)) : Int32))) (upd XB qu (X (pb k))) wi vl sa bo qu k)) wi gp (kv_R_handsOut_vl vl po k (kn_e F po pb pm (va_up wh qu k) (va_up wd qu wi) (upd XA qu ((if (nI (po k)) = 14 then (nI vl) else (X (pa k)) : Int32))) (upd XB qu (X (pb k))) wi vl sa bo qu k)) (kv_R_handsOut_sa vl po k (kn_e F po pb pm (va_up wh qu k) (va_up wd qu wi) (upd XA qu ((if (nI (po k)) = 14 then (nI vl) else (X (pa k)) : Int32))) (upd XB qu (X (pb k))) wi vl sa bo qu k)) bo cy sd ma (kv_R_handsOut_qu sa qu po sp k (kn_e F po pb pm (va_up wh qu k) (va_up wd qu wi) (upd XA qu ((if (nI (po k)) = 14 then (nI vl) else (X (pa k)) : Int32))) (upd XB qu (X (pb k))) wi vl sa bo qu k)) X F M po pd pa pb pn pm (kv_R_handsOut_wh qu wh k) (kv_R_handsOut_wd wi qu wd) (kv_R_handsOut_rg gp qu rg) (kv_R_handsOut_fr sa qu fr) (kv_R_handsOut_sp sa qu po sp k (kn_e F po pb pm (va_up wh qu k) (va_up wd qu wi) (upd XA qu ((if (nI (po k)) = 14 then (nI vl) else (X (pa k)) : Int32))) (upd XB qu (X (pb k))) wi vl sa bo qu k)) (kv_R_handsOut_dn qu dn) (kv_R_handsOut_bf qu bf) (kv_R_handsOut_XA vl qu X po pa XA k) (kv_R_handsOut_XB qu X pb XB k)) := by
  refine kw_of (cc := b_R_handsOut) (maxL := 6) (ret := none) (by decide) rfl (Nat.le_of_ble_eq_true rfl) ?_
  intro p e s m below meth c ls hx hb hr hml hown hts hlocks hP hK hl
  have hg : ∀ w9 ∈ kg_G, w9.before [.ref (ad 0), .int (nI k)].toArray s = true := fun w9 h9 => hts w9 (List.mem_cons_of_mem _ h9)
  have hown : s.vm.findClass "LaneMachineModel" = some m.cls := hown
  have hA : ∀ k, k < n → kw_A ad n (ad k) := fun k hk => ⟨k, hk, rfl⟩
  have hS : va_S (kw_A ad n) s.heap s.heap [] := va_S.rf
  have hl : lv_has ls 6 [(0, .ref (ad 0)), (1, .int (nI k))] := hl
  obtain ⟨e0, e1, e2, e3, e4, e5, e6, e7, e8, e9, e10, e11, e12, e13, e14, e15, e16, e17, e18⟩ := hR
  refine lv_aload_n hx hb d_R_handsOut_0 rfl (lv_at hl 0 rfl) ?_
  refine kw_get hx hb hg in_R hown hK hP 0 (Nat.lt_of_lt_of_le (by decide : 0 < 19) hn) e0 rfl 21 (by decide) (hg _ kg_604) rfl rfl d_R_handsOut_1 ?_
  refine lv_istore_n (lv' := [(2, .int (nI qu)), (0, .ref (ad 0)), (1, .int (nI k))]) hx hb d_R_handsOut_4 rfl hl (by decide) rfl (fun ls hl => ?_)
  refine lv_aload_n hx hb d_R_handsOut_5 rfl (lv_at hl 1 rfl) ?_
  refine kw_get hx hb hg in_R hown hK hP 0 (Nat.lt_of_lt_of_le (by decide : 0 < 19) hn) e0 rfl 15 (by decide) (hg _ kg_598) rfl rfl d_R_handsOut_6 ?_
  refine lv_iload_n hx hb d_R_handsOut_9 rfl (lv_at hl 2 rfl) ?_
  refine kw_iald hx hb hK hP 4 0 (Nat.lt_of_lt_of_le (by decide : 4 < 19) hn) e4 rfl k (rfl) (hk) (by omega) d_R_handsOut_10 ?_
  refine lv_istore_n (lv' := [(3, .int (nI (po k))), (2, .int (nI qu)), (0, .ref (ad 0)), (1, .int (nI k))]) hx hb d_R_handsOut_11 rfl hl (by decide) rfl (fun ls hl => ?_)
  refine lv_aload_n hx hb d_R_handsOut_12 rfl (lv_at hl 2 rfl) ?_
  refine kw_get hx hb hg in_R hown hK hP 0 (Nat.lt_of_lt_of_le (by decide : 0 < 19) hn) e0 rfl 22 (by decide) (hg _ kg_605) rfl rfl d_R_handsOut_13 ?_
  refine lv_iload_n hx hb d_R_handsOut_16 rfl (lv_at hl 1 rfl) ?_
  refine lv_iload_n hx hb d_R_handsOut_17 rfl (lv_at hl 3 rfl) ?_
  refine kw_iast hx hb hK hP hJ hA hS 10 0 (Nat.lt_of_lt_of_le (by decide : 10 < 19) hn) e10 rfl qu (rfl) ((by omega)) (by omega) d_R_handsOut_18 (fun H locs hP hS => ?_)
  rw [kw_upn] at hP
  obtain ⟨cs1, hccs1⟩ : ∃ z9, z9 = va_up cs 10 (.inl (cI, 5, .inl (fun i => nI ((va_up wh qu k) i)))) := ⟨_, rfl⟩
  replace hP : va_P D kc (kw_w ad cs1 n) H := by rw [hccs1]; exact hP
  replace e0 := (congrFun hccs1 0).trans ((va_up_ne _ _ (by decide)).trans e0)
  replace e1 := (congrFun hccs1 1).trans ((va_up_ne _ _ (by decide)).trans e1)
  replace e2 := (congrFun hccs1 2).trans ((va_up_ne _ _ (by decide)).trans e2)
  replace e3 := (congrFun hccs1 3).trans ((va_up_ne _ _ (by decide)).trans e3)
  replace e4 := (congrFun hccs1 4).trans ((va_up_ne _ _ (by decide)).trans e4)
  replace e5 := (congrFun hccs1 5).trans ((va_up_ne _ _ (by decide)).trans e5)
  replace e6 := (congrFun hccs1 6).trans ((va_up_ne _ _ (by decide)).trans e6)
  replace e7 := (congrFun hccs1 7).trans ((va_up_ne _ _ (by decide)).trans e7)
  replace e8 := (congrFun hccs1 8).trans ((va_up_ne _ _ (by decide)).trans e8)
  replace e9 := (congrFun hccs1 9).trans ((va_up_ne _ _ (by decide)).trans e9)
  have e10 : cs1 10 = .inl (cI, 5, .inl (fun i => nI ((va_up wh qu k) i))) := by rw [hccs1]; exact va_up_self _ _ _
  replace e11 := (congrFun hccs1 11).trans ((va_up_ne _ _ (by decide)).trans e11)
  replace e12 := (congrFun hccs1 12).trans ((va_up_ne _ _ (by decide)).trans e12)
  replace e13 := (congrFun hccs1 13).trans ((va_up_ne _ _ (by decide)).trans e13)
  replace e14 := (congrFun hccs1 14).trans ((va_up_ne _ _ (by decide)).trans e14)
  replace e15 := (congrFun hccs1 15).trans ((va_up_ne _ _ (by decide)).trans e15)
  replace e16 := (congrFun hccs1 16).trans ((va_up_ne _ _ (by decide)).trans e16)
  replace e17 := (congrFun hccs1 17).trans ((va_up_ne _ _ (by decide)).trans e17)
  replace e18 := (congrFun hccs1 18).trans ((va_up_ne _ _ (by decide)).trans e18)
  clear hccs1
  refine lv_aload_n hx hb d_R_handsOut_19 rfl (lv_at hl 2 rfl) ?_
  refine kw_get hx hb hg in_R hown hK hP 0 (Nat.lt_of_lt_of_le (by decide : 0 < 19) hn) e0 rfl 23 (by decide) (hg _ kg_606) rfl rfl d_R_handsOut_20 ?_
  refine lv_iload_n hx hb d_R_handsOut_23 rfl (lv_at hl 1 rfl) ?_
  refine lv_aload_n hx hb d_R_handsOut_24 rfl (lv_at hl 2 rfl) ?_
  refine kw_get hx hb hg in_R hown hK hP 0 (Nat.lt_of_lt_of_le (by decide : 0 < 19) hn) e0 rfl 4 (by decide) (hg _ kg_587) rfl rfl d_R_handsOut_25 ?_
  refine kw_iast hx hb hK hP hJ hA hS 11 0 (Nat.lt_of_lt_of_le (by decide : 11 < 19) hn) e11 rfl qu (rfl) ((by omega)) (by omega) d_R_handsOut_28 (fun H locs hP hS => ?_)
  rw [kw_upn] at hP
  obtain ⟨cs2, hccs2⟩ : ∃ z9, z9 = va_up cs1 11 (.inl (cI, 5, .inl (fun i => nI ((va_up wd qu wi) i)))) := ⟨_, rfl⟩
  replace hP : va_P D kc (kw_w ad cs2 n) H := by rw [hccs2]; exact hP
  replace e0 := (congrFun hccs2 0).trans ((va_up_ne _ _ (by decide)).trans e0)
  replace e1 := (congrFun hccs2 1).trans ((va_up_ne _ _ (by decide)).trans e1)
  replace e2 := (congrFun hccs2 2).trans ((va_up_ne _ _ (by decide)).trans e2)
  replace e3 := (congrFun hccs2 3).trans ((va_up_ne _ _ (by decide)).trans e3)
  replace e4 := (congrFun hccs2 4).trans ((va_up_ne _ _ (by decide)).trans e4)
  replace e5 := (congrFun hccs2 5).trans ((va_up_ne _ _ (by decide)).trans e5)
  replace e6 := (congrFun hccs2 6).trans ((va_up_ne _ _ (by decide)).trans e6)
  replace e7 := (congrFun hccs2 7).trans ((va_up_ne _ _ (by decide)).trans e7)
  replace e8 := (congrFun hccs2 8).trans ((va_up_ne _ _ (by decide)).trans e8)
  replace e9 := (congrFun hccs2 9).trans ((va_up_ne _ _ (by decide)).trans e9)
  replace e10 := (congrFun hccs2 10).trans ((va_up_ne _ _ (by decide)).trans e10)
  have e11 : cs2 11 = .inl (cI, 5, .inl (fun i => nI ((va_up wd qu wi) i))) := by rw [hccs2]; exact va_up_self _ _ _
  replace e12 := (congrFun hccs2 12).trans ((va_up_ne _ _ (by decide)).trans e12)
  replace e13 := (congrFun hccs2 13).trans ((va_up_ne _ _ (by decide)).trans e13)
  replace e14 := (congrFun hccs2 14).trans ((va_up_ne _ _ (by decide)).trans e14)
  replace e15 := (congrFun hccs2 15).trans ((va_up_ne _ _ (by decide)).trans e15)
  replace e16 := (congrFun hccs2 16).trans ((va_up_ne _ _ (by decide)).trans e16)
  replace e17 := (congrFun hccs2 17).trans ((va_up_ne _ _ (by decide)).trans e17)
  replace e18 := (congrFun hccs2 18).trans ((va_up_ne _ _ (by decide)).trans e18)
  clear hccs2
  refine lv_aload_n hx hb d_R_handsOut_29 rfl (lv_at hl 2 rfl) ?_
  refine kw_get hx hb hg in_R hown hK hP 0 (Nat.lt_of_lt_of_le (by decide : 0 < 19) hn) e0 rfl 24 (by decide) (hg _ kg_607) rfl rfl d_R_handsOut_30 ?_
  refine lv_iload_n hx hb d_R_handsOut_33 rfl (lv_at hl 1 rfl) ?_
  refine lv_aload_n hx hb d_R_handsOut_34 rfl (lv_at hl 2 rfl) ?_
  refine kw_get hx hb hg in_R hown hK hP 0 (Nat.lt_of_lt_of_le (by decide : 0 < 19) hn) e0 rfl 5 (by decide) (hg _ kg_588) rfl rfl d_R_handsOut_35 ?_
  refine kw_iast hx hb hK hP hJ hA hS 12 0 (Nat.lt_of_lt_of_le (by decide : 12 < 19) hn) e12 rfl qu (rfl) ((by omega)) (by omega) d_R_handsOut_38 (fun H locs hP hS => ?_)
  rw [kw_upn] at hP
  obtain ⟨cs3, hccs3⟩ : ∃ z9, z9 = va_up cs2 12 (.inl (cI, 5, .inl (fun i => nI ((va_up rg qu gp) i)))) := ⟨_, rfl⟩
  replace hP : va_P D kc (kw_w ad cs3 n) H := by rw [hccs3]; exact hP
  replace e0 := (congrFun hccs3 0).trans ((va_up_ne _ _ (by decide)).trans e0)
  replace e1 := (congrFun hccs3 1).trans ((va_up_ne _ _ (by decide)).trans e1)
  replace e2 := (congrFun hccs3 2).trans ((va_up_ne _ _ (by decide)).trans e2)
  replace e3 := (congrFun hccs3 3).trans ((va_up_ne _ _ (by decide)).trans e3)
  replace e4 := (congrFun hccs3 4).trans ((va_up_ne _ _ (by decide)).trans e4)
  replace e5 := (congrFun hccs3 5).trans ((va_up_ne _ _ (by decide)).trans e5)
  replace e6 := (congrFun hccs3 6).trans ((va_up_ne _ _ (by decide)).trans e6)
  replace e7 := (congrFun hccs3 7).trans ((va_up_ne _ _ (by decide)).trans e7)
  replace e8 := (congrFun hccs3 8).trans ((va_up_ne _ _ (by decide)).trans e8)
  replace e9 := (congrFun hccs3 9).trans ((va_up_ne _ _ (by decide)).trans e9)
  replace e10 := (congrFun hccs3 10).trans ((va_up_ne _ _ (by decide)).trans e10)
  replace e11 := (congrFun hccs3 11).trans ((va_up_ne _ _ (by decide)).trans e11)
  have e12 : cs3 12 = .inl (cI, 5, .inl (fun i => nI ((va_up rg qu gp) i))) := by rw [hccs3]; exact va_up_self _ _ _
  replace e13 := (congrFun hccs3 13).trans ((va_up_ne _ _ (by decide)).trans e13)
  replace e14 := (congrFun hccs3 14).trans ((va_up_ne _ _ (by decide)).trans e14)
  replace e15 := (congrFun hccs3 15).trans ((va_up_ne _ _ (by decide)).trans e15)
  replace e16 := (congrFun hccs3 16).trans ((va_up_ne _ _ (by decide)).trans e16)
  replace e17 := (congrFun hccs3 17).trans ((va_up_ne _ _ (by decide)).trans e17)
  replace e18 := (congrFun hccs3 18).trans ((va_up_ne _ _ (by decide)).trans e18)
  clear hccs3
  refine lv_aload_n hx hb d_R_handsOut_39 rfl (lv_at hl 2 rfl) ?_
  refine kw_get hx hb hg in_R hown hK hP 0 (Nat.lt_of_lt_of_le (by decide : 0 < 19) hn) e0 rfl 25 (by decide) (hg _ kg_608) rfl rfl d_R_handsOut_40 ?_
  refine lv_iload_n hx hb d_R_handsOut_43 rfl (lv_at hl 1 rfl) ?_
  refine lv_aload_n hx hb d_R_handsOut_44 rfl (lv_at hl 2 rfl) ?_
  refine kw_get hx hb hg in_R hown hK hP 0 (Nat.lt_of_lt_of_le (by decide : 0 < 19) hn) e0 rfl 7 (by decide) (hg _ kg_590) rfl rfl d_R_handsOut_45 ?_
  refine kw_iast hx hb hK hP hJ hA hS 13 0 (Nat.lt_of_lt_of_le (by decide : 13 < 19) hn) e13 rfl qu (rfl) ((by omega)) (by omega) d_R_handsOut_48 (fun H locs hP hS => ?_)
  rw [kw_upn] at hP
  obtain ⟨cs4, hccs4⟩ : ∃ z9, z9 = va_up cs3 13 (.inl (cI, 5, .inl (fun i => nI ((va_up fr qu sa) i)))) := ⟨_, rfl⟩
  replace hP : va_P D kc (kw_w ad cs4 n) H := by rw [hccs4]; exact hP
  replace e0 := (congrFun hccs4 0).trans ((va_up_ne _ _ (by decide)).trans e0)
  replace e1 := (congrFun hccs4 1).trans ((va_up_ne _ _ (by decide)).trans e1)
  replace e2 := (congrFun hccs4 2).trans ((va_up_ne _ _ (by decide)).trans e2)
  replace e3 := (congrFun hccs4 3).trans ((va_up_ne _ _ (by decide)).trans e3)
  replace e4 := (congrFun hccs4 4).trans ((va_up_ne _ _ (by decide)).trans e4)
  replace e5 := (congrFun hccs4 5).trans ((va_up_ne _ _ (by decide)).trans e5)
  replace e6 := (congrFun hccs4 6).trans ((va_up_ne _ _ (by decide)).trans e6)
  replace e7 := (congrFun hccs4 7).trans ((va_up_ne _ _ (by decide)).trans e7)
  replace e8 := (congrFun hccs4 8).trans ((va_up_ne _ _ (by decide)).trans e8)
  replace e9 := (congrFun hccs4 9).trans ((va_up_ne _ _ (by decide)).trans e9)
  replace e10 := (congrFun hccs4 10).trans ((va_up_ne _ _ (by decide)).trans e10)
  replace e11 := (congrFun hccs4 11).trans ((va_up_ne _ _ (by decide)).trans e11)
  replace e12 := (congrFun hccs4 12).trans ((va_up_ne _ _ (by decide)).trans e12)
  have e13 : cs4 13 = .inl (cI, 5, .inl (fun i => nI ((va_up fr qu sa) i))) := by rw [hccs4]; exact va_up_self _ _ _
  replace e14 := (congrFun hccs4 14).trans ((va_up_ne _ _ (by decide)).trans e14)
  replace e15 := (congrFun hccs4 15).trans ((va_up_ne _ _ (by decide)).trans e15)
  replace e16 := (congrFun hccs4 16).trans ((va_up_ne _ _ (by decide)).trans e16)
  replace e17 := (congrFun hccs4 17).trans ((va_up_ne _ _ (by decide)).trans e17)
  replace e18 := (congrFun hccs4 18).trans ((va_up_ne _ _ (by decide)).trans e18)
  clear hccs4
  refine lv_aload_n hx hb d_R_handsOut_49 rfl (lv_at hl 2 rfl) ?_
  refine kw_get hx hb hg in_R hown hK hP 0 (Nat.lt_of_lt_of_le (by decide : 0 < 19) hn) e0 rfl 27 (by decide) (hg _ kg_610) rfl rfl d_R_handsOut_50 ?_
  refine lv_iload_n hx hb d_R_handsOut_53 rfl (lv_at hl 1 rfl) ?_
  refine lv_iconst (v := 0) hx hb d_R_handsOut_54 (by decide) ?_
  refine kw_iast hx hb hK hP hJ hA hS 15 0 (Nat.lt_of_lt_of_le (by decide : 15 < 19) hn) e15 rfl qu (rfl) ((by omega)) (by omega) d_R_handsOut_55 (fun H locs hP hS => ?_)
  rw [show upd (fun i => nI (dn i)) qu 0 = fun i => nI ((va_up dn qu 0) i) from kw_upn (x := 0)] at hP
  obtain ⟨cs5, hccs5⟩ : ∃ z9, z9 = va_up cs4 15 (.inl (cI, 5, .inl (fun i => nI ((va_up dn qu 0) i)))) := ⟨_, rfl⟩
  replace hP : va_P D kc (kw_w ad cs5 n) H := by rw [hccs5]; exact hP
  replace e0 := (congrFun hccs5 0).trans ((va_up_ne _ _ (by decide)).trans e0)
  replace e1 := (congrFun hccs5 1).trans ((va_up_ne _ _ (by decide)).trans e1)
  replace e2 := (congrFun hccs5 2).trans ((va_up_ne _ _ (by decide)).trans e2)
  replace e3 := (congrFun hccs5 3).trans ((va_up_ne _ _ (by decide)).trans e3)
  replace e4 := (congrFun hccs5 4).trans ((va_up_ne _ _ (by decide)).trans e4)
  replace e5 := (congrFun hccs5 5).trans ((va_up_ne _ _ (by decide)).trans e5)
  replace e6 := (congrFun hccs5 6).trans ((va_up_ne _ _ (by decide)).trans e6)
  replace e7 := (congrFun hccs5 7).trans ((va_up_ne _ _ (by decide)).trans e7)
  replace e8 := (congrFun hccs5 8).trans ((va_up_ne _ _ (by decide)).trans e8)
  replace e9 := (congrFun hccs5 9).trans ((va_up_ne _ _ (by decide)).trans e9)
  replace e10 := (congrFun hccs5 10).trans ((va_up_ne _ _ (by decide)).trans e10)
  replace e11 := (congrFun hccs5 11).trans ((va_up_ne _ _ (by decide)).trans e11)
  replace e12 := (congrFun hccs5 12).trans ((va_up_ne _ _ (by decide)).trans e12)
  replace e13 := (congrFun hccs5 13).trans ((va_up_ne _ _ (by decide)).trans e13)
  replace e14 := (congrFun hccs5 14).trans ((va_up_ne _ _ (by decide)).trans e14)
  have e15 : cs5 15 = .inl (cI, 5, .inl (fun i => nI ((va_up dn qu 0) i))) := by rw [hccs5]; exact va_up_self _ _ _
  replace e16 := (congrFun hccs5 16).trans ((va_up_ne _ _ (by decide)).trans e16)
  replace e17 := (congrFun hccs5 17).trans ((va_up_ne _ _ (by decide)).trans e17)
  replace e18 := (congrFun hccs5 18).trans ((va_up_ne _ _ (by decide)).trans e18)
  clear hccs5
  refine lv_aload_n hx hb d_R_handsOut_56 rfl (lv_at hl 2 rfl) ?_
  refine kw_get hx hb hg in_R hown hK hP 0 (Nat.lt_of_lt_of_le (by decide : 0 < 19) hn) e0 rfl 28 (by decide) (hg _ kg_611) rfl rfl d_R_handsOut_57 ?_
  refine lv_iload_n hx hb d_R_handsOut_60 rfl (lv_at hl 1 rfl) ?_
  refine lv_iconst (v := 0) hx hb d_R_handsOut_61 (by decide) ?_
  refine kw_iast hx hb hK hP hJ hA hS 16 0 (Nat.lt_of_lt_of_le (by decide : 16 < 19) hn) e16 rfl qu (rfl) ((by omega)) (by omega) d_R_handsOut_62 (fun H locs hP hS => ?_)
  rw [show upd (fun i => nI (bf i)) qu 0 = fun i => nI ((va_up bf qu 0) i) from kw_upn (x := 0)] at hP
  obtain ⟨cs6, hccs6⟩ : ∃ z9, z9 = va_up cs5 16 (.inl (cI, 5, .inl (fun i => nI ((va_up bf qu 0) i)))) := ⟨_, rfl⟩
  replace hP : va_P D kc (kw_w ad cs6 n) H := by rw [hccs6]; exact hP
  replace e0 := (congrFun hccs6 0).trans ((va_up_ne _ _ (by decide)).trans e0)
  replace e1 := (congrFun hccs6 1).trans ((va_up_ne _ _ (by decide)).trans e1)
  replace e2 := (congrFun hccs6 2).trans ((va_up_ne _ _ (by decide)).trans e2)
  replace e3 := (congrFun hccs6 3).trans ((va_up_ne _ _ (by decide)).trans e3)
  replace e4 := (congrFun hccs6 4).trans ((va_up_ne _ _ (by decide)).trans e4)
  replace e5 := (congrFun hccs6 5).trans ((va_up_ne _ _ (by decide)).trans e5)
  replace e6 := (congrFun hccs6 6).trans ((va_up_ne _ _ (by decide)).trans e6)
  replace e7 := (congrFun hccs6 7).trans ((va_up_ne _ _ (by decide)).trans e7)
  replace e8 := (congrFun hccs6 8).trans ((va_up_ne _ _ (by decide)).trans e8)
  replace e9 := (congrFun hccs6 9).trans ((va_up_ne _ _ (by decide)).trans e9)
  replace e10 := (congrFun hccs6 10).trans ((va_up_ne _ _ (by decide)).trans e10)
  replace e11 := (congrFun hccs6 11).trans ((va_up_ne _ _ (by decide)).trans e11)
  replace e12 := (congrFun hccs6 12).trans ((va_up_ne _ _ (by decide)).trans e12)
  replace e13 := (congrFun hccs6 13).trans ((va_up_ne _ _ (by decide)).trans e13)
  replace e14 := (congrFun hccs6 14).trans ((va_up_ne _ _ (by decide)).trans e14)
  replace e15 := (congrFun hccs6 15).trans ((va_up_ne _ _ (by decide)).trans e15)
  have e16 : cs6 16 = .inl (cI, 5, .inl (fun i => nI ((va_up bf qu 0) i))) := by rw [hccs6]; exact va_up_self _ _ _
  replace e17 := (congrFun hccs6 17).trans ((va_up_ne _ _ (by decide)).trans e17)
  replace e18 := (congrFun hccs6 18).trans ((va_up_ne _ _ (by decide)).trans e18)
  clear hccs6
  refine lv_aload_n hx hb d_R_handsOut_63 rfl (lv_at hl 2 rfl) ?_
  refine kw_get hx hb hg in_R hown hK hP 0 (Nat.lt_of_lt_of_le (by decide : 0 < 19) hn) e0 rfl 29 (by decide) (hg _ kg_612) rfl rfl d_R_handsOut_64 ?_
  refine lv_iload_n hx hb d_R_handsOut_67 rfl (lv_at hl 1 rfl) ?_
  have K92 : ∀ (H : Heap) (locs : List Loc) (ls : Array Slot), va_P D kc (kw_w ad cs6 n) H → va_S (kw_A ad n) s.heap H locs → lv_has ls 6 [(3, .int (nI (po k))), (2, .int (nI qu)), (0, .ref (ad 0)), (1, .int (nI k))] → W p l e (kr 4) s m [.ref (ad 0), .int (nI k)].toArray below meth c H locs 0 0 (MQ below (va_Qv (fun c9 => kR ad cI cZ c9 la th (kv_R_handsOut_st st vl po k (kn_e F po pb pm (va_up wh qu k) (va_up wd qu wi) (upd XA qu ((if (nI (po k)) = 14 then (nI vl) else (X (pa k)) : Int32))) (upd XB qu (X (pb k))) wi vl sa bo qu k)) (kv_R_handsOut_nx nx vl po k (kn_e F po pb pm (va_up wh qu k) (va_up wd qu wi) (upd XA qu ((if (nI (po k)) = 14 then (nI vl) else (X (pa k)) : Int32))) (upd XB qu (X (pb k))) wi vl sa bo qu k)) wi gp (kv_R_handsOut_vl vl po k (kn_e F po pb pm (va_up wh qu k) (va_up wd qu wi) (upd XA qu ((if (nI (po k)) = 14 then (nI vl) else (X (pa k)) : Int32))) (upd XB qu (X (pb k))) wi vl sa bo qu k)) (kv_R_handsOut_sa vl po k (kn_e F po pb pm (va_up wh qu k) (va_up wd qu wi) (upd XA qu ((if (nI (po k)) = 14 then (nI vl) else (X (pa k)) : Int32))) (upd XB qu (X (pb k))) wi vl sa bo qu k)) bo cy sd ma (kv_R_handsOut_qu sa qu po sp k (kn_e F po pb pm (va_up wh qu k) (va_up wd qu wi) (upd XA qu ((if (nI (po k)) = 14 then (nI vl) else (X (pa k)) : Int32))) (upd XB qu (X (pb k))) wi vl sa bo qu k)) X F M po pd pa pb pn pm (kv_R_handsOut_wh qu wh k) (kv_R_handsOut_wd wi qu wd) (kv_R_handsOut_rg gp qu rg) (kv_R_handsOut_fr sa qu fr) (kv_R_handsOut_sp sa qu po sp k (kn_e F po pb pm (va_up wh qu k) (va_up wd qu wi) (upd XA qu ((if (nI (po k)) = 14 then (nI vl) else (X (pa k)) : Int32))) (upd XB qu (X (pb k))) wi vl sa bo qu k)) (kv_R_handsOut_dn qu dn) (kv_R_handsOut_bf qu bf) (kv_R_handsOut_XA vl qu X po pa XA k) (kv_R_handsOut_XB qu X pb XB k)) (kw_Pre D kc (ktR cI cZ) ad n) (kw_A ad n)) [.ref (ad 0), .int (nI k)].toArray s 0 0 (kw_A ad n)) (F0 m 92 ls [.int ((if (nI (po k)) = 14 then (nI vl) else (X (pa k)) : Int32)), .int (nI qu), .ref (ad 17)]) := by
    intro H locs ls hP hS hl
    refine kw_iast hx hb hK hP hJ hA hS 17 0 (Nat.lt_of_lt_of_le (by decide : 17 < 19) hn) e17 rfl qu (rfl) ((by omega)) (by omega) d_R_handsOut_92 (fun H locs hP hS => ?_)
    obtain ⟨cs7, hccs7⟩ : ∃ z9, z9 = va_up cs6 17 (.inl (cI, 5, .inl (upd XA qu ((if (nI (po k)) = 14 then (nI vl) else (X (pa k)) : Int32))))) := ⟨_, rfl⟩
    replace hP : va_P D kc (kw_w ad cs7 n) H := by rw [hccs7]; exact hP
    replace e0 := (congrFun hccs7 0).trans ((va_up_ne _ _ (by decide)).trans e0)
    replace e1 := (congrFun hccs7 1).trans ((va_up_ne _ _ (by decide)).trans e1)
    replace e2 := (congrFun hccs7 2).trans ((va_up_ne _ _ (by decide)).trans e2)
    replace e3 := (congrFun hccs7 3).trans ((va_up_ne _ _ (by decide)).trans e3)
    replace e4 := (congrFun hccs7 4).trans ((va_up_ne _ _ (by decide)).trans e4)
    replace e5 := (congrFun hccs7 5).trans ((va_up_ne _ _ (by decide)).trans e5)
    replace e6 := (congrFun hccs7 6).trans ((va_up_ne _ _ (by decide)).trans e6)
    replace e7 := (congrFun hccs7 7).trans ((va_up_ne _ _ (by decide)).trans e7)
    replace e8 := (congrFun hccs7 8).trans ((va_up_ne _ _ (by decide)).trans e8)
    replace e9 := (congrFun hccs7 9).trans ((va_up_ne _ _ (by decide)).trans e9)
    replace e10 := (congrFun hccs7 10).trans ((va_up_ne _ _ (by decide)).trans e10)
    replace e11 := (congrFun hccs7 11).trans ((va_up_ne _ _ (by decide)).trans e11)
    replace e12 := (congrFun hccs7 12).trans ((va_up_ne _ _ (by decide)).trans e12)
    replace e13 := (congrFun hccs7 13).trans ((va_up_ne _ _ (by decide)).trans e13)
    replace e14 := (congrFun hccs7 14).trans ((va_up_ne _ _ (by decide)).trans e14)
    replace e15 := (congrFun hccs7 15).trans ((va_up_ne _ _ (by decide)).trans e15)
    replace e16 := (congrFun hccs7 16).trans ((va_up_ne _ _ (by decide)).trans e16)
    have e17 : cs7 17 = .inl (cI, 5, .inl (upd XA qu ((if (nI (po k)) = 14 then (nI vl) else (X (pa k)) : Int32)))) := by rw [hccs7]; exact va_up_self _ _ _
    replace e18 := (congrFun hccs7 18).trans ((va_up_ne _ _ (by decide)).trans e18)
    clear hccs7
    refine lv_aload_n hx hb d_R_handsOut_93 rfl (lv_at hl 2 rfl) ?_
    refine kw_get hx hb hg in_R hown hK hP 0 (Nat.lt_of_lt_of_le (by decide : 0 < 19) hn) e0 rfl 30 (by decide) (hg _ kg_613) rfl rfl d_R_handsOut_94 ?_
    refine lv_iload_n hx hb d_R_handsOut_97 rfl (lv_at hl 1 rfl) ?_
    refine lv_aload_n hx hb d_R_handsOut_98 rfl (lv_at hl 2 rfl) ?_
    refine kw_get hx hb hg in_R hown hK hP 0 (Nat.lt_of_lt_of_le (by decide : 0 < 19) hn) e0 rfl 11 (by decide) (hg _ kg_594) rfl rfl d_R_handsOut_99 ?_
    refine lv_aload_n hx hb d_R_handsOut_102 rfl (lv_at hl 2 rfl) ?_
    refine kw_get hx hb hg in_R hown hK hP 0 (Nat.lt_of_lt_of_le (by decide : 0 < 19) hn) e0 rfl 18 (by decide) (hg _ kg_601) rfl rfl d_R_handsOut_103 ?_
    refine lv_iload_n hx hb d_R_handsOut_106 rfl (lv_at hl 3 rfl) ?_
    refine kw_iald hx hb hK hP 7 0 (Nat.lt_of_lt_of_le (by decide : 7 < 19) hn) e7 rfl k (rfl) (hk) (by omega) d_R_handsOut_107 ?_
    refine kw_iald hx hb hK hP 1 0 (Nat.lt_of_lt_of_le (by decide : 1 < 19) hn) e1 rfl (pb k) (rfl) (hb8) (by omega) d_R_handsOut_108 ?_
    refine kw_iast hx hb hK hP hJ hA hS 18 0 (Nat.lt_of_lt_of_le (by decide : 18 < 19) hn) e18 rfl qu (rfl) ((by omega)) (by omega) d_R_handsOut_109 (fun H locs hP hS => ?_)
    obtain ⟨cs8, hccs8⟩ : ∃ z9, z9 = va_up cs7 18 (.inl (cI, 5, .inl (upd XB qu (X (pb k))))) := ⟨_, rfl⟩
    replace hP : va_P D kc (kw_w ad cs8 n) H := by rw [hccs8]; exact hP
    replace e0 := (congrFun hccs8 0).trans ((va_up_ne _ _ (by decide)).trans e0)
    replace e1 := (congrFun hccs8 1).trans ((va_up_ne _ _ (by decide)).trans e1)
    replace e2 := (congrFun hccs8 2).trans ((va_up_ne _ _ (by decide)).trans e2)
    replace e3 := (congrFun hccs8 3).trans ((va_up_ne _ _ (by decide)).trans e3)
    replace e4 := (congrFun hccs8 4).trans ((va_up_ne _ _ (by decide)).trans e4)
    replace e5 := (congrFun hccs8 5).trans ((va_up_ne _ _ (by decide)).trans e5)
    replace e6 := (congrFun hccs8 6).trans ((va_up_ne _ _ (by decide)).trans e6)
    replace e7 := (congrFun hccs8 7).trans ((va_up_ne _ _ (by decide)).trans e7)
    replace e8 := (congrFun hccs8 8).trans ((va_up_ne _ _ (by decide)).trans e8)
    replace e9 := (congrFun hccs8 9).trans ((va_up_ne _ _ (by decide)).trans e9)
    replace e10 := (congrFun hccs8 10).trans ((va_up_ne _ _ (by decide)).trans e10)
    replace e11 := (congrFun hccs8 11).trans ((va_up_ne _ _ (by decide)).trans e11)
    replace e12 := (congrFun hccs8 12).trans ((va_up_ne _ _ (by decide)).trans e12)
    replace e13 := (congrFun hccs8 13).trans ((va_up_ne _ _ (by decide)).trans e13)
    replace e14 := (congrFun hccs8 14).trans ((va_up_ne _ _ (by decide)).trans e14)
    replace e15 := (congrFun hccs8 15).trans ((va_up_ne _ _ (by decide)).trans e15)
    replace e16 := (congrFun hccs8 16).trans ((va_up_ne _ _ (by decide)).trans e16)
    replace e17 := (congrFun hccs8 17).trans ((va_up_ne _ _ (by decide)).trans e17)
    have e18 : cs8 18 = .inl (cI, 5, .inl (upd XB qu (X (pb k)))) := by rw [hccs8]; exact va_up_self _ _ _
    clear hccs8
    have K128 : ∀ (H : Heap) (locs : List Loc) (ls : Array Slot), va_P D kc (kw_w ad cs8 n) H → va_S (kw_A ad n) s.heap H locs → lv_has ls 6 [(3, .int (nI (po k))), (2, .int (nI qu)), (0, .ref (ad 0)), (1, .int (nI k))] → W p l e (kr 4) s m [.ref (ad 0), .int (nI k)].toArray below meth c H locs 0 0 (MQ below (va_Qv (fun c9 => kR ad cI cZ c9 la th (kv_R_handsOut_st st vl po k (kn_e F po pb pm (va_up wh qu k) (va_up wd qu wi) (upd XA qu ((if (nI (po k)) = 14 then (nI vl) else (X (pa k)) : Int32))) (upd XB qu (X (pb k))) wi vl sa bo qu k)) (kv_R_handsOut_nx nx vl po k (kn_e F po pb pm (va_up wh qu k) (va_up wd qu wi) (upd XA qu ((if (nI (po k)) = 14 then (nI vl) else (X (pa k)) : Int32))) (upd XB qu (X (pb k))) wi vl sa bo qu k)) wi gp (kv_R_handsOut_vl vl po k (kn_e F po pb pm (va_up wh qu k) (va_up wd qu wi) (upd XA qu ((if (nI (po k)) = 14 then (nI vl) else (X (pa k)) : Int32))) (upd XB qu (X (pb k))) wi vl sa bo qu k)) (kv_R_handsOut_sa vl po k (kn_e F po pb pm (va_up wh qu k) (va_up wd qu wi) (upd XA qu ((if (nI (po k)) = 14 then (nI vl) else (X (pa k)) : Int32))) (upd XB qu (X (pb k))) wi vl sa bo qu k)) bo cy sd ma (kv_R_handsOut_qu sa qu po sp k (kn_e F po pb pm (va_up wh qu k) (va_up wd qu wi) (upd XA qu ((if (nI (po k)) = 14 then (nI vl) else (X (pa k)) : Int32))) (upd XB qu (X (pb k))) wi vl sa bo qu k)) X F M po pd pa pb pn pm (kv_R_handsOut_wh qu wh k) (kv_R_handsOut_wd wi qu wd) (kv_R_handsOut_rg gp qu rg) (kv_R_handsOut_fr sa qu fr) (kv_R_handsOut_sp sa qu po sp k (kn_e F po pb pm (va_up wh qu k) (va_up wd qu wi) (upd XA qu ((if (nI (po k)) = 14 then (nI vl) else (X (pa k)) : Int32))) (upd XB qu (X (pb k))) wi vl sa bo qu k)) (kv_R_handsOut_dn qu dn) (kv_R_handsOut_bf qu bf) (kv_R_handsOut_XA vl qu X po pa XA k) (kv_R_handsOut_XB qu X pb XB k)) (kw_Pre D kc (ktR cI cZ) ad n) (kw_A ad n)) [.ref (ad 0), .int (nI k)].toArray s 0 0 (kw_A ad n)) (F0 m 128 ls [.int ((if (nI (po k)) < 17 then (nI vl) else (nI (kv_bd F po pb pm (va_up wh qu k) (va_up wd qu wi) (upd XA qu ((if (nI (po k)) = 14 then (nI vl) else (X (pa k)) : Int32))) (upd XB qu (X (pb k))) wi vl bo qu (vl - sa) sa)) : Int32))]) := by
      intro H locs ls hP hS hl
      rw [kw_ite, show (if nI (po k) < 17 then vl else _) = kn_e F po pb pm (va_up wh qu k) (va_up wd qu wi) (upd XA qu ((if (nI (po k)) = 14 then (nI vl) else (X (pa k)) : Int32))) (upd XB qu (X (pb k))) wi vl sa bo qu k from rfl]
      have hEN : kn_e F po pb pm (va_up wh qu k) (va_up wd qu wi) (upd XA qu ((if (nI (po k)) = 14 then (nI vl) else (X (pa k)) : Int32))) (upd XB qu (X (pb k))) wi vl sa bo qu k ≤ vl := kn_e_le hsv
      generalize kn_e F po pb pm (va_up wh qu k) (va_up wd qu wi) (upd XA qu ((if (nI (po k)) = 14 then (nI vl) else (X (pa k)) : Int32))) (upd XB qu (X (pb k))) wi vl sa bo qu k = en at hEN ⊢
      refine lv_istore (lv' := [(4, .int (nI en)), (3, .int (nI (po k))), (2, .int (nI qu)), (0, .ref (ad 0)), (1, .int (nI k))]) hx hb d_R_handsOut_128 hl (by decide) rfl (fun ls hl => ?_)
      refine lv_aload_n hx hb d_R_handsOut_130 rfl (lv_at hl 3 rfl) ?_
      refine kw_get hx hb hg in_R hown hK hP 0 (Nat.lt_of_lt_of_le (by decide : 0 < 19) hn) e0 rfl 26 (by decide) (hg _ kg_609) rfl rfl d_R_handsOut_131 ?_
      refine lv_iload_n hx hb d_R_handsOut_134 rfl (lv_at hl 2 rfl) ?_
      have K165 : ∀ (H : Heap) (locs : List Loc) (ls : Array Slot), va_P D kc (kw_w ad cs8 n) H → va_S (kw_A ad n) s.heap H locs → lv_has ls 6 [(4, .int (nI en)), (3, .int (nI (po k))), (2, .int (nI qu)), (0, .ref (ad 0)), (1, .int (nI k))] → W p l e (kr 4) s m [.ref (ad 0), .int (nI k)].toArray below meth c H locs 0 0 (MQ below (va_Qv (fun c9 => kR ad cI cZ c9 la th (kv_R_handsOut_st st vl po k en) (kv_R_handsOut_nx nx vl po k en) wi gp (kv_R_handsOut_vl vl po k en) (kv_R_handsOut_sa vl po k en) bo cy sd ma (kv_R_handsOut_qu sa qu po sp k en) X F M po pd pa pb pn pm (kv_R_handsOut_wh qu wh k) (kv_R_handsOut_wd wi qu wd) (kv_R_handsOut_rg gp qu rg) (kv_R_handsOut_fr sa qu fr) (kv_R_handsOut_sp sa qu po sp k en) (kv_R_handsOut_dn qu dn) (kv_R_handsOut_bf qu bf) (kv_R_handsOut_XA vl qu X po pa XA k) (kv_R_handsOut_XB qu X pb XB k)) (kw_Pre D kc (ktR cI cZ) ad n) (kw_A ad n)) [.ref (ad 0), .int (nI k)].toArray s 0 0 (kw_A ad n)) (F0 m 165 ls [.int ((if (nI sa) < (nI en) then (if (nI (po k)) = 14 then 1 else ((nI en) - (nI sa))) else 0 : Int32)), .int (nI qu), .ref (ad 14)]) := by
        intro H locs ls hP hS hl
        rw [kn_s_ok (by omega) (by omega)]
        refine kw_iast hx hb hK hP hJ hA hS 14 0 (Nat.lt_of_lt_of_le (by decide : 14 < 19) hn) e14 rfl qu (rfl) ((by omega)) (by omega) d_R_handsOut_165 (fun H locs hP hS => ?_)
        rw [kw_upn] at hP
        obtain ⟨cs9, hccs9⟩ : ∃ z9, z9 = va_up cs8 14 (.inl (cI, 5, .inl (fun i => nI ((va_up sp qu (kn_s (po k) en sa)) i)))) := ⟨_, rfl⟩
        replace hP : va_P D kc (kw_w ad cs9 n) H := by rw [hccs9]; exact hP
        replace e0 := (congrFun hccs9 0).trans ((va_up_ne _ _ (by decide)).trans e0)
        replace e1 := (congrFun hccs9 1).trans ((va_up_ne _ _ (by decide)).trans e1)
        replace e2 := (congrFun hccs9 2).trans ((va_up_ne _ _ (by decide)).trans e2)
        replace e3 := (congrFun hccs9 3).trans ((va_up_ne _ _ (by decide)).trans e3)
        replace e4 := (congrFun hccs9 4).trans ((va_up_ne _ _ (by decide)).trans e4)
        replace e5 := (congrFun hccs9 5).trans ((va_up_ne _ _ (by decide)).trans e5)
        replace e6 := (congrFun hccs9 6).trans ((va_up_ne _ _ (by decide)).trans e6)
        replace e7 := (congrFun hccs9 7).trans ((va_up_ne _ _ (by decide)).trans e7)
        replace e8 := (congrFun hccs9 8).trans ((va_up_ne _ _ (by decide)).trans e8)
        replace e9 := (congrFun hccs9 9).trans ((va_up_ne _ _ (by decide)).trans e9)
        replace e10 := (congrFun hccs9 10).trans ((va_up_ne _ _ (by decide)).trans e10)
        replace e11 := (congrFun hccs9 11).trans ((va_up_ne _ _ (by decide)).trans e11)
        replace e12 := (congrFun hccs9 12).trans ((va_up_ne _ _ (by decide)).trans e12)
        replace e13 := (congrFun hccs9 13).trans ((va_up_ne _ _ (by decide)).trans e13)
        have e14 : cs9 14 = .inl (cI, 5, .inl (fun i => nI ((va_up sp qu (kn_s (po k) en sa)) i))) := by rw [hccs9]; exact va_up_self _ _ _
        replace e15 := (congrFun hccs9 15).trans ((va_up_ne _ _ (by decide)).trans e15)
        replace e16 := (congrFun hccs9 16).trans ((va_up_ne _ _ (by decide)).trans e16)
        replace e17 := (congrFun hccs9 17).trans ((va_up_ne _ _ (by decide)).trans e17)
        replace e18 := (congrFun hccs9 18).trans ((va_up_ne _ _ (by decide)).trans e18)
        clear hccs9
        have K186 : ∀ (H : Heap) (locs : List Loc) (ls : Array Slot), va_P D kc (kw_w ad cs9 n) H → va_S (kw_A ad n) s.heap H locs → lv_has ls 6 [(4, .int (nI en)), (3, .int (nI (po k))), (2, .int (nI qu)), (0, .ref (ad 0)), (1, .int (nI k))] → W p l e (kr 4) s m [.ref (ad 0), .int (nI k)].toArray below meth c H locs 0 0 (MQ below (va_Qv (fun c9 => kR ad cI cZ c9 la th (kv_R_handsOut_st st vl po k en) (kv_R_handsOut_nx nx vl po k en) wi gp (kv_R_handsOut_vl vl po k en) (kv_R_handsOut_sa vl po k en) bo cy sd ma (kv_R_handsOut_qu sa qu po sp k en) X F M po pd pa pb pn pm (kv_R_handsOut_wh qu wh k) (kv_R_handsOut_wd wi qu wd) (kv_R_handsOut_rg gp qu rg) (kv_R_handsOut_fr sa qu fr) (kv_R_handsOut_sp sa qu po sp k en) (kv_R_handsOut_dn qu dn) (kv_R_handsOut_bf qu bf) (kv_R_handsOut_XA vl qu X po pa XA k) (kv_R_handsOut_XB qu X pb XB k)) (kw_Pre D kc (ktR cI cZ) ad n) (kw_A ad n)) [.ref (ad 0), .int (nI k)].toArray s 0 0 (kw_A ad n)) (F0 m 186 ls [.int ((if (nI (po k)) < 17 then 0 else if (nI vl) ≤ (nI en) then 0 else 1 : Int32))]) := by
          intro H locs ls hP hS hl
          refine lv_istore (lv' := [(5, .int ((if (nI (po k)) < 17 then 0 else if (nI vl) ≤ (nI en) then 0 else 1 : Int32))), (4, .int (nI en)), (3, .int (nI (po k))), (2, .int (nI qu)), (0, .ref (ad 0)), (1, .int (nI k))]) hx hb d_R_handsOut_186 hl (by decide) rfl (fun ls hl => ?_)
          refine lv_iload hx hb d_R_handsOut_188 (lv_at hl 0 rfl) ?_
          refine lv_if_eq (tgt := 218) hx hb d_R_handsOut_190 (by decide) (fun h1 => ?_) (fun h1 => ?_)
          · refine lv_aload_n hx hb d_R_handsOut_218 rfl (lv_at hl 4 rfl) ?_
            have K233 : ∀ (H : Heap) (locs : List Loc) (ls : Array Slot), va_P D kc (kw_w ad cs9 n) H → va_S (kw_A ad n) s.heap H locs → lv_has ls 6 [(5, .int ((if (nI (po k)) < 17 then 0 else if (nI vl) ≤ (nI en) then 0 else 1 : Int32))), (4, .int (nI en)), (3, .int (nI (po k))), (2, .int (nI qu)), (0, .ref (ad 0)), (1, .int (nI k))] → W p l e (kr 4) s m [.ref (ad 0), .int (nI k)].toArray below meth c H locs 0 0 (MQ below (va_Qv (fun c9 => kR ad cI cZ c9 la th (kv_R_handsOut_st st vl po k en) (kv_R_handsOut_nx nx vl po k en) wi gp (kv_R_handsOut_vl vl po k en) (kv_R_handsOut_sa vl po k en) bo cy sd ma (kv_R_handsOut_qu sa qu po sp k en) X F M po pd pa pb pn pm (kv_R_handsOut_wh qu wh k) (kv_R_handsOut_wd wi qu wd) (kv_R_handsOut_rg gp qu rg) (kv_R_handsOut_fr sa qu fr) (kv_R_handsOut_sp sa qu po sp k en) (kv_R_handsOut_dn qu dn) (kv_R_handsOut_bf qu bf) (kv_R_handsOut_XA vl qu X po pa XA k) (kv_R_handsOut_XB qu X pb XB k)) (kw_Pre D kc (ktR cI cZ) ad n) (kw_A ad n)) [.ref (ad 0), .int (nI k)].toArray s 0 0 (kw_A ad n)) (F0 m 233 ls [.int ((nI vl : Int32)), .ref (ad 0)]) := by
              intro H locs ls hP hS hl
              refine kw_put (ty := .int) hx hb hg in_R t_R ty_R nm_R hown hK hP hJ hA hS 0 (Nat.lt_of_lt_of_le (by decide : 0 < 19) hn) e0 rfl 6 (by decide) (hg _ kg_589) rfl rfl (by decide +kernel) rfl rfl (Nat.le_of_ble_eq_true rfl) d_R_handsOut_233 (fun H locs hP hS => ?_)
              obtain ⟨cs10, hccs10⟩ : ∃ z9, z9 = va_up cs9 0 (.inr (5, [.int (nI la), .int th, .int (nI st), .int nx, .int (nI wi), .int (nI gp), .int (nI vl), .int (nI sa), .int (nI bo), .int cy, .int sd, .ref (ad 1), .ref (ad 2), .ref (ad 3), .int (nI ma), .ref (ad 4), .ref (ad 5), .ref (ad 6), .ref (ad 7), .ref (ad 8), .ref (ad 9), .int (nI qu), .ref (ad 10), .ref (ad 11), .ref (ad 12), .ref (ad 13), .ref (ad 14), .ref (ad 15), .ref (ad 16), .ref (ad 17), .ref (ad 18)])) := ⟨_, rfl⟩
              replace hP : va_P D kc (kw_w ad cs10 n) H := by rw [hccs10]; exact hP
              have e0 : cs10 0 = .inr (5, [.int (nI la), .int th, .int (nI st), .int nx, .int (nI wi), .int (nI gp), .int (nI vl), .int (nI sa), .int (nI bo), .int cy, .int sd, .ref (ad 1), .ref (ad 2), .ref (ad 3), .int (nI ma), .ref (ad 4), .ref (ad 5), .ref (ad 6), .ref (ad 7), .ref (ad 8), .ref (ad 9), .int (nI qu), .ref (ad 10), .ref (ad 11), .ref (ad 12), .ref (ad 13), .ref (ad 14), .ref (ad 15), .ref (ad 16), .ref (ad 17), .ref (ad 18)]) := by rw [hccs10]; exact va_up_self _ _ _
              replace e1 := (congrFun hccs10 1).trans ((va_up_ne _ _ (by decide)).trans e1)
              replace e2 := (congrFun hccs10 2).trans ((va_up_ne _ _ (by decide)).trans e2)
              replace e3 := (congrFun hccs10 3).trans ((va_up_ne _ _ (by decide)).trans e3)
              replace e4 := (congrFun hccs10 4).trans ((va_up_ne _ _ (by decide)).trans e4)
              replace e5 := (congrFun hccs10 5).trans ((va_up_ne _ _ (by decide)).trans e5)
              replace e6 := (congrFun hccs10 6).trans ((va_up_ne _ _ (by decide)).trans e6)
              replace e7 := (congrFun hccs10 7).trans ((va_up_ne _ _ (by decide)).trans e7)
              replace e8 := (congrFun hccs10 8).trans ((va_up_ne _ _ (by decide)).trans e8)
              replace e9 := (congrFun hccs10 9).trans ((va_up_ne _ _ (by decide)).trans e9)
              replace e10 := (congrFun hccs10 10).trans ((va_up_ne _ _ (by decide)).trans e10)
              replace e11 := (congrFun hccs10 11).trans ((va_up_ne _ _ (by decide)).trans e11)
              replace e12 := (congrFun hccs10 12).trans ((va_up_ne _ _ (by decide)).trans e12)
              replace e13 := (congrFun hccs10 13).trans ((va_up_ne _ _ (by decide)).trans e13)
              replace e14 := (congrFun hccs10 14).trans ((va_up_ne _ _ (by decide)).trans e14)
              replace e15 := (congrFun hccs10 15).trans ((va_up_ne _ _ (by decide)).trans e15)
              replace e16 := (congrFun hccs10 16).trans ((va_up_ne _ _ (by decide)).trans e16)
              replace e17 := (congrFun hccs10 17).trans ((va_up_ne _ _ (by decide)).trans e17)
              replace e18 := (congrFun hccs10 18).trans ((va_up_ne _ _ (by decide)).trans e18)
              clear hccs10
              refine lv_aload_n hx hb d_R_handsOut_236 rfl (lv_at hl 4 rfl) ?_
              refine lv_iconst (v := 0) hx hb d_R_handsOut_237 (by decide) ?_
              refine kw_put (ty := .int) hx hb hg in_R t_R ty_R nm_R hown hK hP hJ hA hS 0 (Nat.lt_of_lt_of_le (by decide : 0 < 19) hn) e0 rfl 7 (by decide) (hg _ kg_590) rfl rfl (by decide +kernel) rfl rfl (Nat.le_of_ble_eq_true rfl) d_R_handsOut_238 (fun H locs hP hS => ?_)
              obtain ⟨cs11, hccs11⟩ : ∃ z9, z9 = va_up cs10 0 (.inr (5, [.int (nI la), .int th, .int (nI st), .int nx, .int (nI wi), .int (nI gp), .int (nI vl), .int 0, .int (nI bo), .int cy, .int sd, .ref (ad 1), .ref (ad 2), .ref (ad 3), .int (nI ma), .ref (ad 4), .ref (ad 5), .ref (ad 6), .ref (ad 7), .ref (ad 8), .ref (ad 9), .int (nI qu), .ref (ad 10), .ref (ad 11), .ref (ad 12), .ref (ad 13), .ref (ad 14), .ref (ad 15), .ref (ad 16), .ref (ad 17), .ref (ad 18)])) := ⟨_, rfl⟩
              replace hP : va_P D kc (kw_w ad cs11 n) H := by rw [hccs11]; exact hP
              have e0 : cs11 0 = .inr (5, [.int (nI la), .int th, .int (nI st), .int nx, .int (nI wi), .int (nI gp), .int (nI vl), .int 0, .int (nI bo), .int cy, .int sd, .ref (ad 1), .ref (ad 2), .ref (ad 3), .int (nI ma), .ref (ad 4), .ref (ad 5), .ref (ad 6), .ref (ad 7), .ref (ad 8), .ref (ad 9), .int (nI qu), .ref (ad 10), .ref (ad 11), .ref (ad 12), .ref (ad 13), .ref (ad 14), .ref (ad 15), .ref (ad 16), .ref (ad 17), .ref (ad 18)]) := by rw [hccs11]; exact va_up_self _ _ _
              replace e1 := (congrFun hccs11 1).trans ((va_up_ne _ _ (by decide)).trans e1)
              replace e2 := (congrFun hccs11 2).trans ((va_up_ne _ _ (by decide)).trans e2)
              replace e3 := (congrFun hccs11 3).trans ((va_up_ne _ _ (by decide)).trans e3)
              replace e4 := (congrFun hccs11 4).trans ((va_up_ne _ _ (by decide)).trans e4)
              replace e5 := (congrFun hccs11 5).trans ((va_up_ne _ _ (by decide)).trans e5)
              replace e6 := (congrFun hccs11 6).trans ((va_up_ne _ _ (by decide)).trans e6)
              replace e7 := (congrFun hccs11 7).trans ((va_up_ne _ _ (by decide)).trans e7)
              replace e8 := (congrFun hccs11 8).trans ((va_up_ne _ _ (by decide)).trans e8)
              replace e9 := (congrFun hccs11 9).trans ((va_up_ne _ _ (by decide)).trans e9)
              replace e10 := (congrFun hccs11 10).trans ((va_up_ne _ _ (by decide)).trans e10)
              replace e11 := (congrFun hccs11 11).trans ((va_up_ne _ _ (by decide)).trans e11)
              replace e12 := (congrFun hccs11 12).trans ((va_up_ne _ _ (by decide)).trans e12)
              replace e13 := (congrFun hccs11 13).trans ((va_up_ne _ _ (by decide)).trans e13)
              replace e14 := (congrFun hccs11 14).trans ((va_up_ne _ _ (by decide)).trans e14)
              replace e15 := (congrFun hccs11 15).trans ((va_up_ne _ _ (by decide)).trans e15)
              replace e16 := (congrFun hccs11 16).trans ((va_up_ne _ _ (by decide)).trans e16)
              replace e17 := (congrFun hccs11 17).trans ((va_up_ne _ _ (by decide)).trans e17)
              replace e18 := (congrFun hccs11 18).trans ((va_up_ne _ _ (by decide)).trans e18)
              clear hccs11
              refine lv_aload_n hx hb d_R_handsOut_241 rfl (lv_at hl 4 rfl) ?_
              refine lv_dup hx hb d_R_handsOut_242 rfl ?_
              refine kw_get hx hb hg in_R hown hK hP 0 (Nat.lt_of_lt_of_le (by decide : 0 < 19) hn) e0 rfl 3 (by decide) (hg _ kg_586) rfl rfl d_R_handsOut_243 ?_
              refine lv_iconst (v := 1) hx hb d_R_handsOut_246 (by decide) ?_
              refine lv_iadd hx hb d_R_handsOut_247 ?_
              refine kw_put (ty := .int) hx hb hg in_R t_R ty_R nm_R hown hK hP hJ hA hS 0 (Nat.lt_of_lt_of_le (by decide : 0 < 19) hn) e0 rfl 3 (by decide) (hg _ kg_586) rfl rfl (by decide +kernel) rfl rfl (Nat.le_of_ble_eq_true rfl) d_R_handsOut_248 (fun H locs hP hS => ?_)
              obtain ⟨cs12, hccs12⟩ : ∃ z9, z9 = va_up cs11 0 (.inr (5, [.int (nI la), .int th, .int (nI st), .int (nx + 1), .int (nI wi), .int (nI gp), .int (nI vl), .int 0, .int (nI bo), .int cy, .int sd, .ref (ad 1), .ref (ad 2), .ref (ad 3), .int (nI ma), .ref (ad 4), .ref (ad 5), .ref (ad 6), .ref (ad 7), .ref (ad 8), .ref (ad 9), .int (nI qu), .ref (ad 10), .ref (ad 11), .ref (ad 12), .ref (ad 13), .ref (ad 14), .ref (ad 15), .ref (ad 16), .ref (ad 17), .ref (ad 18)])) := ⟨_, rfl⟩
              replace hP : va_P D kc (kw_w ad cs12 n) H := by rw [hccs12]; exact hP
              have e0 : cs12 0 = .inr (5, [.int (nI la), .int th, .int (nI st), .int (nx + 1), .int (nI wi), .int (nI gp), .int (nI vl), .int 0, .int (nI bo), .int cy, .int sd, .ref (ad 1), .ref (ad 2), .ref (ad 3), .int (nI ma), .ref (ad 4), .ref (ad 5), .ref (ad 6), .ref (ad 7), .ref (ad 8), .ref (ad 9), .int (nI qu), .ref (ad 10), .ref (ad 11), .ref (ad 12), .ref (ad 13), .ref (ad 14), .ref (ad 15), .ref (ad 16), .ref (ad 17), .ref (ad 18)]) := by rw [hccs12]; exact va_up_self _ _ _
              replace e1 := (congrFun hccs12 1).trans ((va_up_ne _ _ (by decide)).trans e1)
              replace e2 := (congrFun hccs12 2).trans ((va_up_ne _ _ (by decide)).trans e2)
              replace e3 := (congrFun hccs12 3).trans ((va_up_ne _ _ (by decide)).trans e3)
              replace e4 := (congrFun hccs12 4).trans ((va_up_ne _ _ (by decide)).trans e4)
              replace e5 := (congrFun hccs12 5).trans ((va_up_ne _ _ (by decide)).trans e5)
              replace e6 := (congrFun hccs12 6).trans ((va_up_ne _ _ (by decide)).trans e6)
              replace e7 := (congrFun hccs12 7).trans ((va_up_ne _ _ (by decide)).trans e7)
              replace e8 := (congrFun hccs12 8).trans ((va_up_ne _ _ (by decide)).trans e8)
              replace e9 := (congrFun hccs12 9).trans ((va_up_ne _ _ (by decide)).trans e9)
              replace e10 := (congrFun hccs12 10).trans ((va_up_ne _ _ (by decide)).trans e10)
              replace e11 := (congrFun hccs12 11).trans ((va_up_ne _ _ (by decide)).trans e11)
              replace e12 := (congrFun hccs12 12).trans ((va_up_ne _ _ (by decide)).trans e12)
              replace e13 := (congrFun hccs12 13).trans ((va_up_ne _ _ (by decide)).trans e13)
              replace e14 := (congrFun hccs12 14).trans ((va_up_ne _ _ (by decide)).trans e14)
              replace e15 := (congrFun hccs12 15).trans ((va_up_ne _ _ (by decide)).trans e15)
              replace e16 := (congrFun hccs12 16).trans ((va_up_ne _ _ (by decide)).trans e16)
              replace e17 := (congrFun hccs12 17).trans ((va_up_ne _ _ (by decide)).trans e17)
              replace e18 := (congrFun hccs12 18).trans ((va_up_ne _ _ (by decide)).trans e18)
              clear hccs12
              refine lv_aload_n hx hb d_R_handsOut_251 rfl (lv_at hl 4 rfl) ?_
              refine lv_dup hx hb d_R_handsOut_252 rfl ?_
              refine kw_get hx hb hg in_R hown hK hP 0 (Nat.lt_of_lt_of_le (by decide : 0 < 19) hn) e0 rfl 21 (by decide) (hg _ kg_604) rfl rfl d_R_handsOut_253 ?_
              have K270 : ∀ (H : Heap) (locs : List Loc) (ls : Array Slot), va_P D kc (kw_w ad cs12 n) H → va_S (kw_A ad n) s.heap H locs → lv_has ls 6 [(5, .int ((if (nI (po k)) < 17 then 0 else if (nI vl) ≤ (nI en) then 0 else 1 : Int32))), (4, .int (nI en)), (3, .int (nI (po k))), (2, .int (nI qu)), (0, .ref (ad 0)), (1, .int (nI k))] → W p l e (kr 4) s m [.ref (ad 0), .int (nI k)].toArray below meth c H locs 0 0 (MQ below (va_Qv (fun c9 => kR ad cI cZ c9 la th (kv_R_handsOut_st st vl po k en) (kv_R_handsOut_nx nx vl po k en) wi gp (kv_R_handsOut_vl vl po k en) (kv_R_handsOut_sa vl po k en) bo cy sd ma (kv_R_handsOut_qu sa qu po sp k en) X F M po pd pa pb pn pm (kv_R_handsOut_wh qu wh k) (kv_R_handsOut_wd wi qu wd) (kv_R_handsOut_rg gp qu rg) (kv_R_handsOut_fr sa qu fr) (kv_R_handsOut_sp sa qu po sp k en) (kv_R_handsOut_dn qu dn) (kv_R_handsOut_bf qu bf) (kv_R_handsOut_XA vl qu X po pa XA k) (kv_R_handsOut_XB qu X pb XB k)) (kw_Pre D kc (ktR cI cZ) ad n) (kw_A ad n)) [.ref (ad 0), .int (nI k)].toArray s 0 0 (kw_A ad n)) (F0 m 270 ls [.int ((if (nI ((va_up sp qu (kn_s (po k) en sa)) qu)) ≤ 0 then 0 else 1 : Int32)), .int (nI qu), .ref (ad 0)]) := by
                intro H locs ls hP hS hl
                rw [kw_ite01]
                refine lv_iadd hx hb d_R_handsOut_270 ?_
                rw [nI_add]
                refine kw_put (ty := .int) hx hb hg in_R t_R ty_R nm_R hown hK hP hJ hA hS 0 (Nat.lt_of_lt_of_le (by decide : 0 < 19) hn) e0 rfl 21 (by decide) (hg _ kg_604) rfl rfl (by decide +kernel) rfl rfl (Nat.le_of_ble_eq_true rfl) d_R_handsOut_271 (fun H locs hP hS => ?_)
                obtain ⟨cs13, hccs13⟩ : ∃ z9, z9 = va_up cs12 0 (.inr (5, [.int (nI la), .int th, .int (nI st), .int (nx + 1), .int (nI wi), .int (nI gp), .int (nI vl), .int 0, .int (nI bo), .int cy, .int sd, .ref (ad 1), .ref (ad 2), .ref (ad 3), .int (nI ma), .ref (ad 4), .ref (ad 5), .ref (ad 6), .ref (ad 7), .ref (ad 8), .ref (ad 9), .int (nI (qu + (if (nI ((va_up sp qu (kn_s (po k) en sa)) qu)) ≤ 0 then 0 else 1))), .ref (ad 10), .ref (ad 11), .ref (ad 12), .ref (ad 13), .ref (ad 14), .ref (ad 15), .ref (ad 16), .ref (ad 17), .ref (ad 18)])) := ⟨_, rfl⟩
                replace hP : va_P D kc (kw_w ad cs13 n) H := by rw [hccs13]; exact hP
                have e0 : cs13 0 = .inr (5, [.int (nI la), .int th, .int (nI st), .int (nx + 1), .int (nI wi), .int (nI gp), .int (nI vl), .int 0, .int (nI bo), .int cy, .int sd, .ref (ad 1), .ref (ad 2), .ref (ad 3), .int (nI ma), .ref (ad 4), .ref (ad 5), .ref (ad 6), .ref (ad 7), .ref (ad 8), .ref (ad 9), .int (nI (qu + (if (nI ((va_up sp qu (kn_s (po k) en sa)) qu)) ≤ 0 then 0 else 1))), .ref (ad 10), .ref (ad 11), .ref (ad 12), .ref (ad 13), .ref (ad 14), .ref (ad 15), .ref (ad 16), .ref (ad 17), .ref (ad 18)]) := by rw [hccs13]; exact va_up_self _ _ _
                replace e1 := (congrFun hccs13 1).trans ((va_up_ne _ _ (by decide)).trans e1)
                replace e2 := (congrFun hccs13 2).trans ((va_up_ne _ _ (by decide)).trans e2)
                replace e3 := (congrFun hccs13 3).trans ((va_up_ne _ _ (by decide)).trans e3)
                replace e4 := (congrFun hccs13 4).trans ((va_up_ne _ _ (by decide)).trans e4)
                replace e5 := (congrFun hccs13 5).trans ((va_up_ne _ _ (by decide)).trans e5)
                replace e6 := (congrFun hccs13 6).trans ((va_up_ne _ _ (by decide)).trans e6)
                replace e7 := (congrFun hccs13 7).trans ((va_up_ne _ _ (by decide)).trans e7)
                replace e8 := (congrFun hccs13 8).trans ((va_up_ne _ _ (by decide)).trans e8)
                replace e9 := (congrFun hccs13 9).trans ((va_up_ne _ _ (by decide)).trans e9)
                replace e10 := (congrFun hccs13 10).trans ((va_up_ne _ _ (by decide)).trans e10)
                replace e11 := (congrFun hccs13 11).trans ((va_up_ne _ _ (by decide)).trans e11)
                replace e12 := (congrFun hccs13 12).trans ((va_up_ne _ _ (by decide)).trans e12)
                replace e13 := (congrFun hccs13 13).trans ((va_up_ne _ _ (by decide)).trans e13)
                replace e14 := (congrFun hccs13 14).trans ((va_up_ne _ _ (by decide)).trans e14)
                replace e15 := (congrFun hccs13 15).trans ((va_up_ne _ _ (by decide)).trans e15)
                replace e16 := (congrFun hccs13 16).trans ((va_up_ne _ _ (by decide)).trans e16)
                replace e17 := (congrFun hccs13 17).trans ((va_up_ne _ _ (by decide)).trans e17)
                replace e18 := (congrFun hccs13 18).trans ((va_up_ne _ _ (by decide)).trans e18)
                clear hccs13
                exact kw_vret hx hb hr hlocks hP hK hS (by rw [show kv_R_handsOut_st st vl po k en = st from (by rw [kv_R_handsOut_st, if_pos h1]), show kv_R_handsOut_nx nx vl po k en = nx + 1 from (by rw [kv_R_handsOut_nx, if_pos h1]), show kv_R_handsOut_vl vl po k en = vl from (by rw [kv_R_handsOut_vl, if_pos h1]), show kv_R_handsOut_sa vl po k en = 0 from (by rw [kv_R_handsOut_sa, if_pos h1]), show kv_R_handsOut_qu sa qu po sp k en = qu + (if (nI ((va_up sp qu (kn_s (po k) en sa)) qu)) ≤ 0 then 0 else 1) from (by rw [kv_R_handsOut_qu]), show kv_R_handsOut_wh qu wh k = va_up wh qu k from (by rw [kv_R_handsOut_wh]), show kv_R_handsOut_wd wi qu wd = va_up wd qu wi from (by rw [kv_R_handsOut_wd]), show kv_R_handsOut_rg gp qu rg = va_up rg qu gp from (by rw [kv_R_handsOut_rg]), show kv_R_handsOut_fr sa qu fr = va_up fr qu sa from (by rw [kv_R_handsOut_fr]), show kv_R_handsOut_sp sa qu po sp k en = va_up sp qu (kn_s (po k) en sa) from (by rw [kv_R_handsOut_sp]), show kv_R_handsOut_dn qu dn = va_up dn qu 0 from (by rw [kv_R_handsOut_dn]), show kv_R_handsOut_bf qu bf = va_up bf qu 0 from (by rw [kv_R_handsOut_bf]), show kv_R_handsOut_XA vl qu X po pa XA k = upd XA qu ((if (nI (po k)) = 14 then (nI vl) else (X (pa k)) : Int32)) from (by rw [kv_R_handsOut_XA]), show kv_R_handsOut_XB qu X pb XB k = upd XB qu (X (pb k)) from (by rw [kv_R_handsOut_XB])]; exact ⟨e0, e1, e2, e3, e4, e5, e6, e7, e8, e9, e10, e11, e12, e13, e14, e15, e16, e17, e18⟩) d_R_handsOut_274
              refine lv_aload_n hx hb d_R_handsOut_256 rfl (lv_at hl 4 rfl) ?_
              refine kw_get hx hb hg in_R hown hK hP 0 (Nat.lt_of_lt_of_le (by decide : 0 < 19) hn) e0 rfl 26 (by decide) (hg _ kg_609) rfl rfl d_R_handsOut_257 ?_
              refine lv_iload_n hx hb d_R_handsOut_260 rfl (lv_at hl 3 rfl) ?_
              refine kw_iald hx hb hK hP 14 0 (Nat.lt_of_lt_of_le (by decide : 14 < 19) hn) e14 rfl qu (rfl) ((by omega)) (by omega) d_R_handsOut_261 ?_
              refine lv_if_le (tgt := 269) hx hb d_R_handsOut_262 (by decide) (fun h2 => ?_) (fun h2 => ?_)
              · refine lv_iconst (v := 0) hx hb d_R_handsOut_269 (by decide) ?_
                exact W.eq (congrArg (fun z9 => F0 m 270 ls (.int z9 :: [.int (nI qu), .ref (ad 0)])) (show (0 : Int32) = (if (nI ((va_up sp qu (kn_s (po k) en sa)) qu)) ≤ 0 then 0 else 1 : Int32) from (by rw [if_pos h2]))) (K270 _ _ _ hP hS hl)
              · refine lv_iconst (v := 1) hx hb d_R_handsOut_265 (by decide) ?_
                refine lv_goto (tgt := 270) hx hb d_R_handsOut_266 (by decide) ?_
                exact W.eq (congrArg (fun z9 => F0 m 270 ls (.int z9 :: [.int (nI qu), .ref (ad 0)])) (show (1 : Int32) = (if (nI ((va_up sp qu (kn_s (po k) en sa)) qu)) ≤ 0 then 0 else 1 : Int32) from (by rw [if_neg h2]))) (K270 _ _ _ hP hS hl)
            refine lv_iload hx hb d_R_handsOut_219 (lv_at hl 0 rfl) ?_
            refine lv_if_eq (tgt := 229) hx hb d_R_handsOut_221 (by decide) (fun _ => ?_) (fun h3 => absurd (by rw [h1] <;> decide) h3)
            refine lv_aload_n hx hb d_R_handsOut_229 rfl (lv_at hl 4 rfl) ?_
            refine kw_get hx hb hg in_R hown hK hP 0 (Nat.lt_of_lt_of_le (by decide : 0 < 19) hn) e0 rfl 6 (by decide) (hg _ kg_589) rfl rfl d_R_handsOut_230 ?_
            exact W.eq (congrArg (fun z9 => F0 m 233 ls (.int z9 :: [.ref (ad 0)])) (show nI vl = (nI vl : Int32) from (by rw []))) (K233 _ _ _ hP hS hl)
          · refine lv_iload_n hx hb d_R_handsOut_193 rfl (lv_at hl 2 rfl) ?_
            refine lv_bipush (v := 20) hx hb d_R_handsOut_194 (by decide) ?_
            refine lv_icmp_ne (tgt := 204) hx hb d_R_handsOut_196 (by decide) (fun h4 => ?_) (fun h4 => ?_)
            · refine lv_aload_n hx hb d_R_handsOut_204 rfl (lv_at hl 4 rfl) ?_
              refine lv_iload hx hb d_R_handsOut_205 (lv_at hl 1 rfl) ?_
              refine kw_put (ty := .int) hx hb hg in_R t_R ty_R nm_R hown hK hP hJ hA hS 0 (Nat.lt_of_lt_of_le (by decide : 0 < 19) hn) e0 rfl 7 (by decide) (hg _ kg_590) rfl rfl (by decide +kernel) rfl rfl (Nat.le_of_ble_eq_true rfl) d_R_handsOut_207 (fun H locs hP hS => ?_)
              obtain ⟨cs14, hccs14⟩ : ∃ z9, z9 = va_up cs9 0 (.inr (5, [.int (nI la), .int th, .int (nI st), .int nx, .int (nI wi), .int (nI gp), .int (nI vl), .int (nI en), .int (nI bo), .int cy, .int sd, .ref (ad 1), .ref (ad 2), .ref (ad 3), .int (nI ma), .ref (ad 4), .ref (ad 5), .ref (ad 6), .ref (ad 7), .ref (ad 8), .ref (ad 9), .int (nI qu), .ref (ad 10), .ref (ad 11), .ref (ad 12), .ref (ad 13), .ref (ad 14), .ref (ad 15), .ref (ad 16), .ref (ad 17), .ref (ad 18)])) := ⟨_, rfl⟩
              replace hP : va_P D kc (kw_w ad cs14 n) H := by rw [hccs14]; exact hP
              have e0 : cs14 0 = .inr (5, [.int (nI la), .int th, .int (nI st), .int nx, .int (nI wi), .int (nI gp), .int (nI vl), .int (nI en), .int (nI bo), .int cy, .int sd, .ref (ad 1), .ref (ad 2), .ref (ad 3), .int (nI ma), .ref (ad 4), .ref (ad 5), .ref (ad 6), .ref (ad 7), .ref (ad 8), .ref (ad 9), .int (nI qu), .ref (ad 10), .ref (ad 11), .ref (ad 12), .ref (ad 13), .ref (ad 14), .ref (ad 15), .ref (ad 16), .ref (ad 17), .ref (ad 18)]) := by rw [hccs14]; exact va_up_self _ _ _
              replace e1 := (congrFun hccs14 1).trans ((va_up_ne _ _ (by decide)).trans e1)
              replace e2 := (congrFun hccs14 2).trans ((va_up_ne _ _ (by decide)).trans e2)
              replace e3 := (congrFun hccs14 3).trans ((va_up_ne _ _ (by decide)).trans e3)
              replace e4 := (congrFun hccs14 4).trans ((va_up_ne _ _ (by decide)).trans e4)
              replace e5 := (congrFun hccs14 5).trans ((va_up_ne _ _ (by decide)).trans e5)
              replace e6 := (congrFun hccs14 6).trans ((va_up_ne _ _ (by decide)).trans e6)
              replace e7 := (congrFun hccs14 7).trans ((va_up_ne _ _ (by decide)).trans e7)
              replace e8 := (congrFun hccs14 8).trans ((va_up_ne _ _ (by decide)).trans e8)
              replace e9 := (congrFun hccs14 9).trans ((va_up_ne _ _ (by decide)).trans e9)
              replace e10 := (congrFun hccs14 10).trans ((va_up_ne _ _ (by decide)).trans e10)
              replace e11 := (congrFun hccs14 11).trans ((va_up_ne _ _ (by decide)).trans e11)
              replace e12 := (congrFun hccs14 12).trans ((va_up_ne _ _ (by decide)).trans e12)
              replace e13 := (congrFun hccs14 13).trans ((va_up_ne _ _ (by decide)).trans e13)
              replace e14 := (congrFun hccs14 14).trans ((va_up_ne _ _ (by decide)).trans e14)
              replace e15 := (congrFun hccs14 15).trans ((va_up_ne _ _ (by decide)).trans e15)
              replace e16 := (congrFun hccs14 16).trans ((va_up_ne _ _ (by decide)).trans e16)
              replace e17 := (congrFun hccs14 17).trans ((va_up_ne _ _ (by decide)).trans e17)
              replace e18 := (congrFun hccs14 18).trans ((va_up_ne _ _ (by decide)).trans e18)
              clear hccs14
              refine lv_aload_n hx hb d_R_handsOut_210 rfl (lv_at hl 4 rfl) ?_
              refine lv_iconst (v := 2) hx hb d_R_handsOut_211 (by decide) ?_
              refine kw_put (ty := .int) hx hb hg in_R t_R ty_R nm_R hown hK hP hJ hA hS 0 (Nat.lt_of_lt_of_le (by decide : 0 < 19) hn) e0 rfl 2 (by decide) (hg _ kg_585) rfl rfl (by decide +kernel) rfl rfl (Nat.le_of_ble_eq_true rfl) d_R_handsOut_212 (fun H locs hP hS => ?_)
              obtain ⟨cs15, hccs15⟩ : ∃ z9, z9 = va_up cs14 0 (.inr (5, [.int (nI la), .int th, .int 2, .int nx, .int (nI wi), .int (nI gp), .int (nI vl), .int (nI en), .int (nI bo), .int cy, .int sd, .ref (ad 1), .ref (ad 2), .ref (ad 3), .int (nI ma), .ref (ad 4), .ref (ad 5), .ref (ad 6), .ref (ad 7), .ref (ad 8), .ref (ad 9), .int (nI qu), .ref (ad 10), .ref (ad 11), .ref (ad 12), .ref (ad 13), .ref (ad 14), .ref (ad 15), .ref (ad 16), .ref (ad 17), .ref (ad 18)])) := ⟨_, rfl⟩
              replace hP : va_P D kc (kw_w ad cs15 n) H := by rw [hccs15]; exact hP
              have e0 : cs15 0 = .inr (5, [.int (nI la), .int th, .int 2, .int nx, .int (nI wi), .int (nI gp), .int (nI vl), .int (nI en), .int (nI bo), .int cy, .int sd, .ref (ad 1), .ref (ad 2), .ref (ad 3), .int (nI ma), .ref (ad 4), .ref (ad 5), .ref (ad 6), .ref (ad 7), .ref (ad 8), .ref (ad 9), .int (nI qu), .ref (ad 10), .ref (ad 11), .ref (ad 12), .ref (ad 13), .ref (ad 14), .ref (ad 15), .ref (ad 16), .ref (ad 17), .ref (ad 18)]) := by rw [hccs15]; exact va_up_self _ _ _
              replace e1 := (congrFun hccs15 1).trans ((va_up_ne _ _ (by decide)).trans e1)
              replace e2 := (congrFun hccs15 2).trans ((va_up_ne _ _ (by decide)).trans e2)
              replace e3 := (congrFun hccs15 3).trans ((va_up_ne _ _ (by decide)).trans e3)
              replace e4 := (congrFun hccs15 4).trans ((va_up_ne _ _ (by decide)).trans e4)
              replace e5 := (congrFun hccs15 5).trans ((va_up_ne _ _ (by decide)).trans e5)
              replace e6 := (congrFun hccs15 6).trans ((va_up_ne _ _ (by decide)).trans e6)
              replace e7 := (congrFun hccs15 7).trans ((va_up_ne _ _ (by decide)).trans e7)
              replace e8 := (congrFun hccs15 8).trans ((va_up_ne _ _ (by decide)).trans e8)
              replace e9 := (congrFun hccs15 9).trans ((va_up_ne _ _ (by decide)).trans e9)
              replace e10 := (congrFun hccs15 10).trans ((va_up_ne _ _ (by decide)).trans e10)
              replace e11 := (congrFun hccs15 11).trans ((va_up_ne _ _ (by decide)).trans e11)
              replace e12 := (congrFun hccs15 12).trans ((va_up_ne _ _ (by decide)).trans e12)
              replace e13 := (congrFun hccs15 13).trans ((va_up_ne _ _ (by decide)).trans e13)
              replace e14 := (congrFun hccs15 14).trans ((va_up_ne _ _ (by decide)).trans e14)
              replace e15 := (congrFun hccs15 15).trans ((va_up_ne _ _ (by decide)).trans e15)
              replace e16 := (congrFun hccs15 16).trans ((va_up_ne _ _ (by decide)).trans e16)
              replace e17 := (congrFun hccs15 17).trans ((va_up_ne _ _ (by decide)).trans e17)
              replace e18 := (congrFun hccs15 18).trans ((va_up_ne _ _ (by decide)).trans e18)
              clear hccs15
              refine lv_goto (tgt := 251) hx hb d_R_handsOut_215 (by decide) ?_
              refine lv_aload_n hx hb d_R_handsOut_251 rfl (lv_at hl 4 rfl) ?_
              refine lv_dup hx hb d_R_handsOut_252 rfl ?_
              refine kw_get hx hb hg in_R hown hK hP 0 (Nat.lt_of_lt_of_le (by decide : 0 < 19) hn) e0 rfl 21 (by decide) (hg _ kg_604) rfl rfl d_R_handsOut_253 ?_
              have K270 : ∀ (H : Heap) (locs : List Loc) (ls : Array Slot), va_P D kc (kw_w ad cs15 n) H → va_S (kw_A ad n) s.heap H locs → lv_has ls 6 [(5, .int ((if (nI (po k)) < 17 then 0 else if (nI vl) ≤ (nI en) then 0 else 1 : Int32))), (4, .int (nI en)), (3, .int (nI (po k))), (2, .int (nI qu)), (0, .ref (ad 0)), (1, .int (nI k))] → W p l e (kr 4) s m [.ref (ad 0), .int (nI k)].toArray below meth c H locs 0 0 (MQ below (va_Qv (fun c9 => kR ad cI cZ c9 la th (kv_R_handsOut_st st vl po k en) (kv_R_handsOut_nx nx vl po k en) wi gp (kv_R_handsOut_vl vl po k en) (kv_R_handsOut_sa vl po k en) bo cy sd ma (kv_R_handsOut_qu sa qu po sp k en) X F M po pd pa pb pn pm (kv_R_handsOut_wh qu wh k) (kv_R_handsOut_wd wi qu wd) (kv_R_handsOut_rg gp qu rg) (kv_R_handsOut_fr sa qu fr) (kv_R_handsOut_sp sa qu po sp k en) (kv_R_handsOut_dn qu dn) (kv_R_handsOut_bf qu bf) (kv_R_handsOut_XA vl qu X po pa XA k) (kv_R_handsOut_XB qu X pb XB k)) (kw_Pre D kc (ktR cI cZ) ad n) (kw_A ad n)) [.ref (ad 0), .int (nI k)].toArray s 0 0 (kw_A ad n)) (F0 m 270 ls [.int ((if (nI ((va_up sp qu (kn_s (po k) en sa)) qu)) ≤ 0 then 0 else 1 : Int32)), .int (nI qu), .ref (ad 0)]) := by
                intro H locs ls hP hS hl
                rw [kw_ite01]
                refine lv_iadd hx hb d_R_handsOut_270 ?_
                rw [nI_add]
                refine kw_put (ty := .int) hx hb hg in_R t_R ty_R nm_R hown hK hP hJ hA hS 0 (Nat.lt_of_lt_of_le (by decide : 0 < 19) hn) e0 rfl 21 (by decide) (hg _ kg_604) rfl rfl (by decide +kernel) rfl rfl (Nat.le_of_ble_eq_true rfl) d_R_handsOut_271 (fun H locs hP hS => ?_)
                obtain ⟨cs16, hccs16⟩ : ∃ z9, z9 = va_up cs15 0 (.inr (5, [.int (nI la), .int th, .int 2, .int nx, .int (nI wi), .int (nI gp), .int (nI vl), .int (nI en), .int (nI bo), .int cy, .int sd, .ref (ad 1), .ref (ad 2), .ref (ad 3), .int (nI ma), .ref (ad 4), .ref (ad 5), .ref (ad 6), .ref (ad 7), .ref (ad 8), .ref (ad 9), .int (nI (qu + (if (nI ((va_up sp qu (kn_s (po k) en sa)) qu)) ≤ 0 then 0 else 1))), .ref (ad 10), .ref (ad 11), .ref (ad 12), .ref (ad 13), .ref (ad 14), .ref (ad 15), .ref (ad 16), .ref (ad 17), .ref (ad 18)])) := ⟨_, rfl⟩
                replace hP : va_P D kc (kw_w ad cs16 n) H := by rw [hccs16]; exact hP
                have e0 : cs16 0 = .inr (5, [.int (nI la), .int th, .int 2, .int nx, .int (nI wi), .int (nI gp), .int (nI vl), .int (nI en), .int (nI bo), .int cy, .int sd, .ref (ad 1), .ref (ad 2), .ref (ad 3), .int (nI ma), .ref (ad 4), .ref (ad 5), .ref (ad 6), .ref (ad 7), .ref (ad 8), .ref (ad 9), .int (nI (qu + (if (nI ((va_up sp qu (kn_s (po k) en sa)) qu)) ≤ 0 then 0 else 1))), .ref (ad 10), .ref (ad 11), .ref (ad 12), .ref (ad 13), .ref (ad 14), .ref (ad 15), .ref (ad 16), .ref (ad 17), .ref (ad 18)]) := by rw [hccs16]; exact va_up_self _ _ _
                replace e1 := (congrFun hccs16 1).trans ((va_up_ne _ _ (by decide)).trans e1)
                replace e2 := (congrFun hccs16 2).trans ((va_up_ne _ _ (by decide)).trans e2)
                replace e3 := (congrFun hccs16 3).trans ((va_up_ne _ _ (by decide)).trans e3)
                replace e4 := (congrFun hccs16 4).trans ((va_up_ne _ _ (by decide)).trans e4)
                replace e5 := (congrFun hccs16 5).trans ((va_up_ne _ _ (by decide)).trans e5)
                replace e6 := (congrFun hccs16 6).trans ((va_up_ne _ _ (by decide)).trans e6)
                replace e7 := (congrFun hccs16 7).trans ((va_up_ne _ _ (by decide)).trans e7)
                replace e8 := (congrFun hccs16 8).trans ((va_up_ne _ _ (by decide)).trans e8)
                replace e9 := (congrFun hccs16 9).trans ((va_up_ne _ _ (by decide)).trans e9)
                replace e10 := (congrFun hccs16 10).trans ((va_up_ne _ _ (by decide)).trans e10)
                replace e11 := (congrFun hccs16 11).trans ((va_up_ne _ _ (by decide)).trans e11)
                replace e12 := (congrFun hccs16 12).trans ((va_up_ne _ _ (by decide)).trans e12)
                replace e13 := (congrFun hccs16 13).trans ((va_up_ne _ _ (by decide)).trans e13)
                replace e14 := (congrFun hccs16 14).trans ((va_up_ne _ _ (by decide)).trans e14)
                replace e15 := (congrFun hccs16 15).trans ((va_up_ne _ _ (by decide)).trans e15)
                replace e16 := (congrFun hccs16 16).trans ((va_up_ne _ _ (by decide)).trans e16)
                replace e17 := (congrFun hccs16 17).trans ((va_up_ne _ _ (by decide)).trans e17)
                replace e18 := (congrFun hccs16 18).trans ((va_up_ne _ _ (by decide)).trans e18)
                clear hccs16
                exact kw_vret hx hb hr hlocks hP hK hS (by rw [show kv_R_handsOut_st st vl po k en = 2 from (by rw [kv_R_handsOut_st, if_neg h1, if_neg h4]), show kv_R_handsOut_nx nx vl po k en = nx from (by rw [kv_R_handsOut_nx, if_neg h1, if_neg h4]), show kv_R_handsOut_vl vl po k en = vl from (by rw [kv_R_handsOut_vl, if_neg h1, if_neg h4]), show kv_R_handsOut_sa vl po k en = en from (by rw [kv_R_handsOut_sa, if_neg h1, if_neg h4]), show kv_R_handsOut_qu sa qu po sp k en = qu + (if (nI ((va_up sp qu (kn_s (po k) en sa)) qu)) ≤ 0 then 0 else 1) from (by rw [kv_R_handsOut_qu]), show kv_R_handsOut_wh qu wh k = va_up wh qu k from (by rw [kv_R_handsOut_wh]), show kv_R_handsOut_wd wi qu wd = va_up wd qu wi from (by rw [kv_R_handsOut_wd]), show kv_R_handsOut_rg gp qu rg = va_up rg qu gp from (by rw [kv_R_handsOut_rg]), show kv_R_handsOut_fr sa qu fr = va_up fr qu sa from (by rw [kv_R_handsOut_fr]), show kv_R_handsOut_sp sa qu po sp k en = va_up sp qu (kn_s (po k) en sa) from (by rw [kv_R_handsOut_sp]), show kv_R_handsOut_dn qu dn = va_up dn qu 0 from (by rw [kv_R_handsOut_dn]), show kv_R_handsOut_bf qu bf = va_up bf qu 0 from (by rw [kv_R_handsOut_bf]), show kv_R_handsOut_XA vl qu X po pa XA k = upd XA qu ((if (nI (po k)) = 14 then (nI vl) else (X (pa k)) : Int32)) from (by rw [kv_R_handsOut_XA]), show kv_R_handsOut_XB qu X pb XB k = upd XB qu (X (pb k)) from (by rw [kv_R_handsOut_XB])]; exact ⟨e0, e1, e2, e3, e4, e5, e6, e7, e8, e9, e10, e11, e12, e13, e14, e15, e16, e17, e18⟩) d_R_handsOut_274
              refine lv_aload_n hx hb d_R_handsOut_256 rfl (lv_at hl 4 rfl) ?_
              refine kw_get hx hb hg in_R hown hK hP 0 (Nat.lt_of_lt_of_le (by decide : 0 < 19) hn) e0 rfl 26 (by decide) (hg _ kg_609) rfl rfl d_R_handsOut_257 ?_
              refine lv_iload_n hx hb d_R_handsOut_260 rfl (lv_at hl 3 rfl) ?_
              refine kw_iald hx hb hK hP 14 0 (Nat.lt_of_lt_of_le (by decide : 14 < 19) hn) e14 rfl qu (rfl) ((by omega)) (by omega) d_R_handsOut_261 ?_
              refine lv_if_le (tgt := 269) hx hb d_R_handsOut_262 (by decide) (fun h5 => ?_) (fun h5 => ?_)
              · refine lv_iconst (v := 0) hx hb d_R_handsOut_269 (by decide) ?_
                exact W.eq (congrArg (fun z9 => F0 m 270 ls (.int z9 :: [.int (nI qu), .ref (ad 0)])) (show (0 : Int32) = (if (nI ((va_up sp qu (kn_s (po k) en sa)) qu)) ≤ 0 then 0 else 1 : Int32) from (by rw [if_pos h5]))) (K270 _ _ _ hP hS hl)
              · refine lv_iconst (v := 1) hx hb d_R_handsOut_265 (by decide) ?_
                refine lv_goto (tgt := 270) hx hb d_R_handsOut_266 (by decide) ?_
                exact W.eq (congrArg (fun z9 => F0 m 270 ls (.int z9 :: [.int (nI qu), .ref (ad 0)])) (show (1 : Int32) = (if (nI ((va_up sp qu (kn_s (po k) en sa)) qu)) ≤ 0 then 0 else 1 : Int32) from (by rw [if_neg h5]))) (K270 _ _ _ hP hS hl)
            · refine lv_iload hx hb d_R_handsOut_199 (lv_at hl 1 rfl) ?_
              refine lv_if_gt (tgt := 218) hx hb d_R_handsOut_201 (by decide) (fun h6 => ?_) (fun h6 => ?_)
              · refine lv_aload_n hx hb d_R_handsOut_218 rfl (lv_at hl 4 rfl) ?_
                have K233 : ∀ (H : Heap) (locs : List Loc) (ls : Array Slot), va_P D kc (kw_w ad cs9 n) H → va_S (kw_A ad n) s.heap H locs → lv_has ls 6 [(5, .int ((if (nI (po k)) < 17 then 0 else if (nI vl) ≤ (nI en) then 0 else 1 : Int32))), (4, .int (nI en)), (3, .int (nI (po k))), (2, .int (nI qu)), (0, .ref (ad 0)), (1, .int (nI k))] → W p l e (kr 4) s m [.ref (ad 0), .int (nI k)].toArray below meth c H locs 0 0 (MQ below (va_Qv (fun c9 => kR ad cI cZ c9 la th (kv_R_handsOut_st st vl po k en) (kv_R_handsOut_nx nx vl po k en) wi gp (kv_R_handsOut_vl vl po k en) (kv_R_handsOut_sa vl po k en) bo cy sd ma (kv_R_handsOut_qu sa qu po sp k en) X F M po pd pa pb pn pm (kv_R_handsOut_wh qu wh k) (kv_R_handsOut_wd wi qu wd) (kv_R_handsOut_rg gp qu rg) (kv_R_handsOut_fr sa qu fr) (kv_R_handsOut_sp sa qu po sp k en) (kv_R_handsOut_dn qu dn) (kv_R_handsOut_bf qu bf) (kv_R_handsOut_XA vl qu X po pa XA k) (kv_R_handsOut_XB qu X pb XB k)) (kw_Pre D kc (ktR cI cZ) ad n) (kw_A ad n)) [.ref (ad 0), .int (nI k)].toArray s 0 0 (kw_A ad n)) (F0 m 233 ls [.int ((if ((if (nI (po k)) < 17 then 0 else if (nI vl) ≤ (nI en) then 0 else 1 : Int32)) = 0 then (nI vl) else (nI en) : Int32)), .ref (ad 0)]) := by
                  intro H locs ls hP hS hl
                  rw [kw_ite]
                  refine kw_put (ty := .int) hx hb hg in_R t_R ty_R nm_R hown hK hP hJ hA hS 0 (Nat.lt_of_lt_of_le (by decide : 0 < 19) hn) e0 rfl 6 (by decide) (hg _ kg_589) rfl rfl (by decide +kernel) rfl rfl (Nat.le_of_ble_eq_true rfl) d_R_handsOut_233 (fun H locs hP hS => ?_)
                  obtain ⟨cs17, hccs17⟩ : ∃ z9, z9 = va_up cs9 0 (.inr (5, [.int (nI la), .int th, .int (nI st), .int nx, .int (nI wi), .int (nI gp), .int (nI (if ((if (nI (po k)) < 17 then 0 else if (nI vl) ≤ (nI en) then 0 else 1 : Int32)) = 0 then vl else en)), .int (nI sa), .int (nI bo), .int cy, .int sd, .ref (ad 1), .ref (ad 2), .ref (ad 3), .int (nI ma), .ref (ad 4), .ref (ad 5), .ref (ad 6), .ref (ad 7), .ref (ad 8), .ref (ad 9), .int (nI qu), .ref (ad 10), .ref (ad 11), .ref (ad 12), .ref (ad 13), .ref (ad 14), .ref (ad 15), .ref (ad 16), .ref (ad 17), .ref (ad 18)])) := ⟨_, rfl⟩
                  replace hP : va_P D kc (kw_w ad cs17 n) H := by rw [hccs17]; exact hP
                  have e0 : cs17 0 = .inr (5, [.int (nI la), .int th, .int (nI st), .int nx, .int (nI wi), .int (nI gp), .int (nI (if ((if (nI (po k)) < 17 then 0 else if (nI vl) ≤ (nI en) then 0 else 1 : Int32)) = 0 then vl else en)), .int (nI sa), .int (nI bo), .int cy, .int sd, .ref (ad 1), .ref (ad 2), .ref (ad 3), .int (nI ma), .ref (ad 4), .ref (ad 5), .ref (ad 6), .ref (ad 7), .ref (ad 8), .ref (ad 9), .int (nI qu), .ref (ad 10), .ref (ad 11), .ref (ad 12), .ref (ad 13), .ref (ad 14), .ref (ad 15), .ref (ad 16), .ref (ad 17), .ref (ad 18)]) := by rw [hccs17]; exact va_up_self _ _ _
                  replace e1 := (congrFun hccs17 1).trans ((va_up_ne _ _ (by decide)).trans e1)
                  replace e2 := (congrFun hccs17 2).trans ((va_up_ne _ _ (by decide)).trans e2)
                  replace e3 := (congrFun hccs17 3).trans ((va_up_ne _ _ (by decide)).trans e3)
                  replace e4 := (congrFun hccs17 4).trans ((va_up_ne _ _ (by decide)).trans e4)
                  replace e5 := (congrFun hccs17 5).trans ((va_up_ne _ _ (by decide)).trans e5)
                  replace e6 := (congrFun hccs17 6).trans ((va_up_ne _ _ (by decide)).trans e6)
                  replace e7 := (congrFun hccs17 7).trans ((va_up_ne _ _ (by decide)).trans e7)
                  replace e8 := (congrFun hccs17 8).trans ((va_up_ne _ _ (by decide)).trans e8)
                  replace e9 := (congrFun hccs17 9).trans ((va_up_ne _ _ (by decide)).trans e9)
                  replace e10 := (congrFun hccs17 10).trans ((va_up_ne _ _ (by decide)).trans e10)
                  replace e11 := (congrFun hccs17 11).trans ((va_up_ne _ _ (by decide)).trans e11)
                  replace e12 := (congrFun hccs17 12).trans ((va_up_ne _ _ (by decide)).trans e12)
                  replace e13 := (congrFun hccs17 13).trans ((va_up_ne _ _ (by decide)).trans e13)
                  replace e14 := (congrFun hccs17 14).trans ((va_up_ne _ _ (by decide)).trans e14)
                  replace e15 := (congrFun hccs17 15).trans ((va_up_ne _ _ (by decide)).trans e15)
                  replace e16 := (congrFun hccs17 16).trans ((va_up_ne _ _ (by decide)).trans e16)
                  replace e17 := (congrFun hccs17 17).trans ((va_up_ne _ _ (by decide)).trans e17)
                  replace e18 := (congrFun hccs17 18).trans ((va_up_ne _ _ (by decide)).trans e18)
                  clear hccs17
                  refine lv_aload_n hx hb d_R_handsOut_236 rfl (lv_at hl 4 rfl) ?_
                  refine lv_iconst (v := 0) hx hb d_R_handsOut_237 (by decide) ?_
                  refine kw_put (ty := .int) hx hb hg in_R t_R ty_R nm_R hown hK hP hJ hA hS 0 (Nat.lt_of_lt_of_le (by decide : 0 < 19) hn) e0 rfl 7 (by decide) (hg _ kg_590) rfl rfl (by decide +kernel) rfl rfl (Nat.le_of_ble_eq_true rfl) d_R_handsOut_238 (fun H locs hP hS => ?_)
                  obtain ⟨cs18, hccs18⟩ : ∃ z9, z9 = va_up cs17 0 (.inr (5, [.int (nI la), .int th, .int (nI st), .int nx, .int (nI wi), .int (nI gp), .int (nI (if ((if (nI (po k)) < 17 then 0 else if (nI vl) ≤ (nI en) then 0 else 1 : Int32)) = 0 then vl else en)), .int 0, .int (nI bo), .int cy, .int sd, .ref (ad 1), .ref (ad 2), .ref (ad 3), .int (nI ma), .ref (ad 4), .ref (ad 5), .ref (ad 6), .ref (ad 7), .ref (ad 8), .ref (ad 9), .int (nI qu), .ref (ad 10), .ref (ad 11), .ref (ad 12), .ref (ad 13), .ref (ad 14), .ref (ad 15), .ref (ad 16), .ref (ad 17), .ref (ad 18)])) := ⟨_, rfl⟩
                  replace hP : va_P D kc (kw_w ad cs18 n) H := by rw [hccs18]; exact hP
                  have e0 : cs18 0 = .inr (5, [.int (nI la), .int th, .int (nI st), .int nx, .int (nI wi), .int (nI gp), .int (nI (if ((if (nI (po k)) < 17 then 0 else if (nI vl) ≤ (nI en) then 0 else 1 : Int32)) = 0 then vl else en)), .int 0, .int (nI bo), .int cy, .int sd, .ref (ad 1), .ref (ad 2), .ref (ad 3), .int (nI ma), .ref (ad 4), .ref (ad 5), .ref (ad 6), .ref (ad 7), .ref (ad 8), .ref (ad 9), .int (nI qu), .ref (ad 10), .ref (ad 11), .ref (ad 12), .ref (ad 13), .ref (ad 14), .ref (ad 15), .ref (ad 16), .ref (ad 17), .ref (ad 18)]) := by rw [hccs18]; exact va_up_self _ _ _
                  replace e1 := (congrFun hccs18 1).trans ((va_up_ne _ _ (by decide)).trans e1)
                  replace e2 := (congrFun hccs18 2).trans ((va_up_ne _ _ (by decide)).trans e2)
                  replace e3 := (congrFun hccs18 3).trans ((va_up_ne _ _ (by decide)).trans e3)
                  replace e4 := (congrFun hccs18 4).trans ((va_up_ne _ _ (by decide)).trans e4)
                  replace e5 := (congrFun hccs18 5).trans ((va_up_ne _ _ (by decide)).trans e5)
                  replace e6 := (congrFun hccs18 6).trans ((va_up_ne _ _ (by decide)).trans e6)
                  replace e7 := (congrFun hccs18 7).trans ((va_up_ne _ _ (by decide)).trans e7)
                  replace e8 := (congrFun hccs18 8).trans ((va_up_ne _ _ (by decide)).trans e8)
                  replace e9 := (congrFun hccs18 9).trans ((va_up_ne _ _ (by decide)).trans e9)
                  replace e10 := (congrFun hccs18 10).trans ((va_up_ne _ _ (by decide)).trans e10)
                  replace e11 := (congrFun hccs18 11).trans ((va_up_ne _ _ (by decide)).trans e11)
                  replace e12 := (congrFun hccs18 12).trans ((va_up_ne _ _ (by decide)).trans e12)
                  replace e13 := (congrFun hccs18 13).trans ((va_up_ne _ _ (by decide)).trans e13)
                  replace e14 := (congrFun hccs18 14).trans ((va_up_ne _ _ (by decide)).trans e14)
                  replace e15 := (congrFun hccs18 15).trans ((va_up_ne _ _ (by decide)).trans e15)
                  replace e16 := (congrFun hccs18 16).trans ((va_up_ne _ _ (by decide)).trans e16)
                  replace e17 := (congrFun hccs18 17).trans ((va_up_ne _ _ (by decide)).trans e17)
                  replace e18 := (congrFun hccs18 18).trans ((va_up_ne _ _ (by decide)).trans e18)
                  clear hccs18
                  refine lv_aload_n hx hb d_R_handsOut_241 rfl (lv_at hl 4 rfl) ?_
                  refine lv_dup hx hb d_R_handsOut_242 rfl ?_
                  refine kw_get hx hb hg in_R hown hK hP 0 (Nat.lt_of_lt_of_le (by decide : 0 < 19) hn) e0 rfl 3 (by decide) (hg _ kg_586) rfl rfl d_R_handsOut_243 ?_
                  refine lv_iconst (v := 1) hx hb d_R_handsOut_246 (by decide) ?_
                  refine lv_iadd hx hb d_R_handsOut_247 ?_
                  refine kw_put (ty := .int) hx hb hg in_R t_R ty_R nm_R hown hK hP hJ hA hS 0 (Nat.lt_of_lt_of_le (by decide : 0 < 19) hn) e0 rfl 3 (by decide) (hg _ kg_586) rfl rfl (by decide +kernel) rfl rfl (Nat.le_of_ble_eq_true rfl) d_R_handsOut_248 (fun H locs hP hS => ?_)
                  obtain ⟨cs19, hccs19⟩ : ∃ z9, z9 = va_up cs18 0 (.inr (5, [.int (nI la), .int th, .int (nI st), .int (nx + 1), .int (nI wi), .int (nI gp), .int (nI (if ((if (nI (po k)) < 17 then 0 else if (nI vl) ≤ (nI en) then 0 else 1 : Int32)) = 0 then vl else en)), .int 0, .int (nI bo), .int cy, .int sd, .ref (ad 1), .ref (ad 2), .ref (ad 3), .int (nI ma), .ref (ad 4), .ref (ad 5), .ref (ad 6), .ref (ad 7), .ref (ad 8), .ref (ad 9), .int (nI qu), .ref (ad 10), .ref (ad 11), .ref (ad 12), .ref (ad 13), .ref (ad 14), .ref (ad 15), .ref (ad 16), .ref (ad 17), .ref (ad 18)])) := ⟨_, rfl⟩
                  replace hP : va_P D kc (kw_w ad cs19 n) H := by rw [hccs19]; exact hP
                  have e0 : cs19 0 = .inr (5, [.int (nI la), .int th, .int (nI st), .int (nx + 1), .int (nI wi), .int (nI gp), .int (nI (if ((if (nI (po k)) < 17 then 0 else if (nI vl) ≤ (nI en) then 0 else 1 : Int32)) = 0 then vl else en)), .int 0, .int (nI bo), .int cy, .int sd, .ref (ad 1), .ref (ad 2), .ref (ad 3), .int (nI ma), .ref (ad 4), .ref (ad 5), .ref (ad 6), .ref (ad 7), .ref (ad 8), .ref (ad 9), .int (nI qu), .ref (ad 10), .ref (ad 11), .ref (ad 12), .ref (ad 13), .ref (ad 14), .ref (ad 15), .ref (ad 16), .ref (ad 17), .ref (ad 18)]) := by rw [hccs19]; exact va_up_self _ _ _
                  replace e1 := (congrFun hccs19 1).trans ((va_up_ne _ _ (by decide)).trans e1)
                  replace e2 := (congrFun hccs19 2).trans ((va_up_ne _ _ (by decide)).trans e2)
                  replace e3 := (congrFun hccs19 3).trans ((va_up_ne _ _ (by decide)).trans e3)
                  replace e4 := (congrFun hccs19 4).trans ((va_up_ne _ _ (by decide)).trans e4)
                  replace e5 := (congrFun hccs19 5).trans ((va_up_ne _ _ (by decide)).trans e5)
                  replace e6 := (congrFun hccs19 6).trans ((va_up_ne _ _ (by decide)).trans e6)
                  replace e7 := (congrFun hccs19 7).trans ((va_up_ne _ _ (by decide)).trans e7)
                  replace e8 := (congrFun hccs19 8).trans ((va_up_ne _ _ (by decide)).trans e8)
                  replace e9 := (congrFun hccs19 9).trans ((va_up_ne _ _ (by decide)).trans e9)
                  replace e10 := (congrFun hccs19 10).trans ((va_up_ne _ _ (by decide)).trans e10)
                  replace e11 := (congrFun hccs19 11).trans ((va_up_ne _ _ (by decide)).trans e11)
                  replace e12 := (congrFun hccs19 12).trans ((va_up_ne _ _ (by decide)).trans e12)
                  replace e13 := (congrFun hccs19 13).trans ((va_up_ne _ _ (by decide)).trans e13)
                  replace e14 := (congrFun hccs19 14).trans ((va_up_ne _ _ (by decide)).trans e14)
                  replace e15 := (congrFun hccs19 15).trans ((va_up_ne _ _ (by decide)).trans e15)
                  replace e16 := (congrFun hccs19 16).trans ((va_up_ne _ _ (by decide)).trans e16)
                  replace e17 := (congrFun hccs19 17).trans ((va_up_ne _ _ (by decide)).trans e17)
                  replace e18 := (congrFun hccs19 18).trans ((va_up_ne _ _ (by decide)).trans e18)
                  clear hccs19
                  refine lv_aload_n hx hb d_R_handsOut_251 rfl (lv_at hl 4 rfl) ?_
                  refine lv_dup hx hb d_R_handsOut_252 rfl ?_
                  refine kw_get hx hb hg in_R hown hK hP 0 (Nat.lt_of_lt_of_le (by decide : 0 < 19) hn) e0 rfl 21 (by decide) (hg _ kg_604) rfl rfl d_R_handsOut_253 ?_
                  have K270 : ∀ (H : Heap) (locs : List Loc) (ls : Array Slot), va_P D kc (kw_w ad cs19 n) H → va_S (kw_A ad n) s.heap H locs → lv_has ls 6 [(5, .int ((if (nI (po k)) < 17 then 0 else if (nI vl) ≤ (nI en) then 0 else 1 : Int32))), (4, .int (nI en)), (3, .int (nI (po k))), (2, .int (nI qu)), (0, .ref (ad 0)), (1, .int (nI k))] → W p l e (kr 4) s m [.ref (ad 0), .int (nI k)].toArray below meth c H locs 0 0 (MQ below (va_Qv (fun c9 => kR ad cI cZ c9 la th (kv_R_handsOut_st st vl po k en) (kv_R_handsOut_nx nx vl po k en) wi gp (kv_R_handsOut_vl vl po k en) (kv_R_handsOut_sa vl po k en) bo cy sd ma (kv_R_handsOut_qu sa qu po sp k en) X F M po pd pa pb pn pm (kv_R_handsOut_wh qu wh k) (kv_R_handsOut_wd wi qu wd) (kv_R_handsOut_rg gp qu rg) (kv_R_handsOut_fr sa qu fr) (kv_R_handsOut_sp sa qu po sp k en) (kv_R_handsOut_dn qu dn) (kv_R_handsOut_bf qu bf) (kv_R_handsOut_XA vl qu X po pa XA k) (kv_R_handsOut_XB qu X pb XB k)) (kw_Pre D kc (ktR cI cZ) ad n) (kw_A ad n)) [.ref (ad 0), .int (nI k)].toArray s 0 0 (kw_A ad n)) (F0 m 270 ls [.int ((if (nI ((va_up sp qu (kn_s (po k) en sa)) qu)) ≤ 0 then 0 else 1 : Int32)), .int (nI qu), .ref (ad 0)]) := by
                    intro H locs ls hP hS hl
                    rw [kw_ite01]
                    refine lv_iadd hx hb d_R_handsOut_270 ?_
                    rw [nI_add]
                    refine kw_put (ty := .int) hx hb hg in_R t_R ty_R nm_R hown hK hP hJ hA hS 0 (Nat.lt_of_lt_of_le (by decide : 0 < 19) hn) e0 rfl 21 (by decide) (hg _ kg_604) rfl rfl (by decide +kernel) rfl rfl (Nat.le_of_ble_eq_true rfl) d_R_handsOut_271 (fun H locs hP hS => ?_)
                    obtain ⟨cs20, hccs20⟩ : ∃ z9, z9 = va_up cs19 0 (.inr (5, [.int (nI la), .int th, .int (nI st), .int (nx + 1), .int (nI wi), .int (nI gp), .int (nI (if ((if (nI (po k)) < 17 then 0 else if (nI vl) ≤ (nI en) then 0 else 1 : Int32)) = 0 then vl else en)), .int 0, .int (nI bo), .int cy, .int sd, .ref (ad 1), .ref (ad 2), .ref (ad 3), .int (nI ma), .ref (ad 4), .ref (ad 5), .ref (ad 6), .ref (ad 7), .ref (ad 8), .ref (ad 9), .int (nI (qu + (if (nI ((va_up sp qu (kn_s (po k) en sa)) qu)) ≤ 0 then 0 else 1))), .ref (ad 10), .ref (ad 11), .ref (ad 12), .ref (ad 13), .ref (ad 14), .ref (ad 15), .ref (ad 16), .ref (ad 17), .ref (ad 18)])) := ⟨_, rfl⟩
                    replace hP : va_P D kc (kw_w ad cs20 n) H := by rw [hccs20]; exact hP
                    have e0 : cs20 0 = .inr (5, [.int (nI la), .int th, .int (nI st), .int (nx + 1), .int (nI wi), .int (nI gp), .int (nI (if ((if (nI (po k)) < 17 then 0 else if (nI vl) ≤ (nI en) then 0 else 1 : Int32)) = 0 then vl else en)), .int 0, .int (nI bo), .int cy, .int sd, .ref (ad 1), .ref (ad 2), .ref (ad 3), .int (nI ma), .ref (ad 4), .ref (ad 5), .ref (ad 6), .ref (ad 7), .ref (ad 8), .ref (ad 9), .int (nI (qu + (if (nI ((va_up sp qu (kn_s (po k) en sa)) qu)) ≤ 0 then 0 else 1))), .ref (ad 10), .ref (ad 11), .ref (ad 12), .ref (ad 13), .ref (ad 14), .ref (ad 15), .ref (ad 16), .ref (ad 17), .ref (ad 18)]) := by rw [hccs20]; exact va_up_self _ _ _
                    replace e1 := (congrFun hccs20 1).trans ((va_up_ne _ _ (by decide)).trans e1)
                    replace e2 := (congrFun hccs20 2).trans ((va_up_ne _ _ (by decide)).trans e2)
                    replace e3 := (congrFun hccs20 3).trans ((va_up_ne _ _ (by decide)).trans e3)
                    replace e4 := (congrFun hccs20 4).trans ((va_up_ne _ _ (by decide)).trans e4)
                    replace e5 := (congrFun hccs20 5).trans ((va_up_ne _ _ (by decide)).trans e5)
                    replace e6 := (congrFun hccs20 6).trans ((va_up_ne _ _ (by decide)).trans e6)
                    replace e7 := (congrFun hccs20 7).trans ((va_up_ne _ _ (by decide)).trans e7)
                    replace e8 := (congrFun hccs20 8).trans ((va_up_ne _ _ (by decide)).trans e8)
                    replace e9 := (congrFun hccs20 9).trans ((va_up_ne _ _ (by decide)).trans e9)
                    replace e10 := (congrFun hccs20 10).trans ((va_up_ne _ _ (by decide)).trans e10)
                    replace e11 := (congrFun hccs20 11).trans ((va_up_ne _ _ (by decide)).trans e11)
                    replace e12 := (congrFun hccs20 12).trans ((va_up_ne _ _ (by decide)).trans e12)
                    replace e13 := (congrFun hccs20 13).trans ((va_up_ne _ _ (by decide)).trans e13)
                    replace e14 := (congrFun hccs20 14).trans ((va_up_ne _ _ (by decide)).trans e14)
                    replace e15 := (congrFun hccs20 15).trans ((va_up_ne _ _ (by decide)).trans e15)
                    replace e16 := (congrFun hccs20 16).trans ((va_up_ne _ _ (by decide)).trans e16)
                    replace e17 := (congrFun hccs20 17).trans ((va_up_ne _ _ (by decide)).trans e17)
                    replace e18 := (congrFun hccs20 18).trans ((va_up_ne _ _ (by decide)).trans e18)
                    clear hccs20
                    exact kw_vret hx hb hr hlocks hP hK hS (by rw [show kv_R_handsOut_st st vl po k en = st from (by rw [kv_R_handsOut_st, if_neg h1, if_pos h4, if_pos h6]), show kv_R_handsOut_nx nx vl po k en = nx + 1 from (by rw [kv_R_handsOut_nx, if_neg h1, if_pos h4, if_pos h6]), show kv_R_handsOut_vl vl po k en = if ((if (nI (po k)) < 17 then 0 else if (nI vl) ≤ (nI en) then 0 else 1 : Int32)) = 0 then vl else en from (by rw [kv_R_handsOut_vl, if_neg h1, if_pos h4, if_pos h6]), show kv_R_handsOut_sa vl po k en = 0 from (by rw [kv_R_handsOut_sa, if_neg h1, if_pos h4, if_pos h6]), show kv_R_handsOut_qu sa qu po sp k en = qu + (if (nI ((va_up sp qu (kn_s (po k) en sa)) qu)) ≤ 0 then 0 else 1) from (by rw [kv_R_handsOut_qu]), show kv_R_handsOut_wh qu wh k = va_up wh qu k from (by rw [kv_R_handsOut_wh]), show kv_R_handsOut_wd wi qu wd = va_up wd qu wi from (by rw [kv_R_handsOut_wd]), show kv_R_handsOut_rg gp qu rg = va_up rg qu gp from (by rw [kv_R_handsOut_rg]), show kv_R_handsOut_fr sa qu fr = va_up fr qu sa from (by rw [kv_R_handsOut_fr]), show kv_R_handsOut_sp sa qu po sp k en = va_up sp qu (kn_s (po k) en sa) from (by rw [kv_R_handsOut_sp]), show kv_R_handsOut_dn qu dn = va_up dn qu 0 from (by rw [kv_R_handsOut_dn]), show kv_R_handsOut_bf qu bf = va_up bf qu 0 from (by rw [kv_R_handsOut_bf]), show kv_R_handsOut_XA vl qu X po pa XA k = upd XA qu ((if (nI (po k)) = 14 then (nI vl) else (X (pa k)) : Int32)) from (by rw [kv_R_handsOut_XA]), show kv_R_handsOut_XB qu X pb XB k = upd XB qu (X (pb k)) from (by rw [kv_R_handsOut_XB])]; exact ⟨e0, e1, e2, e3, e4, e5, e6, e7, e8, e9, e10, e11, e12, e13, e14, e15, e16, e17, e18⟩) d_R_handsOut_274
                  refine lv_aload_n hx hb d_R_handsOut_256 rfl (lv_at hl 4 rfl) ?_
                  refine kw_get hx hb hg in_R hown hK hP 0 (Nat.lt_of_lt_of_le (by decide : 0 < 19) hn) e0 rfl 26 (by decide) (hg _ kg_609) rfl rfl d_R_handsOut_257 ?_
                  refine lv_iload_n hx hb d_R_handsOut_260 rfl (lv_at hl 3 rfl) ?_
                  refine kw_iald hx hb hK hP 14 0 (Nat.lt_of_lt_of_le (by decide : 14 < 19) hn) e14 rfl qu (rfl) ((by omega)) (by omega) d_R_handsOut_261 ?_
                  refine lv_if_le (tgt := 269) hx hb d_R_handsOut_262 (by decide) (fun h7 => ?_) (fun h7 => ?_)
                  · refine lv_iconst (v := 0) hx hb d_R_handsOut_269 (by decide) ?_
                    exact W.eq (congrArg (fun z9 => F0 m 270 ls (.int z9 :: [.int (nI qu), .ref (ad 0)])) (show (0 : Int32) = (if (nI ((va_up sp qu (kn_s (po k) en sa)) qu)) ≤ 0 then 0 else 1 : Int32) from (by rw [if_pos h7]))) (K270 _ _ _ hP hS hl)
                  · refine lv_iconst (v := 1) hx hb d_R_handsOut_265 (by decide) ?_
                    refine lv_goto (tgt := 270) hx hb d_R_handsOut_266 (by decide) ?_
                    exact W.eq (congrArg (fun z9 => F0 m 270 ls (.int z9 :: [.int (nI qu), .ref (ad 0)])) (show (1 : Int32) = (if (nI ((va_up sp qu (kn_s (po k) en sa)) qu)) ≤ 0 then 0 else 1 : Int32) from (by rw [if_neg h7]))) (K270 _ _ _ hP hS hl)
                refine lv_iload hx hb d_R_handsOut_219 (lv_at hl 0 rfl) ?_
                refine lv_if_eq (tgt := 229) hx hb d_R_handsOut_221 (by decide) (fun h8 => ?_) (fun h8 => ?_)
                · refine lv_aload_n hx hb d_R_handsOut_229 rfl (lv_at hl 4 rfl) ?_
                  refine kw_get hx hb hg in_R hown hK hP 0 (Nat.lt_of_lt_of_le (by decide : 0 < 19) hn) e0 rfl 6 (by decide) (hg _ kg_589) rfl rfl d_R_handsOut_230 ?_
                  exact W.eq (congrArg (fun z9 => F0 m 233 ls (.int z9 :: [.ref (ad 0)])) (show nI vl = (if ((if (nI (po k)) < 17 then 0 else if (nI vl) ≤ (nI en) then 0 else 1 : Int32)) = 0 then (nI vl) else (nI en) : Int32) from (by rw [if_pos h8]))) (K233 _ _ _ hP hS hl)
                · refine lv_iload hx hb d_R_handsOut_224 (lv_at hl 1 rfl) ?_
                  refine lv_goto (tgt := 233) hx hb d_R_handsOut_226 (by decide) ?_
                  exact W.eq (congrArg (fun z9 => F0 m 233 ls (.int z9 :: [.ref (ad 0)])) (show nI en = (if ((if (nI (po k)) < 17 then 0 else if (nI vl) ≤ (nI en) then 0 else 1 : Int32)) = 0 then (nI vl) else (nI en) : Int32) from (by rw [if_neg h8]))) (K233 _ _ _ hP hS hl)
              · refine lv_aload_n hx hb d_R_handsOut_204 rfl (lv_at hl 4 rfl) ?_
                refine lv_iload hx hb d_R_handsOut_205 (lv_at hl 1 rfl) ?_
                refine kw_put (ty := .int) hx hb hg in_R t_R ty_R nm_R hown hK hP hJ hA hS 0 (Nat.lt_of_lt_of_le (by decide : 0 < 19) hn) e0 rfl 7 (by decide) (hg _ kg_590) rfl rfl (by decide +kernel) rfl rfl (Nat.le_of_ble_eq_true rfl) d_R_handsOut_207 (fun H locs hP hS => ?_)
                obtain ⟨cs21, hccs21⟩ : ∃ z9, z9 = va_up cs9 0 (.inr (5, [.int (nI la), .int th, .int (nI st), .int nx, .int (nI wi), .int (nI gp), .int (nI vl), .int (nI en), .int (nI bo), .int cy, .int sd, .ref (ad 1), .ref (ad 2), .ref (ad 3), .int (nI ma), .ref (ad 4), .ref (ad 5), .ref (ad 6), .ref (ad 7), .ref (ad 8), .ref (ad 9), .int (nI qu), .ref (ad 10), .ref (ad 11), .ref (ad 12), .ref (ad 13), .ref (ad 14), .ref (ad 15), .ref (ad 16), .ref (ad 17), .ref (ad 18)])) := ⟨_, rfl⟩
                replace hP : va_P D kc (kw_w ad cs21 n) H := by rw [hccs21]; exact hP
                have e0 : cs21 0 = .inr (5, [.int (nI la), .int th, .int (nI st), .int nx, .int (nI wi), .int (nI gp), .int (nI vl), .int (nI en), .int (nI bo), .int cy, .int sd, .ref (ad 1), .ref (ad 2), .ref (ad 3), .int (nI ma), .ref (ad 4), .ref (ad 5), .ref (ad 6), .ref (ad 7), .ref (ad 8), .ref (ad 9), .int (nI qu), .ref (ad 10), .ref (ad 11), .ref (ad 12), .ref (ad 13), .ref (ad 14), .ref (ad 15), .ref (ad 16), .ref (ad 17), .ref (ad 18)]) := by rw [hccs21]; exact va_up_self _ _ _
                replace e1 := (congrFun hccs21 1).trans ((va_up_ne _ _ (by decide)).trans e1)
                replace e2 := (congrFun hccs21 2).trans ((va_up_ne _ _ (by decide)).trans e2)
                replace e3 := (congrFun hccs21 3).trans ((va_up_ne _ _ (by decide)).trans e3)
                replace e4 := (congrFun hccs21 4).trans ((va_up_ne _ _ (by decide)).trans e4)
                replace e5 := (congrFun hccs21 5).trans ((va_up_ne _ _ (by decide)).trans e5)
                replace e6 := (congrFun hccs21 6).trans ((va_up_ne _ _ (by decide)).trans e6)
                replace e7 := (congrFun hccs21 7).trans ((va_up_ne _ _ (by decide)).trans e7)
                replace e8 := (congrFun hccs21 8).trans ((va_up_ne _ _ (by decide)).trans e8)
                replace e9 := (congrFun hccs21 9).trans ((va_up_ne _ _ (by decide)).trans e9)
                replace e10 := (congrFun hccs21 10).trans ((va_up_ne _ _ (by decide)).trans e10)
                replace e11 := (congrFun hccs21 11).trans ((va_up_ne _ _ (by decide)).trans e11)
                replace e12 := (congrFun hccs21 12).trans ((va_up_ne _ _ (by decide)).trans e12)
                replace e13 := (congrFun hccs21 13).trans ((va_up_ne _ _ (by decide)).trans e13)
                replace e14 := (congrFun hccs21 14).trans ((va_up_ne _ _ (by decide)).trans e14)
                replace e15 := (congrFun hccs21 15).trans ((va_up_ne _ _ (by decide)).trans e15)
                replace e16 := (congrFun hccs21 16).trans ((va_up_ne _ _ (by decide)).trans e16)
                replace e17 := (congrFun hccs21 17).trans ((va_up_ne _ _ (by decide)).trans e17)
                replace e18 := (congrFun hccs21 18).trans ((va_up_ne _ _ (by decide)).trans e18)
                clear hccs21
                refine lv_aload_n hx hb d_R_handsOut_210 rfl (lv_at hl 4 rfl) ?_
                refine lv_iconst (v := 2) hx hb d_R_handsOut_211 (by decide) ?_
                refine kw_put (ty := .int) hx hb hg in_R t_R ty_R nm_R hown hK hP hJ hA hS 0 (Nat.lt_of_lt_of_le (by decide : 0 < 19) hn) e0 rfl 2 (by decide) (hg _ kg_585) rfl rfl (by decide +kernel) rfl rfl (Nat.le_of_ble_eq_true rfl) d_R_handsOut_212 (fun H locs hP hS => ?_)
                obtain ⟨cs22, hccs22⟩ : ∃ z9, z9 = va_up cs21 0 (.inr (5, [.int (nI la), .int th, .int 2, .int nx, .int (nI wi), .int (nI gp), .int (nI vl), .int (nI en), .int (nI bo), .int cy, .int sd, .ref (ad 1), .ref (ad 2), .ref (ad 3), .int (nI ma), .ref (ad 4), .ref (ad 5), .ref (ad 6), .ref (ad 7), .ref (ad 8), .ref (ad 9), .int (nI qu), .ref (ad 10), .ref (ad 11), .ref (ad 12), .ref (ad 13), .ref (ad 14), .ref (ad 15), .ref (ad 16), .ref (ad 17), .ref (ad 18)])) := ⟨_, rfl⟩
                replace hP : va_P D kc (kw_w ad cs22 n) H := by rw [hccs22]; exact hP
                have e0 : cs22 0 = .inr (5, [.int (nI la), .int th, .int 2, .int nx, .int (nI wi), .int (nI gp), .int (nI vl), .int (nI en), .int (nI bo), .int cy, .int sd, .ref (ad 1), .ref (ad 2), .ref (ad 3), .int (nI ma), .ref (ad 4), .ref (ad 5), .ref (ad 6), .ref (ad 7), .ref (ad 8), .ref (ad 9), .int (nI qu), .ref (ad 10), .ref (ad 11), .ref (ad 12), .ref (ad 13), .ref (ad 14), .ref (ad 15), .ref (ad 16), .ref (ad 17), .ref (ad 18)]) := by rw [hccs22]; exact va_up_self _ _ _
                replace e1 := (congrFun hccs22 1).trans ((va_up_ne _ _ (by decide)).trans e1)
                replace e2 := (congrFun hccs22 2).trans ((va_up_ne _ _ (by decide)).trans e2)
                replace e3 := (congrFun hccs22 3).trans ((va_up_ne _ _ (by decide)).trans e3)
                replace e4 := (congrFun hccs22 4).trans ((va_up_ne _ _ (by decide)).trans e4)
                replace e5 := (congrFun hccs22 5).trans ((va_up_ne _ _ (by decide)).trans e5)
                replace e6 := (congrFun hccs22 6).trans ((va_up_ne _ _ (by decide)).trans e6)
                replace e7 := (congrFun hccs22 7).trans ((va_up_ne _ _ (by decide)).trans e7)
                replace e8 := (congrFun hccs22 8).trans ((va_up_ne _ _ (by decide)).trans e8)
                replace e9 := (congrFun hccs22 9).trans ((va_up_ne _ _ (by decide)).trans e9)
                replace e10 := (congrFun hccs22 10).trans ((va_up_ne _ _ (by decide)).trans e10)
                replace e11 := (congrFun hccs22 11).trans ((va_up_ne _ _ (by decide)).trans e11)
                replace e12 := (congrFun hccs22 12).trans ((va_up_ne _ _ (by decide)).trans e12)
                replace e13 := (congrFun hccs22 13).trans ((va_up_ne _ _ (by decide)).trans e13)
                replace e14 := (congrFun hccs22 14).trans ((va_up_ne _ _ (by decide)).trans e14)
                replace e15 := (congrFun hccs22 15).trans ((va_up_ne _ _ (by decide)).trans e15)
                replace e16 := (congrFun hccs22 16).trans ((va_up_ne _ _ (by decide)).trans e16)
                replace e17 := (congrFun hccs22 17).trans ((va_up_ne _ _ (by decide)).trans e17)
                replace e18 := (congrFun hccs22 18).trans ((va_up_ne _ _ (by decide)).trans e18)
                clear hccs22
                refine lv_goto (tgt := 251) hx hb d_R_handsOut_215 (by decide) ?_
                refine lv_aload_n hx hb d_R_handsOut_251 rfl (lv_at hl 4 rfl) ?_
                refine lv_dup hx hb d_R_handsOut_252 rfl ?_
                refine kw_get hx hb hg in_R hown hK hP 0 (Nat.lt_of_lt_of_le (by decide : 0 < 19) hn) e0 rfl 21 (by decide) (hg _ kg_604) rfl rfl d_R_handsOut_253 ?_
                have K270 : ∀ (H : Heap) (locs : List Loc) (ls : Array Slot), va_P D kc (kw_w ad cs22 n) H → va_S (kw_A ad n) s.heap H locs → lv_has ls 6 [(5, .int ((if (nI (po k)) < 17 then 0 else if (nI vl) ≤ (nI en) then 0 else 1 : Int32))), (4, .int (nI en)), (3, .int (nI (po k))), (2, .int (nI qu)), (0, .ref (ad 0)), (1, .int (nI k))] → W p l e (kr 4) s m [.ref (ad 0), .int (nI k)].toArray below meth c H locs 0 0 (MQ below (va_Qv (fun c9 => kR ad cI cZ c9 la th (kv_R_handsOut_st st vl po k en) (kv_R_handsOut_nx nx vl po k en) wi gp (kv_R_handsOut_vl vl po k en) (kv_R_handsOut_sa vl po k en) bo cy sd ma (kv_R_handsOut_qu sa qu po sp k en) X F M po pd pa pb pn pm (kv_R_handsOut_wh qu wh k) (kv_R_handsOut_wd wi qu wd) (kv_R_handsOut_rg gp qu rg) (kv_R_handsOut_fr sa qu fr) (kv_R_handsOut_sp sa qu po sp k en) (kv_R_handsOut_dn qu dn) (kv_R_handsOut_bf qu bf) (kv_R_handsOut_XA vl qu X po pa XA k) (kv_R_handsOut_XB qu X pb XB k)) (kw_Pre D kc (ktR cI cZ) ad n) (kw_A ad n)) [.ref (ad 0), .int (nI k)].toArray s 0 0 (kw_A ad n)) (F0 m 270 ls [.int ((if (nI ((va_up sp qu (kn_s (po k) en sa)) qu)) ≤ 0 then 0 else 1 : Int32)), .int (nI qu), .ref (ad 0)]) := by
                  intro H locs ls hP hS hl
                  rw [kw_ite01]
                  refine lv_iadd hx hb d_R_handsOut_270 ?_
                  rw [nI_add]
                  refine kw_put (ty := .int) hx hb hg in_R t_R ty_R nm_R hown hK hP hJ hA hS 0 (Nat.lt_of_lt_of_le (by decide : 0 < 19) hn) e0 rfl 21 (by decide) (hg _ kg_604) rfl rfl (by decide +kernel) rfl rfl (Nat.le_of_ble_eq_true rfl) d_R_handsOut_271 (fun H locs hP hS => ?_)
                  obtain ⟨cs23, hccs23⟩ : ∃ z9, z9 = va_up cs22 0 (.inr (5, [.int (nI la), .int th, .int 2, .int nx, .int (nI wi), .int (nI gp), .int (nI vl), .int (nI en), .int (nI bo), .int cy, .int sd, .ref (ad 1), .ref (ad 2), .ref (ad 3), .int (nI ma), .ref (ad 4), .ref (ad 5), .ref (ad 6), .ref (ad 7), .ref (ad 8), .ref (ad 9), .int (nI (qu + (if (nI ((va_up sp qu (kn_s (po k) en sa)) qu)) ≤ 0 then 0 else 1))), .ref (ad 10), .ref (ad 11), .ref (ad 12), .ref (ad 13), .ref (ad 14), .ref (ad 15), .ref (ad 16), .ref (ad 17), .ref (ad 18)])) := ⟨_, rfl⟩
                  replace hP : va_P D kc (kw_w ad cs23 n) H := by rw [hccs23]; exact hP
                  have e0 : cs23 0 = .inr (5, [.int (nI la), .int th, .int 2, .int nx, .int (nI wi), .int (nI gp), .int (nI vl), .int (nI en), .int (nI bo), .int cy, .int sd, .ref (ad 1), .ref (ad 2), .ref (ad 3), .int (nI ma), .ref (ad 4), .ref (ad 5), .ref (ad 6), .ref (ad 7), .ref (ad 8), .ref (ad 9), .int (nI (qu + (if (nI ((va_up sp qu (kn_s (po k) en sa)) qu)) ≤ 0 then 0 else 1))), .ref (ad 10), .ref (ad 11), .ref (ad 12), .ref (ad 13), .ref (ad 14), .ref (ad 15), .ref (ad 16), .ref (ad 17), .ref (ad 18)]) := by rw [hccs23]; exact va_up_self _ _ _
                  replace e1 := (congrFun hccs23 1).trans ((va_up_ne _ _ (by decide)).trans e1)
                  replace e2 := (congrFun hccs23 2).trans ((va_up_ne _ _ (by decide)).trans e2)
                  replace e3 := (congrFun hccs23 3).trans ((va_up_ne _ _ (by decide)).trans e3)
                  replace e4 := (congrFun hccs23 4).trans ((va_up_ne _ _ (by decide)).trans e4)
                  replace e5 := (congrFun hccs23 5).trans ((va_up_ne _ _ (by decide)).trans e5)
                  replace e6 := (congrFun hccs23 6).trans ((va_up_ne _ _ (by decide)).trans e6)
                  replace e7 := (congrFun hccs23 7).trans ((va_up_ne _ _ (by decide)).trans e7)
                  replace e8 := (congrFun hccs23 8).trans ((va_up_ne _ _ (by decide)).trans e8)
                  replace e9 := (congrFun hccs23 9).trans ((va_up_ne _ _ (by decide)).trans e9)
                  replace e10 := (congrFun hccs23 10).trans ((va_up_ne _ _ (by decide)).trans e10)
                  replace e11 := (congrFun hccs23 11).trans ((va_up_ne _ _ (by decide)).trans e11)
                  replace e12 := (congrFun hccs23 12).trans ((va_up_ne _ _ (by decide)).trans e12)
                  replace e13 := (congrFun hccs23 13).trans ((va_up_ne _ _ (by decide)).trans e13)
                  replace e14 := (congrFun hccs23 14).trans ((va_up_ne _ _ (by decide)).trans e14)
                  replace e15 := (congrFun hccs23 15).trans ((va_up_ne _ _ (by decide)).trans e15)
                  replace e16 := (congrFun hccs23 16).trans ((va_up_ne _ _ (by decide)).trans e16)
                  replace e17 := (congrFun hccs23 17).trans ((va_up_ne _ _ (by decide)).trans e17)
                  replace e18 := (congrFun hccs23 18).trans ((va_up_ne _ _ (by decide)).trans e18)
                  clear hccs23
                  exact kw_vret hx hb hr hlocks hP hK hS (by rw [show kv_R_handsOut_st st vl po k en = 2 from (by rw [kv_R_handsOut_st, if_neg h1, if_pos h4, if_neg h6]), show kv_R_handsOut_nx nx vl po k en = nx from (by rw [kv_R_handsOut_nx, if_neg h1, if_pos h4, if_neg h6]), show kv_R_handsOut_vl vl po k en = vl from (by rw [kv_R_handsOut_vl, if_neg h1, if_pos h4, if_neg h6]), show kv_R_handsOut_sa vl po k en = en from (by rw [kv_R_handsOut_sa, if_neg h1, if_pos h4, if_neg h6]), show kv_R_handsOut_qu sa qu po sp k en = qu + (if (nI ((va_up sp qu (kn_s (po k) en sa)) qu)) ≤ 0 then 0 else 1) from (by rw [kv_R_handsOut_qu]), show kv_R_handsOut_wh qu wh k = va_up wh qu k from (by rw [kv_R_handsOut_wh]), show kv_R_handsOut_wd wi qu wd = va_up wd qu wi from (by rw [kv_R_handsOut_wd]), show kv_R_handsOut_rg gp qu rg = va_up rg qu gp from (by rw [kv_R_handsOut_rg]), show kv_R_handsOut_fr sa qu fr = va_up fr qu sa from (by rw [kv_R_handsOut_fr]), show kv_R_handsOut_sp sa qu po sp k en = va_up sp qu (kn_s (po k) en sa) from (by rw [kv_R_handsOut_sp]), show kv_R_handsOut_dn qu dn = va_up dn qu 0 from (by rw [kv_R_handsOut_dn]), show kv_R_handsOut_bf qu bf = va_up bf qu 0 from (by rw [kv_R_handsOut_bf]), show kv_R_handsOut_XA vl qu X po pa XA k = upd XA qu ((if (nI (po k)) = 14 then (nI vl) else (X (pa k)) : Int32)) from (by rw [kv_R_handsOut_XA]), show kv_R_handsOut_XB qu X pb XB k = upd XB qu (X (pb k)) from (by rw [kv_R_handsOut_XB])]; exact ⟨e0, e1, e2, e3, e4, e5, e6, e7, e8, e9, e10, e11, e12, e13, e14, e15, e16, e17, e18⟩) d_R_handsOut_274
                refine lv_aload_n hx hb d_R_handsOut_256 rfl (lv_at hl 4 rfl) ?_
                refine kw_get hx hb hg in_R hown hK hP 0 (Nat.lt_of_lt_of_le (by decide : 0 < 19) hn) e0 rfl 26 (by decide) (hg _ kg_609) rfl rfl d_R_handsOut_257 ?_
                refine lv_iload_n hx hb d_R_handsOut_260 rfl (lv_at hl 3 rfl) ?_
                refine kw_iald hx hb hK hP 14 0 (Nat.lt_of_lt_of_le (by decide : 14 < 19) hn) e14 rfl qu (rfl) ((by omega)) (by omega) d_R_handsOut_261 ?_
                refine lv_if_le (tgt := 269) hx hb d_R_handsOut_262 (by decide) (fun h9 => ?_) (fun h9 => ?_)
                · refine lv_iconst (v := 0) hx hb d_R_handsOut_269 (by decide) ?_
                  exact W.eq (congrArg (fun z9 => F0 m 270 ls (.int z9 :: [.int (nI qu), .ref (ad 0)])) (show (0 : Int32) = (if (nI ((va_up sp qu (kn_s (po k) en sa)) qu)) ≤ 0 then 0 else 1 : Int32) from (by rw [if_pos h9]))) (K270 _ _ _ hP hS hl)
                · refine lv_iconst (v := 1) hx hb d_R_handsOut_265 (by decide) ?_
                  refine lv_goto (tgt := 270) hx hb d_R_handsOut_266 (by decide) ?_
                  exact W.eq (congrArg (fun z9 => F0 m 270 ls (.int z9 :: [.int (nI qu), .ref (ad 0)])) (show (1 : Int32) = (if (nI ((va_up sp qu (kn_s (po k) en sa)) qu)) ≤ 0 then 0 else 1 : Int32) from (by rw [if_neg h9]))) (K270 _ _ _ hP hS hl)
        refine lv_iload_n hx hb d_R_handsOut_166 rfl (lv_at hl 1 rfl) ?_
        refine lv_bipush (v := 17) hx hb d_R_handsOut_167 (by decide) ?_
        refine lv_icmp_lt (tgt := 185) hx hb d_R_handsOut_169 (by decide) (fun h10 => ?_) (fun h10 => ?_)
        · refine lv_iconst (v := 0) hx hb d_R_handsOut_185 (by decide) ?_
          exact W.eq (congrArg (fun z9 => F0 m 186 ls (.int z9 :: [])) (show (0 : Int32) = (if (nI (po k)) < 17 then 0 else if (nI vl) ≤ (nI en) then 0 else 1 : Int32) from (by rw [if_pos h10]))) (K186 _ _ _ hP hS hl)
        · refine lv_iload hx hb d_R_handsOut_172 (lv_at hl 0 rfl) ?_
          refine lv_aload_n hx hb d_R_handsOut_174 rfl (lv_at hl 3 rfl) ?_
          refine kw_get hx hb hg in_R hown hK hP 0 (Nat.lt_of_lt_of_le (by decide : 0 < 19) hn) e0 rfl 6 (by decide) (hg _ kg_589) rfl rfl d_R_handsOut_175 ?_
          refine lv_icmp_ge (tgt := 185) hx hb d_R_handsOut_178 (by decide) (fun h11 => ?_) (fun h11 => ?_)
          · refine lv_iconst (v := 0) hx hb d_R_handsOut_185 (by decide) ?_
            exact W.eq (congrArg (fun z9 => F0 m 186 ls (.int z9 :: [])) (show (0 : Int32) = (if (nI (po k)) < 17 then 0 else if (nI vl) ≤ (nI en) then 0 else 1 : Int32) from (by rw [if_neg h10, if_pos h11]))) (K186 _ _ _ hP hS hl)
          · refine lv_iconst (v := 1) hx hb d_R_handsOut_181 (by decide) ?_
            refine lv_goto (tgt := 186) hx hb d_R_handsOut_182 (by decide) ?_
            exact W.eq (congrArg (fun z9 => F0 m 186 ls (.int z9 :: [])) (show (1 : Int32) = (if (nI (po k)) < 17 then 0 else if (nI vl) ≤ (nI en) then 0 else 1 : Int32) from (by rw [if_neg h10, if_neg h11]))) (K186 _ _ _ hP hS hl)
      refine lv_iload hx hb d_R_handsOut_135 (lv_at hl 0 rfl) ?_
      refine lv_aload_n hx hb d_R_handsOut_137 rfl (lv_at hl 3 rfl) ?_
      refine kw_get hx hb hg in_R hown hK hP 0 (Nat.lt_of_lt_of_le (by decide : 0 < 19) hn) e0 rfl 7 (by decide) (hg _ kg_590) rfl rfl d_R_handsOut_138 ?_
      refine lv_icmp_gt (tgt := 148) hx hb d_R_handsOut_141 (by decide) (fun h12 => ?_) (fun h12 => ?_)
      · refine lv_iload_n hx hb d_R_handsOut_148 rfl (lv_at hl 1 rfl) ?_
        refine lv_bipush (v := 14) hx hb d_R_handsOut_149 (by decide) ?_
        refine lv_icmp_ne (tgt := 158) hx hb d_R_handsOut_151 (by decide) (fun h13 => ?_) (fun h13 => ?_)
        · refine lv_iload hx hb d_R_handsOut_158 (lv_at hl 0 rfl) ?_
          refine lv_aload_n hx hb d_R_handsOut_160 rfl (lv_at hl 3 rfl) ?_
          refine kw_get hx hb hg in_R hown hK hP 0 (Nat.lt_of_lt_of_le (by decide : 0 < 19) hn) e0 rfl 7 (by decide) (hg _ kg_590) rfl rfl d_R_handsOut_161 ?_
          refine lv_isub hx hb d_R_handsOut_164 ?_
          exact W.eq (congrArg (fun z9 => F0 m 165 ls (.int z9 :: [.int (nI qu), .ref (ad 14)])) (show (nI en) - (nI sa) = (if (nI sa) < (nI en) then (if (nI (po k)) = 14 then 1 else ((nI en) - (nI sa))) else 0 : Int32) from (by rw [if_pos h12, if_neg h13]))) (K165 _ _ _ hP hS hl)
        · refine lv_iconst (v := 1) hx hb d_R_handsOut_154 (by decide) ?_
          refine lv_goto (tgt := 165) hx hb d_R_handsOut_155 (by decide) ?_
          exact W.eq (congrArg (fun z9 => F0 m 165 ls (.int z9 :: [.int (nI qu), .ref (ad 14)])) (show (1 : Int32) = (if (nI sa) < (nI en) then (if (nI (po k)) = 14 then 1 else ((nI en) - (nI sa))) else 0 : Int32) from (by rw [if_pos h12, if_pos h13]))) (K165 _ _ _ hP hS hl)
      · refine lv_iconst (v := 0) hx hb d_R_handsOut_144 (by decide) ?_
        refine lv_goto (tgt := 165) hx hb d_R_handsOut_145 (by decide) ?_
        exact W.eq (congrArg (fun z9 => F0 m 165 ls (.int z9 :: [.int (nI qu), .ref (ad 14)])) (show (0 : Int32) = (if (nI sa) < (nI en) then (if (nI (po k)) = 14 then 1 else ((nI en) - (nI sa))) else 0 : Int32) from (by rw [if_neg h12]))) (K165 _ _ _ hP hS hl)
    refine lv_iload_n hx hb d_R_handsOut_110 rfl (lv_at hl 0 rfl) ?_
    refine lv_bipush (v := 17) hx hb d_R_handsOut_111 (by decide) ?_
    refine lv_icmp_lt (tgt := 124) hx hb d_R_handsOut_113 (by decide) (fun h14 => ?_) (fun h14 => ?_)
    · refine lv_aload_n hx hb d_R_handsOut_124 rfl (lv_at hl 2 rfl) ?_
      refine kw_get hx hb hg in_R hown hK hP 0 (Nat.lt_of_lt_of_le (by decide : 0 < 19) hn) e0 rfl 6 (by decide) (hg _ kg_589) rfl rfl d_R_handsOut_125 ?_
      exact W.eq (congrArg (fun z9 => F0 m 128 ls (.int z9 :: [])) (show nI vl = (if (nI (po k)) < 17 then (nI vl) else (nI (kv_bd F po pb pm (va_up wh qu k) (va_up wd qu wi) (upd XA qu ((if (nI (po k)) = 14 then (nI vl) else (X (pa k)) : Int32))) (upd XB qu (X (pb k))) wi vl bo qu (vl - sa) sa)) : Int32) from (by rw [if_pos h14]))) (K128 _ _ _ hP hS hl)
    · refine lv_aload_n hx hb d_R_handsOut_116 rfl (lv_at hl 2 rfl) ?_
      refine lv_iload_n hx hb d_R_handsOut_117 rfl (lv_at hl 1 rfl) ?_
      refine kw_callix (kw_rV (As := [.int (nI qu)]) (rest := []) (q0 := 0) ⟨hx, hb, hml, hown, hg⟩ ⟨callB_of 1 hg (kg_goodG kg_797) rfl rfl rfl (hg _ kg_7) (hg _ kg_794) (by decide +kernel) ⟨by decide, by decide⟩, hg _ kg_796, hg _ (kg_sel (q := (y_R_bad, 31)) (by decide +kernel))⟩ (c_R_bad l hn ⟨e0, e1, e2, e3, e4, e5, e6, e7, e8, e9, e10, e11, e12, e13, e14, e15, e16, e17, e18⟩ (by omega) (by rw [va_up_self]; exact hk) (by rw [va_up_self]; exact ho9) hsv hvl (by rw [va_up_self, va_up_self]; exact hb9) ) hK hP (Nat.lt_of_lt_of_le (by decide : 0 < 19) hn) e0 rfl rfl hl.1 rfl (Nat.le_of_ble_eq_true rfl) d_R_handsOut_118 ⟨Nat.zero_le _, Nat.zero_le _⟩) hA hS (fun H locs hP hS => ?_)
      refine lv_goto (tgt := 128) hx hb d_R_handsOut_121 (by decide) ?_
      exact W.eq (congrArg (fun z9 => F0 m 128 ls (.int z9 :: [])) (show nI (kv_bd F po pb pm (va_up wh qu k) (va_up wd qu wi) (upd XA qu ((if (nI (po k)) = 14 then (nI vl) else (X (pa k)) : Int32))) (upd XB qu (X (pb k))) wi vl bo qu (vl - sa) sa) = (if (nI (po k)) < 17 then (nI vl) else (nI (kv_bd F po pb pm (va_up wh qu k) (va_up wd qu wi) (upd XA qu ((if (nI (po k)) = 14 then (nI vl) else (X (pa k)) : Int32))) (upd XB qu (X (pb k))) wi vl bo qu (vl - sa) sa)) : Int32) from (by rw [if_neg h14]))) (K128 _ _ _ hP hS hl)
  refine lv_iload_n hx hb d_R_handsOut_68 rfl (lv_at hl 0 rfl) ?_
  refine lv_bipush (v := 14) hx hb d_R_handsOut_69 (by decide) ?_
  refine lv_icmp_ne (tgt := 81) hx hb d_R_handsOut_71 (by decide) (fun h15 => ?_) (fun h15 => ?_)
  · refine lv_aload_n hx hb d_R_handsOut_81 rfl (lv_at hl 2 rfl) ?_
    refine kw_get hx hb hg in_R hown hK hP 0 (Nat.lt_of_lt_of_le (by decide : 0 < 19) hn) e0 rfl 11 (by decide) (hg _ kg_594) rfl rfl d_R_handsOut_82 ?_
    refine lv_aload_n hx hb d_R_handsOut_85 rfl (lv_at hl 2 rfl) ?_
    refine kw_get hx hb hg in_R hown hK hP 0 (Nat.lt_of_lt_of_le (by decide : 0 < 19) hn) e0 rfl 17 (by decide) (hg _ kg_600) rfl rfl d_R_handsOut_86 ?_
    refine lv_iload_n hx hb d_R_handsOut_89 rfl (lv_at hl 3 rfl) ?_
    refine kw_iald hx hb hK hP 6 0 (Nat.lt_of_lt_of_le (by decide : 6 < 19) hn) e6 rfl k (rfl) (hk) (by omega) d_R_handsOut_90 ?_
    refine kw_iald hx hb hK hP 1 0 (Nat.lt_of_lt_of_le (by decide : 1 < 19) hn) e1 rfl (pa k) (rfl) (ha8) (by omega) d_R_handsOut_91 ?_
    exact W.eq (congrArg (fun z9 => F0 m 92 ls (.int z9 :: [.int (nI qu), .ref (ad 17)])) (show X (pa k) = (if (nI (po k)) = 14 then (nI vl) else (X (pa k)) : Int32) from (by rw [if_neg h15]))) (K92 _ _ _ hP hS hl)
  · refine lv_aload_n hx hb d_R_handsOut_74 rfl (lv_at hl 2 rfl) ?_
    refine kw_get hx hb hg in_R hown hK hP 0 (Nat.lt_of_lt_of_le (by decide : 0 < 19) hn) e0 rfl 6 (by decide) (hg _ kg_589) rfl rfl d_R_handsOut_75 ?_
    refine lv_goto (tgt := 92) hx hb d_R_handsOut_78 (by decide) ?_
    exact W.eq (congrArg (fun z9 => F0 m 92 ls (.int z9 :: [.int (nI qu), .ref (ad 17)])) (show nI vl = (if (nI (po k)) = 14 then (nI vl) else (X (pa k)) : Int32) from (by rw [if_pos h15]))) (K92 _ _ _ hP hS hl)
