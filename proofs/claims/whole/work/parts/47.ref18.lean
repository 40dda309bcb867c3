/-! the reference: units -/
def kv_R_units_sd (la : Nat) (sd : Int32) (qu : Nat) (F : Nat → Int32) (M : Nat → Int32) (po : Nat → Nat) (pd : Nat → Nat) (pa : Nat → Nat) (pb : Nat → Nat) (pm : Nat → Int32) (wh : Nat → Nat) (wd : Nat → Nat) (rg : Nat → Nat) (fr : Nat → Nat) (sp : Nat → Nat) (dn : Nat → Nat) (bf : Nat → Nat) (XA : Nat → Int32) (XB : Nat → Int32) : Int32 := (kv_uu po pd pa pb pm wh wd rg fr sp (kv_ub dn qu 0 bf) XA XB la qu 3 0 sd F M dn).1
def kv_R_units_F (la : Nat) (sd : Int32) (qu : Nat) (F : Nat → Int32) (M : Nat → Int32) (po : Nat → Nat) (pd : Nat → Nat) (pa : Nat → Nat) (pb : Nat → Nat) (pm : Nat → Int32) (wh : Nat → Nat) (wd : Nat → Nat) (rg : Nat → Nat) (fr : Nat → Nat) (sp : Nat → Nat) (dn : Nat → Nat) (bf : Nat → Nat) (XA : Nat → Int32) (XB : Nat → Int32) : Nat → Int32 := (kv_uu po pd pa pb pm wh wd rg fr sp (kv_ub dn qu 0 bf) XA XB la qu 3 0 sd F M dn).2.1
def kv_R_units_M (la : Nat) (sd : Int32) (qu : Nat) (F : Nat → Int32) (M : Nat → Int32) (po : Nat → Nat) (pd : Nat → Nat) (pa : Nat → Nat) (pb : Nat → Nat) (pm : Nat → Int32) (wh : Nat → Nat) (wd : Nat → Nat) (rg : Nat → Nat) (fr : Nat → Nat) (sp : Nat → Nat) (dn : Nat → Nat) (bf : Nat → Nat) (XA : Nat → Int32) (XB : Nat → Int32) : Nat → Int32 := (kv_uu po pd pa pb pm wh wd rg fr sp (kv_ub dn qu 0 bf) XA XB la qu 3 0 sd F M dn).2.2.1
def kv_R_units_dn (la : Nat) (sd : Int32) (qu : Nat) (F : Nat → Int32) (M : Nat → Int32) (po : Nat → Nat) (pd : Nat → Nat) (pa : Nat → Nat) (pb : Nat → Nat) (pm : Nat → Int32) (wh : Nat → Nat) (wd : Nat → Nat) (rg : Nat → Nat) (fr : Nat → Nat) (sp : Nat → Nat) (dn : Nat → Nat) (bf : Nat → Nat) (XA : Nat → Int32) (XB : Nat → Int32) : Nat → Nat := (kv_uu po pd pa pb pm wh wd rg fr sp (kv_ub dn qu 0 bf) XA XB la qu 3 0 sd F M dn).2.2.2
def kv_R_units_bf (qu : Nat) (dn : Nat → Nat) (bf : Nat → Nat) : Nat → Nat := kv_ub dn qu 0 bf
set_option maxRecDepth 100000 in
set_option maxHeartbeats 4000000 in
theorem c_R_units (l : Launch) {D : va_G} {ad : Nat → Nat} {n : Nat} {cs : Nat → va_E} (hJ : kw_J ad n) {cI : ClassId} {cZ : ClassId} {la : Nat} {th : Int32} {st : Nat} {nx : Int32} {wi : Nat} {gp : Nat} {vl : Nat} {sa : Nat} {bo : Nat} {cy : Int32} {sd : Int32} {ma : Nat} {qu : Nat} {X : Nat → Int32} {F : Nat → Int32} {M : Nat → Int32} {po : Nat → Nat} {pd : Nat → Nat} {pa : Nat → Nat} {pb : Nat → Nat} {pn : Nat → Int32} {pm : Nat → Int32} {wh : Nat → Nat} {wd : Nat → Nat} {rg : Nat → Nat} {fr : Nat → Nat} {sp : Nat → Nat} {dn : Nat → Nat} {bf : Nat → Nat} {XA : Nat → Int32} {XB : Nat → Int32} (hn : 19 ≤ n) (hR : kR ad cI cZ cs la th st nx wi gp vl sa bo cy sd ma qu X F M po pd pa pb pn pm wh wd rg fr sp dn bf XA XB) (hqu : qu ≤ 4) (hla : la ≤ 8) (hE : ∀ p, p < qu → kE po wh wd rg fr sp (kv_ub dn qu 0 bf) XA p) {J : (Nat → Int32) → (Nat → Int32) → (Nat → Nat) → Prop} (hJ0 : J F M dn) (hU : kU po pd pa pb pm wh wd rg fr sp (kv_ub dn qu 0 bf) XA XB qu J) : kw_mv l y_R_units w_R_units (kr 5) D kc (ktR cI cZ) ad n cs [.ref (ad 0)] (fun c9 => kR ad cI cZ c9 la th st nx wi gp vl sa bo cy (kv_R_units_sd la sd qu F M po pd pa pb pm wh wd rg fr sp dn bf XA XB) ma qu X (kv_R_units_F la sd qu F M po pd pa pb pm wh wd rg fr sp dn bf XA XB) (kv_R_units_M la sd qu F M po pd pa pb pm wh wd rg fr sp dn bf XA XB) po pd pa pb pn pm wh wd rg fr sp (kv_R_units_dn la sd qu F M po pd pa pb pm wh wd rg fr sp dn bf XA XB) (kv_R_units_bf qu dn bf) XA XB) := by
  refine kw_of (cc := b_R_units) (maxL := 5) (ret := none) (by decide) rfl (Nat.le_of_ble_eq_true rfl) ?_
  intro p e s m below meth c ls hx hb hr hml hown hts hlocks hP hK hl
  have hg : ∀ w9 ∈ kg_G, w9.before [.ref (ad 0)].toArray s = true := fun w9 h9 => hts w9 (List.mem_cons_of_mem _ h9)
  have hown : s.vm.findClass "LaneMachineModel" = some m.cls := hown
  have hA : ∀ k, k < n → kw_A ad n (ad k) := fun k hk => ⟨k, hk, rfl⟩
  have hS : va_S (kw_A ad n) s.heap s.heap [] := va_S.rf
  have hl : lv_has ls 5 [(0, .ref (ad 0))] := hl
  obtain ⟨e0, e1, e2, e3, e4, e5, e6, e7, e8, e9, e10, e11, e12, e13, e14, e15, e16, e17, e18⟩ := hR
  refine lv_iconst (v := 0) hx hb d_R_units_0 (by decide) ?_
  refine lv_istore_n (lv' := [(1, .int 0), (0, .ref (ad 0))]) hx hb d_R_units_1 rfl hl (by decide) rfl (fun ls hl => ?_)
  have KXa : ∀ (csL : Nat → va_E) (H : Heap) (locs : List Loc) (ls : Array Slot), kR ad cI cZ csL la th st nx wi gp vl sa bo cy sd ma qu X F M po pd pa pb pn pm wh wd rg fr sp dn (kv_ub dn qu 0 bf) XA XB → va_P D kc (kw_w ad csL n) H → va_S (kw_A ad n) s.heap H locs → lv_has ls 5 [(0, .ref (ad 0))] → W p l e (kr 5) s m [.ref (ad 0)].toArray below meth c H locs 0 0 (MQ below (va_Qv (fun c9 => kR ad cI cZ c9 la th st nx wi gp vl sa bo cy (kv_R_units_sd la sd qu F M po pd pa pb pm wh wd rg fr sp dn bf XA XB) ma qu X (kv_R_units_F la sd qu F M po pd pa pb pm wh wd rg fr sp dn bf XA XB) (kv_R_units_M la sd qu F M po pd pa pb pm wh wd rg fr sp dn bf XA XB) po pd pa pb pn pm wh wd rg fr sp (kv_R_units_dn la sd qu F M po pd pa pb pm wh wd rg fr sp dn bf XA XB) (kv_R_units_bf qu dn bf) XA XB) (kw_Pre D kc (ktR cI cZ) ad n) (kw_A ad n)) [.ref (ad 0)].toArray s 0 0 (kw_A ad n)) (F0 m 28 ls []) := by
    intro csL H locs ls hR9 hP hS hl
    obtain ⟨e0, e1, e2, e3, e4, e5, e6, e7, e8, e9, e10, e11, e12, e13, e14, e15, e16, e17, e18⟩ := hR9
    refine lv_iconst (v := 0) hx hb d_R_units_28 (by decide) ?_
    refine lv_istore_n (lv' := [(1, .int 0), (0, .ref (ad 0))]) hx hb d_R_units_29 rfl hl (by decide) rfl (fun ls hl => ?_)
    have KXu : ∀ (csL : Nat → va_E) (H : Heap) (locs : List Loc) (ls : Array Slot), kR ad cI cZ csL la th st nx wi gp vl sa bo cy ((kv_uu po pd pa pb pm wh wd rg fr sp (kv_ub dn qu 0 bf) XA XB la qu 3 0 sd F M dn).1) ma qu X ((kv_uu po pd pa pb pm wh wd rg fr sp (kv_ub dn qu 0 bf) XA XB la qu 3 0 sd F M dn).2.1) ((kv_uu po pd pa pb pm wh wd rg fr sp (kv_ub dn qu 0 bf) XA XB la qu 3 0 sd F M dn).2.2.1) po pd pa pb pn pm wh wd rg fr sp ((kv_uu po pd pa pb pm wh wd rg fr sp (kv_ub dn qu 0 bf) XA XB la qu 3 0 sd F M dn).2.2.2) (kv_ub dn qu 0 bf) XA XB → va_P D kc (kw_w ad csL n) H → va_S (kw_A ad n) s.heap H locs → lv_has ls 5 [(0, .ref (ad 0))] → W p l e (kr 5) s m [.ref (ad 0)].toArray below meth c H locs 0 0 (MQ below (va_Qv (fun c9 => kR ad cI cZ c9 la th st nx wi gp vl sa bo cy (kv_R_units_sd la sd qu F M po pd pa pb pm wh wd rg fr sp dn bf XA XB) ma qu X (kv_R_units_F la sd qu F M po pd pa pb pm wh wd rg fr sp dn bf XA XB) (kv_R_units_M la sd qu F M po pd pa pb pm wh wd rg fr sp dn bf XA XB) po pd pa pb pn pm wh wd rg fr sp (kv_R_units_dn la sd qu F M po pd pa pb pm wh wd rg fr sp dn bf XA XB) (kv_R_units_bf qu dn bf) XA XB) (kw_Pre D kc (ktR cI cZ) ad n) (kw_A ad n)) [.ref (ad 0)].toArray s 0 0 (kw_A ad n)) (F0 m 171 ls []) := by
      intro csL H locs ls hR9 hP hS hl
      obtain ⟨e0, e1, e2, e3, e4, e5, e6, e7, e8, e9, e10, e11, e12, e13, e14, e15, e16, e17, e18⟩ := hR9
      exact kw_vret hx hb hr hlocks hP hK hS (by rw [show kv_R_units_sd la sd qu F M po pd pa pb pm wh wd rg fr sp dn bf XA XB = (kv_uu po pd pa pb pm wh wd rg fr sp (kv_ub dn qu 0 bf) XA XB la qu 3 0 sd F M dn).1 from (by rw [kv_R_units_sd]), show kv_R_units_F la sd qu F M po pd pa pb pm wh wd rg fr sp dn bf XA XB = (kv_uu po pd pa pb pm wh wd rg fr sp (kv_ub dn qu 0 bf) XA XB la qu 3 0 sd F M dn).2.1 from (by rw [kv_R_units_F]), show kv_R_units_M la sd qu F M po pd pa pb pm wh wd rg fr sp dn bf XA XB = (kv_uu po pd pa pb pm wh wd rg fr sp (kv_ub dn qu 0 bf) XA XB la qu 3 0 sd F M dn).2.2.1 from (by rw [kv_R_units_M]), show kv_R_units_dn la sd qu F M po pd pa pb pm wh wd rg fr sp dn bf XA XB = (kv_uu po pd pa pb pm wh wd rg fr sp (kv_ub dn qu 0 bf) XA XB la qu 3 0 sd F M dn).2.2.2 from (by rw [kv_R_units_dn]), show kv_R_units_bf qu dn bf = kv_ub dn qu 0 bf from (by rw [kv_R_units_bf])]; exact ⟨e0, e1, e2, e3, e4, e5, e6, e7, e8, e9, e10, e11, e12, e13, e14, e15, e16, e17, e18⟩) d_R_units_171
    have loopu : ∀ (kk : Nat) (csL : Nat → va_E) (u : Nat) (sd1 : Int32) (F1 : Nat → Int32) (M1 : Nat → Int32) (dn1 : Nat → Nat) (H : Heap) (locs : List Loc) (ls : Array Slot), u + kk = 3 → J F1 M1 dn1 → kv_uu po pd pa pb pm wh wd rg fr sp (kv_ub dn qu 0 bf) XA XB la qu 3 0 sd F M dn = kv_uu po pd pa pb pm wh wd rg fr sp (kv_ub dn qu 0 bf) XA XB la qu kk u sd1 F1 M1 dn1 → kR ad cI cZ csL la th st nx wi gp vl sa bo cy sd1 ma qu X F1 M1 po pd pa pb pn pm wh wd rg fr sp dn1 (kv_ub dn qu 0 bf) XA XB → va_P D kc (kw_w ad csL n) H → va_S (kw_A ad n) s.heap H locs → lv_has ls 5 [(1, .int (nI u)), (0, .ref (ad 0))] → W p l e (kr 5) s m [.ref (ad 0)].toArray below meth c H locs 0 0 (MQ below (va_Qv (fun c9 => kR ad cI cZ c9 la th st nx wi gp vl sa bo cy (kv_R_units_sd la sd qu F M po pd pa pb pm wh wd rg fr sp dn bf XA XB) ma qu X (kv_R_units_F la sd qu F M po pd pa pb pm wh wd rg fr sp dn bf XA XB) (kv_R_units_M la sd qu F M po pd pa pb pm wh wd rg fr sp dn bf XA XB) po pd pa pb pn pm wh wd rg fr sp (kv_R_units_dn la sd qu F M po pd pa pb pm wh wd rg fr sp dn bf XA XB) (kv_R_units_bf qu dn bf) XA XB) (kw_Pre D kc (ktR cI cZ) ad n) (kw_A ad n)) [.ref (ad 0)].toArray s 0 0 (kw_A ad n)) (F0 m 30 ls []) := by
      intro kk
      induction kk with
      | zero =>
        intro csL u sd1 F1 M1 dn1 H locs ls huk hJ1 hv hR9 hP hS hl
        obtain ⟨e0, e1, e2, e3, e4, e5, e6, e7, e8, e9, e10, e11, e12, e13, e14, e15, e16, e17, e18⟩ := hR9
        refine lv_iload_n hx hb d_R_units_30 rfl (lv_at hl 0 rfl) ?_
        refine lv_iconst (v := 3) hx hb d_R_units_31 (by decide) ?_
        refine lv_icmp_ge (tgt := 171) hx hb d_R_units_32 (by decide) (fun _ => ?_) (fun h1 => absurd (nI_le (a := 3) (by omega) (by omega)) h1)
        exact KXu _ _ _ _ (by rw [show kv_uu po pd pa pb pm wh wd rg fr sp (kv_ub dn qu 0 bf) XA XB la qu 3 0 sd F M dn = (sd1, F1, M1, dn1) from hv]; exact ⟨e0, e1, e2, e3, e4, e5, e6, e7, e8, e9, e10, e11, e12, e13, e14, e15, e16, e17, e18⟩) hP hS (by (first | (rw [show kv_uu po pd pa pb pm wh wd rg fr sp (kv_ub dn qu 0 bf) XA XB la qu 3 0 sd F M dn = (sd1, F1, M1, dn1) from hv]) | skip); exact lv_sub hl [1] rfl)
      | succ j ihu =>
        intro csL u sd1 F1 M1 dn1 H locs ls huk hJ1 hv hR9 hP hS hl
        obtain ⟨e0, e1, e2, e3, e4, e5, e6, e7, e8, e9, e10, e11, e12, e13, e14, e15, e16, e17, e18⟩ := hR9
        have hfl : kv_fq po wh u qu 0 ≤ qu := by have := kv_fq_le po wh u qu 0; omega
        have hz0 : ¬ (if nI qu ≤ nI (kv_fq po wh u qu 0) then 0 else 1 : Int32) = 0 → kv_fq po wh u qu 0 < qu := fun z9 => Nat.not_le.mp fun z8 => z9 (by rw [if_pos (nI_le z8 (by omega))])
        refine lv_iload_n hx hb d_R_units_30 rfl (lv_at hl 0 rfl) ?_
        refine lv_iconst (v := 3) hx hb d_R_units_31 (by decide) ?_
        refine lv_icmp_ge (tgt := 171) hx hb d_R_units_32 (by decide) (fun h2 => absurd h2 (nI_ge (b := 3) (by omega) (by omega))) (fun _ => ?_)
        refine lv_iconst (v := 0) hx hb d_R_units_35 (by decide) ?_
        refine lv_istore_n (lv' := [(2, .int 0), (1, .int (nI u)), (0, .ref (ad 0))]) hx hb d_R_units_36 rfl hl (by decide) rfl (fun ls hl => ?_)
        have KXf : ∀ (H : Heap) (locs : List Loc) (ls : Array Slot), va_P D kc (kw_w ad csL n) H → va_S (kw_A ad n) s.heap H locs → lv_has ls 5 [(2, .int (nI (kv_fq po wh u qu 0))), (1, .int (nI u)), (0, .ref (ad 0))] → W p l e (kr 5) s m [.ref (ad 0)].toArray below meth c H locs 0 0 (MQ below (va_Qv (fun c9 => kR ad cI cZ c9 la th st nx wi gp vl sa bo cy (kv_R_units_sd la sd qu F M po pd pa pb pm wh wd rg fr sp dn bf XA XB) ma qu X (kv_R_units_F la sd qu F M po pd pa pb pm wh wd rg fr sp dn bf XA XB) (kv_R_units_M la sd qu F M po pd pa pb pm wh wd rg fr sp dn bf XA XB) po pd pa pb pn pm wh wd rg fr sp (kv_R_units_dn la sd qu F M po pd pa pb pm wh wd rg fr sp dn bf XA XB) (kv_R_units_bf qu dn bf) XA XB) (kw_Pre D kc (ktR cI cZ) ad n) (kw_A ad n)) [.ref (ad 0)].toArray s 0 0 (kw_A ad n)) (F0 m 69 ls []) := by
          intro H locs ls hP hS hl
          have K82 : ∀ (H : Heap) (locs : List Loc) (ls : Array Slot), va_P D kc (kw_w ad csL n) H → va_S (kw_A ad n) s.heap H locs → lv_has ls 5 [(2, .int (nI (kv_fq po wh u qu 0))), (1, .int (nI u)), (0, .ref (ad 0))] → W p l e (kr 5) s m [.ref (ad 0)].toArray below meth c H locs 0 0 (MQ below (va_Qv (fun c9 => kR ad cI cZ c9 la th st nx wi gp vl sa bo cy (kv_R_units_sd la sd qu F M po pd pa pb pm wh wd rg fr sp dn bf XA XB) ma qu X (kv_R_units_F la sd qu F M po pd pa pb pm wh wd rg fr sp dn bf XA XB) (kv_R_units_M la sd qu F M po pd pa pb pm wh wd rg fr sp dn bf XA XB) po pd pa pb pn pm wh wd rg fr sp (kv_R_units_dn la sd qu F M po pd pa pb pm wh wd rg fr sp dn bf XA XB) (kv_R_units_bf qu dn bf) XA XB) (kw_Pre D kc (ktR cI cZ) ad n) (kw_A ad n)) [.ref (ad 0)].toArray s 0 0 (kw_A ad n)) (F0 m 82 ls [.int ((if (nI qu) ≤ (nI (kv_fq po wh u qu 0)) then 0 else 1 : Int32))]) := by
            intro H locs ls hP hS hl
            refine lv_istore_n (lv' := [(3, .int ((if (nI qu) ≤ (nI (kv_fq po wh u qu 0)) then 0 else 1 : Int32))), (2, .int (nI (kv_fq po wh u qu 0))), (1, .int (nI u)), (0, .ref (ad 0))]) hx hb d_R_units_82 rfl hl (by decide) rfl (fun ls hl => ?_)
            refine lv_iconst (v := 0) hx hb d_R_units_83 (by decide) ?_
            refine lv_istore (lv' := [(4, .int 0), (3, .int ((if (nI qu) ≤ (nI (kv_fq po wh u qu 0)) then 0 else 1 : Int32))), (2, .int (nI (kv_fq po wh u qu 0))), (1, .int (nI u)), (0, .ref (ad 0))]) hx hb d_R_units_84 hl (by decide) rfl (fun ls hl => ?_)
            have KXl : ∀ (csL : Nat → va_E) (H : Heap) (locs : List Loc) (ls : Array Slot), kR ad cI cZ csL la th st nx wi gp vl sa bo cy ((kv_ul po pd pa pb pm wh wd rg fr sp (kv_ub dn qu 0 bf) XA XB (kv_fq po wh u qu 0) la (if nI qu ≤ nI (kv_fq po wh u qu 0) then 0 else 1 : Int32) sd1 F1 M1 dn1).1) ma qu X ((kv_ul po pd pa pb pm wh wd rg fr sp (kv_ub dn qu 0 bf) XA XB (kv_fq po wh u qu 0) la (if nI qu ≤ nI (kv_fq po wh u qu 0) then 0 else 1 : Int32) sd1 F1 M1 dn1).2.1) ((kv_ul po pd pa pb pm wh wd rg fr sp (kv_ub dn qu 0 bf) XA XB (kv_fq po wh u qu 0) la (if nI qu ≤ nI (kv_fq po wh u qu 0) then 0 else 1 : Int32) sd1 F1 M1 dn1).2.2.1) po pd pa pb pn pm wh wd rg fr sp ((kv_ul po pd pa pb pm wh wd rg fr sp (kv_ub dn qu 0 bf) XA XB (kv_fq po wh u qu 0) la (if nI qu ≤ nI (kv_fq po wh u qu 0) then 0 else 1 : Int32) sd1 F1 M1 dn1).2.2.2) (kv_ub dn qu 0 bf) XA XB → va_P D kc (kw_w ad csL n) H → va_S (kw_A ad n) s.heap H locs → lv_has ls 5 [(1, .int (nI u)), (0, .ref (ad 0))] → W p l e (kr 5) s m [.ref (ad 0)].toArray below meth c H locs 0 0 (MQ below (va_Qv (fun c9 => kR ad cI cZ c9 la th st nx wi gp vl sa bo cy (kv_R_units_sd la sd qu F M po pd pa pb pm wh wd rg fr sp dn bf XA XB) ma qu X (kv_R_units_F la sd qu F M po pd pa pb pm wh wd rg fr sp dn bf XA XB) (kv_R_units_M la sd qu F M po pd pa pb pm wh wd rg fr sp dn bf XA XB) po pd pa pb pn pm wh wd rg fr sp (kv_R_units_dn la sd qu F M po pd pa pb pm wh wd rg fr sp dn bf XA XB) (kv_R_units_bf qu dn bf) XA XB) (kw_Pre D kc (ktR cI cZ) ad n) (kw_A ad n)) [.ref (ad 0)].toArray s 0 0 (kw_A ad n)) (F0 m 165 ls []) := by
              intro csL H locs ls hR9 hP hS hl
              obtain ⟨e0, e1, e2, e3, e4, e5, e6, e7, e8, e9, e10, e11, e12, e13, e14, e15, e16, e17, e18⟩ := hR9
              refine lv_iinc (k := 0) (v := nI (u + 1)) (lv' := [(1, .int (nI (u + 1))), (0, .ref (ad 0))]) hx hb d_R_units_165 hl rfl ((nI_succ u).symm) (by decide) rfl (fun ls hl => ?_)
              refine lv_goto (tgt := 30) hx hb d_R_units_168 (by decide) ?_
              exact ihu _ ((u + 1)) _ _ _ _ _ _ _ (by omega) (kv_ul_J hU _ _ _ _ _ _ hz0 hJ1) (by rw [hv, kv_uu]) ⟨e0, e1, e2, e3, e4, e5, e6, e7, e8, e9, e10, e11, e12, e13, e14, e15, e16, e17, e18⟩ hP hS (lv_sub hl [0, 1] rfl)
            have loopl : ∀ (kk : Nat) (csL : Nat → va_E) (i : Nat) (z : Int32) (sd2 : Int32) (F2 : Nat → Int32) (M2 : Nat → Int32) (dn2 : Nat → Nat) (H : Heap) (locs : List Loc) (ls : Array Slot), i + kk = la → J F2 M2 dn2 → (¬ z = 0 → kv_fq po wh u qu 0 < qu) → kv_ul po pd pa pb pm wh wd rg fr sp (kv_ub dn qu 0 bf) XA XB (kv_fq po wh u qu 0) la (if nI qu ≤ nI (kv_fq po wh u qu 0) then 0 else 1 : Int32) sd1 F1 M1 dn1 = kv_ul po pd pa pb pm wh wd rg fr sp (kv_ub dn qu 0 bf) XA XB (kv_fq po wh u qu 0) kk z sd2 F2 M2 dn2 → kR ad cI cZ csL la th st nx wi gp vl sa bo cy sd2 ma qu X F2 M2 po pd pa pb pn pm wh wd rg fr sp dn2 (kv_ub dn qu 0 bf) XA XB → va_P D kc (kw_w ad csL n) H → va_S (kw_A ad n) s.heap H locs → lv_has ls 5 [(4, .int (nI i)), (3, .int z), (2, .int (nI (kv_fq po wh u qu 0))), (1, .int (nI u)), (0, .ref (ad 0))] → W p l e (kr 5) s m [.ref (ad 0)].toArray below meth c H locs 0 0 (MQ below (va_Qv (fun c9 => kR ad cI cZ c9 la th st nx wi gp vl sa bo cy (kv_R_units_sd la sd qu F M po pd pa pb pm wh wd rg fr sp dn bf XA XB) ma qu X (kv_R_units_F la sd qu F M po pd pa pb pm wh wd rg fr sp dn bf XA XB) (kv_R_units_M la sd qu F M po pd pa pb pm wh wd rg fr sp dn bf XA XB) po pd pa pb pn pm wh wd rg fr sp (kv_R_units_dn la sd qu F M po pd pa pb pm wh wd rg fr sp dn bf XA XB) (kv_R_units_bf qu dn bf) XA XB) (kw_Pre D kc (ktR cI cZ) ad n) (kw_A ad n)) [.ref (ad 0)].toArray s 0 0 (kw_A ad n)) (F0 m 86 ls []) := by
              intro kk
              induction kk with
              | zero =>
                intro csL i z sd2 F2 M2 dn2 H locs ls hik hJ2 hz2 hw hR9 hP hS hl
                obtain ⟨e0, e1, e2, e3, e4, e5, e6, e7, e8, e9, e10, e11, e12, e13, e14, e15, e16, e17, e18⟩ := hR9
                refine lv_iload hx hb d_R_units_86 (lv_at hl 0 rfl) ?_
                refine lv_aload_n hx hb d_R_units_88 rfl (lv_at hl 4 rfl) ?_
                refine kw_get hx hb hg in_R hown hK hP 0 (Nat.lt_of_lt_of_le (by decide : 0 < 19) hn) e0 rfl 0 (by decide) (hg _ kg_583) rfl rfl d_R_units_89 ?_
                refine lv_icmp_ge (tgt := 165) hx hb d_R_units_92 (by decide) (fun _ => ?_) (fun h3 => absurd (nI_le (by omega) (by omega)) h3)
                exact KXl _ _ _ _ (by rw [show kv_ul po pd pa pb pm wh wd rg fr sp (kv_ub dn qu 0 bf) XA XB (kv_fq po wh u qu 0) la (if nI qu ≤ nI (kv_fq po wh u qu 0) then 0 else 1 : Int32) sd1 F1 M1 dn1 = (sd2, F2, M2, dn2) from hw]; exact ⟨e0, e1, e2, e3, e4, e5, e6, e7, e8, e9, e10, e11, e12, e13, e14, e15, e16, e17, e18⟩) hP hS (by (first | (rw [show kv_ul po pd pa pb pm wh wd rg fr sp (kv_ub dn qu 0 bf) XA XB (kv_fq po wh u qu 0) la (if nI qu ≤ nI (kv_fq po wh u qu 0) then 0 else 1 : Int32) sd1 F1 M1 dn1 = (sd2, F2, M2, dn2) from hw]) | skip); exact lv_sub hl [3, 4] rfl)
              | succ j ihl =>
                intro csL i z sd2 F2 M2 dn2 H locs ls hik hJ2 hz2 hw hR9 hP hS hl
                obtain ⟨e0, e1, e2, e3, e4, e5, e6, e7, e8, e9, e10, e11, e12, e13, e14, e15, e16, e17, e18⟩ := hR9
                refine lv_iload hx hb d_R_units_86 (lv_at hl 0 rfl) ?_
                refine lv_aload_n hx hb d_R_units_88 rfl (lv_at hl 4 rfl) ?_
                refine kw_get hx hb hg in_R hown hK hP 0 (Nat.lt_of_lt_of_le (by decide : 0 < 19) hn) e0 rfl 0 (by decide) (hg _ kg_583) rfl rfl d_R_units_89 ?_
                refine lv_icmp_ge (tgt := 165) hx hb d_R_units_92 (by decide) (fun h4 => absurd h4 (nI_ge (by omega) (by omega))) (fun _ => ?_)
                refine lv_iload_n hx hb d_R_units_95 rfl (lv_at hl 1 rfl) ?_
                refine lv_if_eq (tgt := 165) hx hb d_R_units_96 (by decide) (fun h5 => ?_) (fun h5 => ?_)
                · exact KXl _ _ _ _ (by rw [show kv_ul po pd pa pb pm wh wd rg fr sp (kv_ub dn qu 0 bf) XA XB (kv_fq po wh u qu 0) la (if nI qu ≤ nI (kv_fq po wh u qu 0) then 0 else 1 : Int32) sd1 F1 M1 dn1 = (sd2, F2, M2, dn2) from (by rw [hw, kv_ul, if_pos h5])]; exact ⟨e0, e1, e2, e3, e4, e5, e6, e7, e8, e9, e10, e11, e12, e13, e14, e15, e16, e17, e18⟩) hP hS (by (first | (rw [show kv_ul po pd pa pb pm wh wd rg fr sp (kv_ub dn qu 0 bf) XA XB (kv_fq po wh u qu 0) la (if nI qu ≤ nI (kv_fq po wh u qu 0) then 0 else 1 : Int32) sd1 F1 M1 dn1 = (sd2, F2, M2, dn2) from (by rw [hw, kv_ul, if_pos h5])]) | skip); exact lv_sub hl [3, 4] rfl)
                · have hz9 : ¬ z = 0 := h5
                  have hqq : kv_fq po wh u qu 0 < qu := hz2 hz9
                  have hq5 : kv_fq po wh u qu 0 < 5 := by omega
                  have hbb := hU.2 F2 M2 dn2 (kv_fq po wh u qu 0) hJ2 hqq
                  have K133 : ∀ (H : Heap) (locs : List Loc) (ls : Array Slot), va_P D kc (kw_w ad csL n) H → va_S (kw_A ad n) s.heap H locs → lv_has ls 5 [(4, .int (nI i)), (3, .int z), (2, .int (nI (kv_fq po wh u qu 0))), (1, .int (nI u)), (0, .ref (ad 0))] → W p l e (kr 5) s m [.ref (ad 0)].toArray below meth c H locs 0 0 (MQ below (va_Qv (fun c9 => kR ad cI cZ c9 la th st nx wi gp vl sa bo cy (kv_R_units_sd la sd qu F M po pd pa pb pm wh wd rg fr sp dn bf XA XB) ma qu X (kv_R_units_F la sd qu F M po pd pa pb pm wh wd rg fr sp dn bf XA XB) (kv_R_units_M la sd qu F M po pd pa pb pm wh wd rg fr sp dn bf XA XB) po pd pa pb pn pm wh wd rg fr sp (kv_R_units_dn la sd qu F M po pd pa pb pm wh wd rg fr sp dn bf XA XB) (kv_R_units_bf qu dn bf) XA XB) (kw_Pre D kc (ktR cI cZ) ad n) (kw_A ad n)) [.ref (ad 0)].toArray s 0 0 (kw_A ad n)) (F0 m 133 ls [.int ((if (nI (sp (kv_fq po wh u qu 0))) ≤ (nI (dn2 (kv_fq po wh u qu 0))) then 0 else if (kv_R_free po pd pa pb pm wh wd rg fr sp (kv_ub dn qu 0 bf) XA XB (kv_fq po wh u qu 0) (dn2 (kv_fq po wh u qu 0))) = 0 then 0 else 1 : Int32))]) := by
                    intro H locs ls hP hS hl
                    refine lv_istore_n (lv' := [(3, .int ((if (nI (sp (kv_fq po wh u qu 0))) ≤ (nI (dn2 (kv_fq po wh u qu 0))) then 0 else if (kv_R_free po pd pa pb pm wh wd rg fr sp (kv_ub dn qu 0 bf) XA XB (kv_fq po wh u qu 0) (dn2 (kv_fq po wh u qu 0))) = 0 then 0 else 1 : Int32))), (4, .int (nI i)), (2, .int (nI (kv_fq po wh u qu 0))), (1, .int (nI u)), (0, .ref (ad 0))]) hx hb d_R_units_133 rfl hl (by decide) rfl (fun ls hl => ?_)
                    refine lv_iload_n hx hb d_R_units_134 rfl (lv_at hl 0 rfl) ?_
                    refine lv_if_eq (tgt := 159) hx hb d_R_units_135 (by decide) (fun h6 => ?_) (fun h6 => ?_)
                    · have hJn := hJ2
                      refine lv_iinc (k := 1) (v := nI (i + 1)) (lv' := [(4, .int (nI (i + 1))), (3, .int ((if (nI (sp (kv_fq po wh u qu 0))) ≤ (nI (dn2 (kv_fq po wh u qu 0))) then 0 else if (kv_R_free po pd pa pb pm wh wd rg fr sp (kv_ub dn qu 0 bf) XA XB (kv_fq po wh u qu 0) (dn2 (kv_fq po wh u qu 0))) = 0 then 0 else 1 : Int32))), (2, .int (nI (kv_fq po wh u qu 0))), (1, .int (nI u)), (0, .ref (ad 0))]) hx hb d_R_units_159 hl rfl ((nI_succ i).symm) (by decide) rfl (fun ls hl => ?_)
                      refine lv_goto (tgt := 86) hx hb d_R_units_162 (by decide) ?_
                      exact ihl _ ((i + 1)) _ _ _ _ _ _ _ _ (by omega) (hJn) (fun _ => hqq) (by rw [hw, kv_ul, if_neg hz9, if_pos h6]) ⟨e0, e1, e2, e3, e4, e5, e6, e7, e8, e9, e10, e11, e12, e13, e14, e15, e16, e17, e18⟩ hP hS (lv_sub hl [0, 1, 2, 3, 4] rfl)
                    · have hlt : dn2 (kv_fq po wh u qu 0) < sp (kv_fq po wh u qu 0) := Nat.not_le.mp fun z9 => h6 (by rw [if_pos (nI_le z9 (by omega))])
                      have hfr : ¬ kv_R_free po pd pa pb pm wh wd rg fr sp (kv_ub dn qu 0 bf) XA XB (kv_fq po wh u qu 0) (dn2 (kv_fq po wh u qu 0)) = 0 := fun z9 => h6 (by rw [if_neg (nI_ge hlt (by omega)), if_pos z9])
                      have hDD := (hU.1 F2 M2 dn2 (kv_fq po wh u qu 0) hJ2 hqq hlt hfr).1
                      have hJn := (hU.1 F2 M2 dn2 (kv_fq po wh u qu 0) hJ2 hqq hlt hfr).2
                      refine lv_aload_n hx hb d_R_units_138 rfl (lv_at hl 4 rfl) ?_
                      refine lv_iload_n hx hb d_R_units_139 rfl (lv_at hl 2 rfl) ?_
                      refine lv_aload_n hx hb d_R_units_140 rfl (lv_at hl 4 rfl) ?_
                      refine kw_get hx hb hg in_R hown hK hP 0 (Nat.lt_of_lt_of_le (by decide : 0 < 19) hn) e0 rfl 27 (by decide) (hg _ kg_610) rfl rfl d_R_units_141 ?_
                      refine lv_iload_n hx hb d_R_units_144 rfl (lv_at hl 2 rfl) ?_
                      refine kw_iald hx hb hK hP 15 0 (Nat.lt_of_lt_of_le (by decide : 15 < 19) hn) e15 rfl (kv_fq po wh u qu 0) (rfl) (hq5) (by omega) d_R_units_145 ?_
                      refine kw_callvx (kw_rV (As := [.int (nI (kv_fq po wh u qu 0)), .int (nI (dn2 (kv_fq po wh u qu 0)))]) (rest := []) (q0 := 0) ⟨hx, hb, hml, hown, hg⟩ ⟨callB_of 2 hg (kg_goodG kg_715) rfl rfl rfl (hg _ kg_7) (hg _ kg_712) (by decide +kernel) ⟨by decide, by decide⟩, hg _ kg_714, hg _ (kg_sel (q := (y_R_does, 31)) (by decide +kernel))⟩ (c_R_does l hJ hn ⟨e0, e1, e2, e3, e4, e5, e6, e7, e8, e9, e10, e11, e12, e13, e14, e15, e16, e17, e18⟩ hq5 (hE _ hqq).1.1 hDD.1 hDD.2.1 hDD.2.2.1 hDD.2.2.2.1 hDD.2.2.2.2.1 hDD.2.2.2.2.2.1 hDD.2.2.2.2.2.2.1 hDD.2.2.2.2.2.2.2.1 hDD.2.2.2.2.2.2.2.2.1 hDD.2.2.2.2.2.2.2.2.2.1 hDD.2.2.2.2.2.2.2.2.2.2.1 hDD.2.2.2.2.2.2.2.2.2.2.2.1 hDD.2.2.2.2.2.2.2.2.2.2.2.2 (vq := (XA (kv_fq po wh u qu 0)).toNatClampNeg)) hK hP (Nat.lt_of_lt_of_le (by decide : 0 < 19) hn) e0 rfl rfl hl.1 rfl (Nat.le_of_ble_eq_true rfl) d_R_units_146 ⟨Nat.zero_le _, Nat.zero_le _⟩) hA hS (fun H locs hP hS => ?_)
                      obtain ⟨cs1, hccs1⟩ : ∃ z9, z9 = va_up csL 0 (.inr (5, [.int (nI la), .int th, .int (nI st), .int nx, .int (nI wi), .int (nI gp), .int (nI vl), .int (nI sa), .int (nI bo), .int cy, .int (sd2 + 1), .ref (ad 1), .ref (ad 2), .ref (ad 3), .int (nI ma), .ref (ad 4), .ref (ad 5), .ref (ad 6), .ref (ad 7), .ref (ad 8), .ref (ad 9), .int (nI qu), .ref (ad 10), .ref (ad 11), .ref (ad 12), .ref (ad 13), .ref (ad 14), .ref (ad 15), .ref (ad 16), .ref (ad 17), .ref (ad 18)])) := ⟨_, rfl⟩
                      have e0 : cs1 0 = .inr (5, [.int (nI la), .int th, .int (nI st), .int nx, .int (nI wi), .int (nI gp), .int (nI vl), .int (nI sa), .int (nI bo), .int cy, .int (sd2 + 1), .ref (ad 1), .ref (ad 2), .ref (ad 3), .int (nI ma), .ref (ad 4), .ref (ad 5), .ref (ad 6), .ref (ad 7), .ref (ad 8), .ref (ad 9), .int (nI qu), .ref (ad 10), .ref (ad 11), .ref (ad 12), .ref (ad 13), .ref (ad 14), .ref (ad 15), .ref (ad 16), .ref (ad 17), .ref (ad 18)]) := by rw [hccs1]; exact va_up_self _ _ _
                      replace e1 := (congrFun hccs1 1).trans ((va_up_ne _ _ (by decide)).trans e1)
                      replace e2 := (congrFun hccs1 2).trans ((va_up_ne _ _ (by decide)).trans e2)
                      replace e3 := (congrFun hccs1 3).trans ((va_up_ne _ _ (by decide)).trans e3)
                      replace e4 := (congrFun hccs1 4).trans ((va_up_ne _ _ (by decide)).trans e4)
                      replace e5 := (congrFun hccs1 5).trans ((va_up_ne _ _ (by decide)).trans e5)
                      replace e6 := (congrFun hccs1 6).trans ((va_up_ne _ _ (by decide)).trans e6)
                      replace e7 := (congrFun hccs1 7).trans ((va_up_ne _ _ (by decide)).trans e7)
                      replace e8 := (congrFun hccs1 8).trans ((va_up_ne _ _ (by decide)).trans e8)
                      replace e9 := (congrFun hccs1 9).trans ((va_up_ne _ _ (by decide)).trans e9)
                      replace e10 := (congrFun hccs1 10).trans ((va_up_ne _ _ (by decide)).trans e10)
                      replace e11 := (congrFun hccs1 11).trans ((va_up_ne _ _ (by decide)).trans e11)
                      replace e12 := (congrFun hccs1 12).trans ((va_up_ne _ _ (by decide)).trans e12)
                      replace e13 := (congrFun hccs1 13).trans ((va_up_ne _ _ (by decide)).trans e13)
                      replace e14 := (congrFun hccs1 14).trans ((va_up_ne _ _ (by decide)).trans e14)
                      replace e15 := (congrFun hccs1 15).trans ((va_up_ne _ _ (by decide)).trans e15)
                      replace e16 := (congrFun hccs1 16).trans ((va_up_ne _ _ (by decide)).trans e16)
                      replace e17 := (congrFun hccs1 17).trans ((va_up_ne _ _ (by decide)).trans e17)
                      replace e18 := (congrFun hccs1 18).trans ((va_up_ne _ _ (by decide)).trans e18)
                      obtain ⟨cs2, hccs2⟩ : ∃ z9, z9 = va_up cs1 2 (.inl (cI, 64, .inl (kv_R_does_2 F2 M2 po pd pa pb pm wh wd rg fr XA XB (kv_fq po wh u qu 0) (dn2 (kv_fq po wh u qu 0)) ((XA (kv_fq po wh u qu 0)).toNatClampNeg)))) := ⟨_, rfl⟩
                      replace e0 := (congrFun hccs2 0).trans ((va_up_ne _ _ (by decide)).trans e0)
                      replace e1 := (congrFun hccs2 1).trans ((va_up_ne _ _ (by decide)).trans e1)
                      have e2 : cs2 2 = .inl (cI, 64, .inl (kv_R_does_2 F2 M2 po pd pa pb pm wh wd rg fr XA XB (kv_fq po wh u qu 0) (dn2 (kv_fq po wh u qu 0)) ((XA (kv_fq po wh u qu 0)).toNatClampNeg))) := by rw [hccs2]; exact va_up_self _ _ _
                      replace e3 := (congrFun hccs2 3).trans ((va_up_ne _ _ (by decide)).trans e3)
                      replace e4 := (congrFun hccs2 4).trans ((va_up_ne _ _ (by decide)).trans e4)
                      replace e5 := (congrFun hccs2 5).trans ((va_up_ne _ _ (by decide)).trans e5)
                      replace e6 := (congrFun hccs2 6).trans ((va_up_ne _ _ (by decide)).trans e6)
                      replace e7 := (congrFun hccs2 7).trans ((va_up_ne _ _ (by decide)).trans e7)
                      replace e8 := (congrFun hccs2 8).trans ((va_up_ne _ _ (by decide)).trans e8)
                      replace e9 := (congrFun hccs2 9).trans ((va_up_ne _ _ (by decide)).trans e9)
                      replace e10 := (congrFun hccs2 10).trans ((va_up_ne _ _ (by decide)).trans e10)
                      replace e11 := (congrFun hccs2 11).trans ((va_up_ne _ _ (by decide)).trans e11)
                      replace e12 := (congrFun hccs2 12).trans ((va_up_ne _ _ (by decide)).trans e12)
                      replace e13 := (congrFun hccs2 13).trans ((va_up_ne _ _ (by decide)).trans e13)
                      replace e14 := (congrFun hccs2 14).trans ((va_up_ne _ _ (by decide)).trans e14)
                      replace e15 := (congrFun hccs2 15).trans ((va_up_ne _ _ (by decide)).trans e15)
                      replace e16 := (congrFun hccs2 16).trans ((va_up_ne _ _ (by decide)).trans e16)
                      replace e17 := (congrFun hccs2 17).trans ((va_up_ne _ _ (by decide)).trans e17)
                      replace e18 := (congrFun hccs2 18).trans ((va_up_ne _ _ (by decide)).trans e18)
                      obtain ⟨cs3, hccs3⟩ : ∃ z9, z9 = va_up cs2 3 (.inl (cI, 128, .inl (kv_R_does_3 F2 M2 po pd pb pm wh wd fr XA XB (kv_fq po wh u qu 0) (dn2 (kv_fq po wh u qu 0))))) := ⟨_, rfl⟩
                      replace e0 := (congrFun hccs3 0).trans ((va_up_ne _ _ (by decide)).trans e0)
                      replace e1 := (congrFun hccs3 1).trans ((va_up_ne _ _ (by decide)).trans e1)
                      replace e2 := (congrFun hccs3 2).trans ((va_up_ne _ _ (by decide)).trans e2)
                      have e3 : cs3 3 = .inl (cI, 128, .inl (kv_R_does_3 F2 M2 po pd pb pm wh wd fr XA XB (kv_fq po wh u qu 0) (dn2 (kv_fq po wh u qu 0)))) := by rw [hccs3]; exact va_up_self _ _ _
                      replace e4 := (congrFun hccs3 4).trans ((va_up_ne _ _ (by decide)).trans e4)
                      replace e5 := (congrFun hccs3 5).trans ((va_up_ne _ _ (by decide)).trans e5)
                      replace e6 := (congrFun hccs3 6).trans ((va_up_ne _ _ (by decide)).trans e6)
                      replace e7 := (congrFun hccs3 7).trans ((va_up_ne _ _ (by decide)).trans e7)
                      replace e8 := (congrFun hccs3 8).trans ((va_up_ne _ _ (by decide)).trans e8)
                      replace e9 := (congrFun hccs3 9).trans ((va_up_ne _ _ (by decide)).trans e9)
                      replace e10 := (congrFun hccs3 10).trans ((va_up_ne _ _ (by decide)).trans e10)
                      replace e11 := (congrFun hccs3 11).trans ((va_up_ne _ _ (by decide)).trans e11)
                      replace e12 := (congrFun hccs3 12).trans ((va_up_ne _ _ (by decide)).trans e12)
                      replace e13 := (congrFun hccs3 13).trans ((va_up_ne _ _ (by decide)).trans e13)
                      replace e14 := (congrFun hccs3 14).trans ((va_up_ne _ _ (by decide)).trans e14)
                      replace e15 := (congrFun hccs3 15).trans ((va_up_ne _ _ (by decide)).trans e15)
                      replace e16 := (congrFun hccs3 16).trans ((va_up_ne _ _ (by decide)).trans e16)
                      replace e17 := (congrFun hccs3 17).trans ((va_up_ne _ _ (by decide)).trans e17)
                      replace e18 := (congrFun hccs3 18).trans ((va_up_ne _ _ (by decide)).trans e18)
                      replace hP : va_P D kc (kw_w ad cs3 n) H := by rw [hccs3, hccs2, hccs1]; exact hP
                      clear hccs3 hccs2 hccs1
                      refine lv_aload_n hx hb d_R_units_149 rfl (lv_at hl 4 rfl) ?_
                      refine kw_get hx hb hg in_R hown hK hP 0 (Nat.lt_of_lt_of_le (by decide : 0 < 19) hn) e0 rfl 27 (by decide) (hg _ kg_610) rfl rfl d_R_units_150 ?_
                      refine lv_iload_n hx hb d_R_units_153 rfl (lv_at hl 2 rfl) ?_
                      refine lv_dup2_11 hx hb d_R_units_154 rfl rfl ?_
                      refine kw_iald hx hb hK hP 15 0 (Nat.lt_of_lt_of_le (by decide : 15 < 19) hn) e15 rfl (kv_fq po wh u qu 0) (rfl) (hq5) (by omega) d_R_units_155 ?_
                      refine lv_iconst (v := 1) hx hb d_R_units_156 (by decide) ?_
                      refine lv_iadd hx hb d_R_units_157 ?_
                      rw [nI_1]
                      refine kw_iast hx hb hK hP hJ hA hS 15 0 (Nat.lt_of_lt_of_le (by decide : 15 < 19) hn) e15 rfl (kv_fq po wh u qu 0) (rfl) (hq5) (by omega) d_R_units_158 (fun H locs hP hS => ?_)
                      rw [kw_upn] at hP
                      obtain ⟨cs4, hccs4⟩ : ∃ z9, z9 = va_up cs3 15 (.inl (cI, 5, .inl (fun i => nI ((va_up dn2 (kv_fq po wh u qu 0) (dn2 (kv_fq po wh u qu 0) + 1)) i)))) := ⟨_, rfl⟩
                      replace hP : va_P D kc (kw_w ad cs4 n) H := by rw [hccs4]; exact hP
                      replace e0 := (congrFun hccs4 0).trans ((va_up_ne _ _ (by decide)).trans e0)
                      replace e1 := (congrFun hccs4 1).trans ((va_up_ne _ _ (by decide)).trans e1)
                      replace e2 := (congrFun hccs4 2).trans ((va_up_ne _ _ (by decide)).trans e2)
                      replace e3 := (congrFun hccs4 3).trans ((va_up_ne _ _ (by decide)).trans e3)
                      replace e4 := (congrFun hccs4 4).trans ((va_up_ne _ _ (by decide)).trans e4)
                      replace e5 := (congrFun hccs4 5).trans ((va_up_ne _ _ (by decide)).trans e5)
                      replace e6 := (congrFun hccs4 6).trans ((va_up_ne _ _ (by decide)).trans e6)
                      replace e7 := (congrFun hccs4 7).trans ((va_up_ne _ _ (by decide)).trans e7)
                      replace e8 := (congrFun hccs4 8).trans ((va_up_ne _ _ (by decide)).trans e8)
                      replace e9 := (congrFun hccs4 9).trans ((va_up_ne _ _ (by decide)).trans e9)
                      replace e10 := (congrFun hccs4 10).trans ((va_up_ne _ _ (by decide)).trans e10)
                      replace e11 := (congrFun hccs4 11).trans ((va_up_ne _ _ (by decide)).trans e11)
                      replace e12 := (congrFun hccs4 12).trans ((va_up_ne _ _ (by decide)).trans e12)
                      replace e13 := (congrFun hccs4 13).trans ((va_up_ne _ _ (by decide)).trans e13)
                      replace e14 := (congrFun hccs4 14).trans ((va_up_ne _ _ (by decide)).trans e14)
                      have e15 : cs4 15 = .inl (cI, 5, .inl (fun i => nI ((va_up dn2 (kv_fq po wh u qu 0) (dn2 (kv_fq po wh u qu 0) + 1)) i))) := by rw [hccs4]; exact va_up_self _ _ _
                      replace e16 := (congrFun hccs4 16).trans ((va_up_ne _ _ (by decide)).trans e16)
                      replace e17 := (congrFun hccs4 17).trans ((va_up_ne _ _ (by decide)).trans e17)
                      replace e18 := (congrFun hccs4 18).trans ((va_up_ne _ _ (by decide)).trans e18)
                      clear hccs4
                      refine lv_iinc (k := 1) (v := nI (i + 1)) (lv' := [(4, .int (nI (i + 1))), (3, .int ((if (nI (sp (kv_fq po wh u qu 0))) ≤ (nI (dn2 (kv_fq po wh u qu 0))) then 0 else if (kv_R_free po pd pa pb pm wh wd rg fr sp (kv_ub dn qu 0 bf) XA XB (kv_fq po wh u qu 0) (dn2 (kv_fq po wh u qu 0))) = 0 then 0 else 1 : Int32))), (2, .int (nI (kv_fq po wh u qu 0))), (1, .int (nI u)), (0, .ref (ad 0))]) hx hb d_R_units_159 hl rfl ((nI_succ i).symm) (by decide) rfl (fun ls hl => ?_)
                      refine lv_goto (tgt := 86) hx hb d_R_units_162 (by decide) ?_
                      exact ihl _ ((i + 1)) _ _ _ _ _ _ _ _ (by omega) (hJn) (fun _ => hqq) (by rw [hw, kv_ul, if_neg hz9, if_neg h6]) ⟨e0, e1, e2, e3, e4, e5, e6, e7, e8, e9, e10, e11, e12, e13, e14, e15, e16, e17, e18⟩ hP hS (lv_sub hl [0, 1, 2, 3, 4] rfl)
                  refine lv_aload_n hx hb d_R_units_99 rfl (lv_at hl 4 rfl) ?_
                  refine kw_get hx hb hg in_R hown hK hP 0 (Nat.lt_of_lt_of_le (by decide : 0 < 19) hn) e0 rfl 27 (by decide) (hg _ kg_610) rfl rfl d_R_units_100 ?_
                  refine lv_iload_n hx hb d_R_units_103 rfl (lv_at hl 2 rfl) ?_
                  refine kw_iald hx hb hK hP 15 0 (Nat.lt_of_lt_of_le (by decide : 15 < 19) hn) e15 rfl (kv_fq po wh u qu 0) (rfl) (hq5) (by omega) d_R_units_104 ?_
                  refine lv_aload_n hx hb d_R_units_105 rfl (lv_at hl 4 rfl) ?_
                  refine kw_get hx hb hg in_R hown hK hP 0 (Nat.lt_of_lt_of_le (by decide : 0 < 19) hn) e0 rfl 26 (by decide) (hg _ kg_609) rfl rfl d_R_units_106 ?_
                  refine lv_iload_n hx hb d_R_units_109 rfl (lv_at hl 2 rfl) ?_
                  refine kw_iald hx hb hK hP 14 0 (Nat.lt_of_lt_of_le (by decide : 14 < 19) hn) e14 rfl (kv_fq po wh u qu 0) (rfl) (hq5) (by omega) d_R_units_110 ?_
                  refine lv_icmp_ge (tgt := 132) hx hb d_R_units_111 (by decide) (fun h7 => ?_) (fun h7 => ?_)
                  · refine lv_iconst (v := 0) hx hb d_R_units_132 (by decide) ?_
                    exact W.eq (congrArg (fun z9 => F0 m 133 ls (.int z9 :: [])) (show (0 : Int32) = (if (nI (sp (kv_fq po wh u qu 0))) ≤ (nI (dn2 (kv_fq po wh u qu 0))) then 0 else if (kv_R_free po pd pa pb pm wh wd rg fr sp (kv_ub dn qu 0 bf) XA XB (kv_fq po wh u qu 0) (dn2 (kv_fq po wh u qu 0))) = 0 then 0 else 1 : Int32) from (by rw [if_pos h7]))) (K133 _ _ _ hP hS hl)
                  · refine lv_aload_n hx hb d_R_units_114 rfl (lv_at hl 4 rfl) ?_
                    refine lv_iload_n hx hb d_R_units_115 rfl (lv_at hl 2 rfl) ?_
                    refine lv_aload_n hx hb d_R_units_116 rfl (lv_at hl 4 rfl) ?_
                    refine kw_get hx hb hg in_R hown hK hP 0 (Nat.lt_of_lt_of_le (by decide : 0 < 19) hn) e0 rfl 27 (by decide) (hg _ kg_610) rfl rfl d_R_units_117 ?_
                    refine lv_iload_n hx hb d_R_units_120 rfl (lv_at hl 2 rfl) ?_
                    refine kw_iald hx hb hK hP 15 0 (Nat.lt_of_lt_of_le (by decide : 15 < 19) hn) e15 rfl (kv_fq po wh u qu 0) (rfl) (hq5) (by omega) d_R_units_121 ?_
                    refine kw_callix (kw_rV (As := [.int (nI (kv_fq po wh u qu 0)), .int (nI (dn2 (kv_fq po wh u qu 0)))]) (rest := []) (q0 := 0) ⟨hx, hb, hml, hown, hg⟩ ⟨callB_of 2 hg (kg_goodG kg_696) rfl rfl rfl (hg _ kg_7) (hg _ kg_693) (by decide +kernel) ⟨by decide, by decide⟩, hg _ kg_695, hg _ (kg_sel (q := (y_R_free, 31)) (by decide +kernel))⟩ (c_R_free l hn ⟨e0, e1, e2, e3, e4, e5, e6, e7, e8, e9, e10, e11, e12, e13, e14, e15, e16, e17, e18⟩ hq5 (fun p9 hp9 => hE p9 (by omega)) ) hK hP (Nat.lt_of_lt_of_le (by decide : 0 < 19) hn) e0 rfl rfl hl.1 rfl (Nat.le_of_ble_eq_true rfl) d_R_units_122 ⟨Nat.zero_le _, Nat.zero_le _⟩) hA hS (fun H locs hP hS => ?_)
                    refine lv_if_eq (tgt := 132) hx hb d_R_units_125 (by decide) (fun h8 => ?_) (fun h8 => ?_)
                    · refine lv_iconst (v := 0) hx hb d_R_units_132 (by decide) ?_
                      exact W.eq (congrArg (fun z9 => F0 m 133 ls (.int z9 :: [])) (show (0 : Int32) = (if (nI (sp (kv_fq po wh u qu 0))) ≤ (nI (dn2 (kv_fq po wh u qu 0))) then 0 else if (kv_R_free po pd pa pb pm wh wd rg fr sp (kv_ub dn qu 0 bf) XA XB (kv_fq po wh u qu 0) (dn2 (kv_fq po wh u qu 0))) = 0 then 0 else 1 : Int32) from (by rw [if_neg h7, if_pos h8]))) (K133 _ _ _ hP hS hl)
                    · refine lv_iconst (v := 1) hx hb d_R_units_128 (by decide) ?_
                      refine lv_goto (tgt := 133) hx hb d_R_units_129 (by decide) ?_
                      exact W.eq (congrArg (fun z9 => F0 m 133 ls (.int z9 :: [])) (show (1 : Int32) = (if (nI (sp (kv_fq po wh u qu 0))) ≤ (nI (dn2 (kv_fq po wh u qu 0))) then 0 else if (kv_R_free po pd pa pb pm wh wd rg fr sp (kv_ub dn qu 0 bf) XA XB (kv_fq po wh u qu 0) (dn2 (kv_fq po wh u qu 0))) = 0 then 0 else 1 : Int32) from (by rw [if_neg h7, if_neg h8]))) (K133 _ _ _ hP hS hl)
            exact loopl la _ 0 ((if nI qu ≤ nI (kv_fq po wh u qu 0) then 0 else 1 : Int32)) sd1 F1 M1 dn1 _ _ _ (by omega) (hJ1) (hz0) (rfl) ⟨e0, e1, e2, e3, e4, e5, e6, e7, e8, e9, e10, e11, e12, e13, e14, e15, e16, e17, e18⟩ hP hS (lv_sub hl [0, 1, 2, 3, 4] rfl)
          refine lv_iload_n hx hb d_R_units_69 rfl (lv_at hl 0 rfl) ?_
          refine lv_aload_n hx hb d_R_units_70 rfl (lv_at hl 2 rfl) ?_
          refine kw_get hx hb hg in_R hown hK hP 0 (Nat.lt_of_lt_of_le (by decide : 0 < 19) hn) e0 rfl 21 (by decide) (hg _ kg_604) rfl rfl d_R_units_71 ?_
          refine lv_icmp_ge (tgt := 81) hx hb d_R_units_74 (by decide) (fun h9 => ?_) (fun h9 => ?_)
          · refine lv_iconst (v := 0) hx hb d_R_units_81 (by decide) ?_
            exact W.eq (congrArg (fun z9 => F0 m 82 ls (.int z9 :: [])) (show (0 : Int32) = (if (nI qu) ≤ (nI (kv_fq po wh u qu 0)) then 0 else 1 : Int32) from (by rw [if_pos h9]))) (K82 _ _ _ hP hS hl)
          · refine lv_iconst (v := 1) hx hb d_R_units_77 (by decide) ?_
            refine lv_goto (tgt := 82) hx hb d_R_units_78 (by decide) ?_
            exact W.eq (congrArg (fun z9 => F0 m 82 ls (.int z9 :: [])) (show (1 : Int32) = (if (nI qu) ≤ (nI (kv_fq po wh u qu 0)) then 0 else 1 : Int32) from (by rw [if_neg h9]))) (K82 _ _ _ hP hS hl)
        have loopf : ∀ (kk : Nat) (b : Nat) (H : Heap) (locs : List Loc) (ls : Array Slot), b + kk = qu → kv_fq po wh u qu 0 = kv_fq po wh u kk b → va_P D kc (kw_w ad csL n) H → va_S (kw_A ad n) s.heap H locs → lv_has ls 5 [(2, .int (nI b)), (1, .int (nI u)), (0, .ref (ad 0))] → W p l e (kr 5) s m [.ref (ad 0)].toArray below meth c H locs 0 0 (MQ below (va_Qv (fun c9 => kR ad cI cZ c9 la th st nx wi gp vl sa bo cy (kv_R_units_sd la sd qu F M po pd pa pb pm wh wd rg fr sp dn bf XA XB) ma qu X (kv_R_units_F la sd qu F M po pd pa pb pm wh wd rg fr sp dn bf XA XB) (kv_R_units_M la sd qu F M po pd pa pb pm wh wd rg fr sp dn bf XA XB) po pd pa pb pn pm wh wd rg fr sp (kv_R_units_dn la sd qu F M po pd pa pb pm wh wd rg fr sp dn bf XA XB) (kv_R_units_bf qu dn bf) XA XB) (kw_Pre D kc (ktR cI cZ) ad n) (kw_A ad n)) [.ref (ad 0)].toArray s 0 0 (kw_A ad n)) (F0 m 37 ls []) := by
          intro kk
          induction kk with
          | zero =>
            intro b H locs ls hbk hf hP hS hl
            refine lv_iload_n hx hb d_R_units_37 rfl (lv_at hl 0 rfl) ?_
            refine lv_aload_n hx hb d_R_units_38 rfl (lv_at hl 2 rfl) ?_
            refine kw_get hx hb hg in_R hown hK hP 0 (Nat.lt_of_lt_of_le (by decide : 0 < 19) hn) e0 rfl 21 (by decide) (hg _ kg_604) rfl rfl d_R_units_39 ?_
            refine lv_icmp_ge (tgt := 69) hx hb d_R_units_42 (by decide) (fun _ => ?_) (fun h10 => absurd (nI_le (by omega) (by omega)) h10)
            exact KXf _ _ _ (hP) hS (by rw [show kv_fq po wh u qu 0 = b from hf]; exact lv_sub hl [0, 1, 2] rfl)
          | succ j ihf =>
            intro b H locs ls hbk hf hP hS hl
            have hwb := (hE b (by omega)).1.1
            have hb5 : b < 5 := by omega
            refine lv_iload_n hx hb d_R_units_37 rfl (lv_at hl 0 rfl) ?_
            refine lv_aload_n hx hb d_R_units_38 rfl (lv_at hl 2 rfl) ?_
            refine kw_get hx hb hg in_R hown hK hP 0 (Nat.lt_of_lt_of_le (by decide : 0 < 19) hn) e0 rfl 21 (by decide) (hg _ kg_604) rfl rfl d_R_units_39 ?_
            refine lv_icmp_ge (tgt := 69) hx hb d_R_units_42 (by decide) (fun h11 => absurd h11 (nI_ge (by omega) (by omega))) (fun _ => ?_)
            refine lv_aload_n hx hb d_R_units_45 rfl (lv_at hl 2 rfl) ?_
            refine kw_get hx hb hg in_R hown hK hP 0 (Nat.lt_of_lt_of_le (by decide : 0 < 19) hn) e0 rfl 15 (by decide) (hg _ kg_598) rfl rfl d_R_units_46 ?_
            refine lv_aload_n hx hb d_R_units_49 rfl (lv_at hl 2 rfl) ?_
            refine kw_get hx hb hg in_R hown hK hP 0 (Nat.lt_of_lt_of_le (by decide : 0 < 19) hn) e0 rfl 22 (by decide) (hg _ kg_605) rfl rfl d_R_units_50 ?_
            refine lv_iload_n hx hb d_R_units_53 rfl (lv_at hl 0 rfl) ?_
            refine kw_iald hx hb hK hP 10 0 (Nat.lt_of_lt_of_le (by decide : 10 < 19) hn) e10 rfl b (rfl) ((by omega)) (by omega) d_R_units_54 ?_
            refine kw_iald hx hb hK hP 4 0 (Nat.lt_of_lt_of_le (by decide : 4 < 19) hn) e4 rfl (wh b) (rfl) (hwb) (by omega) d_R_units_55 ?_
            refine kw_callix (kw_rS (As := [.int (nI (po (wh b)))]) (rest := []) ⟨hx, hb, hml, hown, hg⟩ ⟨callB_of 1 hg (kg_goodG kg_692) rfl rfl rfl (hg _ kg_7) (hg _ kg_690) (by decide +kernel) ⟨by decide, by decide⟩, hg _ kg_691⟩ (c_R_unit l  ) hK hP rfl hl.1 rfl (Nat.le_of_ble_eq_true rfl) d_R_units_56 ⟨Nat.zero_le _, Nat.zero_le _⟩) hA hS (fun H locs hP hS => ?_)
            refine lv_iload_n hx hb d_R_units_59 rfl (lv_at hl 1 rfl) ?_
            refine lv_icmp_eq (tgt := 69) hx hb d_R_units_60 (by decide) (fun h12 => ?_) (fun h12 => ?_)
            · exact KXf _ _ _ (hP) hS (by rw [show kv_fq po wh u qu 0 = b from (by rw [hf, kv_fq, if_pos h12])]; exact lv_sub hl [0, 1, 2] rfl)
            · refine lv_iinc (k := 0) (v := nI (b + 1)) (lv' := [(2, .int (nI (b + 1))), (1, .int (nI u)), (0, .ref (ad 0))]) hx hb d_R_units_63 hl rfl ((nI_succ b).symm) (by decide) rfl (fun ls hl => ?_)
              refine lv_goto (tgt := 37) hx hb d_R_units_66 (by decide) ?_
              exact ihf ((b + 1)) _ _ _ (by omega) (by rw [hf, kv_fq, if_neg h12]) (hP) hS (lv_sub hl [0, 1, 2] rfl)
        exact loopf qu 0 _ _ _ (by omega) (rfl) (hP) hS (lv_sub hl [0, 1, 2] rfl)
    exact loopu 3 _ 0 sd F M dn _ _ _ (by omega) (hJ0) (rfl) ⟨e0, e1, e2, e3, e4, e5, e6, e7, e8, e9, e10, e11, e12, e13, e14, e15, e16, e17, e18⟩ hP hS (lv_sub hl [0, 1] rfl)
  have loopa : ∀ (kk : Nat) (csL : Nat → va_E) (b : Nat) (bf1 : Nat → Nat) (H : Heap) (locs : List Loc) (ls : Array Slot), b + kk = qu → kv_ub dn qu 0 bf = kv_ub dn kk b bf1 → kR ad cI cZ csL la th st nx wi gp vl sa bo cy sd ma qu X F M po pd pa pb pn pm wh wd rg fr sp dn bf1 XA XB → va_P D kc (kw_w ad csL n) H → va_S (kw_A ad n) s.heap H locs → lv_has ls 5 [(1, .int (nI b)), (0, .ref (ad 0))] → W p l e (kr 5) s m [.ref (ad 0)].toArray below meth c H locs 0 0 (MQ below (va_Qv (fun c9 => kR ad cI cZ c9 la th st nx wi gp vl sa bo cy (kv_R_units_sd la sd qu F M po pd pa pb pm wh wd rg fr sp dn bf XA XB) ma qu X (kv_R_units_F la sd qu F M po pd pa pb pm wh wd rg fr sp dn bf XA XB) (kv_R_units_M la sd qu F M po pd pa pb pm wh wd rg fr sp dn bf XA XB) po pd pa pb pn pm wh wd rg fr sp (kv_R_units_dn la sd qu F M po pd pa pb pm wh wd rg fr sp dn bf XA XB) (kv_R_units_bf qu dn bf) XA XB) (kw_Pre D kc (ktR cI cZ) ad n) (kw_A ad n)) [.ref (ad 0)].toArray s 0 0 (kw_A ad n)) (F0 m 2 ls []) := by
    intro kk
    induction kk with
    | zero =>
      intro csL b bf1 H locs ls hbk hv hR9 hP hS hl
      obtain ⟨e0, e1, e2, e3, e4, e5, e6, e7, e8, e9, e10, e11, e12, e13, e14, e15, e16, e17, e18⟩ := hR9
      refine lv_iload_n hx hb d_R_units_2 rfl (lv_at hl 0 rfl) ?_
      refine lv_aload_n hx hb d_R_units_3 rfl (lv_at hl 1 rfl) ?_
      refine kw_get hx hb hg in_R hown hK hP 0 (Nat.lt_of_lt_of_le (by decide : 0 < 19) hn) e0 rfl 21 (by decide) (hg _ kg_604) rfl rfl d_R_units_4 ?_
      refine lv_icmp_ge (tgt := 28) hx hb d_R_units_7 (by decide) (fun _ => ?_) (fun h13 => absurd (nI_le (by omega) (by omega)) h13)
      exact KXa _ _ _ _ (by rw [show kv_ub dn qu 0 bf = bf1 from hv]; exact ⟨e0, e1, e2, e3, e4, e5, e6, e7, e8, e9, e10, e11, e12, e13, e14, e15, e16, e17, e18⟩) hP hS (by (first | (rw [show kv_ub dn qu 0 bf = bf1 from hv]) | skip); exact lv_sub hl [1] rfl)
    | succ j iha =>
      intro csL b bf1 H locs ls hbk hv hR9 hP hS hl
      obtain ⟨e0, e1, e2, e3, e4, e5, e6, e7, e8, e9, e10, e11, e12, e13, e14, e15, e16, e17, e18⟩ := hR9
      refine lv_iload_n hx hb d_R_units_2 rfl (lv_at hl 0 rfl) ?_
      refine lv_aload_n hx hb d_R_units_3 rfl (lv_at hl 1 rfl) ?_
      refine kw_get hx hb hg in_R hown hK hP 0 (Nat.lt_of_lt_of_le (by decide : 0 < 19) hn) e0 rfl 21 (by decide) (hg _ kg_604) rfl rfl d_R_units_4 ?_
      refine lv_icmp_ge (tgt := 28) hx hb d_R_units_7 (by decide) (fun h14 => absurd h14 (nI_ge (by omega) (by omega))) (fun _ => ?_)
      refine lv_aload_n hx hb d_R_units_10 rfl (lv_at hl 1 rfl) ?_
      refine kw_get hx hb hg in_R hown hK hP 0 (Nat.lt_of_lt_of_le (by decide : 0 < 19) hn) e0 rfl 28 (by decide) (hg _ kg_611) rfl rfl d_R_units_11 ?_
      refine lv_iload_n hx hb d_R_units_14 rfl (lv_at hl 0 rfl) ?_
      refine lv_aload_n hx hb d_R_units_15 rfl (lv_at hl 1 rfl) ?_
      refine kw_get hx hb hg in_R hown hK hP 0 (Nat.lt_of_lt_of_le (by decide : 0 < 19) hn) e0 rfl 27 (by decide) (hg _ kg_610) rfl rfl d_R_units_16 ?_
      refine lv_iload_n hx hb d_R_units_19 rfl (lv_at hl 0 rfl) ?_
      refine kw_iald hx hb hK hP 15 0 (Nat.lt_of_lt_of_le (by decide : 15 < 19) hn) e15 rfl b (rfl) ((by omega)) (by omega) d_R_units_20 ?_
      refine kw_iast hx hb hK hP hJ hA hS 16 0 (Nat.lt_of_lt_of_le (by decide : 16 < 19) hn) e16 rfl b (rfl) ((by omega)) (by omega) d_R_units_21 (fun H locs hP hS => ?_)
      rw [kw_upn] at hP
      obtain ⟨cs5, hccs5⟩ : ∃ z9, z9 = va_up csL 16 (.inl (cI, 5, .inl (fun i => nI ((va_up bf1 b (dn b)) i)))) := ⟨_, rfl⟩
      replace hP : va_P D kc (kw_w ad cs5 n) H := by rw [hccs5]; exact hP
      replace e0 := (congrFun hccs5 0).trans ((va_up_ne _ _ (by decide)).trans e0)
      replace e1 := (congrFun hccs5 1).trans ((va_up_ne _ _ (by decide)).trans e1)
      replace e2 := (congrFun hccs5 2).trans ((va_up_ne _ _ (by decide)).trans e2)
      replace e3 := (congrFun hccs5 3).trans ((va_up_ne _ _ (by decide)).trans e3)
      replace e4 := (congrFun hccs5 4).trans ((va_up_ne _ _ (by decide)).trans e4)
      replace e5 := (congrFun hccs5 5).trans ((va_up_ne _ _ (by decide)).trans e5)
      replace e6 := (congrFun hccs5 6).trans ((va_up_ne _ _ (by decide)).trans e6)
      replace e7 := (congrFun hccs5 7).trans ((va_up_ne _ _ (by decide)).trans e7)
      replace e8 := (congrFun hccs5 8).trans ((va_up_ne _ _ (by decide)).trans e8)
      replace e9 := (congrFun hccs5 9).trans ((va_up_ne _ _ (by decide)).trans e9)
      replace e10 := (congrFun hccs5 10).trans ((va_up_ne _ _ (by decide)).trans e10)
      replace e11 := (congrFun hccs5 11).trans ((va_up_ne _ _ (by decide)).trans e11)
      replace e12 := (congrFun hccs5 12).trans ((va_up_ne _ _ (by decide)).trans e12)
      replace e13 := (congrFun hccs5 13).trans ((va_up_ne _ _ (by decide)).trans e13)
      replace e14 := (congrFun hccs5 14).trans ((va_up_ne _ _ (by decide)).trans e14)
      replace e15 := (congrFun hccs5 15).trans ((va_up_ne _ _ (by decide)).trans e15)
      have e16 : cs5 16 = .inl (cI, 5, .inl (fun i => nI ((va_up bf1 b (dn b)) i))) := by rw [hccs5]; exact va_up_self _ _ _
      replace e17 := (congrFun hccs5 17).trans ((va_up_ne _ _ (by decide)).trans e17)
      replace e18 := (congrFun hccs5 18).trans ((va_up_ne _ _ (by decide)).trans e18)
      clear hccs5
      refine lv_iinc (k := 0) (v := nI (b + 1)) (lv' := [(1, .int (nI (b + 1))), (0, .ref (ad 0))]) hx hb d_R_units_22 hl rfl ((nI_succ b).symm) (by decide) rfl (fun ls hl => ?_)
      refine lv_goto (tgt := 2) hx hb d_R_units_25 (by decide) ?_
      exact iha _ ((b + 1)) _ _ _ _ (by omega) (hv) ⟨e0, e1, e2, e3, e4, e5, e6, e7, e8, e9, e10, e11, e12, e13, e14, e15, e16, e17, e18⟩ hP hS (lv_sub hl [0, 1] rfl)
  exact loopa qu _ 0 bf _ _ _ (by omega) (rfl) ⟨e0, e1, e2, e3, e4, e5, e6, e7, e8, e9, e10, e11, e12, e13, e14, e15, e16, e17, e18⟩ hP hS (lv_sub hl [0, 1] rfl)
