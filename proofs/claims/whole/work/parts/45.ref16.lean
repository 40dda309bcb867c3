/-! the reference: leaves -/
def kv_lv : Nat → Nat → Nat → (Nat → Nat) → (Nat → Nat) → (Nat → Nat) → (Nat → Nat) → (Nat → Nat) → (Nat → Nat) → (Nat → Nat) → (Nat → Int32) → (Nat → Int32) → Nat × (Nat → Nat) × (Nat → Nat) × (Nat → Nat) × (Nat → Nat) × (Nat → Nat) × (Nat → Nat) × (Nat → Nat) × (Nat → Int32) × (Nat → Int32)
  | 0, _, a, wh, wd, rg, fr, sp, dn, bf, XA, XB => (a, wh, wd, rg, fr, sp, dn, bf, XA, XB)
  | k + 1, b, a, wh, wd, rg, fr, sp, dn, bf, XA, XB => if nI (sp b) ≤ nI (dn b) then kv_lv k (b + 1) a wh wd rg fr sp dn bf XA XB else kv_lv k (b + 1) (a + 1) (va_up wh a (wh b)) (va_up wd a (wd b)) (va_up rg a (rg b)) (va_up fr a (fr b)) (va_up sp a (sp b)) (va_up dn a (dn b)) (va_up bf a (bf b)) (upd XA a (XA b)) (upd XB a (XB b))

def kv_R_leaves_qu (qu : Nat) (wh : Nat → Nat) (wd : Nat → Nat) (rg : Nat → Nat) (fr : Nat → Nat) (sp : Nat → Nat) (dn : Nat → Nat) (bf : Nat → Nat) (XA : Nat → Int32) (XB : Nat → Int32) : Nat := (kv_lv qu 0 0 wh wd rg fr sp dn bf XA XB).1
def kv_R_leaves_wh (qu : Nat) (wh : Nat → Nat) (wd : Nat → Nat) (rg : Nat → Nat) (fr : Nat → Nat) (sp : Nat → Nat) (dn : Nat → Nat) (bf : Nat → Nat) (XA : Nat → Int32) (XB : Nat → Int32) : Nat → Nat := (kv_lv qu 0 0 wh wd rg fr sp dn bf XA XB).2.1
def kv_R_leaves_wd (qu : Nat) (wh : Nat → Nat) (wd : Nat → Nat) (rg : Nat → Nat) (fr : Nat → Nat) (sp : Nat → Nat) (dn : Nat → Nat) (bf : Nat → Nat) (XA : Nat → Int32) (XB : Nat → Int32) : Nat → Nat := (kv_lv qu 0 0 wh wd rg fr sp dn bf XA XB).2.2.1
def kv_R_leaves_rg (qu : Nat) (wh : Nat → Nat) (wd : Nat → Nat) (rg : Nat → Nat) (fr : Nat → Nat) (sp : Nat → Nat) (dn : Nat → Nat) (bf : Nat → Nat) (XA : Nat → Int32) (XB : Nat → Int32) : Nat → Nat := (kv_lv qu 0 0 wh wd rg fr sp dn bf XA XB).2.2.2.1
def kv_R_leaves_fr (qu : Nat) (wh : Nat → Nat) (wd : Nat → Nat) (rg : Nat → Nat) (fr : Nat → Nat) (sp : Nat → Nat) (dn : Nat → Nat) (bf : Nat → Nat) (XA : Nat → Int32) (XB : Nat → Int32) : Nat → Nat := (kv_lv qu 0 0 wh wd rg fr sp dn bf XA XB).2.2.2.2.1
def kv_R_leaves_sp (qu : Nat) (wh : Nat → Nat) (wd : Nat → Nat) (rg : Nat → Nat) (fr : Nat → Nat) (sp : Nat → Nat) (dn : Nat → Nat) (bf : Nat → Nat) (XA : Nat → Int32) (XB : Nat → Int32) : Nat → Nat := (kv_lv qu 0 0 wh wd rg fr sp dn bf XA XB).2.2.2.2.2.1
def kv_R_leaves_dn (qu : Nat) (wh : Nat → Nat) (wd : Nat → Nat) (rg : Nat → Nat) (fr : Nat → Nat) (sp : Nat → Nat) (dn : Nat → Nat) (bf : Nat → Nat) (XA : Nat → Int32) (XB : Nat → Int32) : Nat → Nat := (kv_lv qu 0 0 wh wd rg fr sp dn bf XA XB).2.2.2.2.2.2.1
def kv_R_leaves_bf (qu : Nat) (wh : Nat → Nat) (wd : Nat → Nat) (rg : Nat → Nat) (fr : Nat → Nat) (sp : Nat → Nat) (dn : Nat → Nat) (bf : Nat → Nat) (XA : Nat → Int32) (XB : Nat → Int32) : Nat → Nat := (kv_lv qu 0 0 wh wd rg fr sp dn bf XA XB).2.2.2.2.2.2.2.1
def kv_R_leaves_XA (qu : Nat) (wh : Nat → Nat) (wd : Nat → Nat) (rg : Nat → Nat) (fr : Nat → Nat) (sp : Nat → Nat) (dn : Nat → Nat) (bf : Nat → Nat) (XA : Nat → Int32) (XB : Nat → Int32) : Nat → Int32 := (kv_lv qu 0 0 wh wd rg fr sp dn bf XA XB).2.2.2.2.2.2.2.2.1
def kv_R_leaves_XB (qu : Nat) (wh : Nat → Nat) (wd : Nat → Nat) (rg : Nat → Nat) (fr : Nat → Nat) (sp : Nat → Nat) (dn : Nat → Nat) (bf : Nat → Nat) (XA : Nat → Int32) (XB : Nat → Int32) : Nat → Int32 := (kv_lv qu 0 0 wh wd rg fr sp dn bf XA XB).2.2.2.2.2.2.2.2.2
set_option maxRecDepth 100000 in
set_option maxHeartbeats 4000000 in
theorem c_R_leaves (l : Launch) {D : va_G} {ad : Nat → Nat} {n : Nat} {cs : Nat → va_E} (hJ : kw_J ad n) {cI : ClassId} {cZ : ClassId} {la : Nat} {th : Int32} {st : Nat} {nx : Int32} {wi : Nat} {gp : Nat} {vl : Nat} {sa : Nat} {bo : Nat} {cy : Int32} {sd : Int32} {ma : Nat} {qu : Nat} {X : Nat → Int32} {F : Nat → Int32} {M : Nat → Int32} {po : Nat → Nat} {pd : Nat → Nat} {pa : Nat → Nat} {pb : Nat → Nat} {pn : Nat → Int32} {pm : Nat → Int32} {wh : Nat → Nat} {wd : Nat → Nat} {rg : Nat → Nat} {fr : Nat → Nat} {sp : Nat → Nat} {dn : Nat → Nat} {bf : Nat → Nat} {XA : Nat → Int32} {XB : Nat → Int32} (hn : 19 ≤ n) (hR : kR ad cI cZ cs la th st nx wi gp vl sa bo cy sd ma qu X F M po pd pa pb pn pm wh wd rg fr sp dn bf XA XB) (hqu : qu ≤ 4) : kw_mv l y_R_leaves w_R_leaves (kr 0) D kc (ktR cI cZ) ad n cs [.ref (ad 0)] (fun c9 => kR ad cI cZ c9 la th st nx wi gp vl sa bo cy sd ma (kv_R_leaves_qu qu wh wd rg fr sp dn bf XA XB) X F M po pd pa pb pn pm (kv_R_leaves_wh qu wh wd rg fr sp dn bf XA XB) (kv_R_leaves_wd qu wh wd rg fr sp dn bf XA XB) (kv_R_leaves_rg qu wh wd rg fr sp dn bf XA XB) (kv_R_leaves_fr qu wh wd rg fr sp dn bf XA XB) (kv_R_leaves_sp qu wh wd rg fr sp dn bf XA XB) (kv_R_leaves_dn qu wh wd rg fr sp dn bf XA XB) (kv_R_leaves_bf qu wh wd rg fr sp dn bf XA XB) (kv_R_leaves_XA qu wh wd rg fr sp dn bf XA XB) (kv_R_leaves_XB qu wh wd rg fr sp dn bf XA XB)) := by
  refine kw_of (cc := b_R_leaves) (maxL := 3) (ret := none) (by decide) rfl (Nat.le_of_ble_eq_true rfl) ?_
  intro p e s m below meth c ls hx hb hr hml hown hts hlocks hP hK hl
  have hg : ∀ w9 ∈ kg_G, w9.before [.ref (ad 0)].toArray s = true := fun w9 h9 => hts w9 (List.mem_cons_of_mem _ h9)
  have hown : s.vm.findClass "LaneMachineModel" = some m.cls := hown
  have hA : ∀ k, k < n → kw_A ad n (ad k) := fun k hk => ⟨k, hk, rfl⟩
  have hS : va_S (kw_A ad n) s.heap s.heap [] := va_S.rf
  have hl : lv_has ls 3 [(0, .ref (ad 0))] := hl
  obtain ⟨e0, e1, e2, e3, e4, e5, e6, e7, e8, e9, e10, e11, e12, e13, e14, e15, e16, e17, e18⟩ := hR
  refine lv_iconst (v := 0) hx hb d_R_leaves_0 (by decide) ?_
  refine lv_istore_n (lv' := [(1, .int 0), (0, .ref (ad 0))]) hx hb d_R_leaves_1 rfl hl (by decide) rfl (fun ls hl => ?_)
  refine lv_iconst (v := 0) hx hb d_R_leaves_2 (by decide) ?_
  refine lv_istore_n (lv' := [(2, .int 0), (1, .int 0), (0, .ref (ad 0))]) hx hb d_R_leaves_3 rfl hl (by decide) rfl (fun ls hl => ?_)
  have KXq : ∀ (csL : Nat → va_E) (H : Heap) (locs : List Loc) (ls : Array Slot), kR ad cI cZ csL la th st nx wi gp vl sa bo cy sd ma qu X F M po pd pa pb pn pm ((kv_lv qu 0 0 wh wd rg fr sp dn bf XA XB).2.1) ((kv_lv qu 0 0 wh wd rg fr sp dn bf XA XB).2.2.1) ((kv_lv qu 0 0 wh wd rg fr sp dn bf XA XB).2.2.2.1) ((kv_lv qu 0 0 wh wd rg fr sp dn bf XA XB).2.2.2.2.1) ((kv_lv qu 0 0 wh wd rg fr sp dn bf XA XB).2.2.2.2.2.1) ((kv_lv qu 0 0 wh wd rg fr sp dn bf XA XB).2.2.2.2.2.2.1) ((kv_lv qu 0 0 wh wd rg fr sp dn bf XA XB).2.2.2.2.2.2.2.1) ((kv_lv qu 0 0 wh wd rg fr sp dn bf XA XB).2.2.2.2.2.2.2.2.1) ((kv_lv qu 0 0 wh wd rg fr sp dn bf XA XB).2.2.2.2.2.2.2.2.2) → va_P D kc (kw_w ad csL n) H → va_S (kw_A ad n) s.heap H locs → lv_has ls 3 [(1, .int (nI (kv_lv qu 0 0 wh wd rg fr sp dn bf XA XB).1)), (0, .ref (ad 0))] → W p l e (kr 0) s m [.ref (ad 0)].toArray below meth c H locs 0 0 (MQ below (va_Qv (fun c9 => kR ad cI cZ c9 la th st nx wi gp vl sa bo cy sd ma (kv_R_leaves_qu qu wh wd rg fr sp dn bf XA XB) X F M po pd pa pb pn pm (kv_R_leaves_wh qu wh wd rg fr sp dn bf XA XB) (kv_R_leaves_wd qu wh wd rg fr sp dn bf XA XB) (kv_R_leaves_rg qu wh wd rg fr sp dn bf XA XB) (kv_R_leaves_fr qu wh wd rg fr sp dn bf XA XB) (kv_R_leaves_sp qu wh wd rg fr sp dn bf XA XB) (kv_R_leaves_dn qu wh wd rg fr sp dn bf XA XB) (kv_R_leaves_bf qu wh wd rg fr sp dn bf XA XB) (kv_R_leaves_XA qu wh wd rg fr sp dn bf XA XB) (kv_R_leaves_XB qu wh wd rg fr sp dn bf XA XB)) (kw_Pre D kc (ktR cI cZ) ad n) (kw_A ad n)) [.ref (ad 0)].toArray s 0 0 (kw_A ad n)) (F0 m 144 ls []) := by
    intro csL H locs ls hR9 hP hS hl
    obtain ⟨e0, e1, e2, e3, e4, e5, e6, e7, e8, e9, e10, e11, e12, e13, e14, e15, e16, e17, e18⟩ := hR9
    refine lv_aload_n hx hb d_R_leaves_144 rfl (lv_at hl 1 rfl) ?_
    refine lv_iload_n hx hb d_R_leaves_145 rfl (lv_at hl 0 rfl) ?_
    refine kw_put (ty := .int) hx hb hg in_R t_R ty_R nm_R hown hK hP hJ hA hS 0 (Nat.lt_of_lt_of_le (by decide : 0 < 19) hn) e0 rfl 21 (by decide) (hg _ kg_604) rfl rfl (by decide +kernel) rfl rfl (Nat.le_of_ble_eq_true rfl) d_R_leaves_146 (fun H locs hP hS => ?_)
    obtain ⟨cs1, hccs1⟩ : ∃ z9, z9 = va_up csL 0 (.inr (5, [.int (nI la), .int th, .int (nI st), .int nx, .int (nI wi), .int (nI gp), .int (nI vl), .int (nI sa), .int (nI bo), .int cy, .int sd, .ref (ad 1), .ref (ad 2), .ref (ad 3), .int (nI ma), .ref (ad 4), .ref (ad 5), .ref (ad 6), .ref (ad 7), .ref (ad 8), .ref (ad 9), .int (nI (kv_lv qu 0 0 wh wd rg fr sp dn bf XA XB).1), .ref (ad 10), .ref (ad 11), .ref (ad 12), .ref (ad 13), .ref (ad 14), .ref (ad 15), .ref (ad 16), .ref (ad 17), .ref (ad 18)])) := ⟨_, rfl⟩
    replace hP : va_P D kc (kw_w ad cs1 n) H := by rw [hccs1]; exact hP
    have e0 : cs1 0 = .inr (5, [.int (nI la), .int th, .int (nI st), .int nx, .int (nI wi), .int (nI gp), .int (nI vl), .int (nI sa), .int (nI bo), .int cy, .int sd, .ref (ad 1), .ref (ad 2), .ref (ad 3), .int (nI ma), .ref (ad 4), .ref (ad 5), .ref (ad 6), .ref (ad 7), .ref (ad 8), .ref (ad 9), .int (nI (kv_lv qu 0 0 wh wd rg fr sp dn bf XA XB).1), .ref (ad 10), .ref (ad 11), .ref (ad 12), .ref (ad 13), .ref (ad 14), .ref (ad 15), .ref (ad 16), .ref (ad 17), .ref (ad 18)]) := by rw [hccs1]; exact va_up_self _ _ _
    replace e1 := (congrFun hccs1 1).trans ((va_up_ne _ _ (by decide)).trans e1)
    replace e2 := (congrFun hccs1 2).trans ((va_up_ne _ _ (by decide)).trans e2)
    replace e3 := (congrFun hccs1 3).trans ((va_up_ne _ _ (by decide)).trans e3)
    replace e4 := (congrFun hccs1 4).trans ((va_up_ne _ _ (by decide)).trans e4)
    replace e5 := (congrFun hccs1 5).trans ((va_up_ne _ _ (by decide)).trans e5)
    replace e6 := (congrFun hccs1 6).trans ((va_up_ne _ _ (by decide)).trans e6)
    replace e7 := (congrFun hccs1 7).trans ((va_up_ne _ _ (by decide)).trans e7)
    replace e8 := (congrFun hccs1 8).trans ((va_up_ne _ _ (by decide)).trans e8)
    replace e9 := (congrFun hccs1 9).trans ((va_up_ne _ _ (by decide)).trans e9)
    replace e10 := (congrFun hccs1 10).trans ((va_up_ne _ _ (by decide)).trans e10)
    replace e11 := (congrFun hccs1 11).trans ((va_up_ne _ _ (by decide)).trans e11)
    replace e12 := (congrFun hccs1 12).trans ((va_up_ne _ _ (by decide)).trans e12)
    replace e13 := (congrFun hccs1 13).trans ((va_up_ne _ _ (by decide)).trans e13)
    replace e14 := (congrFun hccs1 14).trans ((va_up_ne _ _ (by decide)).trans e14)
    replace e15 := (congrFun hccs1 15).trans ((va_up_ne _ _ (by decide)).trans e15)
    replace e16 := (congrFun hccs1 16).trans ((va_up_ne _ _ (by decide)).trans e16)
    replace e17 := (congrFun hccs1 17).trans ((va_up_ne _ _ (by decide)).trans e17)
    replace e18 := (congrFun hccs1 18).trans ((va_up_ne _ _ (by decide)).trans e18)
    clear hccs1
    exact kw_vret hx hb hr hlocks hP hK hS (by rw [show kv_R_leaves_qu qu wh wd rg fr sp dn bf XA XB = (kv_lv qu 0 0 wh wd rg fr sp dn bf XA XB).1 from (by rw [kv_R_leaves_qu]), show kv_R_leaves_wh qu wh wd rg fr sp dn bf XA XB = (kv_lv qu 0 0 wh wd rg fr sp dn bf XA XB).2.1 from (by rw [kv_R_leaves_wh]), show kv_R_leaves_wd qu wh wd rg fr sp dn bf XA XB = (kv_lv qu 0 0 wh wd rg fr sp dn bf XA XB).2.2.1 from (by rw [kv_R_leaves_wd]), show kv_R_leaves_rg qu wh wd rg fr sp dn bf XA XB = (kv_lv qu 0 0 wh wd rg fr sp dn bf XA XB).2.2.2.1 from (by rw [kv_R_leaves_rg]), show kv_R_leaves_fr qu wh wd rg fr sp dn bf XA XB = (kv_lv qu 0 0 wh wd rg fr sp dn bf XA XB).2.2.2.2.1 from (by rw [kv_R_leaves_fr]), show kv_R_leaves_sp qu wh wd rg fr sp dn bf XA XB = (kv_lv qu 0 0 wh wd rg fr sp dn bf XA XB).2.2.2.2.2.1 from (by rw [kv_R_leaves_sp]), show kv_R_leaves_dn qu wh wd rg fr sp dn bf XA XB = (kv_lv qu 0 0 wh wd rg fr sp dn bf XA XB).2.2.2.2.2.2.1 from (by rw [kv_R_leaves_dn]), show kv_R_leaves_bf qu wh wd rg fr sp dn bf XA XB = (kv_lv qu 0 0 wh wd rg fr sp dn bf XA XB).2.2.2.2.2.2.2.1 from (by rw [kv_R_leaves_bf]), show kv_R_leaves_XA qu wh wd rg fr sp dn bf XA XB = (kv_lv qu 0 0 wh wd rg fr sp dn bf XA XB).2.2.2.2.2.2.2.2.1 from (by rw [kv_R_leaves_XA]), show kv_R_leaves_XB qu wh wd rg fr sp dn bf XA XB = (kv_lv qu 0 0 wh wd rg fr sp dn bf XA XB).2.2.2.2.2.2.2.2.2 from (by rw [kv_R_leaves_XB])]; exact ⟨e0, e1, e2, e3, e4, e5, e6, e7, e8, e9, e10, e11, e12, e13, e14, e15, e16, e17, e18⟩) d_R_leaves_149
  have loopq : ∀ (kk : Nat) (csL : Nat → va_E) (b : Nat) (a : Nat) (wh1 : Nat → Nat) (wd1 : Nat → Nat) (rg1 : Nat → Nat) (fr1 : Nat → Nat) (sp1 : Nat → Nat) (dn1 : Nat → Nat) (bf1 : Nat → Nat) (XA1 : Nat → Int32) (XB1 : Nat → Int32) (H : Heap) (locs : List Loc) (ls : Array Slot), b + kk = qu → a ≤ b → kv_lv qu 0 0 wh wd rg fr sp dn bf XA XB = kv_lv kk b a wh1 wd1 rg1 fr1 sp1 dn1 bf1 XA1 XB1 → kR ad cI cZ csL la th st nx wi gp vl sa bo cy sd ma qu X F M po pd pa pb pn pm wh1 wd1 rg1 fr1 sp1 dn1 bf1 XA1 XB1 → va_P D kc (kw_w ad csL n) H → va_S (kw_A ad n) s.heap H locs → lv_has ls 3 [(2, .int (nI b)), (1, .int (nI a)), (0, .ref (ad 0))] → W p l e (kr 0) s m [.ref (ad 0)].toArray below meth c H locs 0 0 (MQ below (va_Qv (fun c9 => kR ad cI cZ c9 la th st nx wi gp vl sa bo cy sd ma (kv_R_leaves_qu qu wh wd rg fr sp dn bf XA XB) X F M po pd pa pb pn pm (kv_R_leaves_wh qu wh wd rg fr sp dn bf XA XB) (kv_R_leaves_wd qu wh wd rg fr sp dn bf XA XB) (kv_R_leaves_rg qu wh wd rg fr sp dn bf XA XB) (kv_R_leaves_fr qu wh wd rg fr sp dn bf XA XB) (kv_R_leaves_sp qu wh wd rg fr sp dn bf XA XB) (kv_R_leaves_dn qu wh wd rg fr sp dn bf XA XB) (kv_R_leaves_bf qu wh wd rg fr sp dn bf XA XB) (kv_R_leaves_XA qu wh wd rg fr sp dn bf XA XB) (kv_R_leaves_XB qu wh wd rg fr sp dn bf XA XB)) (kw_Pre D kc (ktR cI cZ) ad n) (kw_A ad n)) [.ref (ad 0)].toArray s 0 0 (kw_A ad n)) (F0 m 4 ls []) := by
    intro kk
    induction kk with
    | zero =>
      intro csL b a wh1 wd1 rg1 fr1 sp1 dn1 bf1 XA1 XB1 H locs ls hbk hab hv hR9 hP hS hl
      obtain ⟨e0, e1, e2, e3, e4, e5, e6, e7, e8, e9, e10, e11, e12, e13, e14, e15, e16, e17, e18⟩ := hR9
      refine lv_iload_n hx hb d_R_leaves_4 rfl (lv_at hl 0 rfl) ?_
      refine lv_aload_n hx hb d_R_leaves_5 rfl (lv_at hl 2 rfl) ?_
      refine kw_get hx hb hg in_R hown hK hP 0 (Nat.lt_of_lt_of_le (by decide : 0 < 19) hn) e0 rfl 21 (by decide) (hg _ kg_604) rfl rfl d_R_leaves_6 ?_
      refine lv_icmp_ge (tgt := 144) hx hb d_R_leaves_9 (by decide) (fun _ => ?_) (fun h1 => absurd (nI_le (by omega) (by omega)) h1)
      exact KXq _ _ _ _ (by rw [show kv_lv qu 0 0 wh wd rg fr sp dn bf XA XB = (a, wh1, wd1, rg1, fr1, sp1, dn1, bf1, XA1, XB1) from hv]; exact ⟨e0, e1, e2, e3, e4, e5, e6, e7, e8, e9, e10, e11, e12, e13, e14, e15, e16, e17, e18⟩) hP hS (by (first | (rw [show kv_lv qu 0 0 wh wd rg fr sp dn bf XA XB = (a, wh1, wd1, rg1, fr1, sp1, dn1, bf1, XA1, XB1) from hv]) | skip); exact lv_sub hl [1, 2] rfl)
    | succ j ihq =>
      intro csL b a wh1 wd1 rg1 fr1 sp1 dn1 bf1 XA1 XB1 H locs ls hbk hab hv hR9 hP hS hl
      obtain ⟨e0, e1, e2, e3, e4, e5, e6, e7, e8, e9, e10, e11, e12, e13, e14, e15, e16, e17, e18⟩ := hR9
      refine lv_iload_n hx hb d_R_leaves_4 rfl (lv_at hl 0 rfl) ?_
      refine lv_aload_n hx hb d_R_leaves_5 rfl (lv_at hl 2 rfl) ?_
      refine kw_get hx hb hg in_R hown hK hP 0 (Nat.lt_of_lt_of_le (by decide : 0 < 19) hn) e0 rfl 21 (by decide) (hg _ kg_604) rfl rfl d_R_leaves_6 ?_
      refine lv_icmp_ge (tgt := 144) hx hb d_R_leaves_9 (by decide) (fun h2 => absurd h2 (nI_ge (by omega) (by omega))) (fun _ => ?_)
      refine lv_aload_n hx hb d_R_leaves_12 rfl (lv_at hl 2 rfl) ?_
      refine kw_get hx hb hg in_R hown hK hP 0 (Nat.lt_of_lt_of_le (by decide : 0 < 19) hn) e0 rfl 27 (by decide) (hg _ kg_610) rfl rfl d_R_leaves_13 ?_
      refine lv_iload_n hx hb d_R_leaves_16 rfl (lv_at hl 0 rfl) ?_
      refine kw_iald hx hb hK hP 15 0 (Nat.lt_of_lt_of_le (by decide : 15 < 19) hn) e15 rfl b (rfl) ((by omega)) (by omega) d_R_leaves_17 ?_
      refine lv_aload_n hx hb d_R_leaves_18 rfl (lv_at hl 2 rfl) ?_
      refine kw_get hx hb hg in_R hown hK hP 0 (Nat.lt_of_lt_of_le (by decide : 0 < 19) hn) e0 rfl 26 (by decide) (hg _ kg_609) rfl rfl d_R_leaves_19 ?_
      refine lv_iload_n hx hb d_R_leaves_22 rfl (lv_at hl 0 rfl) ?_
      refine kw_iald hx hb hK hP 14 0 (Nat.lt_of_lt_of_le (by decide : 14 < 19) hn) e14 rfl b (rfl) ((by omega)) (by omega) d_R_leaves_23 ?_
      refine lv_icmp_ge (tgt := 138) hx hb d_R_leaves_24 (by decide) (fun h3 => ?_) (fun h3 => ?_)
      · refine lv_iinc (k := 0) (v := nI (b + 1)) (lv' := [(2, .int (nI (b + 1))), (1, .int (nI a)), (0, .ref (ad 0))]) hx hb d_R_leaves_138 hl rfl ((nI_succ b).symm) (by decide) rfl (fun ls hl => ?_)
        refine lv_goto (tgt := 4) hx hb d_R_leaves_141 (by decide) ?_
        exact ihq _ ((b + 1)) _ _ _ _ _ _ _ _ _ _ _ _ _ (by omega) (by omega) (by rw [hv, kv_lv, if_pos h3]) ⟨e0, e1, e2, e3, e4, e5, e6, e7, e8, e9, e10, e11, e12, e13, e14, e15, e16, e17, e18⟩ hP hS (lv_sub hl [0, 1, 2] rfl)
      · refine lv_aload_n hx hb d_R_leaves_27 rfl (lv_at hl 2 rfl) ?_
        refine kw_get hx hb hg in_R hown hK hP 0 (Nat.lt_of_lt_of_le (by decide : 0 < 19) hn) e0 rfl 22 (by decide) (hg _ kg_605) rfl rfl d_R_leaves_28 ?_
        refine lv_iload_n hx hb d_R_leaves_31 rfl (lv_at hl 1 rfl) ?_
        refine lv_aload_n hx hb d_R_leaves_32 rfl (lv_at hl 2 rfl) ?_
        refine kw_get hx hb hg in_R hown hK hP 0 (Nat.lt_of_lt_of_le (by decide : 0 < 19) hn) e0 rfl 22 (by decide) (hg _ kg_605) rfl rfl d_R_leaves_33 ?_
        refine lv_iload_n hx hb d_R_leaves_36 rfl (lv_at hl 0 rfl) ?_
        refine kw_iald hx hb hK hP 10 0 (Nat.lt_of_lt_of_le (by decide : 10 < 19) hn) e10 rfl b (rfl) ((by omega)) (by omega) d_R_leaves_37 ?_
        refine kw_iast hx hb hK hP hJ hA hS 10 0 (Nat.lt_of_lt_of_le (by decide : 10 < 19) hn) e10 rfl a (rfl) ((by omega)) (by omega) d_R_leaves_38 (fun H locs hP hS => ?_)
        rw [kw_upn] at hP
        obtain ⟨cs2, hccs2⟩ : ∃ z9, z9 = va_up csL 10 (.inl (cI, 5, .inl (fun i => nI ((va_up wh1 a (wh1 b)) i)))) := ⟨_, rfl⟩
        replace hP : va_P D kc (kw_w ad cs2 n) H := by rw [hccs2]; exact hP
        replace e0 := (congrFun hccs2 0).trans ((va_up_ne _ _ (by decide)).trans e0)
        replace e1 := (congrFun hccs2 1).trans ((va_up_ne _ _ (by decide)).trans e1)
        replace e2 := (congrFun hccs2 2).trans ((va_up_ne _ _ (by decide)).trans e2)
        replace e3 := (congrFun hccs2 3).trans ((va_up_ne _ _ (by decide)).trans e3)
        replace e4 := (congrFun hccs2 4).trans ((va_up_ne _ _ (by decide)).trans e4)
        replace e5 := (congrFun hccs2 5).trans ((va_up_ne _ _ (by decide)).trans e5)
        replace e6 := (congrFun hccs2 6).trans ((va_up_ne _ _ (by decide)).trans e6)
        replace e7 := (congrFun hccs2 7).trans ((va_up_ne _ _ (by decide)).trans e7)
        replace e8 := (congrFun hccs2 8).trans ((va_up_ne _ _ (by decide)).trans e8)
        replace e9 := (congrFun hccs2 9).trans ((va_up_ne _ _ (by decide)).trans e9)
        have e10 : cs2 10 = .inl (cI, 5, .inl (fun i => nI ((va_up wh1 a (wh1 b)) i))) := by rw [hccs2]; exact va_up_self _ _ _
        replace e11 := (congrFun hccs2 11).trans ((va_up_ne _ _ (by decide)).trans e11)
        replace e12 := (congrFun hccs2 12).trans ((va_up_ne _ _ (by decide)).trans e12)
        replace e13 := (congrFun hccs2 13).trans ((va_up_ne _ _ (by decide)).trans e13)
        replace e14 := (congrFun hccs2 14).trans ((va_up_ne _ _ (by decide)).trans e14)
        replace e15 := (congrFun hccs2 15).trans ((va_up_ne _ _ (by decide)).trans e15)
        replace e16 := (congrFun hccs2 16).trans ((va_up_ne _ _ (by decide)).trans e16)
        replace e17 := (congrFun hccs2 17).trans ((va_up_ne _ _ (by decide)).trans e17)
        replace e18 := (congrFun hccs2 18).trans ((va_up_ne _ _ (by decide)).trans e18)
        clear hccs2
        refine lv_aload_n hx hb d_R_leaves_39 rfl (lv_at hl 2 rfl) ?_
        refine kw_get hx hb hg in_R hown hK hP 0 (Nat.lt_of_lt_of_le (by decide : 0 < 19) hn) e0 rfl 23 (by decide) (hg _ kg_606) rfl rfl d_R_leaves_40 ?_
        refine lv_iload_n hx hb d_R_leaves_43 rfl (lv_at hl 1 rfl) ?_
        refine lv_aload_n hx hb d_R_leaves_44 rfl (lv_at hl 2 rfl) ?_
        refine kw_get hx hb hg in_R hown hK hP 0 (Nat.lt_of_lt_of_le (by decide : 0 < 19) hn) e0 rfl 23 (by decide) (hg _ kg_606) rfl rfl d_R_leaves_45 ?_
        refine lv_iload_n hx hb d_R_leaves_48 rfl (lv_at hl 0 rfl) ?_
        refine kw_iald hx hb hK hP 11 0 (Nat.lt_of_lt_of_le (by decide : 11 < 19) hn) e11 rfl b (rfl) ((by omega)) (by omega) d_R_leaves_49 ?_
        refine kw_iast hx hb hK hP hJ hA hS 11 0 (Nat.lt_of_lt_of_le (by decide : 11 < 19) hn) e11 rfl a (rfl) ((by omega)) (by omega) d_R_leaves_50 (fun H locs hP hS => ?_)
        rw [kw_upn] at hP
        obtain ⟨cs3, hccs3⟩ : ∃ z9, z9 = va_up cs2 11 (.inl (cI, 5, .inl (fun i => nI ((va_up wd1 a (wd1 b)) i)))) := ⟨_, rfl⟩
        replace hP : va_P D kc (kw_w ad cs3 n) H := by rw [hccs3]; exact hP
        replace e0 := (congrFun hccs3 0).trans ((va_up_ne _ _ (by decide)).trans e0)
        replace e1 := (congrFun hccs3 1).trans ((va_up_ne _ _ (by decide)).trans e1)
        replace e2 := (congrFun hccs3 2).trans ((va_up_ne _ _ (by decide)).trans e2)
        replace e3 := (congrFun hccs3 3).trans ((va_up_ne _ _ (by decide)).trans e3)
        replace e4 := (congrFun hccs3 4).trans ((va_up_ne _ _ (by decide)).trans e4)
        replace e5 := (congrFun hccs3 5).trans ((va_up_ne _ _ (by decide)).trans e5)
        replace e6 := (congrFun hccs3 6).trans ((va_up_ne _ _ (by decide)).trans e6)
        replace e7 := (congrFun hccs3 7).trans ((va_up_ne _ _ (by decide)).trans e7)
        replace e8 := (congrFun hccs3 8).trans ((va_up_ne _ _ (by decide)).trans e8)
        replace e9 := (congrFun hccs3 9).trans ((va_up_ne _ _ (by decide)).trans e9)
        replace e10 := (congrFun hccs3 10).trans ((va_up_ne _ _ (by decide)).trans e10)
        have e11 : cs3 11 = .inl (cI, 5, .inl (fun i => nI ((va_up wd1 a (wd1 b)) i))) := by rw [hccs3]; exact va_up_self _ _ _
        replace e12 := (congrFun hccs3 12).trans ((va_up_ne _ _ (by decide)).trans e12)
        replace e13 := (congrFun hccs3 13).trans ((va_up_ne _ _ (by decide)).trans e13)
        replace e14 := (congrFun hccs3 14).trans ((va_up_ne _ _ (by decide)).trans e14)
        replace e15 := (congrFun hccs3 15).trans ((va_up_ne _ _ (by decide)).trans e15)
        replace e16 := (congrFun hccs3 16).trans ((va_up_ne _ _ (by decide)).trans e16)
        replace e17 := (congrFun hccs3 17).trans ((va_up_ne _ _ (by decide)).trans e17)
        replace e18 := (congrFun hccs3 18).trans ((va_up_ne _ _ (by decide)).trans e18)
        clear hccs3
        refine lv_aload_n hx hb d_R_leaves_51 rfl (lv_at hl 2 rfl) ?_
        refine kw_get hx hb hg in_R hown hK hP 0 (Nat.lt_of_lt_of_le (by decide : 0 < 19) hn) e0 rfl 24 (by decide) (hg _ kg_607) rfl rfl d_R_leaves_52 ?_
        refine lv_iload_n hx hb d_R_leaves_55 rfl (lv_at hl 1 rfl) ?_
        refine lv_aload_n hx hb d_R_leaves_56 rfl (lv_at hl 2 rfl) ?_
        refine kw_get hx hb hg in_R hown hK hP 0 (Nat.lt_of_lt_of_le (by decide : 0 < 19) hn) e0 rfl 24 (by decide) (hg _ kg_607) rfl rfl d_R_leaves_57 ?_
        refine lv_iload_n hx hb d_R_leaves_60 rfl (lv_at hl 0 rfl) ?_
        refine kw_iald hx hb hK hP 12 0 (Nat.lt_of_lt_of_le (by decide : 12 < 19) hn) e12 rfl b (rfl) ((by omega)) (by omega) d_R_leaves_61 ?_
        refine kw_iast hx hb hK hP hJ hA hS 12 0 (Nat.lt_of_lt_of_le (by decide : 12 < 19) hn) e12 rfl a (rfl) ((by omega)) (by omega) d_R_leaves_62 (fun H locs hP hS => ?_)
        rw [kw_upn] at hP
        obtain ⟨cs4, hccs4⟩ : ∃ z9, z9 = va_up cs3 12 (.inl (cI, 5, .inl (fun i => nI ((va_up rg1 a (rg1 b)) i)))) := ⟨_, rfl⟩
        replace hP : va_P D kc (kw_w ad cs4 n) H := by rw [hccs4]; exact hP
        replace e0 := (congrFun hccs4 0).trans ((va_up_ne _ _ (by decide)).trans e0)
        replace e1 := (congrFun hccs4 1).trans ((va_up_ne _ _ (by decide)).trans e1)
        replace e2 := (congrFun hccs4 2).trans ((va_up_ne _ _ (by decide)).trans e2)
        replace e3 := (congrFun hccs4 3).trans ((va_up_ne _ _ (by decide)).trans e3)
        replace e4 := (congrFun hccs4 4).trans ((va_up_ne _ _ (by decide)).trans e4)
        replace e5 := (congrFun hccs4 5).trans ((va_up_ne _ _ (by decide)).trans e5)
        replace e6 := (congrFun hccs4 6).trans ((va_up_ne _ _ (by decide)).trans e6)
        replace e7 := (congrFun hccs4 7).trans ((va_up_ne _ _ (by decide)).trans e7)
        replace e8 := (congrFun hccs4 8).trans ((va_up_ne _ _ (by decide)).trans e8)
        replace e9 := (congrFun hccs4 9).trans ((va_up_ne _ _ (by decide)).trans e9)
        replace e10 := (congrFun hccs4 10).trans ((va_up_ne _ _ (by decide)).trans e10)
        replace e11 := (congrFun hccs4 11).trans ((va_up_ne _ _ (by decide)).trans e11)
        have e12 : cs4 12 = .inl (cI, 5, .inl (fun i => nI ((va_up rg1 a (rg1 b)) i))) := by rw [hccs4]; exact va_up_self _ _ _
        replace e13 := (congrFun hccs4 13).trans ((va_up_ne _ _ (by decide)).trans e13)
        replace e14 := (congrFun hccs4 14).trans ((va_up_ne _ _ (by decide)).trans e14)
        replace e15 := (congrFun hccs4 15).trans ((va_up_ne _ _ (by decide)).trans e15)
        replace e16 := (congrFun hccs4 16).trans ((va_up_ne _ _ (by decide)).trans e16)
        replace e17 := (congrFun hccs4 17).trans ((va_up_ne _ _ (by decide)).trans e17)
        replace e18 := (congrFun hccs4 18).trans ((va_up_ne _ _ (by decide)).trans e18)
        clear hccs4
        refine lv_aload_n hx hb d_R_leaves_63 rfl (lv_at hl 2 rfl) ?_
        refine kw_get hx hb hg in_R hown hK hP 0 (Nat.lt_of_lt_of_le (by decide : 0 < 19) hn) e0 rfl 25 (by decide) (hg _ kg_608) rfl rfl d_R_leaves_64 ?_
        refine lv_iload_n hx hb d_R_leaves_67 rfl (lv_at hl 1 rfl) ?_
        refine lv_aload_n hx hb d_R_leaves_68 rfl (lv_at hl 2 rfl) ?_
        refine kw_get hx hb hg in_R hown hK hP 0 (Nat.lt_of_lt_of_le (by decide : 0 < 19) hn) e0 rfl 25 (by decide) (hg _ kg_608) rfl rfl d_R_leaves_69 ?_
        refine lv_iload_n hx hb d_R_leaves_72 rfl (lv_at hl 0 rfl) ?_
        refine kw_iald hx hb hK hP 13 0 (Nat.lt_of_lt_of_le (by decide : 13 < 19) hn) e13 rfl b (rfl) ((by omega)) (by omega) d_R_leaves_73 ?_
        refine kw_iast hx hb hK hP hJ hA hS 13 0 (Nat.lt_of_lt_of_le (by decide : 13 < 19) hn) e13 rfl a (rfl) ((by omega)) (by omega) d_R_leaves_74 (fun H locs hP hS => ?_)
        rw [kw_upn] at hP
        obtain ⟨cs5, hccs5⟩ : ∃ z9, z9 = va_up cs4 13 (.inl (cI, 5, .inl (fun i => nI ((va_up fr1 a (fr1 b)) i)))) := ⟨_, rfl⟩
        replace hP : va_P D kc (kw_w ad cs5 n) H := by rw [hccs5]; exact hP
        replace e0 := (congrFun hccs5 0).trans ((va_up_ne _ _ (by decide)).trans e0)
        replace e1 := (congrFun hccs5 1).trans ((va_up_ne _ _ (by decide)).trans e1)
        replace e2 := (congrFun hccs5 2).trans ((va_up_ne _ _ (by decide)).trans e2)
        replace e3 := (congrFun hccs5 3).trans ((va_up_ne _ _ (by decide)).trans e3)
        replace e4 := (congrFun hccs5 4).trans ((va_up_ne _ _ (by decide)).trans e4)
        replace e5 := (congrFun hccs5 5).trans ((va_up_ne _ _ (by decide)).trans e5)
        replace e6 := (congrFun hccs5 6).trans ((va_up_ne _ _ (by decide)).trans e6)
        replace e7 := (congrFun hccs5 7).trans ((va_up_ne _ _ (by decide)).trans e7)
        replace e8 := (congrFun hccs5 8).trans ((va_up_ne _ _ (by decide)).trans e8)
        replace e9 := (congrFun hccs5 9).trans ((va_up_ne _ _ (by decide)).trans e9)
        replace e10 := (congrFun hccs5 10).trans ((va_up_ne _ _ (by decide)).trans e10)
        replace e11 := (congrFun hccs5 11).trans ((va_up_ne _ _ (by decide)).trans e11)
        replace e12 := (congrFun hccs5 12).trans ((va_up_ne _ _ (by decide)).trans e12)
        have e13 : cs5 13 = .inl (cI, 5, .inl (fun i => nI ((va_up fr1 a (fr1 b)) i))) := by rw [hccs5]; exact va_up_self _ _ _
        replace e14 := (congrFun hccs5 14).trans ((va_up_ne _ _ (by decide)).trans e14)
        replace e15 := (congrFun hccs5 15).trans ((va_up_ne _ _ (by decide)).trans e15)
        replace e16 := (congrFun hccs5 16).trans ((va_up_ne _ _ (by decide)).trans e16)
        replace e17 := (congrFun hccs5 17).trans ((va_up_ne _ _ (by decide)).trans e17)
        replace e18 := (congrFun hccs5 18).trans ((va_up_ne _ _ (by decide)).trans e18)
        clear hccs5
        refine lv_aload_n hx hb d_R_leaves_75 rfl (lv_at hl 2 rfl) ?_
        refine kw_get hx hb hg in_R hown hK hP 0 (Nat.lt_of_lt_of_le (by decide : 0 < 19) hn) e0 rfl 26 (by decide) (hg _ kg_609) rfl rfl d_R_leaves_76 ?_
        refine lv_iload_n hx hb d_R_leaves_79 rfl (lv_at hl 1 rfl) ?_
        refine lv_aload_n hx hb d_R_leaves_80 rfl (lv_at hl 2 rfl) ?_
        refine kw_get hx hb hg in_R hown hK hP 0 (Nat.lt_of_lt_of_le (by decide : 0 < 19) hn) e0 rfl 26 (by decide) (hg _ kg_609) rfl rfl d_R_leaves_81 ?_
        refine lv_iload_n hx hb d_R_leaves_84 rfl (lv_at hl 0 rfl) ?_
        refine kw_iald hx hb hK hP 14 0 (Nat.lt_of_lt_of_le (by decide : 14 < 19) hn) e14 rfl b (rfl) ((by omega)) (by omega) d_R_leaves_85 ?_
        refine kw_iast hx hb hK hP hJ hA hS 14 0 (Nat.lt_of_lt_of_le (by decide : 14 < 19) hn) e14 rfl a (rfl) ((by omega)) (by omega) d_R_leaves_86 (fun H locs hP hS => ?_)
        rw [kw_upn] at hP
        obtain ⟨cs6, hccs6⟩ : ∃ z9, z9 = va_up cs5 14 (.inl (cI, 5, .inl (fun i => nI ((va_up sp1 a (sp1 b)) i)))) := ⟨_, rfl⟩
        replace hP : va_P D kc (kw_w ad cs6 n) H := by rw [hccs6]; exact hP
        replace e0 := (congrFun hccs6 0).trans ((va_up_ne _ _ (by decide)).trans e0)
        replace e1 := (congrFun hccs6 1).trans ((va_up_ne _ _ (by decide)).trans e1)
        replace e2 := (congrFun hccs6 2).trans ((va_up_ne _ _ (by decide)).trans e2)
        replace e3 := (congrFun hccs6 3).trans ((va_up_ne _ _ (by decide)).trans e3)
        replace e4 := (congrFun hccs6 4).trans ((va_up_ne _ _ (by decide)).trans e4)
        replace e5 := (congrFun hccs6 5).trans ((va_up_ne _ _ (by decide)).trans e5)
        replace e6 := (congrFun hccs6 6).trans ((va_up_ne _ _ (by decide)).trans e6)
        replace e7 := (congrFun hccs6 7).trans ((va_up_ne _ _ (by decide)).trans e7)
        replace e8 := (congrFun hccs6 8).trans ((va_up_ne _ _ (by decide)).trans e8)
        replace e9 := (congrFun hccs6 9).trans ((va_up_ne _ _ (by decide)).trans e9)
        replace e10 := (congrFun hccs6 10).trans ((va_up_ne _ _ (by decide)).trans e10)
        replace e11 := (congrFun hccs6 11).trans ((va_up_ne _ _ (by decide)).trans e11)
        replace e12 := (congrFun hccs6 12).trans ((va_up_ne _ _ (by decide)).trans e12)
        replace e13 := (congrFun hccs6 13).trans ((va_up_ne _ _ (by decide)).trans e13)
        have e14 : cs6 14 = .inl (cI, 5, .inl (fun i => nI ((va_up sp1 a (sp1 b)) i))) := by rw [hccs6]; exact va_up_self _ _ _
        replace e15 := (congrFun hccs6 15).trans ((va_up_ne _ _ (by decide)).trans e15)
        replace e16 := (congrFun hccs6 16).trans ((va_up_ne _ _ (by decide)).trans e16)
        replace e17 := (congrFun hccs6 17).trans ((va_up_ne _ _ (by decide)).trans e17)
        replace e18 := (congrFun hccs6 18).trans ((va_up_ne _ _ (by decide)).trans e18)
        clear hccs6
        refine lv_aload_n hx hb d_R_leaves_87 rfl (lv_at hl 2 rfl) ?_
        refine kw_get hx hb hg in_R hown hK hP 0 (Nat.lt_of_lt_of_le (by decide : 0 < 19) hn) e0 rfl 27 (by decide) (hg _ kg_610) rfl rfl d_R_leaves_88 ?_
        refine lv_iload_n hx hb d_R_leaves_91 rfl (lv_at hl 1 rfl) ?_
        refine lv_aload_n hx hb d_R_leaves_92 rfl (lv_at hl 2 rfl) ?_
        refine kw_get hx hb hg in_R hown hK hP 0 (Nat.lt_of_lt_of_le (by decide : 0 < 19) hn) e0 rfl 27 (by decide) (hg _ kg_610) rfl rfl d_R_leaves_93 ?_
        refine lv_iload_n hx hb d_R_leaves_96 rfl (lv_at hl 0 rfl) ?_
        refine kw_iald hx hb hK hP 15 0 (Nat.lt_of_lt_of_le (by decide : 15 < 19) hn) e15 rfl b (rfl) ((by omega)) (by omega) d_R_leaves_97 ?_
        refine kw_iast hx hb hK hP hJ hA hS 15 0 (Nat.lt_of_lt_of_le (by decide : 15 < 19) hn) e15 rfl a (rfl) ((by omega)) (by omega) d_R_leaves_98 (fun H locs hP hS => ?_)
        rw [kw_upn] at hP
        obtain ⟨cs7, hccs7⟩ : ∃ z9, z9 = va_up cs6 15 (.inl (cI, 5, .inl (fun i => nI ((va_up dn1 a (dn1 b)) i)))) := ⟨_, rfl⟩
        replace hP : va_P D kc (kw_w ad cs7 n) H := by rw [hccs7]; exact hP
        replace e0 := (congrFun hccs7 0).trans ((va_up_ne _ _ (by decide)).trans e0)
        replace e1 := (congrFun hccs7 1).trans ((va_up_ne _ _ (by decide)).trans e1)
        replace e2 := (congrFun hccs7 2).trans ((va_up_ne _ _ (by decide)).trans e2)
        replace e3 := (congrFun hccs7 3).trans ((va_up_ne _ _ (by decide)).trans e3)
        replace e4 := (congrFun hccs7 4).trans ((va_up_ne _ _ (by decide)).trans e4)
        replace e5 := (congrFun hccs7 5).trans ((va_up_ne _ _ (by decide)).trans e5)
        replace e6 := (congrFun hccs7 6).trans ((va_up_ne _ _ (by decide)).trans e6)
        replace e7 := (congrFun hccs7 7).trans ((va_up_ne _ _ (by decide)).trans e7)
        replace e8 := (congrFun hccs7 8).trans ((va_up_ne _ _ (by decide)).trans e8)
        replace e9 := (congrFun hccs7 9).trans ((va_up_ne _ _ (by decide)).trans e9)
        replace e10 := (congrFun hccs7 10).trans ((va_up_ne _ _ (by decide)).trans e10)
        replace e11 := (congrFun hccs7 11).trans ((va_up_ne _ _ (by decide)).trans e11)
        replace e12 := (congrFun hccs7 12).trans ((va_up_ne _ _ (by decide)).trans e12)
        replace e13 := (congrFun hccs7 13).trans ((va_up_ne _ _ (by decide)).trans e13)
        replace e14 := (congrFun hccs7 14).trans ((va_up_ne _ _ (by decide)).trans e14)
        have e15 : cs7 15 = .inl (cI, 5, .inl (fun i => nI ((va_up dn1 a (dn1 b)) i))) := by rw [hccs7]; exact va_up_self _ _ _
        replace e16 := (congrFun hccs7 16).trans ((va_up_ne _ _ (by decide)).trans e16)
        replace e17 := (congrFun hccs7 17).trans ((va_up_ne _ _ (by decide)).trans e17)
        replace e18 := (congrFun hccs7 18).trans ((va_up_ne _ _ (by decide)).trans e18)
        clear hccs7
        refine lv_aload_n hx hb d_R_leaves_99 rfl (lv_at hl 2 rfl) ?_
        refine kw_get hx hb hg in_R hown hK hP 0 (Nat.lt_of_lt_of_le (by decide : 0 < 19) hn) e0 rfl 28 (by decide) (hg _ kg_611) rfl rfl d_R_leaves_100 ?_
        refine lv_iload_n hx hb d_R_leaves_103 rfl (lv_at hl 1 rfl) ?_
        refine lv_aload_n hx hb d_R_leaves_104 rfl (lv_at hl 2 rfl) ?_
        refine kw_get hx hb hg in_R hown hK hP 0 (Nat.lt_of_lt_of_le (by decide : 0 < 19) hn) e0 rfl 28 (by decide) (hg _ kg_611) rfl rfl d_R_leaves_105 ?_
        refine lv_iload_n hx hb d_R_leaves_108 rfl (lv_at hl 0 rfl) ?_
        refine kw_iald hx hb hK hP 16 0 (Nat.lt_of_lt_of_le (by decide : 16 < 19) hn) e16 rfl b (rfl) ((by omega)) (by omega) d_R_leaves_109 ?_
        refine kw_iast hx hb hK hP hJ hA hS 16 0 (Nat.lt_of_lt_of_le (by decide : 16 < 19) hn) e16 rfl a (rfl) ((by omega)) (by omega) d_R_leaves_110 (fun H locs hP hS => ?_)
        rw [kw_upn] at hP
        obtain ⟨cs8, hccs8⟩ : ∃ z9, z9 = va_up cs7 16 (.inl (cI, 5, .inl (fun i => nI ((va_up bf1 a (bf1 b)) i)))) := ⟨_, rfl⟩
        replace hP : va_P D kc (kw_w ad cs8 n) H := by rw [hccs8]; exact hP
        replace e0 := (congrFun hccs8 0).trans ((va_up_ne _ _ (by decide)).trans e0)
        replace e1 := (congrFun hccs8 1).trans ((va_up_ne _ _ (by decide)).trans e1)
        replace e2 := (congrFun hccs8 2).trans ((va_up_ne _ _ (by decide)).trans e2)
        replace e3 := (congrFun hccs8 3).trans ((va_up_ne _ _ (by decide)).trans e3)
        replace e4 := (congrFun hccs8 4).trans ((va_up_ne _ _ (by decide)).trans e4)
        replace e5 := (congrFun hccs8 5).trans ((va_up_ne _ _ (by decide)).trans e5)
        replace e6 := (congrFun hccs8 6).trans ((va_up_ne _ _ (by decide)).trans e6)
        replace e7 := (congrFun hccs8 7).trans ((va_up_ne _ _ (by decide)).trans e7)
        replace e8 := (congrFun hccs8 8).trans ((va_up_ne _ _ (by decide)).trans e8)
        replace e9 := (congrFun hccs8 9).trans ((va_up_ne _ _ (by decide)).trans e9)
        replace e10 := (congrFun hccs8 10).trans ((va_up_ne _ _ (by decide)).trans e10)
        replace e11 := (congrFun hccs8 11).trans ((va_up_ne _ _ (by decide)).trans e11)
        replace e12 := (congrFun hccs8 12).trans ((va_up_ne _ _ (by decide)).trans e12)
        replace e13 := (congrFun hccs8 13).trans ((va_up_ne _ _ (by decide)).trans e13)
        replace e14 := (congrFun hccs8 14).trans ((va_up_ne _ _ (by decide)).trans e14)
        replace e15 := (congrFun hccs8 15).trans ((va_up_ne _ _ (by decide)).trans e15)
        have e16 : cs8 16 = .inl (cI, 5, .inl (fun i => nI ((va_up bf1 a (bf1 b)) i))) := by rw [hccs8]; exact va_up_self _ _ _
        replace e17 := (congrFun hccs8 17).trans ((va_up_ne _ _ (by decide)).trans e17)
        replace e18 := (congrFun hccs8 18).trans ((va_up_ne _ _ (by decide)).trans e18)
        clear hccs8
        refine lv_aload_n hx hb d_R_leaves_111 rfl (lv_at hl 2 rfl) ?_
        refine kw_get hx hb hg in_R hown hK hP 0 (Nat.lt_of_lt_of_le (by decide : 0 < 19) hn) e0 rfl 29 (by decide) (hg _ kg_612) rfl rfl d_R_leaves_112 ?_
        refine lv_iload_n hx hb d_R_leaves_115 rfl (lv_at hl 1 rfl) ?_
        refine lv_aload_n hx hb d_R_leaves_116 rfl (lv_at hl 2 rfl) ?_
        refine kw_get hx hb hg in_R hown hK hP 0 (Nat.lt_of_lt_of_le (by decide : 0 < 19) hn) e0 rfl 29 (by decide) (hg _ kg_612) rfl rfl d_R_leaves_117 ?_
        refine lv_iload_n hx hb d_R_leaves_120 rfl (lv_at hl 0 rfl) ?_
        refine kw_iald hx hb hK hP 17 0 (Nat.lt_of_lt_of_le (by decide : 17 < 19) hn) e17 rfl b (rfl) ((by omega)) (by omega) d_R_leaves_121 ?_
        refine kw_iast hx hb hK hP hJ hA hS 17 0 (Nat.lt_of_lt_of_le (by decide : 17 < 19) hn) e17 rfl a (rfl) ((by omega)) (by omega) d_R_leaves_122 (fun H locs hP hS => ?_)
        obtain ⟨cs9, hccs9⟩ : ∃ z9, z9 = va_up cs8 17 (.inl (cI, 5, .inl (upd XA1 a (XA1 b)))) := ⟨_, rfl⟩
        replace hP : va_P D kc (kw_w ad cs9 n) H := by rw [hccs9]; exact hP
        replace e0 := (congrFun hccs9 0).trans ((va_up_ne _ _ (by decide)).trans e0)
        replace e1 := (congrFun hccs9 1).trans ((va_up_ne _ _ (by decide)).trans e1)
        replace e2 := (congrFun hccs9 2).trans ((va_up_ne _ _ (by decide)).trans e2)
        replace e3 := (congrFun hccs9 3).trans ((va_up_ne _ _ (by decide)).trans e3)
        replace e4 := (congrFun hccs9 4).trans ((va_up_ne _ _ (by decide)).trans e4)
        replace e5 := (congrFun hccs9 5).trans ((va_up_ne _ _ (by decide)).trans e5)
        replace e6 := (congrFun hccs9 6).trans ((va_up_ne _ _ (by decide)).trans e6)
        replace e7 := (congrFun hccs9 7).trans ((va_up_ne _ _ (by decide)).trans e7)
        replace e8 := (congrFun hccs9 8).trans ((va_up_ne _ _ (by decide)).trans e8)
        replace e9 := (congrFun hccs9 9).trans ((va_up_ne _ _ (by decide)).trans e9)
        replace e10 := (congrFun hccs9 10).trans ((va_up_ne _ _ (by decide)).trans e10)
        replace e11 := (congrFun hccs9 11).trans ((va_up_ne _ _ (by decide)).trans e11)
        replace e12 := (congrFun hccs9 12).trans ((va_up_ne _ _ (by decide)).trans e12)
        replace e13 := (congrFun hccs9 13).trans ((va_up_ne _ _ (by decide)).trans e13)
        replace e14 := (congrFun hccs9 14).trans ((va_up_ne _ _ (by decide)).trans e14)
        replace e15 := (congrFun hccs9 15).trans ((va_up_ne _ _ (by decide)).trans e15)
        replace e16 := (congrFun hccs9 16).trans ((va_up_ne _ _ (by decide)).trans e16)
        have e17 : cs9 17 = .inl (cI, 5, .inl (upd XA1 a (XA1 b))) := by rw [hccs9]; exact va_up_self _ _ _
        replace e18 := (congrFun hccs9 18).trans ((va_up_ne _ _ (by decide)).trans e18)
        clear hccs9
        refine lv_aload_n hx hb d_R_leaves_123 rfl (lv_at hl 2 rfl) ?_
        refine kw_get hx hb hg in_R hown hK hP 0 (Nat.lt_of_lt_of_le (by decide : 0 < 19) hn) e0 rfl 30 (by decide) (hg _ kg_613) rfl rfl d_R_leaves_124 ?_
        refine lv_iload_n hx hb d_R_leaves_127 rfl (lv_at hl 1 rfl) ?_
        refine lv_aload_n hx hb d_R_leaves_128 rfl (lv_at hl 2 rfl) ?_
        refine kw_get hx hb hg in_R hown hK hP 0 (Nat.lt_of_lt_of_le (by decide : 0 < 19) hn) e0 rfl 30 (by decide) (hg _ kg_613) rfl rfl d_R_leaves_129 ?_
        refine lv_iload_n hx hb d_R_leaves_132 rfl (lv_at hl 0 rfl) ?_
        refine kw_iald hx hb hK hP 18 0 (Nat.lt_of_lt_of_le (by decide : 18 < 19) hn) e18 rfl b (rfl) ((by omega)) (by omega) d_R_leaves_133 ?_
        refine kw_iast hx hb hK hP hJ hA hS 18 0 (Nat.lt_of_lt_of_le (by decide : 18 < 19) hn) e18 rfl a (rfl) ((by omega)) (by omega) d_R_leaves_134 (fun H locs hP hS => ?_)
        obtain ⟨cs10, hccs10⟩ : ∃ z9, z9 = va_up cs9 18 (.inl (cI, 5, .inl (upd XB1 a (XB1 b)))) := ⟨_, rfl⟩
        replace hP : va_P D kc (kw_w ad cs10 n) H := by rw [hccs10]; exact hP
        replace e0 := (congrFun hccs10 0).trans ((va_up_ne _ _ (by decide)).trans e0)
        replace e1 := (congrFun hccs10 1).trans ((va_up_ne _ _ (by decide)).trans e1)
        replace e2 := (congrFun hccs10 2).trans ((va_up_ne _ _ (by decide)).trans e2)
        replace e3 := (congrFun hccs10 3).trans ((va_up_ne _ _ (by decide)).trans e3)
        replace e4 := (congrFun hccs10 4).trans ((va_up_ne _ _ (by decide)).trans e4)
        replace e5 := (congrFun hccs10 5).trans ((va_up_ne _ _ (by decide)).trans e5)
        replace e6 := (congrFun hccs10 6).trans ((va_up_ne _ _ (by decide)).trans e6)
        replace e7 := (congrFun hccs10 7).trans ((va_up_ne _ _ (by decide)).trans e7)
        replace e8 := (congrFun hccs10 8).trans ((va_up_ne _ _ (by decide)).trans e8)
        replace e9 := (congrFun hccs10 9).trans ((va_up_ne _ _ (by decide)).trans e9)
        replace e10 := (congrFun hccs10 10).trans ((va_up_ne _ _ (by decide)).trans e10)
        replace e11 := (congrFun hccs10 11).trans ((va_up_ne _ _ (by decide)).trans e11)
        replace e12 := (congrFun hccs10 12).trans ((va_up_ne _ _ (by decide)).trans e12)
        replace e13 := (congrFun hccs10 13).trans ((va_up_ne _ _ (by decide)).trans e13)
        replace e14 := (congrFun hccs10 14).trans ((va_up_ne _ _ (by decide)).trans e14)
        replace e15 := (congrFun hccs10 15).trans ((va_up_ne _ _ (by decide)).trans e15)
        replace e16 := (congrFun hccs10 16).trans ((va_up_ne _ _ (by decide)).trans e16)
        replace e17 := (congrFun hccs10 17).trans ((va_up_ne _ _ (by decide)).trans e17)
        have e18 : cs10 18 = .inl (cI, 5, .inl (upd XB1 a (XB1 b))) := by rw [hccs10]; exact va_up_self _ _ _
        clear hccs10
        refine lv_iinc (k := 1) (v := nI (a + 1)) (lv' := [(1, .int (nI (a + 1))), (2, .int (nI b)), (0, .ref (ad 0))]) hx hb d_R_leaves_135 hl rfl ((nI_succ a).symm) (by decide) rfl (fun ls hl => ?_)
        refine lv_iinc (k := 1) (v := nI (b + 1)) (lv' := [(2, .int (nI (b + 1))), (1, .int (nI (a + 1))), (0, .ref (ad 0))]) hx hb d_R_leaves_138 hl rfl ((nI_succ b).symm) (by decide) rfl (fun ls hl => ?_)
        refine lv_goto (tgt := 4) hx hb d_R_leaves_141 (by decide) ?_
        exact ihq _ ((b + 1)) _ _ _ _ _ _ _ _ _ _ _ _ _ (by omega) (by omega) (by rw [hv, kv_lv, if_neg h3]) ⟨e0, e1, e2, e3, e4, e5, e6, e7, e8, e9, e10, e11, e12, e13, e14, e15, e16, e17, e18⟩ hP hS (lv_sub hl [0, 1, 2] rfl)
  exact loopq qu _ 0 0 wh wd rg fr sp dn bf XA XB _ _ _ (by omega) (by omega) (rfl) ⟨e0, e1, e2, e3, e4, e5, e6, e7, e8, e9, e10, e11, e12, e13, e14, e15, e16, e17, e18⟩ hP hS (lv_sub hl [0, 1, 2] rfl)
