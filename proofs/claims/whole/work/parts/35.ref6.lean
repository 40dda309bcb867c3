/-! the reference: free -/
/-- what is known of an instruction in the queue -/
def kE (po wh wd rg fr sp bf : Nat → Nat) (XA : Nat → Int32) (p : Nat) : Prop := (wh p < 40 ∧ po (wh p) < 21 ∧ rg p < 5 ∧ 0 < wd p ∧ wd p < 5) ∧ (po (wh p) = 14 → XA p = nI (XA p).toNatClampNeg) ∧ (po (wh p) = 14 → fr p ≤ (XA p).toNatClampNeg) ∧ (po (wh p) = 14 → (XA p).toNatClampNeg < 2 ^ 20) ∧ bf p ≤ sp p ∧ sp p < 2 ^ 20
def kv_fi (po pd pa pb : Nat → Nat) (pm : Nat → Int32) (wh wd rg fr : Nat → Nat) (XA XB : Nat → Int32) (u v : Int64) (b : Nat) : Nat → Nat → Int32 → Int32
  | 0, _, z => z
  | k + 1, i, z => kv_fi po pd pa pb pm wh wd rg fr XA XB u v b k (i + 1) (if z = 0 then 0 else if lg_cmp (kv_R_writes po pd wh wd fr b i &&& (u ||| v)) 0 = 0 then (if lg_cmp (kv_R_reads po pd pa pb pm wh wd rg fr XB b i (XA b).toNatClampNeg &&& v) 0 = 0 then 1 else 0) else 0)
def kv_fu (po pd pa pb : Nat → Nat) (pm : Nat → Int32) (wh wd rg fr sp bf : Nat → Nat) (XA XB : Nat → Int32) (u v : Int64) : Nat → Nat → Int32 → Int32
  | 0, _, z => z
  | k + 1, b, z => kv_fu po pd pa pb pm wh wd rg fr sp bf XA XB u v k (b + 1) (kv_fi po pd pa pb pm wh wd rg fr XA XB u v b (sp b - bf b) (bf b) z)
def kv_R_free (po pd pa pb : Nat → Nat) (pm : Nat → Int32) (wh wd rg fr sp bf : Nat → Nat) (XA XB : Nat → Int32) (q t : Nat) : Int32 := kv_fu po pd pa pb pm wh wd rg fr sp bf XA XB (kv_R_reads po pd pa pb pm wh wd rg fr XB q t (XA q).toNatClampNeg) (kv_R_writes po pd wh wd fr q t) q 0 1

theorem kv_fi01 (po pd pa pb : Nat → Nat) (pm : Nat → Int32) (wh wd rg fr : Nat → Nat) (XA XB : Nat → Int32) (u v : Int64) (b : Nat) : ∀ (k i : Nat) (z : Int32), (z = 0 ∨ z = 1) → (kv_fi po pd pa pb pm wh wd rg fr XA XB u v b k i z = 0 ∨ kv_fi po pd pa pb pm wh wd rg fr XA XB u v b k i z = 1) := by
  intro k
  induction k with
  | zero => intro i z h; exact h
  | succ k ih =>
    intro i z h
    rw [kv_fi]
    apply ih
    by_cases h1 : z = 0
    · rw [if_pos h1]; exact Or.inl rfl
    · rw [if_neg h1]
      split
      · split
        · exact Or.inr rfl
        · exact Or.inl rfl
      · exact Or.inl rfl
theorem kv_fu01 (po pd pa pb : Nat → Nat) (pm : Nat → Int32) (wh wd rg fr sp bf : Nat → Nat) (XA XB : Nat → Int32) (u v : Int64) : ∀ (k b : Nat) (z : Int32), (z = 0 ∨ z = 1) → (kv_fu po pd pa pb pm wh wd rg fr sp bf XA XB u v k b z = 0 ∨ kv_fu po pd pa pb pm wh wd rg fr sp bf XA XB u v k b z = 1) := by
  intro k
  induction k with
  | zero => intro b z h; exact h
  | succ k ih => intro b z h; rw [kv_fu]; exact ih _ _ (kv_fi01 _ _ _ _ _ _ _ _ _ _ _ _ _ _ _ _ _ h)

set_option maxRecDepth 100000 in
set_option maxHeartbeats 4000000 in
theorem c_R_free (l : Launch) {D : va_G} {ad : Nat → Nat} {n : Nat} {cs : Nat → va_E} {cI : ClassId} {cZ : ClassId} {la : Nat} {th : Int32} {st : Nat} {nx : Int32} {wi : Nat} {gp : Nat} {vl : Nat} {sa : Nat} {bo : Nat} {cy : Int32} {sd : Int32} {ma : Nat} {qu : Nat} {X : Nat → Int32} {F : Nat → Int32} {M : Nat → Int32} {po : Nat → Nat} {pd : Nat → Nat} {pa : Nat → Nat} {pb : Nat → Nat} {pn : Nat → Int32} {pm : Nat → Int32} {wh : Nat → Nat} {wd : Nat → Nat} {rg : Nat → Nat} {fr : Nat → Nat} {sp : Nat → Nat} {dn : Nat → Nat} {bf : Nat → Nat} {XA : Nat → Int32} {XB : Nat → Int32} {q : Nat} {t : Nat} (hn : 19 ≤ n) (hR : kR ad cI cZ cs la th st nx wi gp vl sa bo cy sd ma qu X F M po pd pa pb pn pm wh wd rg fr sp dn bf XA XB) (hq : q < 5) (hE : ∀ p, p ≤ q → kE po wh wd rg fr sp bf XA p) : kw_mi l y_R_free w_R_free (kr 2) D kc (ktR cI cZ) ad n cs [.ref (ad 0), .int (nI q), .int (nI t)] (fun r9 c9 => r9 = kv_R_free po pd pa pb pm wh wd rg fr sp bf XA XB q t ∧ c9 = cs) := by
  refine kw_of (cc := b_R_free) (maxL := 10) (ret := (some .boolean)) (by decide) rfl (Nat.le_of_ble_eq_true rfl) ?_
  intro p e s m below meth c ls hx hb hr hml hown hts hlocks hP hK hl
  have hg : ∀ w9 ∈ kg_G, w9.before [.ref (ad 0), .int (nI q), .int (nI t)].toArray s = true := fun w9 h9 => hts w9 (List.mem_cons_of_mem _ h9)
  have hown : s.vm.findClass "LaneMachineModel" = some m.cls := hown
  have hA : ∀ k, k < n → kw_A ad n (ad k) := fun k hk => ⟨k, hk, rfl⟩
  have hS : va_S (kw_A ad n) s.heap s.heap [] := va_S.rf
  have hl : lv_has ls 10 [(0, .ref (ad 0)), (1, .int (nI q)), (2, .int (nI t))] := hl
  obtain ⟨e0, e1, e2, e3, e4, e5, e6, e7, e8, e9, e10, e11, e12, e13, e14, e15, e16, e17, e18⟩ := hR
  refine lv_aload_n hx hb d_R_free_0 rfl (lv_at hl 0 rfl) ?_
  refine lv_iload_n hx hb d_R_free_1 rfl (lv_at hl 1 rfl) ?_
  refine lv_iload_n hx hb d_R_free_2 rfl (lv_at hl 2 rfl) ?_
  refine kw_calllx (kw_rV (As := [.int (nI q), .int (nI t)]) (rest := []) (q0 := 0) ⟨hx, hb, hml, hown, hg⟩ ⟨callB_of 2 hg (kg_goodG kg_700) rfl rfl rfl (hg _ kg_7) (hg _ kg_697) (by decide +kernel) ⟨by decide, by decide⟩, hg _ kg_699, hg _ (kg_sel (q := (y_R_reads, 31)) (by decide +kernel))⟩ (c_R_reads l hn ⟨e0, e1, e2, e3, e4, e5, e6, e7, e8, e9, e10, e11, e12, e13, e14, e15, e16, e17, e18⟩ hq (hE q (Nat.le_refl _)).1.1 (hE q (Nat.le_refl _)).1.2.1 (hE q (Nat.le_refl _)).1.2.2.1 (hE q (Nat.le_refl _)).1.2.2.2.1 (hE q (Nat.le_refl _)).1.2.2.2.2 (hE q (Nat.le_refl _)).2.1 (hE q (Nat.le_refl _)).2.2.1 (hE q (Nat.le_refl _)).2.2.2.1 (vq := (XA q).toNatClampNeg)) hK hP (Nat.lt_of_lt_of_le (by decide : 0 < 19) hn) e0 rfl rfl hl.1 rfl (Nat.le_of_ble_eq_true rfl) d_R_free_3 ⟨Nat.zero_le _, Nat.zero_le _⟩) hA hS (fun H locs hP hS => ?_)
  refine lv_lstore_n (lv' := [(3, .long (kv_R_reads po pd pa pb pm wh wd rg fr XB q t ((XA q).toNatClampNeg))), (0, .ref (ad 0)), (1, .int (nI q)), (2, .int (nI t))]) hx hb d_R_free_6 rfl hl (by decide) rfl (fun ls hl => ?_)
  refine lv_aload_n hx hb d_R_free_7 rfl (lv_at hl 1 rfl) ?_
  refine lv_iload_n hx hb d_R_free_8 rfl (lv_at hl 2 rfl) ?_
  refine lv_iload_n hx hb d_R_free_9 rfl (lv_at hl 3 rfl) ?_
  refine kw_calllx (kw_rV (As := [.int (nI q), .int (nI t)]) (rest := []) (q0 := 0) ⟨hx, hb, hml, hown, hg⟩ ⟨callB_of 2 hg (kg_goodG kg_711) rfl rfl rfl (hg _ kg_7) (hg _ kg_708) (by decide +kernel) ⟨by decide, by decide⟩, hg _ kg_710, hg _ (kg_sel (q := (y_R_writes, 31)) (by decide +kernel))⟩ (c_R_writes l hn ⟨e0, e1, e2, e3, e4, e5, e6, e7, e8, e9, e10, e11, e12, e13, e14, e15, e16, e17, e18⟩ hq (hE q (Nat.le_refl _)).1.1 ) hK hP (Nat.lt_of_lt_of_le (by decide : 0 < 19) hn) e0 rfl rfl hl.1 rfl (Nat.le_of_ble_eq_true rfl) d_R_free_10 ⟨Nat.zero_le _, Nat.zero_le _⟩) hA hS (fun H locs hP hS => ?_)
  refine lv_lstore (lv' := [(5, .long (kv_R_writes po pd wh wd fr q t)), (3, .long (kv_R_reads po pd pa pb pm wh wd rg fr XB q t ((XA q).toNatClampNeg))), (0, .ref (ad 0)), (1, .int (nI q)), (2, .int (nI t))]) hx hb d_R_free_13 hl (by decide) rfl (fun ls hl => ?_)
  refine lv_iconst (v := 1) hx hb d_R_free_15 (by decide) ?_
  refine lv_istore (lv' := [(7, .int 1), (5, .long (kv_R_writes po pd wh wd fr q t)), (3, .long (kv_R_reads po pd pa pb pm wh wd rg fr XB q t ((XA q).toNatClampNeg))), (0, .ref (ad 0)), (1, .int (nI q)), (2, .int (nI t))]) hx hb d_R_free_16 hl (by decide) rfl (fun ls hl => ?_)
  refine lv_iconst (v := 0) hx hb d_R_free_18 (by decide) ?_
  refine lv_istore (lv' := [(8, .int 0), (7, .int 1), (5, .long (kv_R_writes po pd wh wd fr q t)), (3, .long (kv_R_reads po pd pa pb pm wh wd rg fr XB q t ((XA q).toNatClampNeg))), (0, .ref (ad 0)), (1, .int (nI q)), (2, .int (nI t))]) hx hb d_R_free_19 hl (by decide) rfl (fun ls hl => ?_)
  have KXo : ∀ (H : Heap) (locs : List Loc) (ls : Array Slot), va_P D kc (kw_w ad cs n) H → va_S (kw_A ad n) s.heap H locs → lv_has ls 10 [(7, .int (kv_fu po pd pa pb pm wh wd rg fr sp bf XA XB (kv_R_reads po pd pa pb pm wh wd rg fr XB q t (XA q).toNatClampNeg) (kv_R_writes po pd wh wd fr q t) q 0 1)), (5, .long (kv_R_writes po pd wh wd fr q t)), (3, .long (kv_R_reads po pd pa pb pm wh wd rg fr XB q t (XA q).toNatClampNeg)), (0, .ref (ad 0)), (1, .int (nI q)), (2, .int (nI t))] → W p l e (kr 2) s m [.ref (ad 0), .int (nI q), .int (nI t)].toArray below meth c H locs 0 0 (MQ below (va_Qi (fun r9 c9 => r9 = kv_R_free po pd pa pb pm wh wd rg fr sp bf XA XB q t ∧ c9 = cs) (kw_Pre D kc (ktR cI cZ) ad n) (kw_A ad n)) [.ref (ad 0), .int (nI q), .int (nI t)].toArray s 0 0 (kw_A ad n)) (F0 m 106 ls []) := by
    intro H locs ls hP hS hl
    refine lv_iload hx hb d_R_free_106 (lv_at hl 0 rfl) ?_
    exact kw_zret hx hb hr hlocks hP hK hS (kv_fu01 _ _ _ _ _ _ _ _ _ _ _ _ _ _ _ _ _ _ (Or.inr rfl)) ⟨rfl, rfl⟩ d_R_free_108
  have loopo : ∀ (kk : Nat) (b : Nat) (y : Int32) (H : Heap) (locs : List Loc) (ls : Array Slot), b + kk = q → kv_fu po pd pa pb pm wh wd rg fr sp bf XA XB (kv_R_reads po pd pa pb pm wh wd rg fr XB q t (XA q).toNatClampNeg) (kv_R_writes po pd wh wd fr q t) q 0 1 = kv_fu po pd pa pb pm wh wd rg fr sp bf XA XB (kv_R_reads po pd pa pb pm wh wd rg fr XB q t (XA q).toNatClampNeg) (kv_R_writes po pd wh wd fr q t) kk b y → va_P D kc (kw_w ad cs n) H → va_S (kw_A ad n) s.heap H locs → lv_has ls 10 [(8, .int (nI b)), (7, .int y), (5, .long (kv_R_writes po pd wh wd fr q t)), (3, .long (kv_R_reads po pd pa pb pm wh wd rg fr XB q t (XA q).toNatClampNeg)), (0, .ref (ad 0)), (1, .int (nI q)), (2, .int (nI t))] → W p l e (kr 2) s m [.ref (ad 0), .int (nI q), .int (nI t)].toArray below meth c H locs 0 0 (MQ below (va_Qi (fun r9 c9 => r9 = kv_R_free po pd pa pb pm wh wd rg fr sp bf XA XB q t ∧ c9 = cs) (kw_Pre D kc (ktR cI cZ) ad n) (kw_A ad n)) [.ref (ad 0), .int (nI q), .int (nI t)].toArray s 0 0 (kw_A ad n)) (F0 m 21 ls []) := by
    intro kk
    induction kk with
    | zero =>
      intro b y H locs ls hbk hw hP hS hl
      refine lv_iload hx hb d_R_free_21 (lv_at hl 0 rfl) ?_
      refine lv_iload_n hx hb d_R_free_23 rfl (lv_at hl 5 rfl) ?_
      refine lv_icmp_ge (tgt := 106) hx hb d_R_free_24 (by decide) (fun _ => ?_) (fun h1 => absurd (nI_le (by omega) (by omega)) h1)
      exact KXo _ _ _ (hP) hS (by rw [show kv_fu po pd pa pb pm wh wd rg fr sp bf XA XB (kv_R_reads po pd pa pb pm wh wd rg fr XB q t (XA q).toNatClampNeg) (kv_R_writes po pd wh wd fr q t) q 0 1 = y from hw]; exact lv_sub hl [1, 2, 3, 4, 5, 6] rfl)
    | succ j iho =>
      intro b y H locs ls hbk hw hP hS hl
      have hs9 := (hE b (by omega)).2.2.2.2.2
      have hb9 := (hE b (by omega)).2.2.2.2.1
      refine lv_iload hx hb d_R_free_21 (lv_at hl 0 rfl) ?_
      refine lv_iload_n hx hb d_R_free_23 rfl (lv_at hl 5 rfl) ?_
      refine lv_icmp_ge (tgt := 106) hx hb d_R_free_24 (by decide) (fun h2 => absurd h2 (nI_ge (by omega) (by omega))) (fun _ => ?_)
      refine lv_aload_n hx hb d_R_free_27 rfl (lv_at hl 4 rfl) ?_
      refine kw_get hx hb hg in_R hown hK hP 0 (Nat.lt_of_lt_of_le (by decide : 0 < 19) hn) e0 rfl 28 (by decide) (hg _ kg_611) rfl rfl d_R_free_28 ?_
      refine lv_iload hx hb d_R_free_31 (lv_at hl 0 rfl) ?_
      refine kw_iald hx hb hK hP 16 0 (Nat.lt_of_lt_of_le (by decide : 16 < 19) hn) e16 rfl b (rfl) ((Nat.lt_of_lt_of_le (by omega : b < q) (Nat.le_of_lt hq))) (by omega) d_R_free_33 ?_
      refine lv_istore (lv' := [(9, .int (nI (bf b))), (8, .int (nI b)), (7, .int y), (5, .long (kv_R_writes po pd wh wd fr q t)), (3, .long (kv_R_reads po pd pa pb pm wh wd rg fr XB q t (XA q).toNatClampNeg)), (0, .ref (ad 0)), (1, .int (nI q)), (2, .int (nI t))]) hx hb d_R_free_34 hl (by decide) rfl (fun ls hl => ?_)
      have KXi : ∀ (H : Heap) (locs : List Loc) (ls : Array Slot), va_P D kc (kw_w ad cs n) H → va_S (kw_A ad n) s.heap H locs → lv_has ls 10 [(7, .int (kv_fi po pd pa pb pm wh wd rg fr XA XB (kv_R_reads po pd pa pb pm wh wd rg fr XB q t (XA q).toNatClampNeg) (kv_R_writes po pd wh wd fr q t) b (sp b - bf b) (bf b) y)), (8, .int (nI b)), (5, .long (kv_R_writes po pd wh wd fr q t)), (3, .long (kv_R_reads po pd pa pb pm wh wd rg fr XB q t (XA q).toNatClampNeg)), (0, .ref (ad 0)), (1, .int (nI q)), (2, .int (nI t))] → W p l e (kr 2) s m [.ref (ad 0), .int (nI q), .int (nI t)].toArray below meth c H locs 0 0 (MQ below (va_Qi (fun r9 c9 => r9 = kv_R_free po pd pa pb pm wh wd rg fr sp bf XA XB q t ∧ c9 = cs) (kw_Pre D kc (ktR cI cZ) ad n) (kw_A ad n)) [.ref (ad 0), .int (nI q), .int (nI t)].toArray s 0 0 (kw_A ad n)) (F0 m 100 ls []) := by
        intro H locs ls hP hS hl
        refine lv_iinc (k := 1) (v := nI (b + 1)) (lv' := [(8, .int (nI (b + 1))), (7, .int (kv_fi po pd pa pb pm wh wd rg fr XA XB (kv_R_reads po pd pa pb pm wh wd rg fr XB q t (XA q).toNatClampNeg) (kv_R_writes po pd wh wd fr q t) b (sp b - bf b) (bf b) y)), (5, .long (kv_R_writes po pd wh wd fr q t)), (3, .long (kv_R_reads po pd pa pb pm wh wd rg fr XB q t (XA q).toNatClampNeg)), (0, .ref (ad 0)), (1, .int (nI q)), (2, .int (nI t))]) hx hb d_R_free_100 hl rfl ((nI_succ b).symm) (by decide) rfl (fun ls hl => ?_)
        refine lv_goto (tgt := 21) hx hb d_R_free_103 (by decide) ?_
        exact iho ((b + 1)) _ _ _ _ (by omega) (hw) (hP) hS (lv_sub hl [0, 1, 2, 3, 4, 5, 6] rfl)
      have loopi : ∀ (kk : Nat) (i : Nat) (z : Int32) (H : Heap) (locs : List Loc) (ls : Array Slot), i + kk = sp b → kv_fi po pd pa pb pm wh wd rg fr XA XB (kv_R_reads po pd pa pb pm wh wd rg fr XB q t (XA q).toNatClampNeg) (kv_R_writes po pd wh wd fr q t) b (sp b - bf b) (bf b) y = kv_fi po pd pa pb pm wh wd rg fr XA XB (kv_R_reads po pd pa pb pm wh wd rg fr XB q t (XA q).toNatClampNeg) (kv_R_writes po pd wh wd fr q t) b kk i z → va_P D kc (kw_w ad cs n) H → va_S (kw_A ad n) s.heap H locs → lv_has ls 10 [(9, .int (nI i)), (7, .int z), (8, .int (nI b)), (5, .long (kv_R_writes po pd wh wd fr q t)), (3, .long (kv_R_reads po pd pa pb pm wh wd rg fr XB q t (XA q).toNatClampNeg)), (0, .ref (ad 0)), (1, .int (nI q)), (2, .int (nI t))] → W p l e (kr 2) s m [.ref (ad 0), .int (nI q), .int (nI t)].toArray below meth c H locs 0 0 (MQ below (va_Qi (fun r9 c9 => r9 = kv_R_free po pd pa pb pm wh wd rg fr sp bf XA XB q t ∧ c9 = cs) (kw_Pre D kc (ktR cI cZ) ad n) (kw_A ad n)) [.ref (ad 0), .int (nI q), .int (nI t)].toArray s 0 0 (kw_A ad n)) (F0 m 36 ls []) := by
        intro kk
        induction kk with
        | zero =>
          intro i z H locs ls hik hv hP hS hl
          refine lv_iload hx hb d_R_free_36 (lv_at hl 0 rfl) ?_
          refine lv_aload_n hx hb d_R_free_38 rfl (lv_at hl 5 rfl) ?_
          refine kw_get hx hb hg in_R hown hK hP 0 (Nat.lt_of_lt_of_le (by decide : 0 < 19) hn) e0 rfl 26 (by decide) (hg _ kg_609) rfl rfl d_R_free_39 ?_
          refine lv_iload hx hb d_R_free_42 (lv_at hl 2 rfl) ?_
          refine kw_iald hx hb hK hP 14 0 (Nat.lt_of_lt_of_le (by decide : 14 < 19) hn) e14 rfl b (rfl) ((Nat.lt_of_lt_of_le (by omega : b < q) (Nat.le_of_lt hq))) (by omega) d_R_free_44 ?_
          refine lv_icmp_ge (tgt := 100) hx hb d_R_free_45 (by decide) (fun _ => ?_) (fun h3 => absurd (nI_le (by omega) (by omega)) h3)
          exact KXi _ _ _ (hP) hS (by rw [show kv_fi po pd pa pb pm wh wd rg fr XA XB (kv_R_reads po pd pa pb pm wh wd rg fr XB q t (XA q).toNatClampNeg) (kv_R_writes po pd wh wd fr q t) b (sp b - bf b) (bf b) y = z from hv]; exact lv_sub hl [1, 2, 3, 4, 5, 6, 7] rfl)
        | succ j ihi =>
          intro i z H locs ls hik hv hP hS hl
          refine lv_iload hx hb d_R_free_36 (lv_at hl 0 rfl) ?_
          refine lv_aload_n hx hb d_R_free_38 rfl (lv_at hl 5 rfl) ?_
          refine kw_get hx hb hg in_R hown hK hP 0 (Nat.lt_of_lt_of_le (by decide : 0 < 19) hn) e0 rfl 26 (by decide) (hg _ kg_609) rfl rfl d_R_free_39 ?_
          refine lv_iload hx hb d_R_free_42 (lv_at hl 2 rfl) ?_
          refine kw_iald hx hb hK hP 14 0 (Nat.lt_of_lt_of_le (by decide : 14 < 19) hn) e14 rfl b (rfl) ((Nat.lt_of_lt_of_le (by omega : b < q) (Nat.le_of_lt hq))) (by omega) d_R_free_44 ?_
          refine lv_icmp_ge (tgt := 100) hx hb d_R_free_45 (by decide) (fun h4 => absurd h4 (nI_ge (by omega) (by omega))) (fun _ => ?_)
          have K92 : ∀ (H : Heap) (locs : List Loc) (ls : Array Slot), va_P D kc (kw_w ad cs n) H → va_S (kw_A ad n) s.heap H locs → lv_has ls 10 [(9, .int (nI i)), (7, .int z), (8, .int (nI b)), (5, .long (kv_R_writes po pd wh wd fr q t)), (3, .long (kv_R_reads po pd pa pb pm wh wd rg fr XB q t (XA q).toNatClampNeg)), (0, .ref (ad 0)), (1, .int (nI q)), (2, .int (nI t))] → W p l e (kr 2) s m [.ref (ad 0), .int (nI q), .int (nI t)].toArray below meth c H locs 0 0 (MQ below (va_Qi (fun r9 c9 => r9 = kv_R_free po pd pa pb pm wh wd rg fr sp bf XA XB q t ∧ c9 = cs) (kw_Pre D kc (ktR cI cZ) ad n) (kw_A ad n)) [.ref (ad 0), .int (nI q), .int (nI t)].toArray s 0 0 (kw_A ad n)) (F0 m 92 ls [.int ((if z = 0 then 0 else if (lg_cmp ((kv_R_writes po pd wh wd fr b i) &&& ((kv_R_reads po pd pa pb pm wh wd rg fr XB q t (XA q).toNatClampNeg) ||| (kv_R_writes po pd wh wd fr q t))) 0) = 0 then (if (lg_cmp ((kv_R_reads po pd pa pb pm wh wd rg fr XB b i ((XA b).toNatClampNeg)) &&& (kv_R_writes po pd wh wd fr q t)) 0) = 0 then 1 else 0) else 0 : Int32))]) := by
            intro H locs ls hP hS hl
            refine lv_istore (lv' := [(7, .int ((if z = 0 then 0 else if (lg_cmp ((kv_R_writes po pd wh wd fr b i) &&& ((kv_R_reads po pd pa pb pm wh wd rg fr XB q t (XA q).toNatClampNeg) ||| (kv_R_writes po pd wh wd fr q t))) 0) = 0 then (if (lg_cmp ((kv_R_reads po pd pa pb pm wh wd rg fr XB b i ((XA b).toNatClampNeg)) &&& (kv_R_writes po pd wh wd fr q t)) 0) = 0 then 1 else 0) else 0 : Int32))), (9, .int (nI i)), (8, .int (nI b)), (5, .long (kv_R_writes po pd wh wd fr q t)), (3, .long (kv_R_reads po pd pa pb pm wh wd rg fr XB q t (XA q).toNatClampNeg)), (0, .ref (ad 0)), (1, .int (nI q)), (2, .int (nI t))]) hx hb d_R_free_92 hl (by decide) rfl (fun ls hl => ?_)
            refine lv_iinc (k := 1) (v := nI (i + 1)) (lv' := [(9, .int (nI (i + 1))), (7, .int ((if z = 0 then 0 else if (lg_cmp ((kv_R_writes po pd wh wd fr b i) &&& ((kv_R_reads po pd pa pb pm wh wd rg fr XB q t (XA q).toNatClampNeg) ||| (kv_R_writes po pd wh wd fr q t))) 0) = 0 then (if (lg_cmp ((kv_R_reads po pd pa pb pm wh wd rg fr XB b i ((XA b).toNatClampNeg)) &&& (kv_R_writes po pd wh wd fr q t)) 0) = 0 then 1 else 0) else 0 : Int32))), (8, .int (nI b)), (5, .long (kv_R_writes po pd wh wd fr q t)), (3, .long (kv_R_reads po pd pa pb pm wh wd rg fr XB q t (XA q).toNatClampNeg)), (0, .ref (ad 0)), (1, .int (nI q)), (2, .int (nI t))]) hx hb d_R_free_94 hl rfl ((nI_succ i).symm) (by decide) rfl (fun ls hl => ?_)
            refine lv_goto (tgt := 36) hx hb d_R_free_97 (by decide) ?_
            exact ihi ((i + 1)) _ _ _ _ (by omega) (hv) (hP) hS (lv_sub hl [0, 1, 2, 3, 4, 5, 6, 7] rfl)
          refine lv_iload hx hb d_R_free_48 (lv_at hl 1 rfl) ?_
          refine lv_if_eq (tgt := 91) hx hb d_R_free_50 (by decide) (fun h5 => ?_) (fun h5 => ?_)
          · refine lv_iconst (v := 0) hx hb d_R_free_91 (by decide) ?_
            exact W.eq (congrArg (fun z9 => F0 m 92 ls (.int z9 :: [])) (show (0 : Int32) = (if z = 0 then 0 else if (lg_cmp ((kv_R_writes po pd wh wd fr b i) &&& ((kv_R_reads po pd pa pb pm wh wd rg fr XB q t (XA q).toNatClampNeg) ||| (kv_R_writes po pd wh wd fr q t))) 0) = 0 then (if (lg_cmp ((kv_R_reads po pd pa pb pm wh wd rg fr XB b i ((XA b).toNatClampNeg)) &&& (kv_R_writes po pd wh wd fr q t)) 0) = 0 then 1 else 0) else 0 : Int32) from (by rw [if_pos h5]))) (K92 _ _ _ hP hS hl)
          · refine lv_aload_n hx hb d_R_free_53 rfl (lv_at hl 5 rfl) ?_
            refine lv_iload hx hb d_R_free_54 (lv_at hl 2 rfl) ?_
            refine lv_iload hx hb d_R_free_56 (lv_at hl 0 rfl) ?_
            refine kw_calllx (kw_rV (As := [.int (nI b), .int (nI i)]) (rest := []) (q0 := 0) ⟨hx, hb, hml, hown, hg⟩ ⟨callB_of 2 hg (kg_goodG kg_711) rfl rfl rfl (hg _ kg_7) (hg _ kg_708) (by decide +kernel) ⟨by decide, by decide⟩, hg _ kg_710, hg _ (kg_sel (q := (y_R_writes, 31)) (by decide +kernel))⟩ (c_R_writes l hn ⟨e0, e1, e2, e3, e4, e5, e6, e7, e8, e9, e10, e11, e12, e13, e14, e15, e16, e17, e18⟩ (by omega) (hE b (by omega)).1.1 ) hK hP (Nat.lt_of_lt_of_le (by decide : 0 < 19) hn) e0 rfl rfl hl.1 rfl (Nat.le_of_ble_eq_true rfl) d_R_free_58 ⟨Nat.zero_le _, Nat.zero_le _⟩) hA hS (fun H locs hP hS => ?_)
            refine lv_lload_n hx hb d_R_free_61 rfl (lv_at hl 4 rfl) ?_
            refine lv_lload hx hb d_R_free_62 (lv_at hl 3 rfl) ?_
            refine lv_lor hx hb d_R_free_64 ?_
            refine lv_land hx hb d_R_free_65 ?_
            refine lv_lconst (v := 0) hx hb d_R_free_66 (by decide) ?_
            refine W.lcmp hx hb d_R_free_67 ?_
            refine lv_if_ne (tgt := 91) hx hb d_R_free_68 (by decide) (fun h6 => ?_) (fun h6 => ?_)
            · refine lv_iconst (v := 0) hx hb d_R_free_91 (by decide) ?_
              exact W.eq (congrArg (fun z9 => F0 m 92 ls (.int z9 :: [])) (show (0 : Int32) = (if z = 0 then 0 else if (lg_cmp ((kv_R_writes po pd wh wd fr b i) &&& ((kv_R_reads po pd pa pb pm wh wd rg fr XB q t (XA q).toNatClampNeg) ||| (kv_R_writes po pd wh wd fr q t))) 0) = 0 then (if (lg_cmp ((kv_R_reads po pd pa pb pm wh wd rg fr XB b i ((XA b).toNatClampNeg)) &&& (kv_R_writes po pd wh wd fr q t)) 0) = 0 then 1 else 0) else 0 : Int32) from (by rw [if_neg h5, if_neg h6]))) (K92 _ _ _ hP hS hl)
            · refine lv_aload_n hx hb d_R_free_71 rfl (lv_at hl 5 rfl) ?_
              refine lv_iload hx hb d_R_free_72 (lv_at hl 2 rfl) ?_
              refine lv_iload hx hb d_R_free_74 (lv_at hl 0 rfl) ?_
              refine kw_calllx (kw_rV (As := [.int (nI b), .int (nI i)]) (rest := []) (q0 := 0) ⟨hx, hb, hml, hown, hg⟩ ⟨callB_of 2 hg (kg_goodG kg_700) rfl rfl rfl (hg _ kg_7) (hg _ kg_697) (by decide +kernel) ⟨by decide, by decide⟩, hg _ kg_699, hg _ (kg_sel (q := (y_R_reads, 31)) (by decide +kernel))⟩ (c_R_reads l hn ⟨e0, e1, e2, e3, e4, e5, e6, e7, e8, e9, e10, e11, e12, e13, e14, e15, e16, e17, e18⟩ (by omega) (hE b (by omega)).1.1 (hE b (by omega)).1.2.1 (hE b (by omega)).1.2.2.1 (hE b (by omega)).1.2.2.2.1 (hE b (by omega)).1.2.2.2.2 (hE b (by omega)).2.1 (hE b (by omega)).2.2.1 (hE b (by omega)).2.2.2.1 (vq := (XA b).toNatClampNeg)) hK hP (Nat.lt_of_lt_of_le (by decide : 0 < 19) hn) e0 rfl rfl hl.1 rfl (Nat.le_of_ble_eq_true rfl) d_R_free_76 ⟨Nat.zero_le _, Nat.zero_le _⟩) hA hS (fun H locs hP hS => ?_)
              refine lv_lload hx hb d_R_free_79 (lv_at hl 3 rfl) ?_
              refine lv_land hx hb d_R_free_81 ?_
              refine lv_lconst (v := 0) hx hb d_R_free_82 (by decide) ?_
              refine W.lcmp hx hb d_R_free_83 ?_
              refine lv_if_ne (tgt := 91) hx hb d_R_free_84 (by decide) (fun h7 => ?_) (fun h7 => ?_)
              · refine lv_iconst (v := 0) hx hb d_R_free_91 (by decide) ?_
                exact W.eq (congrArg (fun z9 => F0 m 92 ls (.int z9 :: [])) (show (0 : Int32) = (if z = 0 then 0 else if (lg_cmp ((kv_R_writes po pd wh wd fr b i) &&& ((kv_R_reads po pd pa pb pm wh wd rg fr XB q t (XA q).toNatClampNeg) ||| (kv_R_writes po pd wh wd fr q t))) 0) = 0 then (if (lg_cmp ((kv_R_reads po pd pa pb pm wh wd rg fr XB b i ((XA b).toNatClampNeg)) &&& (kv_R_writes po pd wh wd fr q t)) 0) = 0 then 1 else 0) else 0 : Int32) from (by rw [if_neg h5, if_pos h6, if_neg h7]))) (K92 _ _ _ hP hS hl)
              · refine lv_iconst (v := 1) hx hb d_R_free_87 (by decide) ?_
                refine lv_goto (tgt := 92) hx hb d_R_free_88 (by decide) ?_
                exact W.eq (congrArg (fun z9 => F0 m 92 ls (.int z9 :: [])) (show (1 : Int32) = (if z = 0 then 0 else if (lg_cmp ((kv_R_writes po pd wh wd fr b i) &&& ((kv_R_reads po pd pa pb pm wh wd rg fr XB q t (XA q).toNatClampNeg) ||| (kv_R_writes po pd wh wd fr q t))) 0) = 0 then (if (lg_cmp ((kv_R_reads po pd pa pb pm wh wd rg fr XB b i ((XA b).toNatClampNeg)) &&& (kv_R_writes po pd wh wd fr q t)) 0) = 0 then 1 else 0) else 0 : Int32) from (by rw [if_neg h5, if_pos h6, if_pos h7]))) (K92 _ _ _ hP hS hl)
      exact loopi (sp b - bf b) (bf b) _ _ _ _ (by have := (hE b (by omega)).2.2.2.2.1; omega) (rfl) (hP) hS (lv_sub hl [0, 2, 1, 3, 4, 5, 6, 7] rfl)
  exact loopo q 0 1 _ _ _ (by omega) (rfl) (hP) hS (lv_sub hl [0, 1, 2, 3, 4, 5, 6] rfl)
