/-! the reference: held -/
def kv_hn (o b : Nat) : Nat → Nat → Int64 → Int64
  | 0, _, v => v
  | k + 1, e, v => if nI o = 19 then kv_hn o b k (e + 1) (v ||| kv_R_bytes (8 * nI b + nI e) 1) else v
def kv_R_needs (gp : Nat) (po pb : Nat → Nat) (pm : Nat → Int32) (k : Nat) : Int64 := kv_hn (po k) (pb k) (8 * gp) 0 (if pm k = 0 then 0 else kv_R_bytes 0 8)
def kv_hi (po pd wh wd fr : Nat → Nat) (u : Int64) (b : Nat) : Nat → Nat → Int32 → Int32
  | 0, _, z => z
  | k + 1, i, z => kv_hi po pd wh wd fr u b k (i + 1) (if z = 0 then (if lg_cmp (kv_R_writes po pd wh wd fr b i &&& u) 0 = 0 then 0 else 1) else 1)
def kv_ho (po pd wh wd fr sp dn : Nat → Nat) (u : Int64) : Nat → Nat → Int32 → Int32
  | 0, _, z => z
  | k + 1, b, z => kv_ho po pd wh wd fr sp dn u k (b + 1) (kv_hi po pd wh wd fr u b (sp b - dn b) (dn b) (if z = 0 then (if kv_R_unit (nI (po (wh b))) = 2 then 1 else 0) else 1))
theorem kv_hi01 (po pd wh wd fr : Nat → Nat) (u : Int64) (b : Nat) : ∀ (k i : Nat) (z : Int32), (z = 0 ∨ z = 1) → (kv_hi po pd wh wd fr u b k i z = 0 ∨ kv_hi po pd wh wd fr u b k i z = 1) := by
  intro k
  induction k with
  | zero => intro i z h; exact h
  | succ k ih =>
    intro i z h
    rw [kv_hi]
    apply ih
    split
    · split
      · exact Or.inl rfl
      · exact Or.inr rfl
    · exact Or.inr rfl
theorem kv_ho01 (po pd wh wd fr sp dn : Nat → Nat) (u : Int64) : ∀ (k b : Nat) (z : Int32), (z = 0 ∨ z = 1) → (kv_ho po pd wh wd fr sp dn u k b z = 0 ∨ kv_ho po pd wh wd fr sp dn u k b z = 1) := by
  intro k
  induction k with
  | zero => intro b z h; exact h
  | succ k ih =>
    intro b z h
    rw [kv_ho]
    refine ih _ _ (kv_hi01 _ _ _ _ _ _ _ _ _ _ ?_)
    split
    · split
      · exact Or.inr rfl
      · exact Or.inl rfl
    · exact Or.inr rfl
def kv_R_held (gp qu : Nat) (po pd pb : Nat → Nat) (pm : Nat → Int32) (wh wd fr sp dn : Nat → Nat) (k : Nat) : Int32 := kv_ho po pd wh wd fr sp dn (kv_R_needs gp po pb pm k) qu 0 0

set_option maxRecDepth 100000 in
set_option maxHeartbeats 4000000 in
theorem c_R_held (l : Launch) {D : va_G} {ad : Nat → Nat} {n : Nat} {cs : Nat → va_E} {cI : ClassId} {cZ : ClassId} {la : Nat} {th : Int32} {st : Nat} {nx : Int32} {wi : Nat} {gp : Nat} {vl : Nat} {sa : Nat} {bo : Nat} {cy : Int32} {sd : Int32} {ma : Nat} {qu : Nat} {X : Nat → Int32} {F : Nat → Int32} {M : Nat → Int32} {po : Nat → Nat} {pd : Nat → Nat} {pa : Nat → Nat} {pb : Nat → Nat} {pn : Nat → Int32} {pm : Nat → Int32} {wh : Nat → Nat} {wd : Nat → Nat} {rg : Nat → Nat} {fr : Nat → Nat} {sp : Nat → Nat} {dn : Nat → Nat} {bf : Nat → Nat} {XA : Nat → Int32} {XB : Nat → Int32} {k : Nat} (hn : 19 ≤ n) (hR : kR ad cI cZ cs la th st nx wi gp vl sa bo cy sd ma qu X F M po pd pa pb pn pm wh wd rg fr sp dn bf XA XB) (hk : k < 40) (hgp : gp < 5) (hqu : qu ≤ 4) (hH : ∀ b, b < qu → wh b < 40 ∧ dn b ≤ sp b ∧ sp b < 2 ^ 20) : kw_mi l y_R_held w_R_held (kr 2) D kc (ktR cI cZ) ad n cs [.ref (ad 0), .int (nI k)] (fun r9 c9 => r9 = kv_R_held gp qu po pd pb pm wh wd fr sp dn k ∧ c9 = cs) := by
  refine kw_of (cc := b_R_held) (maxL := 7) (ret := (some .boolean)) (by decide) rfl (Nat.le_of_ble_eq_true rfl) ?_
  intro p e s m below meth c ls hx hb hr hml hown hts hlocks hP hK hl
  have hg : ∀ w9 ∈ kg_G, w9.before [.ref (ad 0), .int (nI k)].toArray s = true := fun w9 h9 => hts w9 (List.mem_cons_of_mem _ h9)
  have hown : s.vm.findClass "LaneMachineModel" = some m.cls := hown
  have hA : ∀ k, k < n → kw_A ad n (ad k) := fun k hk => ⟨k, hk, rfl⟩
  have hS : va_S (kw_A ad n) s.heap s.heap [] := va_S.rf
  have hl : lv_has ls 7 [(0, .ref (ad 0)), (1, .int (nI k))] := hl
  obtain ⟨e0, e1, e2, e3, e4, e5, e6, e7, e8, e9, e10, e11, e12, e13, e14, e15, e16, e17, e18⟩ := hR
  refine lv_iconst (v := 0) hx hb d_R_held_0 (by decide) ?_
  refine lv_istore_n (lv' := [(2, .int 0), (0, .ref (ad 0)), (1, .int (nI k))]) hx hb d_R_held_1 rfl hl (by decide) rfl (fun ls hl => ?_)
  have K21 : ∀ (H : Heap) (locs : List Loc) (ls : Array Slot), va_P D kc (kw_w ad cs n) H → va_S (kw_A ad n) s.heap H locs → lv_has ls 7 [(2, .int 0), (0, .ref (ad 0)), (1, .int (nI k))] → W p l e (kr 2) s m [.ref (ad 0), .int (nI k)].toArray below meth c H locs 0 0 (MQ below (va_Qi (fun r9 c9 => r9 = kv_R_held gp qu po pd pb pm wh wd fr sp dn k ∧ c9 = cs) (kw_Pre D kc (ktR cI cZ) ad n) (kw_A ad n)) [.ref (ad 0), .int (nI k)].toArray s 0 0 (kw_A ad n)) (F0 m 21 ls [.long ((if (pm k) = 0 then 0 else (kv_R_bytes 0 8) : Int64))]) := by
    intro H locs ls hP hS hl
    refine lv_lstore_n (lv' := [(3, .long ((if (pm k) = 0 then 0 else (kv_R_bytes 0 8) : Int64))), (2, .int 0), (0, .ref (ad 0)), (1, .int (nI k))]) hx hb d_R_held_21 rfl hl (by decide) rfl (fun ls hl => ?_)
    refine lv_iconst (v := 0) hx hb d_R_held_22 (by decide) ?_
    refine lv_istore (lv' := [(5, .int 0), (3, .long ((if (pm k) = 0 then 0 else (kv_R_bytes 0 8) : Int64))), (2, .int 0), (0, .ref (ad 0)), (1, .int (nI k))]) hx hb d_R_held_23 hl (by decide) rfl (fun ls hl => ?_)
    have KXn : ∀ (H : Heap) (locs : List Loc) (ls : Array Slot), va_P D kc (kw_w ad cs n) H → va_S (kw_A ad n) s.heap H locs → lv_has ls 7 [(3, .long (kv_R_needs gp po pb pm k)), (2, .int 0), (0, .ref (ad 0)), (1, .int (nI k))] → W p l e (kr 2) s m [.ref (ad 0), .int (nI k)].toArray below meth c H locs 0 0 (MQ below (va_Qi (fun r9 c9 => r9 = kv_R_held gp qu po pd pb pm wh wd fr sp dn k ∧ c9 = cs) (kw_Pre D kc (ktR cI cZ) ad n) (kw_A ad n)) [.ref (ad 0), .int (nI k)].toArray s 0 0 (kw_A ad n)) (F0 m 73 ls []) := by
      intro H locs ls hP hS hl
      refine lv_iconst (v := 0) hx hb d_R_held_73 (by decide) ?_
      refine lv_istore (lv' := [(5, .int 0), (3, .long (kv_R_needs gp po pb pm k)), (2, .int 0), (0, .ref (ad 0)), (1, .int (nI k))]) hx hb d_R_held_74 hl (by decide) rfl (fun ls hl => ?_)
      have KXo : ∀ (H : Heap) (locs : List Loc) (ls : Array Slot), va_P D kc (kw_w ad cs n) H → va_S (kw_A ad n) s.heap H locs → lv_has ls 7 [(2, .int (kv_ho po pd wh wd fr sp dn (kv_R_needs gp po pb pm k) qu 0 0)), (3, .long (kv_R_needs gp po pb pm k)), (0, .ref (ad 0)), (1, .int (nI k))] → W p l e (kr 2) s m [.ref (ad 0), .int (nI k)].toArray below meth c H locs 0 0 (MQ below (va_Qi (fun r9 c9 => r9 = kv_R_held gp qu po pd pb pm wh wd fr sp dn k ∧ c9 = cs) (kw_Pre D kc (ktR cI cZ) ad n) (kw_A ad n)) [.ref (ad 0), .int (nI k)].toArray s 0 0 (kw_A ad n)) (F0 m 172 ls []) := by
        intro H locs ls hP hS hl
        refine lv_iload_n hx hb d_R_held_172 rfl (lv_at hl 0 rfl) ?_
        exact kw_zret hx hb hr hlocks hP hK hS (kv_ho01 _ _ _ _ _ _ _ _ _ _ _ (Or.inl rfl)) ⟨rfl, rfl⟩ d_R_held_173
      have loopo : ∀ (kk : Nat) (b : Nat) (y : Int32) (H : Heap) (locs : List Loc) (ls : Array Slot), b + kk = qu → kv_ho po pd wh wd fr sp dn (kv_R_needs gp po pb pm k) qu 0 0 = kv_ho po pd wh wd fr sp dn (kv_R_needs gp po pb pm k) kk b y → va_P D kc (kw_w ad cs n) H → va_S (kw_A ad n) s.heap H locs → lv_has ls 7 [(5, .int (nI b)), (2, .int y), (3, .long (kv_R_needs gp po pb pm k)), (0, .ref (ad 0)), (1, .int (nI k))] → W p l e (kr 2) s m [.ref (ad 0), .int (nI k)].toArray below meth c H locs 0 0 (MQ below (va_Qi (fun r9 c9 => r9 = kv_R_held gp qu po pd pb pm wh wd fr sp dn k ∧ c9 = cs) (kw_Pre D kc (ktR cI cZ) ad n) (kw_A ad n)) [.ref (ad 0), .int (nI k)].toArray s 0 0 (kw_A ad n)) (F0 m 76 ls []) := by
        intro kk
        induction kk with
        | zero =>
          intro b y H locs ls hbk hw hP hS hl
          refine lv_iload hx hb d_R_held_76 (lv_at hl 0 rfl) ?_
          refine lv_aload_n hx hb d_R_held_78 rfl (lv_at hl 3 rfl) ?_
          refine kw_get hx hb hg in_R hown hK hP 0 (Nat.lt_of_lt_of_le (by decide : 0 < 19) hn) e0 rfl 21 (by decide) (hg _ kg_604) rfl rfl d_R_held_79 ?_
          refine lv_icmp_ge (tgt := 172) hx hb d_R_held_82 (by decide) (fun _ => ?_) (fun h1 => absurd (nI_le (by omega) (by omega)) h1)
          exact KXo _ _ _ (hP) hS (by rw [show kv_ho po pd wh wd fr sp dn (kv_R_needs gp po pb pm k) qu 0 0 = y from hw]; exact lv_sub hl [1, 2, 3, 4] rfl)
        | succ j iho =>
          intro b y H locs ls hbk hw hP hS hl
          have hs9 := (hH b (by omega)).2.2
          have hb9 := (hH b (by omega)).2.1
          have hwb := (hH b (by omega)).1
          have hb5 : b < 5 := by omega
          refine lv_iload hx hb d_R_held_76 (lv_at hl 0 rfl) ?_
          refine lv_aload_n hx hb d_R_held_78 rfl (lv_at hl 3 rfl) ?_
          refine kw_get hx hb hg in_R hown hK hP 0 (Nat.lt_of_lt_of_le (by decide : 0 < 19) hn) e0 rfl 21 (by decide) (hg _ kg_604) rfl rfl d_R_held_79 ?_
          refine lv_icmp_ge (tgt := 172) hx hb d_R_held_82 (by decide) (fun h2 => absurd h2 (nI_ge (by omega) (by omega))) (fun _ => ?_)
          have K113 : ∀ (H : Heap) (locs : List Loc) (ls : Array Slot), va_P D kc (kw_w ad cs n) H → va_S (kw_A ad n) s.heap H locs → lv_has ls 7 [(5, .int (nI b)), (2, .int y), (3, .long (kv_R_needs gp po pb pm k)), (0, .ref (ad 0)), (1, .int (nI k))] → W p l e (kr 2) s m [.ref (ad 0), .int (nI k)].toArray below meth c H locs 0 0 (MQ below (va_Qi (fun r9 c9 => r9 = kv_R_held gp qu po pd pb pm wh wd fr sp dn k ∧ c9 = cs) (kw_Pre D kc (ktR cI cZ) ad n) (kw_A ad n)) [.ref (ad 0), .int (nI k)].toArray s 0 0 (kw_A ad n)) (F0 m 113 ls [.int ((if y = 0 then (if (kv_R_unit (nI (po (wh b)))) = 2 then 1 else 0) else 1 : Int32))]) := by
            intro H locs ls hP hS hl
            refine lv_istore_n (lv' := [(2, .int ((if y = 0 then (if (kv_R_unit (nI (po (wh b)))) = 2 then 1 else 0) else 1 : Int32))), (5, .int (nI b)), (3, .long (kv_R_needs gp po pb pm k)), (0, .ref (ad 0)), (1, .int (nI k))]) hx hb d_R_held_113 rfl hl (by decide) rfl (fun ls hl => ?_)
            refine lv_aload_n hx hb d_R_held_114 rfl (lv_at hl 3 rfl) ?_
            refine kw_get hx hb hg in_R hown hK hP 0 (Nat.lt_of_lt_of_le (by decide : 0 < 19) hn) e0 rfl 27 (by decide) (hg _ kg_610) rfl rfl d_R_held_115 ?_
            refine lv_iload hx hb d_R_held_118 (lv_at hl 1 rfl) ?_
            refine kw_iald hx hb hK hP 15 0 (Nat.lt_of_lt_of_le (by decide : 15 < 19) hn) e15 rfl b (rfl) (hb5) (by omega) d_R_held_120 ?_
            refine lv_istore (lv' := [(6, .int (nI (dn b))), (2, .int ((if y = 0 then (if (kv_R_unit (nI (po (wh b)))) = 2 then 1 else 0) else 1 : Int32))), (5, .int (nI b)), (3, .long (kv_R_needs gp po pb pm k)), (0, .ref (ad 0)), (1, .int (nI k))]) hx hb d_R_held_121 hl (by decide) rfl (fun ls hl => ?_)
            have KXi : ∀ (H : Heap) (locs : List Loc) (ls : Array Slot), va_P D kc (kw_w ad cs n) H → va_S (kw_A ad n) s.heap H locs → lv_has ls 7 [(2, .int (kv_hi po pd wh wd fr (kv_R_needs gp po pb pm k) b (sp b - dn b) (dn b) (if y = 0 then (if kv_R_unit (nI (po (wh b))) = 2 then 1 else 0) else 1 : Int32))), (5, .int (nI b)), (3, .long (kv_R_needs gp po pb pm k)), (0, .ref (ad 0)), (1, .int (nI k))] → W p l e (kr 2) s m [.ref (ad 0), .int (nI k)].toArray below meth c H locs 0 0 (MQ below (va_Qi (fun r9 c9 => r9 = kv_R_held gp qu po pd pb pm wh wd fr sp dn k ∧ c9 = cs) (kw_Pre D kc (ktR cI cZ) ad n) (kw_A ad n)) [.ref (ad 0), .int (nI k)].toArray s 0 0 (kw_A ad n)) (F0 m 166 ls []) := by
              intro H locs ls hP hS hl
              refine lv_iinc (k := 1) (v := nI (b + 1)) (lv' := [(5, .int (nI (b + 1))), (2, .int (kv_hi po pd wh wd fr (kv_R_needs gp po pb pm k) b (sp b - dn b) (dn b) (if y = 0 then (if kv_R_unit (nI (po (wh b))) = 2 then 1 else 0) else 1 : Int32))), (3, .long (kv_R_needs gp po pb pm k)), (0, .ref (ad 0)), (1, .int (nI k))]) hx hb d_R_held_166 hl rfl ((nI_succ b).symm) (by decide) rfl (fun ls hl => ?_)
              refine lv_goto (tgt := 76) hx hb d_R_held_169 (by decide) ?_
              exact iho ((b + 1)) _ _ _ _ (by omega) (hw) (hP) hS (lv_sub hl [0, 1, 2, 3, 4] rfl)
            have loopi : ∀ (kk : Nat) (i : Nat) (z : Int32) (H : Heap) (locs : List Loc) (ls : Array Slot), i + kk = sp b → kv_hi po pd wh wd fr (kv_R_needs gp po pb pm k) b (sp b - dn b) (dn b) (if y = 0 then (if kv_R_unit (nI (po (wh b))) = 2 then 1 else 0) else 1 : Int32) = kv_hi po pd wh wd fr (kv_R_needs gp po pb pm k) b kk i z → va_P D kc (kw_w ad cs n) H → va_S (kw_A ad n) s.heap H locs → lv_has ls 7 [(6, .int (nI i)), (2, .int z), (5, .int (nI b)), (3, .long (kv_R_needs gp po pb pm k)), (0, .ref (ad 0)), (1, .int (nI k))] → W p l e (kr 2) s m [.ref (ad 0), .int (nI k)].toArray below meth c H locs 0 0 (MQ below (va_Qi (fun r9 c9 => r9 = kv_R_held gp qu po pd pb pm wh wd fr sp dn k ∧ c9 = cs) (kw_Pre D kc (ktR cI cZ) ad n) (kw_A ad n)) [.ref (ad 0), .int (nI k)].toArray s 0 0 (kw_A ad n)) (F0 m 123 ls []) := by
              intro kk
              induction kk with
              | zero =>
                intro i z H locs ls hik hv hP hS hl
                refine lv_iload hx hb d_R_held_123 (lv_at hl 0 rfl) ?_
                refine lv_aload_n hx hb d_R_held_125 rfl (lv_at hl 4 rfl) ?_
                refine kw_get hx hb hg in_R hown hK hP 0 (Nat.lt_of_lt_of_le (by decide : 0 < 19) hn) e0 rfl 26 (by decide) (hg _ kg_609) rfl rfl d_R_held_126 ?_
                refine lv_iload hx hb d_R_held_129 (lv_at hl 2 rfl) ?_
                refine kw_iald hx hb hK hP 14 0 (Nat.lt_of_lt_of_le (by decide : 14 < 19) hn) e14 rfl b (rfl) (hb5) (by omega) d_R_held_131 ?_
                refine lv_icmp_ge (tgt := 166) hx hb d_R_held_132 (by decide) (fun _ => ?_) (fun h3 => absurd (nI_le (by omega) (by omega)) h3)
                exact KXi _ _ _ (hP) hS (by rw [show kv_hi po pd wh wd fr (kv_R_needs gp po pb pm k) b (sp b - dn b) (dn b) (if y = 0 then (if kv_R_unit (nI (po (wh b))) = 2 then 1 else 0) else 1 : Int32) = z from hv]; exact lv_sub hl [1, 2, 3, 4, 5] rfl)
              | succ j ihi =>
                intro i z H locs ls hik hv hP hS hl
                refine lv_iload hx hb d_R_held_123 (lv_at hl 0 rfl) ?_
                refine lv_aload_n hx hb d_R_held_125 rfl (lv_at hl 4 rfl) ?_
                refine kw_get hx hb hg in_R hown hK hP 0 (Nat.lt_of_lt_of_le (by decide : 0 < 19) hn) e0 rfl 26 (by decide) (hg _ kg_609) rfl rfl d_R_held_126 ?_
                refine lv_iload hx hb d_R_held_129 (lv_at hl 2 rfl) ?_
                refine kw_iald hx hb hK hP 14 0 (Nat.lt_of_lt_of_le (by decide : 14 < 19) hn) e14 rfl b (rfl) (hb5) (by omega) d_R_held_131 ?_
                refine lv_icmp_ge (tgt := 166) hx hb d_R_held_132 (by decide) (fun h4 => absurd h4 (nI_ge (by omega) (by omega))) (fun _ => ?_)
                have K159 : ∀ (H : Heap) (locs : List Loc) (ls : Array Slot), va_P D kc (kw_w ad cs n) H → va_S (kw_A ad n) s.heap H locs → lv_has ls 7 [(6, .int (nI i)), (2, .int z), (5, .int (nI b)), (3, .long (kv_R_needs gp po pb pm k)), (0, .ref (ad 0)), (1, .int (nI k))] → W p l e (kr 2) s m [.ref (ad 0), .int (nI k)].toArray below meth c H locs 0 0 (MQ below (va_Qi (fun r9 c9 => r9 = kv_R_held gp qu po pd pb pm wh wd fr sp dn k ∧ c9 = cs) (kw_Pre D kc (ktR cI cZ) ad n) (kw_A ad n)) [.ref (ad 0), .int (nI k)].toArray s 0 0 (kw_A ad n)) (F0 m 159 ls [.int ((if z = 0 then (if (lg_cmp ((kv_R_writes po pd wh wd fr b i) &&& (kv_R_needs gp po pb pm k)) 0) = 0 then 0 else 1) else 1 : Int32))]) := by
                  intro H locs ls hP hS hl
                  refine lv_istore_n (lv' := [(2, .int ((if z = 0 then (if (lg_cmp ((kv_R_writes po pd wh wd fr b i) &&& (kv_R_needs gp po pb pm k)) 0) = 0 then 0 else 1) else 1 : Int32))), (6, .int (nI i)), (5, .int (nI b)), (3, .long (kv_R_needs gp po pb pm k)), (0, .ref (ad 0)), (1, .int (nI k))]) hx hb d_R_held_159 rfl hl (by decide) rfl (fun ls hl => ?_)
                  refine lv_iinc (k := 1) (v := nI (i + 1)) (lv' := [(6, .int (nI (i + 1))), (2, .int ((if z = 0 then (if (lg_cmp ((kv_R_writes po pd wh wd fr b i) &&& (kv_R_needs gp po pb pm k)) 0) = 0 then 0 else 1) else 1 : Int32))), (5, .int (nI b)), (3, .long (kv_R_needs gp po pb pm k)), (0, .ref (ad 0)), (1, .int (nI k))]) hx hb d_R_held_160 hl rfl ((nI_succ i).symm) (by decide) rfl (fun ls hl => ?_)
                  refine lv_goto (tgt := 123) hx hb d_R_held_163 (by decide) ?_
                  exact ihi ((i + 1)) _ _ _ _ (by omega) (hv) (hP) hS (lv_sub hl [0, 1, 2, 3, 4, 5] rfl)
                refine lv_iload_n hx hb d_R_held_135 rfl (lv_at hl 1 rfl) ?_
                refine lv_if_ne (tgt := 154) hx hb d_R_held_136 (by decide) (fun h5 => ?_) (fun h5 => ?_)
                · refine lv_iconst (v := 1) hx hb d_R_held_154 (by decide) ?_
                  refine lv_goto (tgt := 159) hx hb d_R_held_155 (by decide) ?_
                  exact W.eq (congrArg (fun z9 => F0 m 159 ls (.int z9 :: [])) (show (1 : Int32) = (if z = 0 then (if (lg_cmp ((kv_R_writes po pd wh wd fr b i) &&& (kv_R_needs gp po pb pm k)) 0) = 0 then 0 else 1) else 1 : Int32) from (by rw [if_neg h5]))) (K159 _ _ _ hP hS hl)
                · refine lv_aload_n hx hb d_R_held_139 rfl (lv_at hl 4 rfl) ?_
                  refine lv_iload hx hb d_R_held_140 (lv_at hl 2 rfl) ?_
                  refine lv_iload hx hb d_R_held_142 (lv_at hl 0 rfl) ?_
                  refine kw_calllx (kw_rV (As := [.int (nI b), .int (nI i)]) (rest := []) (q0 := 0) ⟨hx, hb, hml, hown, hg⟩ ⟨callB_of 2 hg (kg_goodG kg_711) rfl rfl rfl (hg _ kg_7) (hg _ kg_708) (by decide +kernel) ⟨by decide, by decide⟩, hg _ kg_710, hg _ (kg_sel (q := (y_R_writes, 31)) (by decide +kernel))⟩ (c_R_writes l hn ⟨e0, e1, e2, e3, e4, e5, e6, e7, e8, e9, e10, e11, e12, e13, e14, e15, e16, e17, e18⟩ hb5 hwb ) hK hP (Nat.lt_of_lt_of_le (by decide : 0 < 19) hn) e0 rfl rfl hl.1 rfl (Nat.le_of_ble_eq_true rfl) d_R_held_144 ⟨Nat.zero_le _, Nat.zero_le _⟩) hA hS (fun H locs hP hS => ?_)
                  refine lv_lload_n hx hb d_R_held_147 rfl (lv_at hl 3 rfl) ?_
                  refine lv_land hx hb d_R_held_148 ?_
                  refine lv_lconst (v := 0) hx hb d_R_held_149 (by decide) ?_
                  refine W.lcmp hx hb d_R_held_150 ?_
                  refine lv_if_eq (tgt := 158) hx hb d_R_held_151 (by decide) (fun h6 => ?_) (fun h6 => ?_)
                  · refine lv_iconst (v := 0) hx hb d_R_held_158 (by decide) ?_
                    exact W.eq (congrArg (fun z9 => F0 m 159 ls (.int z9 :: [])) (show (0 : Int32) = (if z = 0 then (if (lg_cmp ((kv_R_writes po pd wh wd fr b i) &&& (kv_R_needs gp po pb pm k)) 0) = 0 then 0 else 1) else 1 : Int32) from (by rw [if_pos h5, if_pos h6]))) (K159 _ _ _ hP hS hl)
                  · refine lv_iconst (v := 1) hx hb d_R_held_154 (by decide) ?_
                    refine lv_goto (tgt := 159) hx hb d_R_held_155 (by decide) ?_
                    exact W.eq (congrArg (fun z9 => F0 m 159 ls (.int z9 :: [])) (show (1 : Int32) = (if z = 0 then (if (lg_cmp ((kv_R_writes po pd wh wd fr b i) &&& (kv_R_needs gp po pb pm k)) 0) = 0 then 0 else 1) else 1 : Int32) from (by rw [if_pos h5, if_neg h6]))) (K159 _ _ _ hP hS hl)
            exact loopi (sp b - dn b) (dn b) _ _ _ _ (by have := (hH b (by omega)).2.1; omega) (rfl) (hP) hS (lv_sub hl [0, 1, 2, 3, 4, 5] rfl)
          refine lv_iload_n hx hb d_R_held_85 rfl (lv_at hl 1 rfl) ?_
          refine lv_if_ne (tgt := 108) hx hb d_R_held_86 (by decide) (fun h7 => ?_) (fun h7 => ?_)
          · refine lv_iconst (v := 1) hx hb d_R_held_108 (by decide) ?_
            refine lv_goto (tgt := 113) hx hb d_R_held_109 (by decide) ?_
            exact W.eq (congrArg (fun z9 => F0 m 113 ls (.int z9 :: [])) (show (1 : Int32) = (if y = 0 then (if (kv_R_unit (nI (po (wh b)))) = 2 then 1 else 0) else 1 : Int32) from (by rw [if_neg h7]))) (K113 _ _ _ hP hS hl)
          · refine lv_aload_n hx hb d_R_held_89 rfl (lv_at hl 3 rfl) ?_
            refine kw_get hx hb hg in_R hown hK hP 0 (Nat.lt_of_lt_of_le (by decide : 0 < 19) hn) e0 rfl 15 (by decide) (hg _ kg_598) rfl rfl d_R_held_90 ?_
            refine lv_aload_n hx hb d_R_held_93 rfl (lv_at hl 3 rfl) ?_
            refine kw_get hx hb hg in_R hown hK hP 0 (Nat.lt_of_lt_of_le (by decide : 0 < 19) hn) e0 rfl 22 (by decide) (hg _ kg_605) rfl rfl d_R_held_94 ?_
            refine lv_iload hx hb d_R_held_97 (lv_at hl 0 rfl) ?_
            refine kw_iald hx hb hK hP 10 0 (Nat.lt_of_lt_of_le (by decide : 10 < 19) hn) e10 rfl b (rfl) (hb5) (by omega) d_R_held_99 ?_
            refine kw_iald hx hb hK hP 4 0 (Nat.lt_of_lt_of_le (by decide : 4 < 19) hn) e4 rfl (wh b) (rfl) (hwb) (by omega) d_R_held_100 ?_
            refine kw_callix (kw_rS (As := [.int (nI (po (wh b)))]) (rest := []) ⟨hx, hb, hml, hown, hg⟩ ⟨callB_of 1 hg (kg_goodG kg_692) rfl rfl rfl (hg _ kg_7) (hg _ kg_690) (by decide +kernel) ⟨by decide, by decide⟩, hg _ kg_691⟩ (c_R_unit l  ) hK hP rfl hl.1 rfl (Nat.le_of_ble_eq_true rfl) d_R_held_101 ⟨Nat.zero_le _, Nat.zero_le _⟩) hA hS (fun H locs hP hS => ?_)
            refine lv_iconst (v := 2) hx hb d_R_held_104 (by decide) ?_
            refine lv_icmp_ne (tgt := 112) hx hb d_R_held_105 (by decide) (fun h8 => ?_) (fun h8 => ?_)
            · refine lv_iconst (v := 0) hx hb d_R_held_112 (by decide) ?_
              exact W.eq (congrArg (fun z9 => F0 m 113 ls (.int z9 :: [])) (show (0 : Int32) = (if y = 0 then (if (kv_R_unit (nI (po (wh b)))) = 2 then 1 else 0) else 1 : Int32) from (by rw [if_pos h7, if_neg h8]))) (K113 _ _ _ hP hS hl)
            · refine lv_iconst (v := 1) hx hb d_R_held_108 (by decide) ?_
              refine lv_goto (tgt := 113) hx hb d_R_held_109 (by decide) ?_
              exact W.eq (congrArg (fun z9 => F0 m 113 ls (.int z9 :: [])) (show (1 : Int32) = (if y = 0 then (if (kv_R_unit (nI (po (wh b)))) = 2 then 1 else 0) else 1 : Int32) from (by rw [if_pos h7, if_pos h8]))) (K113 _ _ _ hP hS hl)
      exact loopo qu 0 0 _ _ _ (by omega) (rfl) (hP) hS (lv_sub hl [0, 2, 1, 3, 4] rfl)
    have loopn : ∀ (kk : Nat) (ee : Nat) (v : Int64) (H : Heap) (locs : List Loc) (ls : Array Slot), ee + kk = 8 * gp → kv_R_needs gp po pb pm k = kv_hn (po k) (pb k) kk ee v → va_P D kc (kw_w ad cs n) H → va_S (kw_A ad n) s.heap H locs → lv_has ls 7 [(5, .int (nI ee)), (3, .long v), (2, .int 0), (0, .ref (ad 0)), (1, .int (nI k))] → W p l e (kr 2) s m [.ref (ad 0), .int (nI k)].toArray below meth c H locs 0 0 (MQ below (va_Qi (fun r9 c9 => r9 = kv_R_held gp qu po pd pb pm wh wd fr sp dn k ∧ c9 = cs) (kw_Pre D kc (ktR cI cZ) ad n) (kw_A ad n)) [.ref (ad 0), .int (nI k)].toArray s 0 0 (kw_A ad n)) (F0 m 25 ls []) := by
      intro kk
      induction kk with
      | zero =>
        intro ee v H locs ls hik hv hP hS hl
        refine lv_iload hx hb d_R_held_25 (lv_at hl 0 rfl) ?_
        refine lv_bipush (v := 8) hx hb d_R_held_27 (by decide) ?_
        refine lv_aload_n hx hb d_R_held_29 rfl (lv_at hl 3 rfl) ?_
        refine kw_get hx hb hg in_R hown hK hP 0 (Nat.lt_of_lt_of_le (by decide : 0 < 19) hn) e0 rfl 5 (by decide) (hg _ kg_588) rfl rfl d_R_held_30 ?_
        refine lv_imul hx hb d_R_held_33 ?_
        refine lv_icmp_ge (tgt := 73) hx hb d_R_held_34 (by decide) (fun _ => ?_) (fun h9 => absurd (by rw [show (8 : Int32) = nI 8 from rfl, pk_mul]; exact nI_le (by omega) (by omega)) h9)
        exact KXn _ _ _ (hP) hS (by rw [show kv_R_needs gp po pb pm k = v from hv]; exact lv_sub hl [1, 2, 3, 4] rfl)
      | succ j ihn =>
        intro ee v H locs ls hik hv hP hS hl
        refine lv_iload hx hb d_R_held_25 (lv_at hl 0 rfl) ?_
        refine lv_bipush (v := 8) hx hb d_R_held_27 (by decide) ?_
        refine lv_aload_n hx hb d_R_held_29 rfl (lv_at hl 3 rfl) ?_
        refine kw_get hx hb hg in_R hown hK hP 0 (Nat.lt_of_lt_of_le (by decide : 0 < 19) hn) e0 rfl 5 (by decide) (hg _ kg_588) rfl rfl d_R_held_30 ?_
        refine lv_imul hx hb d_R_held_33 ?_
        refine lv_icmp_ge (tgt := 73) hx hb d_R_held_34 (by decide) (fun h10 => absurd h10 (by rw [show (8 : Int32) = nI 8 from rfl, pk_mul]; exact nI_ge (by omega) (by omega))) (fun _ => ?_)
        refine lv_aload_n hx hb d_R_held_37 rfl (lv_at hl 3 rfl) ?_
        refine kw_get hx hb hg in_R hown hK hP 0 (Nat.lt_of_lt_of_le (by decide : 0 < 19) hn) e0 rfl 15 (by decide) (hg _ kg_598) rfl rfl d_R_held_38 ?_
        refine lv_iload_n hx hb d_R_held_41 rfl (lv_at hl 4 rfl) ?_
        refine kw_iald hx hb hK hP 4 0 (Nat.lt_of_lt_of_le (by decide : 4 < 19) hn) e4 rfl k (rfl) (hk) (by omega) d_R_held_42 ?_
        refine lv_bipush (v := 19) hx hb d_R_held_43 (by decide) ?_
        refine lv_icmp_ne (tgt := 73) hx hb d_R_held_45 (by decide) (fun h11 => ?_) (fun h11 => ?_)
        · exact KXn _ _ _ (hP) hS (by rw [show kv_R_needs gp po pb pm k = v from (by rw [hv, kv_hn, if_neg h11])]; exact lv_sub hl [1, 2, 3, 4] rfl)
        · refine lv_lload_n hx hb d_R_held_48 rfl (lv_at hl 1 rfl) ?_
          refine lv_bipush (v := 8) hx hb d_R_held_49 (by decide) ?_
          refine lv_aload_n hx hb d_R_held_51 rfl (lv_at hl 3 rfl) ?_
          refine kw_get hx hb hg in_R hown hK hP 0 (Nat.lt_of_lt_of_le (by decide : 0 < 19) hn) e0 rfl 18 (by decide) (hg _ kg_601) rfl rfl d_R_held_52 ?_
          refine lv_iload_n hx hb d_R_held_55 rfl (lv_at hl 4 rfl) ?_
          refine kw_iald hx hb hK hP 7 0 (Nat.lt_of_lt_of_le (by decide : 7 < 19) hn) e7 rfl k (rfl) (hk) (by omega) d_R_held_56 ?_
          refine lv_imul hx hb d_R_held_57 ?_
          refine lv_iload hx hb d_R_held_58 (lv_at hl 0 rfl) ?_
          refine lv_iadd hx hb d_R_held_60 ?_
          refine lv_iconst (v := 1) hx hb d_R_held_61 (by decide) ?_
          refine kw_calllx (kw_rS (As := [.int ((8 * (nI (pb k))) + (nI ee)), .int 1]) (rest := [.long v]) ⟨hx, hb, hml, hown, hg⟩ ⟨callB_of 2 hg (kg_goodG kg_707) rfl rfl rfl (hg _ kg_7) (hg _ kg_705) (by decide +kernel) ⟨by decide, by decide⟩, hg _ kg_706⟩ (c_R_bytes l  ) hK hP rfl hl.1 rfl (Nat.le_of_ble_eq_true rfl) d_R_held_62 ⟨Nat.zero_le _, Nat.zero_le _⟩) hA hS (fun H locs hP hS => ?_)
          refine lv_lor hx hb d_R_held_65 ?_
          refine lv_lstore_n (lv' := [(3, .long (v ||| (kv_R_bytes ((8 * (nI (pb k))) + (nI ee)) 1))), (5, .int (nI ee)), (2, .int 0), (0, .ref (ad 0)), (1, .int (nI k))]) hx hb d_R_held_66 rfl hl (by decide) rfl (fun ls hl => ?_)
          refine lv_iinc (k := 1) (v := nI (ee + 1)) (lv' := [(5, .int (nI (ee + 1))), (3, .long (v ||| (kv_R_bytes ((8 * (nI (pb k))) + (nI ee)) 1))), (2, .int 0), (0, .ref (ad 0)), (1, .int (nI k))]) hx hb d_R_held_67 hl rfl ((nI_succ ee).symm) (by decide) rfl (fun ls hl => ?_)
          refine lv_goto (tgt := 25) hx hb d_R_held_70 (by decide) ?_
          exact ihn ((ee + 1)) _ _ _ _ (by omega) (by rw [hv, kv_hn, if_pos h11]) (hP) hS (lv_sub hl [0, 1, 2, 3, 4] rfl)
    exact loopn (8 * gp) 0 _ _ _ _ (by omega) (rfl) (hP) hS (lv_sub hl [0, 1, 2, 3, 4] rfl)
  refine lv_aload_n hx hb d_R_held_2 rfl (lv_at hl 1 rfl) ?_
  refine kw_get hx hb hg in_R hown hK hP 0 (Nat.lt_of_lt_of_le (by decide : 0 < 19) hn) e0 rfl 20 (by decide) (hg _ kg_603) rfl rfl d_R_held_3 ?_
  refine lv_iload_n hx hb d_R_held_6 rfl (lv_at hl 2 rfl) ?_
  refine kw_zald hx hb hK hP 9 1 (Nat.lt_of_lt_of_le (by decide : 9 < 19) hn) e9 rfl k (rfl) (hk) (by omega) d_R_held_7 ?_
  refine lv_if_eq (tgt := 20) hx hb d_R_held_8 (by decide) (fun h12 => ?_) (fun h12 => ?_)
  · refine lv_lconst (v := 0) hx hb d_R_held_20 (by decide) ?_
    exact W.eq (congrArg (fun z9 => F0 m 21 ls (.long z9 :: [])) (show (0 : Int64) = (if (pm k) = 0 then 0 else (kv_R_bytes 0 8) : Int64) from (by rw [if_pos h12]))) (K21 _ _ _ hP hS hl)
  · refine lv_iconst (v := 0) hx hb d_R_held_11 (by decide) ?_
    refine lv_bipush (v := 8) hx hb d_R_held_12 (by decide) ?_
    refine kw_calllx (kw_rS (As := [.int 0, .int 8]) (rest := []) ⟨hx, hb, hml, hown, hg⟩ ⟨callB_of 2 hg (kg_goodG kg_707) rfl rfl rfl (hg _ kg_7) (hg _ kg_705) (by decide +kernel) ⟨by decide, by decide⟩, hg _ kg_706⟩ (c_R_bytes l  ) hK hP rfl hl.1 rfl (Nat.le_of_ble_eq_true rfl) d_R_held_14 ⟨Nat.zero_le _, Nat.zero_le _⟩) hA hS (fun H locs hP hS => ?_)
    refine lv_goto (tgt := 21) hx hb d_R_held_17 (by decide) ?_
    exact W.eq (congrArg (fun z9 => F0 m 21 ls (.long z9 :: [])) (show kv_R_bytes 0 8 = (if (pm k) = 0 then 0 else (kv_R_bytes 0 8) : Int64) from (by rw [if_neg h12]))) (K21 _ _ _ hP hS hl)
