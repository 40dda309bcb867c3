/-! the law's loop -/
theorem kLoop_lt {i L : Nat} (h : i ≤ L + 1) (hL : L ≤ 3585) (h2 : L < i + 7) : Int32.ofNat L - 7 < nI i := by
  rw [Int32.lt_iff_toInt_lt, show Int32.ofNat L - 7 = nI L - nI 7 from rfl, pk_sub_toInt (by omega) (by omega), nI_toInt (by omega)]
  omega
set_option maxRecDepth 100000 in
set_option maxHeartbeats 4000000 in
theorem kLoop {p : Program} {l : Launch} {e : Env} {s : State} {m : MethodId} {below : List Frame} {meth : Method} {c : Code} {Q : State → Prop} {D : va_G} {cI cB cJ cQ cW dI dZ : ClassId} {b L a0 aR ao : Nat} {xs : Nat → Int32} (C0 : kCx p l s m c b L xs D cI cB cJ cQ cW dI dZ)
    (KX : ∀ (H1 : Heap) (locs1 : List Loc) (ls1 : Array Slot) (cells1 slots1 : Nat), va_S (kV_A s) s.heap H1 locs1 → cells1 ≤ 604257 → slots1 ≤ 7283298 → W p l e room_1 s m #[Value.ref b] below meth c H1 locs1 cells1 slots1 Q (F0 m 679 ls1 [])) :
    ∀ (n i : Nat) (x : kMS) (r : kRS) (ov : Int64) (H : Heap) (locs : List Loc) (ls : Array Slot) (cells slots : Nat), L - i ≤ n → i ≤ L + 1 → cells + (L - i) ≤ 604257 → slots + 6 * (L - i) ≤ 7283298 → kZ x r → kV D cI cB cJ cQ cW dI dZ s.heap.size a0 aR ao x r ov H → va_S (kV_A s) s.heap H locs → lv_has ls 7 [(0, .ref b), (1, .ref a0), (2, .ref aR), (3, .ref ao), (4, .int (nI i))] → W p l e room_1 s m #[Value.ref b] below meth c H locs cells slots Q (F0 m 33 ls []) := by
  intro n
  induction n with
  | zero =>
    intro i x r ov H locs ls cells slots h1 h2 h3 h4 hZ hV hS hl
    obtain ⟨htr, hx, hb, hml, hown, hg, hK, hKR, hSt, hX, hbl, hL⟩ := id C0
    refine lv_iload hx hb d_L_law_33 (lv_at hl 4 rfl) ?_
    refine lv_aload_n hx hb d_L_law_35 rfl (lv_at hl 0 rfl) ?_
    refine va_slen hx hb hX hbl (fun z => absurd hbl (Nat.not_lt.mpr z)) hS d_L_law_36 ?_
    refine lv_bipush (v := 7) hx hb d_L_law_37 (by decide) ?_
    refine lv_isub hx hb d_L_law_39 ?_
    refine lv_icmp_gt (tgt := 679) hx hb d_L_law_40 (by decide) (fun _ => KX H locs ls cells slots hS (by omega) (by omega)) (fun h => absurd (kLoop_lt h2 hL (by omega)) h)
  | succ n ih =>
    intro i x r ov H locs ls cells slots h1 h2 h3 h4 hZ hV hS hl
    obtain ⟨htr, hx, hb, hml, hown, hg, hK, hKR, hSt, hX, hbl, hL⟩ := id C0
    refine lv_iload hx hb d_L_law_33 (lv_at hl 4 rfl) ?_
    refine lv_aload_n hx hb d_L_law_35 rfl (lv_at hl 0 rfl) ?_
    refine va_slen hx hb hX hbl (fun z => absurd hbl (Nat.not_lt.mpr z)) hS d_L_law_36 ?_
    refine lv_bipush (v := 7) hx hb d_L_law_37 (by decide) ?_
    refine lv_isub hx hb d_L_law_39 ?_
    refine lv_icmp_gt (tgt := 679) hx hb d_L_law_40 (by decide) (fun _ => KX H locs ls cells slots hS (by omega) (by omega)) (fun h => ?_)
    have hi : i + 7 ≤ L := Nat.not_lt.mp (fun z => h (kLoop_lt h2 hL z))
    have hf : cells + 1 ≤ room_1.cells ∧ slots + 6 ≤ room_1.slots := ⟨by show cells + 1 ≤ 604257; omega, by show slots + 6 ≤ 7283298; omega⟩
    refine lv_aload_n hx hb d_L_law_43 rfl (lv_at hl 0 rfl) ?_
    refine lv_iload hx hb d_L_law_44 (lv_at hl 4 rfl) ?_
    refine kV_rd hx hb hX hbl hS hL (j := i) (by omega) rfl d_L_law_46 ?_
    refine lv_bipush (v := 15) hx hb d_L_law_47 (by decide) ?_
    refine lv_iand hx hb d_L_law_49 ?_
    have KK : ∀ (H1 : Heap) (locs1 : List Loc) (ls1 : Array Slot) (x1 : kMS) (r1 : kRS) (ov1 : Int64), kZ x1 r1 → kV D cI cB cJ cQ cW dI dZ s.heap.size a0 aR ao x1 r1 ov1 H1 → va_S (kV_A s) s.heap H1 locs1 → lv_has ls1 7 [(0, .ref b), (1, .ref a0), (2, .ref aR), (3, .ref ao), (4, .int (nI i))] → W p l e room_1 s m #[Value.ref b] below meth c H1 locs1 (cells + 1) (slots + 6) Q (F0 m 673 ls1 []) := by
      intro H1 locs1 ls1 x1 r1 ov1 hZ1 hV1 hS1 hl1
      refine lv_iinc (k := 4) (v := nI (i + 7)) (lv' := [(4, .int (nI (i + 7))), (0, .ref b), (1, .ref a0), (2, .ref aR), (3, .ref ao)]) hx hb d_L_law_673 hl1 rfl (nI_add i 7) (by decide) rfl (fun ls2 hl2 => ?_)
      refine lv_goto (tgt := 33) hx hb d_L_law_676 (by decide) ?_
      exact ih (i + 7) x1 r1 ov1 H1 locs1 ls2 (cells + 1) (slots + 6) (by omega) (by omega) (by omega) (by omega) hZ1 hV1 hS1 (lv_sub hl2 [1, 2, 3, 4, 0] rfl)
    generalize xs i &&& 15 = w
    by_cases k0 : w = 0
    · subst k0
      exact lv_tableIn (tgt := 108) hx hb d_L_law_50 (by decide) (by decide) rfl (by decide) (kS_put C0 hi hZ hV hS hl hf KK)
    by_cases k1 : w = 1
    · subst k1
      exact lv_tableIn (tgt := 242) hx hb d_L_law_50 (by decide) (by decide) rfl (by decide) (kS_go C0 hi hZ hV hS hl hf KK)
    by_cases k2 : w = 2
    · subst k2
      exact lv_tableIn (tgt := 298) hx hb d_L_law_50 (by decide) (by decide) rfl (by decide) (kS_resume C0 hi hZ hV hS hl hf KK)
    by_cases k3 : w = 3
    · subst k3
      exact lv_tableIn (tgt := 342) hx hb d_L_law_50 (by decide) (by decide) rfl (by decide) (kS_cycles C0 hi hZ hV hS hl hf KK)
    by_cases k4 : w = 4
    · subst k4
      exact lv_tableIn (tgt := 398) hx hb d_L_law_50 (by decide) (by decide) rfl (by decide) (kS_poke C0 hi hZ hV hS hl hf KK)
    by_cases k5 : w = 5
    · subst k5
      exact lv_tableIn (tgt := 473) hx hb d_L_law_50 (by decide) (by decide) rfl (by decide) (kS_limit C0 hi hZ hV hS hl hf KK)
    by_cases k6 : w = 6
    · subst k6
      exact lv_tableIn (tgt := 536) hx hb d_L_law_50 (by decide) (by decide) rfl (by decide) (kS_scalar C0 hi hZ hV hS hl hf KK)
    by_cases k7 : w = 7
    · subst k7
      exact lv_tableIn (tgt := 561) hx hb d_L_law_50 (by decide) (by decide) rfl (by decide) (kS_file C0 hi hZ hV hS hl hf KK)
    by_cases k8 : w = 8
    · subst k8
      exact lv_tableIn (tgt := 586) hx hb d_L_law_50 (by decide) (by decide) rfl (by decide) (kS_memory C0 hi hZ hV hS hl hf KK)
    by_cases k9 : w = 9
    · subst k9
      exact lv_tableIn (tgt := 611) hx hb d_L_law_50 (by decide) (by decide) rfl (by decide) (kS_about C0 hi hZ hV hS hl hf KK)
    by_cases k10 : w = 10
    · subst k10
      exact lv_tableIn (tgt := 636) hx hb d_L_law_50 (by decide) (by decide) rfl (by decide) (kS_queue C0 hi hZ hV hS hl hf KK)
    refine kw_tbl (tgt := 673) (N := 11) hx hb d_L_law_50 rfl (by decide) (fun j hj => Or.inr (fun z => ?_)) ?_
    · have hw : w = nI j := Int32.toInt_inj.mp (by rw [z, nI_toInt (by omega)]; omega)
      have hj2 : j = 0 ∨ j = 1 ∨ j = 2 ∨ j = 3 ∨ j = 4 ∨ j = 5 ∨ j = 6 ∨ j = 7 ∨ j = 8 ∨ j = 9 ∨ j = 10 := by omega
      rcases hj2 with rfl | rfl | rfl | rfl | rfl | rfl | rfl | rfl | rfl | rfl | rfl
      · exact k0 hw
      · exact k1 hw
      · exact k2 hw
      · exact k3 hw
      · exact k4 hw
      · exact k5 hw
      · exact k6 hw
      · exact k7 hw
      · exact k8 hw
      · exact k9 hw
      · exact k10 hw
    · refine W.widen (k := cells + 1) (n := slots + 6) (by omega) (by omega) ?_
      exact KK H locs ls x r ov hZ hV hS hl
