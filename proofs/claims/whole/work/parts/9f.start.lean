/-! the law's start: the two machines are new -/
def kx0 (lan : Int32) : kMS := kmmk (kn_la lan) 0 0 1 0 128 0 0 (fun _ => 0) (fun _ => 0) (fun _ => 0) 0 0 0 0 (fun i => i) (fun _ => 4) (fun _ => 0) (fun _ => 0) (fun _ => 0) (fun _ => 0) (fun _ => 0) (fun _ => 0) (fun _ => 0) (fun _ => 0) (fun _ => 0) (fun _ => 0) (fun _ => 0) (fun _ => 0) (fun _ => 0) (fun _ => 0) (fun _ => 0) (fun _ => 0) (fun _ _ => 0) (fun _ _ => 0)
def kr0 (lan : Int32) : kRS := kmk (kn_la lan) 0 1 0 1 1 0 0 128 0 0 0 0 (fun _ => 0) (fun _ => 0) (fun _ => 0) (fun _ => 0) (fun _ => 0) (fun _ => 0) (fun _ => 0) (fun _ => 0) (fun _ => 0) (fun _ => 0) (fun _ => 0) (fun _ => 0) (fun _ => 0) (fun _ => 0) (fun _ => 0) (fun _ => 0) (fun _ => 0) (fun _ => 0)
theorem kn_la8 (v : Int32) : kn_la v ≤ 8 := by
  unfold kn_la
  by_cases h1 : 1 ≤ v
  · rw [if_pos h1]
    by_cases h2 : v ≤ 8
    · rw [if_pos h2]
      have h0 : ¬ v < 0 := fun z => absurd (Int32.lt_of_lt_of_le z (by decide : (0 : Int32) ≤ 1)) (Int32.not_lt.mpr h1)
      obtain ⟨j, hj, rfl⟩ := nI_of h0
      rw [nI_clamp hj]
      exact (nI_leI (b := 8) hj (by decide)).mp h2
    · rw [if_neg h2]; exact Nat.le_refl _
  · rw [if_neg h1]; decide
theorem kZ0 (lan : Int32) : kZ (kx0 lan) (kr0 lan) := by
  have n0 : ∀ {q : Nat} {P : Prop}, q < 0 → P := fun h => absurd h (Nat.not_lt_zero _)
  refine ⟨⟨⟨Nat.le_of_ble_eq_true rfl, fun j hj => n0 hj⟩, ⟨kn_la8 lan, Nat.le_of_ble_eq_true rfl, Or.inl rfl, Or.inl rfl, Nat.le_of_ble_eq_true rfl, Nat.le_of_ble_eq_true rfl, Nat.le_of_ble_eq_true rfl, rfl⟩, ⟨fun q hq => n0 hq, ?_⟩⟩, ⟨⟨rfl, rfl, rfl, rfl, rfl, rfl, rfl, rfl, Nat.le_of_ble_eq_true rfl, Nat.le_of_ble_eq_true rfl, rfl, rfl, rfl, rfl, fun _ _ => rfl, fun _ _ => rfl, fun _ _ => rfl⟩, ⟨⟨rfl, rfl⟩, fun j hj => n0 hj⟩, fun q hq => n0 hq, fun i j _ _ h => h⟩, Nat.le_of_ble_eq_true rfl⟩
  exact ⟨fun _ _ => rfl, fun _ _ => rfl, fun q hq => n0 hq, fun q hq => n0 hq, fun q hq => n0 hq⟩
theorem kb_dR : ∀ j, j < 31 → defaultValue (t_R j) = vp_V [.int 0, .int 0, .int 0, .int 0, .int 0, .int 0, .int 0, .int 0, .int 0, .int 0, .int 0, .null, .null, .null, .int 0, .null, .null, .null, .null, .null, .null, .int 0, .null, .null, .null, .null, .null, .null, .null, .null, .null] j := by
  intro j hj
  have z9 : j = 0 ∨ j = 1 ∨ j = 2 ∨ j = 3 ∨ j = 4 ∨ j = 5 ∨ j = 6 ∨ j = 7 ∨ j = 8 ∨ j = 9 ∨ j = 10 ∨ j = 11 ∨ j = 12 ∨ j = 13 ∨ j = 14 ∨ j = 15 ∨ j = 16 ∨ j = 17 ∨ j = 18 ∨ j = 19 ∨ j = 20 ∨ j = 21 ∨ j = 22 ∨ j = 23 ∨ j = 24 ∨ j = 25 ∨ j = 26 ∨ j = 27 ∨ j = 28 ∨ j = 29 ∨ j = 30 := by omega
  rcases z9 with rfl | rfl | rfl | rfl | rfl | rfl | rfl | rfl | rfl | rfl | rfl | rfl | rfl | rfl | rfl | rfl | rfl | rfl | rfl | rfl | rfl | rfl | rfl | rfl | rfl | rfl | rfl | rfl | rfl | rfl | rfl <;> rfl
def kL_lan (L : Nat) (xs : Nat → Int32) : Int32 := if Int32.ofNat L ≤ 0 then 0 else xs 0
theorem c_L_cell (l : Launch) {b L : Nat} {xs : Nat → Int32} (hL : L ≤ 3585) : Met l y_L_cell w_L_cell (kr 0) (va_Pc [.ref b, .int 0] (fun U => va_X b L xs U U.heap ∧ b < U.heap.size)) (va_Qi (fun r (_ : Unit) => r = kL_lan L xs) (fun _ _ => True) (fun _ => False)) 0 0 (fun _ => False) := by
  refine Met.ofW (cc := b_L_cell) (maxL := 2) (ret := some .int) (by decide) rfl ?_
  intro p e s m args below meth c s₁ B hml hv
  obtain ⟨rfl, hX, hbl⟩ := hv
  have hx := B.exec
  have hb := B.bytes
  have hr := B.returns
  have hlocks := B.notSynchronized
  have hl := lv_entry ([.ref b, .int 0]) (n := 2) (Nat.le_of_ble_eq_true rfl)
  rw [lg_entry_eq]
  generalize (lg_sl ([.ref b, .int 0]) ++ List.replicate (2 - (lg_sl ([.ref b, .int 0])).length) Slot.unset).toArray = ls at hl ⊢
  have hl : lv_has ls 2 [(0, .ref b), (1, .int 0)] := hl
  have hS : va_S (kV_A s) s.heap s.heap [] := va_S.rf
  have hS0 : va_S (fun _ => False) s.heap s.heap [] := va_S.rf
  have hE : ∀ (v : Int32), v = kL_lan L xs → W p l e (kr 0) s m [.ref b, .int 0].toArray below meth c s.heap [] 0 0 (MQ below (va_Qi (fun r (_ : Unit) => r = kL_lan L xs) (fun _ _ => True) (fun _ => False)) [.ref b, .int 0].toArray s 0 0 (fun _ => False)) (F0 m 13 ls [.int v]) := fun v hv =>
    W.iret hx hb hr (fun t ht hW => ⟨⟨v, (), rfl, hv, trivial⟩, hS0.F ht⟩) hS0.2.2 d_L_cell_13 hlocks
  refine lv_iload_n hx hb d_L_cell_0 rfl (lv_at hl 1 rfl) ?_
  refine lv_aload_n hx hb d_L_cell_1 rfl (lv_at hl 0 rfl) ?_
  refine va_slen hx hb hX hbl (fun z => absurd hbl (Nat.not_lt.mpr z)) hS d_L_cell_2 ?_
  refine lv_icmp_ge (tgt := 12) hx hb d_L_cell_3 (by decide) (fun h => ?_) (fun h => ?_)
  · refine lv_iconst (v := 0) hx hb d_L_cell_12 (by decide) ?_
    exact hE 0 (if_pos h).symm
  · refine lv_aload_n hx hb d_L_cell_6 rfl (lv_at hl 0 rfl) ?_
    refine lv_iload_n hx hb d_L_cell_7 rfl (lv_at hl 1 rfl) ?_
    refine kV_rd hx hb hX hbl hS hL (j := 0) (Nat.pos_of_ne_zero (fun z => h (by rw [z]; decide))) rfl d_L_cell_8 ?_
    refine lv_goto (tgt := 13) hx hb d_L_cell_9 (by decide) ?_
    exact hE _ (if_neg h).symm
theorem kL_blindC {b L : Nat} {xs : Nat → Int32} {vs : List Value} : FrameBlind (va_Pc vs (fun U => va_X b L xs U U.heap ∧ b < U.heap.size)) := fun a U g mk h => by
  obtain ⟨h0, hX, hb⟩ := h
  exact ⟨h0, va_X.moved (u := U) (U := U.calling g mk a) (Vm.Alike.refl U.vm) hX, hb⟩
theorem kx_St.of {args : Array Value} {U : State} (h : ∀ w ∈ kx_hw, w.before args U = true) : kx_St U := by
  intro w hw
  have h1 := h w hw
  simp only [kx_hw, List.mem_cons, List.not_mem_nil, or_false] at hw
  rcases hw with rfl | rfl | rfl | rfl | rfl | rfl | rfl | rfl | rfl | rfl <;> exact h1
theorem kD_all {s : State} {args : Array Value} (hg : ∀ w ∈ kg_G, w.before args s = true) : ∃ D : va_G, va_K D kc [] s := by
  obtain ⟨c0, f0, k0⟩ := u_known (C := R_B) (T := F_B) (N := 1) hg in_B (hg _ kg_28)
  obtain ⟨c1, f1, k1⟩ := u_known (C := R_I) (T := F_I) (N := 6) hg in_I (hg _ kg_66)
  obtain ⟨c2, f2, k2⟩ := u_known (C := R_S) (T := F_S) (N := 4) hg in_S (hg _ kg_40)
  obtain ⟨c3, f3, k3⟩ := u_known (C := R_K) (T := F_K) (N := 15) hg in_K (hg _ kg_106)
  obtain ⟨c4, f4, k4⟩ := u_known (C := R_M) (T := F_M) (N := 14) hg in_M (hg _ kg_14)
  obtain ⟨c5, f5, k5⟩ := u_known (C := R_R) (T := F_R) (N := 31) hg in_R (hg _ kg_578)
  refine ⟨(fun c => if c = 0 then c0 else if c = 1 then c1 else if c = 2 then c2 else if c = 3 then c3 else if c = 4 then c4 else c5, fun c => if c = 0 then f0 else if c = 1 then f1 else if c = 2 then f2 else if c = 3 then f3 else if c = 4 then f4 else f5), fun c q hq => ?_, fun k q hk => by cases hk⟩
  have hl : c < 6 := (List.getElem?_eq_some_iff.mp hq).1
  have z9 : c = 0 ∨ c = 1 ∨ c = 2 ∨ c = 3 ∨ c = 4 ∨ c = 5 := by omega
  rcases z9 with rfl | rfl | rfl | rfl | rfl | rfl
  · cases hq; exact k0
  · cases hq; exact k1
  · cases hq; exact k2
  · cases hq; exact k3
  · cases hq; exact k4
  · cases hq; exact k5
