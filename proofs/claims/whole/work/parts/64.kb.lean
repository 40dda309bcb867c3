/-! births inside a walk: the new object's init is called in a world of its own, and joined -/
theorem kb_blind {D : va_G} {cl : List vw_C} {ws : va_W} {sz : Nat} {vs : List Value} : FrameBlind (va_Pc vs (fun U => U.heap.size = sz ∧ va_P D cl ws U.heap ∧ va_K D cl [] U)) := fun a U g mk h => by
  obtain ⟨h0, hz, hP, hK⟩ := h
  exact ⟨h0, hz, hP, va_K.moved (u := U) (U := U.calling g mk a) (Vm.Alike.refl U.vm) hK⟩
theorem kb_blindE {D : va_G} {cl : List vw_C} {ws : va_W} {sz : Nat} {vs : List Value} {E : State → Prop} (hEm : ∀ {u U : State}, u.vm = U.vm → E u → E U) : FrameBlind (va_Pc vs (fun U => U.heap.size = sz ∧ va_P D cl ws U.heap ∧ va_K D cl [] U ∧ E U)) := fun a U g mk h => by
  obtain ⟨h0, hz, hP, hK, hE⟩ := h
  exact ⟨h0, hz, hP, va_K.moved (u := U) (U := U.calling g mk a) (Vm.Alike.refl U.vm) hK, hEm (u := U) (U := U.calling g mk a) rfl hE⟩
theorem kb_one {q : Nat} {e0 : va_E} {k : Nat} {x : Nat × va_E} (h : [(q, e0)][k]? = some x) : k = 0 ∧ x = (q, e0) := by
  have hl : k < 1 := (List.getElem?_eq_some_iff.mp h).1
  have h0 : k = 0 := by omega
  subst h0
  exact ⟨rfl, (Option.some.inj h).symm⟩
theorem kb_last {wl : va_W} {x : Nat × va_E} : (wl ++ [x])[wl.length]? = some x := by simp
theorem kb_fst {wl w1 : va_W} {k : Nat} {x : Nat × va_E} (h : wl[k]? = some x) : (wl ++ w1)[k]? = some x := by
  rw [List.getElem?_append_left (List.getElem?_eq_some_iff.mp h).1]
  exact h
theorem kb_join {A : Nat → Prop} {D : va_G} {cl : List vw_C} {wl w1 : va_W} {q : Nat} {e0 : va_E} {H H1 : Heap} (hP : va_P D cl (wl ++ [(q, e0)]) H) (hD : va_D A (wl ++ [(q, e0)])) (hA : ∀ x, H.size ≤ x → A x)
    (hk : ∀ x : Nat, x < H.size → ¬ va_A [(q, e0)] H.size x → H1[x]? = H[x]?) (hP1 : va_P D cl w1 H1) (hD1 : va_D (va_A [(q, e0)] H.size) w1) : va_P D cl (wl ++ w1) H1 ∧ va_D A (wl ++ w1) := by
  have apart : ∀ (k : Nat) (x : Nat × va_E), wl[k]? = some x → x.1 < H.size ∧ ¬ va_A [(q, e0)] H.size x.1 := by
    intro k x hx
    have hl := (hP k x (kb_fst hx)).lt
    refine ⟨hl, fun h => ?_⟩
    rcases h with ⟨k2, e, h⟩ | h
    · obtain ⟨-, h2⟩ := kb_one h
      have h3 : x.1 = q := (Prod.mk.inj h2).1
      have h4 := hD.1 k wl.length x (q, e0) (kb_fst hx) kb_last h3
      have h5 := (List.getElem?_eq_some_iff.mp hx).1
      omega
    · omega
  have hAA : ∀ x, va_A [(q, e0)] H.size x → A x := by
    intro x h
    rcases h with ⟨k2, e, h⟩ | h
    · obtain ⟨-, h2⟩ := kb_one h
      have h3 : x = q := (Prod.mk.inj h2).1
      rw [h3]
      exact hD.2 wl.length (q, e0) kb_last
    · exact hA x h
  refine ⟨va_P.app (fun k x hx => ?_) hP1, va_D.app ⟨fun i j x y hx hy h => hD.1 i j x y (kb_fst hx) (kb_fst hy) h, fun k x hx => hD.2 k x (kb_fst hx)⟩ (hD1.weaken (fun k x _ h => hAA x.1 h)) (fun i j x y hx hy hxy => ?_)⟩
  · obtain ⟨g1, g2⟩ := apart k x hx
    exact (hP k x (kb_fst hx)).kept (hk x.1 g1 g2)
  · exact (apart i x hx).2 (by rw [hxy]; exact hD1.2 j y hy)
section KB
variable {p : Program} {l : Launch} {e : Env} {R : Room} {s : State} {m : MethodId} {args : Array Value} {below : List Frame} {meth : Method} {c : Code} {H : Heap} {locs : List Loc} {cells slots : Nat} {Q : State → Prop}
variable {cc : ByteArray} {pc : Nat} {ls : Array Slot} {rest : List Value} {D : va_G} {cl : List vw_C} {A : Nat → Prop} {tys : List (ClassId × FieldType)} {H0 : Heap}
variable {y : MethodName} {bytes : ByteArray} {maxL nL k index mc ms : Nat} {ws : List Cond} {rm : Room} {Ts : List Cond} {own : String} {As st0 : List Value}
theorem kb_init (S : CallFix p m c cc nL s args Ts own) (cw : CallB R s args own index y bytes maxL none ws rm mc ms k ∧ y.name = "<init>" ∧ (Cond.instanceMethod y).before args s = true) {wl : va_W} {q : Nat} {e0 : va_E} {B : Nat → State → Prop}
    (hM : ∀ sz : Nat, Met l y ws rm (va_Pc (.ref q :: As) (fun U => U.heap.size = sz ∧ va_P D cl [(q, e0)] U.heap ∧ va_K D cl [] U)) (va_Qv (fun _ : Unit => True) (fun _ t => B sz t) (va_A [(q, e0)] sz)) mc ms (va_A [(q, e0)] sz))
    (hK : va_K D cl tys s) (hP : va_P D cl (wl ++ [(q, e0)]) H) (hD : va_D A (wl ++ [(q, e0)])) (hS : va_S A H0 H locs) (hA : ∀ x, H0.size ≤ x → A x) (hn : As.length = k) (hsize : ls.size = nL) (hst : st0 = As.reverse ++ .ref q :: rest) (hW : (rest.map fun v => v.category).sum ≤ 8) (hdg : decode cc pc = .ok (.invokespecial index, 3)) (hcs : cells + mc ≤ R.cells ∧ slots + ms ≤ R.slots)
    (kk : ∀ (t : State) (H1 : Heap) (locs1 : List Loc), t.heap = H1 → s.vm.Alike t.vm → B H.size t → (∀ w1 : va_W, va_P D cl w1 H1 → va_D (va_A [(q, e0)] H.size) w1 → va_P D cl (wl ++ w1) H1 ∧ va_D A (wl ++ w1)) → va_S A H0 H1 locs1 →
      W p l e R s m args below meth c H1 locs1 (cells + mc) (slots + ms) Q (F0 m (pc + 3) ls rest)) : W p l e R s m args below meth c H locs cells slots Q (F0 m pc ls st0) := by
  have hA1 : ∀ x, H.size ≤ x → A x := fun x h => hA x (Nat.le_trans hS.1 h)
  have hAA : ∀ x, va_A [(q, e0)] H.size x → A x := by
    intro x h
    rcases h with ⟨k2, e, h⟩ | h
    · obtain ⟨-, h2⟩ := kb_one h
      have h3 : x = q := (Prod.mk.inj h2).1
      rw [h3]
      exact hD.2 wl.length (q, e0) kb_last
    · exact hA1 x h
  have hP0 : va_P D cl [(q, e0)] H := fun k2 x hx => by
    obtain ⟨-, rfl⟩ := kb_one hx
    exact hP wl.length (q, e0) kb_last
  refine va_callv (va_runI (As := As) (rest := rest) S (hM H.size) cw ⟨kb_blind, fun U hU hWm => ⟨rfl, by rw [hU], by rw [hU]; exact hP0, va_K.moved hWm.alike ⟨hK.1, fun k2 x hx => by cases hx⟩⟩⟩ rfl hn hsize hst (lv_room hW) hdg hcs) hS (fun x _ h => hAA x h) hAA (fun u t H1 locs1 ht hal _ hB hz hk hS1 => kk t H1 locs1 ht hal hB (fun w1 h1 h2 => kb_join hP hD hA1 hk h1 h2) hS1)
theorem kb_initN (S : CallFix p m c cc nL s args Ts own) {host : String} (cw : va_CN R s args own index y host bytes maxL none ws rm mc ms k ∧ y.name = "<init>" ∧ (Cond.instanceMethod y).before args s = true) {wl : va_W} {q : Nat} {e0 : va_E} {B : Nat → State → Prop}
    (hM : ∀ sz : Nat, Met l y ws rm (va_Pc (.ref q :: As) (fun U => U.heap.size = sz ∧ va_P D cl [(q, e0)] U.heap ∧ va_K D cl [] U)) (va_Qv (fun _ : Unit => True) (fun _ t => B sz t) (va_A [(q, e0)] sz)) mc ms (va_A [(q, e0)] sz))
    (hK : va_K D cl tys s) (hP : va_P D cl (wl ++ [(q, e0)]) H) (hD : va_D A (wl ++ [(q, e0)])) (hS : va_S A H0 H locs) (hA : ∀ x, H0.size ≤ x → A x) (hn : As.length = k) (hsize : ls.size = nL) (hst : st0 = As.reverse ++ .ref q :: rest) (hW : (rest.map fun v => v.category).sum ≤ 8) (hdg : decode cc pc = .ok (.invokespecial index, 3)) (hcs : cells + mc ≤ R.cells ∧ slots + ms ≤ R.slots)
    (kk : ∀ (t : State) (H1 : Heap) (locs1 : List Loc), t.heap = H1 → s.vm.Alike t.vm → B H.size t → (∀ w1 : va_W, va_P D cl w1 H1 → va_D (va_A [(q, e0)] H.size) w1 → va_P D cl (wl ++ w1) H1 ∧ va_D A (wl ++ w1)) → va_S A H0 H1 locs1 →
      W p l e R s m args below meth c H1 locs1 (cells + mc) (slots + ms) Q (F0 m (pc + 3) ls rest)) : W p l e R s m args below meth c H locs cells slots Q (F0 m pc ls st0) := by
  have hA1 : ∀ x, H.size ≤ x → A x := fun x h => hA x (Nat.le_trans hS.1 h)
  have hAA : ∀ x, va_A [(q, e0)] H.size x → A x := by
    intro x h
    rcases h with ⟨k2, e, h⟩ | h
    · obtain ⟨-, h2⟩ := kb_one h
      have h3 : x = q := (Prod.mk.inj h2).1
      rw [h3]
      exact hD.2 wl.length (q, e0) kb_last
    · exact hA1 x h
  have hP0 : va_P D cl [(q, e0)] H := fun k2 x hx => by
    obtain ⟨-, rfl⟩ := kb_one hx
    exact hP wl.length (q, e0) kb_last
  refine va_callv (va_runIN (As := As) (rest := rest) S (hM H.size) cw ⟨kb_blind, fun U hU hWm => ⟨rfl, by rw [hU], by rw [hU]; exact hP0, va_K.moved hWm.alike ⟨hK.1, fun k2 x hx => by cases hx⟩⟩⟩ rfl hn hsize hst (lv_room hW) hdg hcs) hS (fun x _ h => hAA x h) hAA (fun u t H1 locs1 ht hal _ hB hz hk hS1 => kk t H1 locs1 ht hal hB (fun w1 h1 h2 => kb_join hP hD hA1 hk h1 h2) hS1)
theorem kb_initE (S : CallFix p m c cc nL s args Ts own) (cw : CallB R s args own index y bytes maxL none ws rm mc ms k ∧ y.name = "<init>" ∧ (Cond.instanceMethod y).before args s = true) {wl : va_W} {q : Nat} {e0 : va_E} {B : Nat → State → Prop} {E : State → Prop} (hEm : ∀ {u U : State}, u.vm = U.vm → E u → E U) (hE : ∀ U : State, s.WarmedH U.vm → E U)
    (hM : ∀ sz : Nat, Met l y ws rm (va_Pc (.ref q :: As) (fun U => U.heap.size = sz ∧ va_P D cl [(q, e0)] U.heap ∧ va_K D cl [] U ∧ E U)) (va_Qv (fun _ : Unit => True) (fun _ t => B sz t) (va_A [(q, e0)] sz)) mc ms (va_A [(q, e0)] sz))
    (hK : va_K D cl tys s) (hP : va_P D cl (wl ++ [(q, e0)]) H) (hD : va_D A (wl ++ [(q, e0)])) (hS : va_S A H0 H locs) (hA : ∀ x, H0.size ≤ x → A x) (hn : As.length = k) (hsize : ls.size = nL) (hst : st0 = As.reverse ++ .ref q :: rest) (hW : (rest.map fun v => v.category).sum ≤ 8) (hdg : decode cc pc = .ok (.invokespecial index, 3)) (hcs : cells + mc ≤ R.cells ∧ slots + ms ≤ R.slots)
    (kk : ∀ (t : State) (H1 : Heap) (locs1 : List Loc), t.heap = H1 → s.vm.Alike t.vm → B H.size t → (∀ w1 : va_W, va_P D cl w1 H1 → va_D (va_A [(q, e0)] H.size) w1 → va_P D cl (wl ++ w1) H1 ∧ va_D A (wl ++ w1)) → va_S A H0 H1 locs1 →
      W p l e R s m args below meth c H1 locs1 (cells + mc) (slots + ms) Q (F0 m (pc + 3) ls rest)) : W p l e R s m args below meth c H locs cells slots Q (F0 m pc ls st0) := by
  have hA1 : ∀ x, H.size ≤ x → A x := fun x h => hA x (Nat.le_trans hS.1 h)
  have hAA : ∀ x, va_A [(q, e0)] H.size x → A x := by
    intro x h
    rcases h with ⟨k2, e, h⟩ | h
    · obtain ⟨-, h2⟩ := kb_one h
      have h3 : x = q := (Prod.mk.inj h2).1
      rw [h3]
      exact hD.2 wl.length (q, e0) kb_last
    · exact hA1 x h
  have hP0 : va_P D cl [(q, e0)] H := fun k2 x hx => by
    obtain ⟨-, rfl⟩ := kb_one hx
    exact hP wl.length (q, e0) kb_last
  refine va_callv (va_runI (As := As) (rest := rest) S (hM H.size) cw ⟨kb_blindE hEm, fun U hU hWm => ⟨rfl, by rw [hU], by rw [hU]; exact hP0, va_K.moved hWm.alike ⟨hK.1, fun k2 x hx => by cases hx⟩, hE U hWm⟩⟩ rfl hn hsize hst (lv_room hW) hdg hcs) hS (fun x _ h => hAA x h) hAA (fun u t H1 locs1 ht hal _ hB hz hk hS1 => kk t H1 locs1 ht hal hB (fun w1 h1 h2 => kb_join hP hD hA1 hk h1 h2) hS1)
end KB
/-- cells that a method with n names may change, its new ones too -/
def kb_A (ad : Nat → Nat) (n sz : Nat) : Nat → Prop := fun a => kw_A ad n a ∨ sz ≤ a
/-- a class of rows that a callee found -/
theorem kb_K {D : va_G} {cl : List vw_C} {tys : List (ClassId × FieldType)} {s t : State} {x : ClassId × FieldType} (hK : va_K D cl tys s) (hal : s.vm.Alike t.vm) (h : va_K D cl [x] t) : va_K D cl (tys ++ [x]) s := by
  have h1 := va_K.moved hal.symm h
  refine ⟨hK.1, fun k q hk => ?_⟩
  by_cases hl : k < tys.length
  · rw [List.getElem?_append_left hl] at hk
    exact hK.2 k q hk
  · rw [List.getElem?_append_right (by omega)] at hk
    exact h1.2 _ q hk
theorem kb_w4 {ad : Nat → Nat} : va_up (va_up (va_up (va_up (fun _ => none) 0 (some (ad 9))) 1 (some (ad 10))) 2 (some (ad 11))) 3 (some (ad 12)) = fun z8 => if z8 < 4 then some (ad (9 + z8)) else none := by
  funext i
  by_cases h : i < 4
  · have h1 : i = 0 ∨ i = 1 ∨ i = 2 ∨ i = 3 := by omega
    rcases h1 with rfl | rfl | rfl | rfl <;> rfl
  · rw [if_neg h, va_up_ne _ _ (by omega), va_up_ne _ _ (by omega), va_up_ne _ _ (by omega), va_up_ne _ _ (by omega)]
theorem kb_p0 {ad : Nat → Nat} : (fun _ : Nat => (none : Option Nat)) = fun z8 => if z8 < 0 then some (ad (21 + (z8 + 1))) else none := by
  funext i
  rw [if_neg (Nat.not_lt_zero _)]
theorem kn_la_eq (v : Int32) : (if 1 < (if v < 8 then v else 8) then (if v < 8 then v else 8) else 1) = nI (kn_la v) := by
  by_cases h1 : 1 ≤ v
  · by_cases h2 : v ≤ 8
    · rw [kn_la_in h1 h2]
      by_cases h3 : v < 8
      · rw [if_pos h3]
        by_cases h4 : 1 < v
        · rw [if_pos h4]
        · rw [if_neg h4]
          exact Int32.le_antisymm h1 (Int32.not_lt.mp h4)
      · rw [if_neg h3, if_pos (by decide)]
        exact (Int32.le_antisymm h2 (Int32.not_lt.mp h3)).symm
    · have h3 : ¬ v < 8 := fun h => h2 (Int32.le_of_lt h)
      rw [kn_la_hi h1 h2, if_neg h3, if_pos (by decide)]
      rfl
  · have h3 : v < 8 := Int32.lt_of_lt_of_le (Int32.not_le.mp h1) (by decide)
    have h4 : ¬ 1 < v := fun h => h1 (Int32.le_of_lt h)
    rw [kn_la_lo h1, if_pos h3, if_neg h4]
    rfl
theorem kb_dB : ∀ j, j < 1 → defaultValue (t_B j) = vp_V [.null] j := by
  intro j hj
  have z9 : j = 0 := by omega
  subst z9; rfl
theorem kb_dI : ∀ j, j < 6 → defaultValue (t_I j) = vp_V [.int 0, .int 0, .int 0, .int 0, .int 0, .int 0] j := by
  intro j hj
  have z9 : j = 0 ∨ j = 1 ∨ j = 2 ∨ j = 3 ∨ j = 4 ∨ j = 5 := by omega
  rcases z9 with rfl | rfl | rfl | rfl | rfl | rfl <;> rfl
theorem kb_dS : ∀ j, j < 4 → defaultValue (t_S j) = vp_V [.int 0, .int 0, .int 0, .int 0] j := by
  intro j hj
  have z9 : j = 0 ∨ j = 1 ∨ j = 2 ∨ j = 3 := by omega
  rcases z9 with rfl | rfl | rfl | rfl <;> rfl
theorem kb_dK : ∀ j, j < 15 → defaultValue (t_K j) = vp_V [.null, .null, .null, .null, .int 0, .int 0, .int 0, .int 0, .int 0, .int 0, .null, .int 0, .int 0, .int 0, .int 0] j := by
  intro j hj
  have z9 : j = 0 ∨ j = 1 ∨ j = 2 ∨ j = 3 ∨ j = 4 ∨ j = 5 ∨ j = 6 ∨ j = 7 ∨ j = 8 ∨ j = 9 ∨ j = 10 ∨ j = 11 ∨ j = 12 ∨ j = 13 ∨ j = 14 := by omega
  rcases z9 with rfl | rfl | rfl | rfl | rfl | rfl | rfl | rfl | rfl | rfl | rfl | rfl | rfl | rfl | rfl <;> rfl
theorem kb_dM : ∀ j, j < 14 → defaultValue (t_M j) = vp_V [.int 0, .null, .null, .null, .null, .null, .null, .int 0, .int 0, .int 0, .int 0, .int 0, .int 0, .int 0] j := by
  intro j hj
  have z9 : j = 0 ∨ j = 1 ∨ j = 2 ∨ j = 3 ∨ j = 4 ∨ j = 5 ∨ j = 6 ∨ j = 7 ∨ j = 8 ∨ j = 9 ∨ j = 10 ∨ j = 11 ∨ j = 12 ∨ j = 13 := by omega
  rcases z9 with rfl | rfl | rfl | rfl | rfl | rfl | rfl | rfl | rfl | rfl | rfl | rfl | rfl | rfl <;> rfl
