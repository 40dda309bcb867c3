/-! the law's world: the machine, the reference, the row for the answer -/
def kV (D : va_G) (cI cB cJ cQ cW dI dZ : ClassId) (z0 a0 aR ao : Nat) (x : kMS) (r : kRS) (ov : Int64) (H : Heap) : Prop := ∃ (ad : Nat → Nat) (cs : Nat → va_E) (bd : Nat → Nat) (ds : Nat → va_E) (o : Nat → Int64), ad 0 = a0 ∧ bd 0 = aR ∧ o 0 = ov ∧ kw_J ad (22 + x.ma) ∧ kw_J bd 19 ∧ (∀ j, j < 22 + x.ma → z0 ≤ ad j) ∧ (∀ j, j < 19 → z0 ≤ bd j) ∧ z0 ≤ ao ∧ (∀ i j, i < 22 + x.ma → j < 19 → ad i ≠ bd j) ∧ (∀ i, i < 22 + x.ma → ad i ≠ ao) ∧ (∀ j, j < 19 → bd j ≠ ao) ∧ kMof ad cI cB cJ cQ cW cs x ∧ kRof bd dI dZ ds r ∧ va_P D kc (kw_w ad cs (22 + x.ma)) H ∧ va_P D kc (kw_w bd ds 19) H ∧ va_P D kc (kL_o cJ ao o) H
def kV_A (s : State) : Nat → Prop := fun q => s.heap.size ≤ q
theorem kV_lt {D : va_G} {ad : Nat → Nat} {cs : Nat → va_E} {n : Nat} {H : Heap} (hP : va_P D kc (kw_w ad cs n) H) {j : Nat} (hj : j < n) : ad j < H.size := (hP j _ (kw_at hj)).lt
theorem kV_keep {D : va_G} {ad : Nat → Nat} {cs : Nat → va_E} {n : Nat} {H H1 : Heap} {A1 : Nat → Prop} (hP : va_P D kc (kw_w ad cs n) H) (hn : ∀ j, j < n → ¬ A1 (ad j)) (hk : ∀ q : Nat, q < H.size → ¬ A1 q → H1[q]? = H[q]?) : va_P D kc (kw_w ad cs n) H1 := by
  refine hP.kept (fun k q hq => ?_)
  obtain ⟨h1, rfl⟩ := kw_at' hq
  exact hk _ (kV_lt hP h1) (hn k h1)
theorem kg_ws {s : State} {args : Array Value} {c0 : Cond} (hg : ∀ w ∈ kg_G, w.before args s = true) (h0 : c0 ∈ kg_G) : ∀ w ∈ c0 :: kg_G, ∀ (a' : Array Value) (U : State), s.WarmedH U.vm → w.before a' U = true := fun w hw a' U hW => by
  have h1 : w ∈ kg_G := by
    rcases List.mem_cons.mp hw with rfl | h1
    · exact h0
    · exact h1
  exact word_at hW (good_of_word (List.mem_filter.mp h1).2) (hg w h1)
section KV
variable {p : Program} {l : Launch} {e : Env} {R : Room} {s : State} {m : MethodId} {args : Array Value} {below : List Frame} {meth : Method} {c : Code} {H : Heap} {locs : List Loc} {cells slots : Nat} {Q : State → Prop}
variable {cc : ByteArray} {pc nL : Nat} {ls : Array Slot} {rest st0 : List Value} {D : va_G} {cI cB cJ cQ cW dI dZ : ClassId} {a0 aR ao : Nat} {x : kMS} {r : kRS} {ov : Int64}
/-- a wrapper is called -/
theorem kV_L {index maxL : Nat} {bytes : ByteArray} {hh : List (Nat × Nat × Nat × Nat)} {y : MethodName} {vs : List Value} {k : Int32} {x1 : kMS} {val : Int64} (S : CallFix p m c cc nL s args kg_G "LaneMachineLaw") (hK : va_K D kc (kt cI cB cJ cQ cW) s) (hSt : kx_St s) (hV : kV D cI cB cJ cQ cW dI dZ s.heap.size a0 aR ao x r ov H) (hS : va_S (kV_A s) s.heap H locs)
    (hM : ∀ (ad : Nat → Nat) (cs : Nat → va_E) (ao : Nat) (o : Nat → Int64) (sz : Nat), kw_J ad (22 + x.ma) → (∀ j, j < 22 + x.ma → ad j ≠ ao) → ao < sz → kMof ad cI cB cJ cQ cW cs x → kLc l y (Cond.codeWith y bytes maxL (some .int) hh :: kg_G) D cI cB cJ cQ cW ad (22 + x.ma) cs ao o sz (.ref (ad 0) :: (vs ++ [.ref ao])) k x1 val)
    (hcin : Cond.codeWith y bytes maxL (some .int) hh ∈ kg_G) (hini : Cond.initialized y.cls ∈ kg_G) (hstt : Cond.static y ∈ kg_G) (hlk : Cond.methodLink "LaneMachineLaw" index y ∈ kg_G) (hy : y.cls ≠ "java/lang/invoke/MethodHandle" ∧ y.cls ≠ "java/lang/invoke/VarHandle") (hfr : 9 ≤ R.frames) (hlo : 8 + (maxL + 11) + 340 ≤ R.locals)
    (hlen : ∀ sig, parseMethodDescriptor y.desc = some sig → vs.length + 2 = sig.parameters.length) (hsize : ls.size = nL) (hst : st0 = (.ref a0 :: (vs ++ [.ref ao])).reverse) (hdg : decode cc pc = .ok (.invokestatic index, 3)) (hf : cells + 1 ≤ R.cells ∧ slots + 6 ≤ R.slots)
    (kk : ∀ (H1 : Heap) (locs1 : List Loc) (ov1 : Int64), (k = 0 → ov1 = val) → kV D cI cB cJ cQ cW dI dZ s.heap.size a0 aR ao x1 r ov1 H1 → va_S (kV_A s) s.heap H1 locs1 → W p l e R s m args below meth c H1 locs1 (cells + 1) (slots + 6) Q (F0 m (pc + 3) ls [.int k])) : W p l e R s m args below meth c H locs cells slots Q (F0 m pc ls st0) := by
  obtain ⟨ad, cs, bd, ds, o, rfl, rfl, rfl, hJ, hJR, hz, hzR, hzo, hap, hao, haR, hMo, hRo, hP, hPR, hPo⟩ := hV
  have hg : ∀ w ∈ kg_G, w.before args s = true := S.2.2.2.2
  have haoH : ao < H.size := (hPo 0 _ rfl).lt
  have hsH : s.heap.size ≤ H.size := hS.1
  have hAA : ∀ q, kL_A2 ad (22 + x.ma) ao H.size q → kV_A s q := fun q h => by
    rcases h with ⟨j, hj, rfl⟩ | rfl | h
    · exact hz j hj
    · exact hzo
    · exact Nat.le_trans hsH h
  refine va_calli (kx_runS (As := .ref (ad 0) :: (vs ++ [.ref ao])) (rest := []) S (hM ad cs ao o H.size hJ hao haoH hMo) rfl rfl hfr hlo (kg_ws hg hcin) List.mem_cons_self (hg _ hcin) (hg _ hini) (hg _ hstt) (hg _ hlk) hy (fun sig h => by rw [← hlen sig h]; simp) ⟨kL_blind, fun U hU hW => ⟨rfl, by rw [hU], ⟨by rw [hU]; exact hP, va_K.moved hW.alike hK⟩, by rw [hU]; exact hPo, kx_St.moved hSt hW (fun q cell h1 _ => ?_)⟩⟩ rfl hsize (by rw [hst]; simp) (lv_room (Nat.zero_le _)) hdg hf) hS (fun q _ h => hAA q h) hAA (fun r9 u t H1 locs1 ht hal hp hB hzz hk hS1 => ?_)
  · rw [hU, hS.2.1 q (Array.getElem?_eq_some_iff.mp h1).1 (fun z => absurd (Array.getElem?_eq_some_iff.mp h1).1 (Nat.not_lt.mpr z))]
    exact h1
  · obtain ⟨ad1, cs1, o1, hle, had, hnew, hJ1, hM1, hP1, hPo1, hval⟩ := hB
    subst hp
    rw [ht] at hP1 hPo1
    have hPR1 : va_P D kc (kw_w bd ds 19) H1 := kV_keep hPR (fun j hj h => by
      rcases h with ⟨i, hi, h⟩ | h | h
      · exact hap i j hi hj h
      · exact haR j hj h
      · exact absurd (kV_lt hPR hj) (Nat.not_lt.mpr h)) hk
    refine kk H1 locs1 (o1 0) hval ⟨ad1, cs1, bd, ds, o1, had 0 (by omega), rfl, rfl, hJ1, hJR, fun j hj => ?_, hzR, hzo, fun i j hi hj => ?_, fun i hi => ?_, haR, hM1, hRo, hP1, hPR1, hPo1⟩ hS1
    · by_cases h : j < 22 + x.ma
      · rw [had j h]; exact hz j h
      · exact Nat.le_trans hsH (hnew j (Nat.not_lt.mp h) hj)
    · by_cases h : i < 22 + x.ma
      · rw [had i h]; exact hap i j h hj
      · have h1 := hnew i (Nat.not_lt.mp h) hi
        have h2 := kV_lt hPR hj
        omega
    · by_cases h : i < 22 + x.ma
      · rw [had i h]; exact hao i h
      · have h1 := hnew i (Nat.not_lt.mp h) hi
        omega
/-- a method of the reference is called -/
theorem kV_R {index maxL dR na : Nat} {bytes : ByteArray} {ret : Option FieldType} {y : MethodName} {vs : List Value} {b : Int32} {r1 : kRS} (S : CallFix p m c cc nL s args kg_G "LaneMachineLaw") (hK : va_K D kc (ktR dI dZ) s) (hV : kV D cI cB cJ cQ cW dI dZ s.heap.size a0 aR ao x r ov H) (hS : va_S (kV_A s) s.heap H locs)
    (hM : ∀ (ad : Nat → Nat) (cs : Nat → va_E), kw_J ad 19 → kRof ad dI dZ cs r → kw_mi l y (Cond.code y bytes maxL ret :: kg_G) (kr dR) D kc (ktR dI dZ) ad 19 cs (.ref (ad 0) :: vs) (fun r9 c9 => r9 = b ∧ kRof ad dI dZ c9 r1))
    (cw : CallW R s args "LaneMachineLaw" "LaneMachineModel" index y bytes maxL ret (Cond.code y bytes maxL ret :: kg_G) (kr dR) 0 0 na) (hn : vs.length = na) (hsize : ls.size = nL) (hst : st0 = vs.reverse ++ .ref aR :: rest) (hW : (rest.map fun v => v.category).sum ≤ 8) (hdg : decode cc pc = .ok (.invokevirtual index, 3)) (hcs : cells ≤ R.cells ∧ slots ≤ R.slots)
    (kk : ∀ (H1 : Heap) (locs1 : List Loc), kV D cI cB cJ cQ cW dI dZ s.heap.size a0 aR ao x r1 ov H1 → va_S (kV_A s) s.heap H1 locs1 → W p l e R s m args below meth c H1 locs1 cells slots Q (F0 m (pc + 3) ls (.int b :: rest))) : W p l e R s m args below meth c H locs cells slots Q (F0 m pc ls st0) := by
  obtain ⟨ad, cs, bd, ds, o, rfl, rfl, rfl, hJ, hJR, hz, hzR, hzo, hap, hao, haR, hMo, hRo, hP, hPR, hPo⟩ := hV
  have hAA : ∀ q, kw_A bd 19 q → kV_A s q := fun q h => by
    obtain ⟨j, hj, rfl⟩ := h
    exact hzR j hj
  refine va_calli (kw_rV (As := vs) (rest := rest) S cw (hM bd ds hJR hRo) hK hPR (by decide) hRo.1 rfl hn hsize hst hW hdg hcs) hS (fun q _ h => hAA q h) hAA (fun r9 u t H1 locs1 ht hal hp hB hzz hk hS1 => ?_)
  obtain ⟨hp1, hp2⟩ := hp
  subst hp1
  have hB1 := hB.1
  rw [ht] at hB1
  exact kk H1 locs1 ⟨ad, cs, bd, u, o, rfl, rfl, rfl, hJ, hJR, hz, hzR, hzo, hap, hao, haR, hMo, hp2, kV_keep hP (fun j hj ⟨i, hi, h⟩ => hap j i hj hi h.symm) hk, hB1, kL_keep hPo (fun ⟨i, hi, h⟩ => haR i hi h) hk⟩ hS1
/-- the machine is asked -/
theorem kV_M {index maxL dR na : Nat} {bytes : ByteArray} {ret : Option FieldType} {y : MethodName} {vs : List Value} {b : Int32} (S : CallFix p m c cc nL s args kg_G "LaneMachineLaw") (hK : va_K D kc (kt cI cB cJ cQ cW) s) (hV : kV D cI cB cJ cQ cW dI dZ s.heap.size a0 aR ao x r ov H) (hS : va_S (kV_A s) s.heap H locs)
    (hM : ∀ (ad : Nat → Nat) (cs : Nat → va_E), kw_J ad (22 + x.ma) → kMof ad cI cB cJ cQ cW cs x → kw_mi l y (Cond.code y bytes maxL ret :: kg_G) (kr dR) D kc (kt cI cB cJ cQ cW) ad (22 + x.ma) cs (.ref (ad 0) :: vs) (fun r9 c9 => r9 = b ∧ c9 = cs))
    (cw : CallW R s args "LaneMachineLaw" "LaneMachine" index y bytes maxL ret (Cond.code y bytes maxL ret :: kg_G) (kr dR) 0 0 na) (hn : vs.length = na) (hsize : ls.size = nL) (hst : st0 = vs.reverse ++ .ref a0 :: rest) (hW : (rest.map fun v => v.category).sum ≤ 8) (hdg : decode cc pc = .ok (.invokevirtual index, 3)) (hcs : cells ≤ R.cells ∧ slots ≤ R.slots)
    (kk : ∀ (H1 : Heap) (locs1 : List Loc), kV D cI cB cJ cQ cW dI dZ s.heap.size a0 aR ao x r ov H1 → va_S (kV_A s) s.heap H1 locs1 → W p l e R s m args below meth c H1 locs1 cells slots Q (F0 m (pc + 3) ls (.int b :: rest))) : W p l e R s m args below meth c H locs cells slots Q (F0 m pc ls st0) := by
  obtain ⟨ad, cs, bd, ds, o, rfl, rfl, rfl, hJ, hJR, hz, hzR, hzo, hap, hao, haR, hMo, hRo, hP, hPR, hPo⟩ := hV
  have hAA : ∀ q, kw_A ad (22 + x.ma) q → kV_A s q := fun q h => by
    obtain ⟨j, hj, rfl⟩ := h
    exact hz j hj
  refine va_calli (kw_rV (As := vs) (rest := rest) S cw (hM ad cs hJ hMo) hK hP (by omega) (kM_0 hMo) rfl hn hsize hst hW hdg hcs) hS (fun q _ h => hAA q h) hAA (fun r9 u t H1 locs1 ht hal hp hB hzz hk hS1 => ?_)
  obtain ⟨hp1, hp2⟩ := hp
  subst hp1
  subst hp2
  have hB1 := hB.1
  rw [ht] at hB1
  exact kk H1 locs1 ⟨ad, u, bd, ds, o, rfl, rfl, rfl, hJ, hJR, hz, hzR, hzo, hap, hao, haR, hMo, hRo, hB1, kV_keep hPR (fun j hj ⟨i, hi, h⟩ => hap i j hi hj h) hk, kL_keep hPo (fun ⟨i, hi, h⟩ => hao i hi h) hk⟩ hS1
/-- the answer is read -/
theorem kV_ld (hx : p.tables.exec = Jvm.exec) (hb : c.code = cc) (hK : va_K D kc (kt cI cB cJ cQ cW) s) (hV : kV D cI cB cJ cQ cW dI dZ s.heap.size a0 aR ao x r ov H) (hdg : decode cc pc = .ok (.laload, 1))
    (kk : W p l e R s m args below meth c H locs cells slots Q (F0 m (pc + 1) ls (.long ov :: rest))) : W p l e R s m args below meth c H locs cells slots Q (F0 m pc ls (.int 0 :: .ref ao :: rest)) := by
  obtain ⟨ad, cs, bd, ds, o, rfl, rfl, rfl, hJ, hJR, hz, hzR, hzo, hap, hao, haR, hMo, hRo, hP, hPR, hPo⟩ := hV
  exact va_lald hx hb hK hPo 0 2 rfl rfl (vp_in_nI (n := 0) (N := 1) (by decide) (by decide)) hdg kk
end KV
