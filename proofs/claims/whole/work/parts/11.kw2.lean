/-! contracts over the world by names -/
def kw_Pre (D : va_G) (cl : List vw_C) (tys : List (ClassId × FieldType)) (ad : Nat → Nat) (n : Nat) (cs : Nat → va_E) (U : State) : Prop := va_P D cl (kw_w ad cs n) U.heap ∧ va_K D cl tys U
def kw_mi (l : Launch) (y : MethodName) (ws : List Cond) (rm : Room) (D : va_G) (cl : List vw_C) (tys : List (ClassId × FieldType)) (ad : Nat → Nat) (n : Nat) (cs : Nat → va_E) (vs : List Value) (post : Int32 → (Nat → va_E) → Prop) : Prop :=
  Met l y ws rm (va_Pc vs (kw_Pre D cl tys ad n cs)) (va_Qi post (kw_Pre D cl tys ad n) (kw_A ad n)) 0 0 (kw_A ad n)
def kw_ml (l : Launch) (y : MethodName) (ws : List Cond) (rm : Room) (D : va_G) (cl : List vw_C) (tys : List (ClassId × FieldType)) (ad : Nat → Nat) (n : Nat) (cs : Nat → va_E) (vs : List Value) (post : Int64 → (Nat → va_E) → Prop) : Prop :=
  Met l y ws rm (va_Pc vs (kw_Pre D cl tys ad n cs)) (va_Ql post (kw_Pre D cl tys ad n) (kw_A ad n)) 0 0 (kw_A ad n)
def kw_mv (l : Launch) (y : MethodName) (ws : List Cond) (rm : Room) (D : va_G) (cl : List vw_C) (tys : List (ClassId × FieldType)) (ad : Nat → Nat) (n : Nat) (cs : Nat → va_E) (vs : List Value) (post : (Nat → va_E) → Prop) : Prop :=
  Met l y ws rm (va_Pc vs (kw_Pre D cl tys ad n cs)) (va_Qv post (kw_Pre D cl tys ad n) (kw_A ad n)) 0 0 (kw_A ad n)
theorem kw_blind {D : va_G} {cl : List vw_C} {tys : List (ClassId × FieldType)} {ad : Nat → Nat} {n : Nat} {cs : Nat → va_E} {vs : List Value} : FrameBlind (va_Pc vs (kw_Pre D cl tys ad n cs)) := fun a U g mk h => by
  obtain ⟨h0, hP, hK⟩ := h
  exact ⟨h0, hP, va_K.moved (u := U) (U := U.calling g mk a) (Vm.Alike.refl U.vm) hK⟩
theorem kw_of {l : Launch} {y : MethodName} {ws ws' : List Cond} {rm : Room} {D : va_G} {cl : List vw_C} {tys : List (ClassId × FieldType)} {ad : Nat → Nat} {n : Nat} {cs : Nat → va_E} {vs : List Value} {Qc : Array Value → State → Outcome → State → Prop} {free : Addr → Prop} {mc ms : Nat} {cc : ByteArray} {maxL : Nat} {ret : Option FieldType}
    (hy : plainName y.cls = true) (hw : ws = Cond.code y cc maxL ret :: ws') (hlen : (lg_sl vs).length ≤ maxL)
    (body : ∀ (p : Program) (e : Env) (s : State) (m : MethodId) (below : List Frame) (meth : Method) (c : Code) (ls : Array Slot), p.tables.exec = Jvm.exec → c.code = cc → meth.sig.returnType = ret → c.maxLocals = maxL → s.vm.findClass y.cls = some m.cls → (∀ w ∈ ws, w.before vs.toArray s = true) → meth.locks = false → va_P D cl (kw_w ad cs n) s.heap → va_K D cl tys s → lv_has ls maxL (lv_args 0 vs) →
      W p l e rm s m vs.toArray below meth c s.heap [] 0 0 (MQ below Qc vs.toArray s mc ms free) (F0 m 0 ls [])) : Met l y ws rm (va_Pc vs (kw_Pre D cl tys ad n cs)) Qc mc ms free := by
  refine Met.ofW (cc := cc) (maxL := maxL) (ret := ret) hy hw ?_
  intro p e s m args below meth c s₁ B hml hv
  obtain ⟨rfl, hP, hK⟩ := hv
  rw [lg_entry_eq]
  exact body p e s m below meth c _ B.exec B.bytes B.returns hml (findClass_of_methodNamed B.named) (atoms_spec (ws := ws) B.pre) B.notSynchronized hP hK (lv_entry vs hlen)
section KWC
variable {p : Program} {l : Launch} {e : Env} {R : Room} {s : State} {m : MethodId} {args : Array Value} {below : List Frame} {meth : Method} {c : Code} {H : Heap} {locs : List Loc} {cells slots : Nat} {Q : State → Prop}
variable {cc : ByteArray} {pc : Nat} {ls : Array Slot} {rest : List Value} {D : va_G} {cl : List vw_C} {A : Nat → Prop} {tys : List (ClassId × FieldType)} {ad : Nat → Nat} {cs : Nat → va_E} {n : Nat} {H0 : Heap}
theorem kw_iret {post : Int32 → (Nat → va_E) → Prop} {v : Int32} (hexec : p.tables.exec = Jvm.exec) (hb : c.code = cc) (hr : meth.sig.returnType = some .int) (hlocks : meth.locks = false) (hP : va_P D cl (kw_w ad cs n) H) (hK : va_K D cl tys s) (hS : va_S (kw_A ad n) s.heap H locs) (hpost : post v cs) (hdg : decode cc pc = .ok (.ireturn, 1)) :
    W p l e R s m args below meth c H locs 0 0 (MQ below (va_Qi post (kw_Pre D cl tys ad n) (kw_A ad n)) args s 0 0 (kw_A ad n)) (F0 m pc ls [.int v]) :=
  W.iret hexec hb hr (fun t ht hW => ⟨⟨v, cs, rfl, hpost, by rw [ht]; exact hP, va_K.moved hW.alike hK⟩, hS.F ht⟩) hS.2.2 hdg hlocks
theorem kw_nz {v : Int32} (hv : v = 0 ∨ v = 1) : narrow .boolean (.int v) = .int v := by
  rcases hv with rfl | rfl <;> rfl
theorem kw_zret {post : Int32 → (Nat → va_E) → Prop} {v : Int32} (hexec : p.tables.exec = Jvm.exec) (hb : c.code = cc) (hr : meth.sig.returnType = some .boolean) (hlocks : meth.locks = false) (hP : va_P D cl (kw_w ad cs n) H) (hK : va_K D cl tys s) (hS : va_S (kw_A ad n) s.heap H locs) (hv : v = 0 ∨ v = 1) (hpost : post v cs) (hdg : decode cc pc = .ok (.ireturn, 1)) :
    W p l e R s m args below meth c H locs 0 0 (MQ below (va_Qi post (kw_Pre D cl tys ad n) (kw_A ad n)) args s 0 0 (kw_A ad n)) (F0 m pc ls [.int v]) :=
  W.zret hexec hb hr (kw_nz hv) (fun t ht hW => ⟨⟨v, cs, rfl, hpost, by rw [ht]; exact hP, va_K.moved hW.alike hK⟩, hS.F ht⟩) hS.2.2 hdg hlocks
theorem kw_lret {post : Int64 → (Nat → va_E) → Prop} {v : Int64} (hexec : p.tables.exec = Jvm.exec) (hb : c.code = cc) (hr : meth.sig.returnType = some .long) (hlocks : meth.locks = false) (hP : va_P D cl (kw_w ad cs n) H) (hK : va_K D cl tys s) (hS : va_S (kw_A ad n) s.heap H locs) (hpost : post v cs) (hdg : decode cc pc = .ok (.lreturn, 1)) :
    W p l e R s m args below meth c H locs 0 0 (MQ below (va_Ql post (kw_Pre D cl tys ad n) (kw_A ad n)) args s 0 0 (kw_A ad n)) (F0 m pc ls [.long v]) :=
  W.lret hexec hb hr (fun t ht hW => ⟨⟨v, cs, rfl, hpost, by rw [ht]; exact hP, va_K.moved hW.alike hK⟩, hS.F ht⟩) hS.2.2 hdg hlocks
theorem kw_vret {post : (Nat → va_E) → Prop} (hexec : p.tables.exec = Jvm.exec) (hb : c.code = cc) (hr : meth.sig.returnType = none) (hlocks : meth.locks = false) (hP : va_P D cl (kw_w ad cs n) H) (hK : va_K D cl tys s) (hS : va_S (kw_A ad n) s.heap H locs) (hpost : post cs) (hdg : decode cc pc = .ok (.return_, 1)) :
    W p l e R s m args below meth c H locs 0 0 (MQ below (va_Qv post (kw_Pre D cl tys ad n) (kw_A ad n)) args s 0 0 (kw_A ad n)) (F0 m pc ls []) :=
  W.vret hexec hb hr (fun t ht hW => ⟨⟨cs, rfl, hpost, by rw [ht]; exact hP, va_K.moved hW.alike hK⟩, hS.F ht⟩) hS.2.2 hdg hlocks
variable {y : MethodName} {bytes : ByteArray} {maxL nL k index : Nat} {ret : Option FieldType} {ws : List Cond} {rm : Room} {Qc : Array Value → State → Outcome → State → Prop} {free : Addr → Prop} {Ts : List Cond} {own C host : String} {As st0 : List Value}
theorem kw_rV (S : CallFix p m c cc nL s args Ts own) (cw : CallW R s args own C index y bytes maxL ret ws rm 0 0 k) {q0 : Nat} (hM : Met l y ws rm (va_Pc (.ref (ad q0) :: As) (kw_Pre D cl tys ad n cs)) Qc 0 0 free) (hK : va_K D cl tys s) (hP : va_P D cl (kw_w ad cs n) H) (hq : q0 < n) {ci N : Nat} {fs : List Value} {T : u_T} (he : cs q0 = .inr (ci, fs)) (hc : cl[ci]? = some (C, T, N)) (hn : As.length = k) (hsize : ls.size = nL) (hst : st0 = As.reverse ++ .ref (ad q0) :: rest) (hW : (rest.map fun v => v.category).sum ≤ 8) (hdg : decode cc pc = .ok (.invokevirtual index, 3)) (hcs : cells ≤ R.cells ∧ slots ≤ R.slots) :
    va_Run p l e R s m args below meth c H locs cells slots 0 0 (F0 m pc ls st0) rest (Qc (Value.ref (ad q0) :: As).toArray) free :=
  va_runV (As := As) (rest := rest) S hM cw ⟨kw_blind, va_recv hK hP hc ((kw_at hq).trans (by rw [he])), fun U hU hWm => ⟨rfl, by rw [hU]; exact hP, va_K.moved hWm.alike hK⟩⟩ rfl hn hsize hst (lv_room hW) hdg hcs
theorem kw_rVN (S : CallFix p m c cc nL s args Ts own) (cw : va_CN R s args own index y host bytes maxL ret ws rm 0 0 k ∧ (Cond.instanceMethod y).before args s = true ∧ (Cond.selects C y y).before args s = true) {q0 : Nat} (hM : Met l y ws rm (va_Pc (.ref (ad q0) :: As) (kw_Pre D cl tys ad n cs)) Qc 0 0 free) (hK : va_K D cl tys s) (hP : va_P D cl (kw_w ad cs n) H) (hq : q0 < n) {ci N : Nat} {fs : List Value} {T : u_T} (he : cs q0 = .inr (ci, fs)) (hc : cl[ci]? = some (C, T, N)) (hn : As.length = k) (hsize : ls.size = nL) (hst : st0 = As.reverse ++ .ref (ad q0) :: rest) (hW : (rest.map fun v => v.category).sum ≤ 8) (hdg : decode cc pc = .ok (.invokevirtual index, 3)) (hcs : cells ≤ R.cells ∧ slots ≤ R.slots) :
    va_Run p l e R s m args below meth c H locs cells slots 0 0 (F0 m pc ls st0) rest (Qc (Value.ref (ad q0) :: As).toArray) free :=
  va_runVN (As := As) (rest := rest) S hM cw ⟨kw_blind, va_recv hK hP hc ((kw_at hq).trans (by rw [he])), fun U hU hWm => ⟨rfl, by rw [hU]; exact hP, va_K.moved hWm.alike hK⟩⟩ rfl hn hsize hst (lv_room hW) hdg hcs
theorem kw_rS (S : CallFix p m c cc nL s args Ts own) (cw : CallB R s args own index y bytes maxL ret ws rm 0 0 k ∧ (Cond.static y).before args s = true) (hM : Met l y ws rm (va_Pc As (kw_Pre D cl tys ad n cs)) Qc 0 0 free) (hK : va_K D cl tys s) (hP : va_P D cl (kw_w ad cs n) H) (hn : As.length = k) (hsize : ls.size = nL) (hst : st0 = As.reverse ++ rest) (hW : (rest.map fun v => v.category).sum ≤ 8) (hdg : decode cc pc = .ok (.invokestatic index, 3)) (hcs : cells ≤ R.cells ∧ slots ≤ R.slots) :
    va_Run p l e R s m args below meth c H locs cells slots 0 0 (F0 m pc ls st0) rest (Qc As.toArray) free :=
  va_runS (As := As) (rest := rest) S hM cw ⟨kw_blind, fun U hU hWm => ⟨rfl, by rw [hU]; exact hP, va_K.moved hWm.alike hK⟩⟩ rfl hn hsize hst (lv_room hW) hdg hcs
theorem kw_rSN (S : CallFix p m c cc nL s args Ts own) (cw : va_CN R s args own index y host bytes maxL ret ws rm 0 0 k ∧ (Cond.static y).before args s = true ∧ True) (hM : Met l y ws rm (va_Pc As (kw_Pre D cl tys ad n cs)) Qc 0 0 free) (hK : va_K D cl tys s) (hP : va_P D cl (kw_w ad cs n) H) (hn : As.length = k) (hsize : ls.size = nL) (hst : st0 = As.reverse ++ rest) (hW : (rest.map fun v => v.category).sum ≤ 8) (hdg : decode cc pc = .ok (.invokestatic index, 3)) (hcs : cells ≤ R.cells ∧ slots ≤ R.slots) :
    va_Run p l e R s m args below meth c H locs cells slots 0 0 (F0 m pc ls st0) rest (Qc As.toArray) free :=
  va_runSN (As := As) (rest := rest) S hM cw ⟨kw_blind, fun U hU hWm => ⟨rfl, by rw [hU]; exact hP, va_K.moved hWm.alike hK⟩⟩ rfl hn hsize hst (lv_room hW) hdg hcs
theorem kw_calli {a : Array Value} {post : Int32 → (Nat → va_E) → Prop} (hr : va_Run p l e R s m args below meth c H locs cells slots 0 0 (F0 m pc ls st0) rest (va_Qi post (kw_Pre D cl tys ad n) (kw_A ad n) a) (kw_A ad n)) (hA : ∀ k, k < n → A (ad k)) (hS : va_S A H0 H locs)
    (kk : ∀ (r : Int32) (cs1 : Nat → va_E) (H1 : Heap) (locs1 : List Loc), post r cs1 → va_P D cl (kw_w ad cs1 n) H1 → va_S A H0 H1 locs1 → W p l e R s m args below meth c H1 locs1 cells slots Q (F0 m (pc + 3) ls (.int r :: rest))) : W p l e R s m args below meth c H locs cells slots Q (F0 m pc ls st0) :=
  va_calli hr hS (fun q _ ⟨k, h1, h2⟩ => h2 ▸ hA k h1) (fun q ⟨k, h1, h2⟩ => h2 ▸ hA k h1) (fun r u t H1 locs1 ht _ hp hB _ _ hS1 => kk r u H1 locs1 hp (by rw [← ht]; exact hB.1) hS1)
theorem kw_calll {a : Array Value} {post : Int64 → (Nat → va_E) → Prop} (hr : va_Run p l e R s m args below meth c H locs cells slots 0 0 (F0 m pc ls st0) rest (va_Ql post (kw_Pre D cl tys ad n) (kw_A ad n) a) (kw_A ad n)) (hA : ∀ k, k < n → A (ad k)) (hS : va_S A H0 H locs)
    (kk : ∀ (r : Int64) (cs1 : Nat → va_E) (H1 : Heap) (locs1 : List Loc), post r cs1 → va_P D cl (kw_w ad cs1 n) H1 → va_S A H0 H1 locs1 → W p l e R s m args below meth c H1 locs1 cells slots Q (F0 m (pc + 3) ls (.long r :: rest))) : W p l e R s m args below meth c H locs cells slots Q (F0 m pc ls st0) :=
  va_calll hr hS (fun q _ ⟨k, h1, h2⟩ => h2 ▸ hA k h1) (fun q ⟨k, h1, h2⟩ => h2 ▸ hA k h1) (fun r u t H1 locs1 ht _ hp hB _ _ hS1 => kk r u H1 locs1 hp (by rw [← ht]; exact hB.1) hS1)
theorem kw_callv {a : Array Value} {post : (Nat → va_E) → Prop} (hr : va_Run p l e R s m args below meth c H locs cells slots 0 0 (F0 m pc ls st0) rest (va_Qv post (kw_Pre D cl tys ad n) (kw_A ad n) a) (kw_A ad n)) (hA : ∀ k, k < n → A (ad k)) (hS : va_S A H0 H locs)
    (kk : ∀ (cs1 : Nat → va_E) (H1 : Heap) (locs1 : List Loc), post cs1 → va_P D cl (kw_w ad cs1 n) H1 → va_S A H0 H1 locs1 → W p l e R s m args below meth c H1 locs1 cells slots Q (F0 m (pc + 3) ls rest)) : W p l e R s m args below meth c H locs cells slots Q (F0 m pc ls st0) :=
  va_callv hr hS (fun q _ ⟨k, h1, h2⟩ => h2 ▸ hA k h1) (fun q ⟨k, h1, h2⟩ => h2 ▸ hA k h1) (fun u t H1 locs1 ht _ hp hB _ _ hS1 => kk u H1 locs1 hp (by rw [← ht]; exact hB.1) hS1)
theorem kw_callix {a : Array Value} {v : Int32} {cs1 : Nat → va_E} (hr : va_Run p l e R s m args below meth c H locs cells slots 0 0 (F0 m pc ls st0) rest (va_Qi (fun r c => r = v ∧ c = cs1) (kw_Pre D cl tys ad n) (kw_A ad n) a) (kw_A ad n)) (hA : ∀ k, k < n → A (ad k)) (hS : va_S A H0 H locs)
    (kk : ∀ (H1 : Heap) (locs1 : List Loc), va_P D cl (kw_w ad cs1 n) H1 → va_S A H0 H1 locs1 → W p l e R s m args below meth c H1 locs1 cells slots Q (F0 m (pc + 3) ls (.int v :: rest))) : W p l e R s m args below meth c H locs cells slots Q (F0 m pc ls st0) :=
  kw_calli hr hA hS (fun r c1 H1 locs1 hp hP hS => by obtain ⟨h1, h2⟩ := hp; subst h1; subst h2; exact kk H1 locs1 hP hS)
theorem kw_calllx {a : Array Value} {v : Int64} {cs1 : Nat → va_E} (hr : va_Run p l e R s m args below meth c H locs cells slots 0 0 (F0 m pc ls st0) rest (va_Ql (fun r c => r = v ∧ c = cs1) (kw_Pre D cl tys ad n) (kw_A ad n) a) (kw_A ad n)) (hA : ∀ k, k < n → A (ad k)) (hS : va_S A H0 H locs)
    (kk : ∀ (H1 : Heap) (locs1 : List Loc), va_P D cl (kw_w ad cs1 n) H1 → va_S A H0 H1 locs1 → W p l e R s m args below meth c H1 locs1 cells slots Q (F0 m (pc + 3) ls (.long v :: rest))) : W p l e R s m args below meth c H locs cells slots Q (F0 m pc ls st0) :=
  kw_calll hr hA hS (fun r c1 H1 locs1 hp hP hS => by obtain ⟨h1, h2⟩ := hp; subst h1; subst h2; exact kk H1 locs1 hP hS)
theorem kw_callvx {a : Array Value} {cs1 : Nat → va_E} (hr : va_Run p l e R s m args below meth c H locs cells slots 0 0 (F0 m pc ls st0) rest (va_Qv (fun c => c = cs1) (kw_Pre D cl tys ad n) (kw_A ad n) a) (kw_A ad n)) (hA : ∀ k, k < n → A (ad k)) (hS : va_S A H0 H locs)
    (kk : ∀ (H1 : Heap) (locs1 : List Loc), va_P D cl (kw_w ad cs1 n) H1 → va_S A H0 H1 locs1 → W p l e R s m args below meth c H1 locs1 cells slots Q (F0 m (pc + 3) ls rest)) : W p l e R s m args below meth c H locs cells slots Q (F0 m pc ls st0) :=
  kw_callv hr hA hS (fun c1 H1 locs1 hp hP hS => by subst hp; exact kk H1 locs1 hP hS)
end KWC
/-- the room of a method at depth d of the calls -/
abbrev kr (d : Nat) : Room := { frames := d, cells := 0, slots := 0, locals := 40 * d }
theorem kg_goodG {y : MethodName} {b : ByteArray} {n : Nat} {r : Option FieldType} (h : Cond.code y b n r ∈ kg_G) : GoodIn kg_G (Cond.code y b n r :: kg_G) := fun w hw => by
  have h1 : w ∈ kg_G := by
    rcases List.mem_cons.mp hw with rfl | h1
    · exact h
    · exact h1
  exact ⟨h1, good_of_word (List.mem_filter.mp h1).2⟩
section KWT
variable {p : Program} {l : Launch} {e : Env} {R : Room} {s : State} {m : MethodId} {args : Array Value} {below : List Frame} {meth : Method} {c : Code} {H : Heap} {locs : List Loc} {cells slots : Nat} {Q : State → Prop}
variable {cc : ByteArray} {pc : Nat} {ls : Array Slot} {rest : List Value}
/-- a tableswitch goes to its default -/
theorem kw_tbl (hexec : p.tables.exec = Jvm.exec) (hb : c.code = cc) {dflt lo hi : Int} {offs : Array Int} {len N : Nat} {x : Int32} {tgt : Nat} (hdg : decode cc pc = .ok (.tableswitch dflt lo hi offs, len)) (hN : hi = lo + (N : Int) - 1) (ht : (pc : Int) + dflt = (tgt : Int)) (h : ∀ i : Nat, i < N → offs[i]? = some dflt ∨ ¬ x.toInt = lo + i)
    (k : W p l e R s m args below meth c H locs cells slots Q (F0 m tgt ls rest)) : W p l e R s m args below meth c H locs cells slots Q (F0 m pc ls (.int x :: rest)) := by
  by_cases h1 : x.toInt < lo
  · exact lv_tableOut hexec hb hdg (Or.inl h1) ht k
  by_cases h2 : hi < x.toInt
  · exact lv_tableOut hexec hb hdg (Or.inr h2) ht k
  have h3 : (x.toInt - lo).toNat < N := by omega
  rcases h _ h3 with h4 | h4
  · exact lv_tableIn hexec hb hdg h1 h2 h4 ht k
  · exact absurd (by omega) h4
end KWT
