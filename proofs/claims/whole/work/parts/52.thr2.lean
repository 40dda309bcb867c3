/-! a call that throws, and is caught here -/
/-- what is thrown over the frame g of the walked method comes to the handler at hpc; the search may have linked the classes that the table names -/
def kx_Caught (p : Program) (l : Launch) (e : Env) (R : Room) (s : State) (m : MethodId) (args : Array Value) (below : List Frame) (meth : Method) (c : Code) (T : State) (locs : List Loc) (cells slots : Nat) (g : JFrame) (x : Addr) (hpc : Nat) : Prop :=
  ∃ vm', Stand p l e R s m args below meth c (T.setVm vm') locs cells slots ∧ ∀ target, Steps p.tables e below ((T.setVm vm').setTop { g with pc := hpc, stack := [.ref x] }) target → Steps p.tables e below ((T.setTop g).pushFrame (.throwing x)) target
section KX3
variable {e : Env} {s : State} {f : JFrame} {a : Addr} {x : ExceptionTableEntry} {tl : List ExceptionTableEntry} {k : ClassId} {cell : Cell}
/-- one row of the table whose class may still be open: it is linked, and the object's class decides -/
theorem kx_row (hx : covers x f.pc = true) (h0 : x.catchType ≠ 0) (hl : s.vm.ClassLinks e.platform f.method.cls x.catchType k) (hcell : s.heap[a]? = some cell) (hobj : ∀ z, cell.vm ≠ .statics z)
    (hk : ∃ z, s.vm.classes[cell.cls]? = some z) (hc : ∃ z, s.vm.classes[k]? = some z) (Q : Handler → Pre) (E : CtlPost) (d : Bool) (acts : List Action) :
    wp (findHandler.go f a (x :: tl)) Q E e d acts s ↔ if s.vm.assignable cell.cls k = true then Q (.found x.handlerPc) d acts (s.setVm (s.vm.noted f.method.cls x.catchType (.cls k))) else wp (findHandler.go f a tl) Q E e d acts (s.setVm (s.vm.noted f.method.cls x.catchType (.cls k))) := by
  have hal : s.vm.Alike (s.vm.noted f.method.cls x.catchType (.cls k)) := (Vm.Alike.refl s.vm).noted _ _ _
  obtain ⟨ho, hs⟩ := (resolveClass_links e.toSetting hl).op (op := VmOp.resolveClass f.method.cls x.catchType) rfl
  obtain ⟨z1, hz1⟩ := hk
  obtain ⟨z2, hz2⟩ := hc
  obtain ⟨y1, hy1, -⟩ := hal.2.2 _ _ hz1
  obtain ⟨y2, hy2, -⟩ := hal.2.2 _ _ hz2
  rw [← hal.assignable]
  simp only [covers] at hx
  by_cases hA : (s.vm.noted f.method.cls x.catchType (.cls k)).assignable cell.cls k = true
  · rw [if_pos hA]; simp [findHandler.go, hx, h0, ho, hs, hcell, hobj, hy1, hy2, hA, VmOp.dirties, VmOp.acts]
  · rw [if_neg hA]
    have hB : (s.vm.noted f.method.cls x.catchType (.cls k)).assignable cell.cls k = false := by simpa using hA
    simp [findHandler.go, hx, h0, ho, hs, hcell, hobj, hy1, hy2, hB, VmOp.dirties, VmOp.acts]
end KX3
section KX2
variable {p : Program} {l : Launch} {e : Env} {R : Room} {s : State} {m : MethodId} {args : Array Value} {below : List Frame} {meth : Method} {c : Code} {H : Heap} {locs : List Loc} {cells slots : Nat} {Q : State → Prop}
theorem kx_call {cc : ByteArray} (hexec : p.tables.exec = Jvm.exec) (hb : c.code = cc) {own C : String} {index : Nat} {y : MethodName} {bytes : ByteArray} {maxL : Nat} {ret : Option FieldType} {ws : List Cond} {rm : Room}
    (hown : s.vm.findClass own = some m.cls) (hlink : (Cond.methodLink own index y).before args s = true) (hinst : (Cond.instanceMethod y).before args s = true) (hsel : (Cond.selects C y y).before args s = true)
    (hcode : (Cond.code y bytes maxL ret).before args s = true) (hy : y.cls ≠ "java/lang/invoke/MethodHandle" ∧ y.cls ≠ "java/lang/invoke/VarHandle") (hini : ∀ a' U, s.WarmedH U.vm → (Cond.initialized y.cls).before a' U = true)
    {Pc : Array Value → State → Prop} {Qt : Addr → State → State → Prop} {mc ms : Nat} {free : Addr → Prop} (hM : kx_Met l y ws rm Pc (fun _ _ _ _ => False) Qt mc ms free) (hblind : FrameBlind Pc) (hrc : rm.cells = mc) (hrs : rm.slots = ms)
    {Wd : Nat} (hframes : rm.frames + 1 ≤ R.frames) (hlocals : Wd + (maxL + 11) + rm.locals ≤ R.locals) (hws : ∀ w ∈ ws, ∀ a' U, s.WarmedH U.vm → w.before a' U = true) (hcin : Cond.code y bytes maxL ret ∈ ws)
    {b : Addr} {cellB : Cell} (hcell : H[b]? = some cellB) (hobj : cellB.vm.isStatics = false) (hcls : s.vm.findClass C = some cellB.cls)
    {pc hpc : Nat} {ls : Array Slot} (hsize : ls.size = c.maxLocals) {As rest st0 : List Value} (hlen : ∀ sig, parseMethodDescriptor y.desc = some sig → As.length = sig.parameters.length) (hst : st0 = As.reverse ++ .ref b :: rest)
    (hW : (rest.map fun v => v.category).sum ≤ Wd) (hdg : decode cc pc = .ok (.invokevirtual index, 3)) (hpre : ∀ U : State, U.heap = H → s.WarmedH U.vm → Pc (Value.ref b :: As).toArray U) (hroom : cells + mc ≤ R.cells ∧ slots + ms ≤ R.slots)
    (kk : ∀ (x : Addr) (st t : State), st.heap = H → s.vm.Alike st.vm → s.vm.Alike t.vm → Qt x st t →
      (∀ T' : State, T'.heap = t.heap → Stand p l e R s m args below meth c T' locs (cells + mc) (slots + ms) → kx_Caught p l e R s m args below meth c T' locs (cells + mc) (slots + ms) (F0 m pc ls rest) x hpc) ∧ W p l e R s m args below meth c t.heap locs (cells + mc) (slots + ms) Q (F0 m hpc ls [.ref x])) :
    W p l e R s m args below meth c H locs cells slots Q (F0 m pc ls st0) := by
  intro T hT X
  subst hb
  obtain ⟨mk, methM, hnamed, hmethM, hstM, habM⟩ := Cond.instanceMethod_spec hinst
  obtain ⟨methM', cM, hmethM', -, -, -, -, -, -, hsigM⟩ := Cond.code_spec hnamed hcode
  cases hmethM.symm.trans hmethM'
  obtain ⟨c2, r2, m2, q1, q2, q3, q4, kP, hkP, hkPi⟩ := Cond.selects_spec hsel
  cases hcls.symm.trans q1
  cases (State.methodFound?_of_named hnamed hy).symm.trans q2
  cases hnamed.symm.trans q3
  have hselP : selectMethod e.platform s.vm cellB.cls mk = .method mk := by rw [Launch.admits_selectMethod X.admits]; exact q4
  obtain ⟨vm₁, X₁, hstep₁⟩ := X.invokevirtual hexec hown hlink hnamed hmethM hstM hkP hkPi hy (a := b) (cell := cellB) (by rw [hT]; exact hcell)
    (fun z h => by rw [h] at hobj; cases hobj) hselP hmethM habM hkP hkPi (g := F0 m pc ls st0) rfl (argsL := As) (rest := rest) (hlen _ hsigM) hst hdg
  have hU : (T.setVm vm₁).heap = H := hT
  generalize T.setVm vm₁ = U at X₁ hstep₁ hU
  have hn := X₁.named hnamed
  have h2 := hws _ hcin (Value.ref b :: As).toArray U X₁.warmed
  have h3 := hini (Value.ref b :: As).toArray U X₁.warmed
  have h1 : (headSpec ws rm).pre.before (Value.ref b :: As).toArray U = true := atoms_intro fun w hw => hws w hw _ _ X₁.warmed
  obtain ⟨methY, cY, hmY, hcY, -, hlY, -, -, -, -⟩ := Cond.code_spec hn h2
  obtain ⟨kY, hkY, -⟩ := className_of_methodNamed hn
  have hinitY : kY.init = .initialized := Cond.initialized_spec (findClass_of_methodNamed hn) hkY h3
  have h : At U (F0 m pc ls rest).method c below := X₁.here
  have happ : (headSpec ws rm).appliesLoose y e.platform (U.calling (F0 m pc ls rest) mk (Value.ref b :: As).toArray) = true :=
    Spec.appliesLoose_calling (g := F0 m pc ls rest) h hdg hn hkY hinitY
      (X₁.room_calling (g := F0 m pc ls rest) (R' := (headSpec ws rm).room) hsize hmY hcY hframes (by rw [hlY]; have hmr : (F0 m pc ls rest).monitorRoom = 0 := rfl; rw [hmr]; have hr9 : (headSpec ws rm).room.locals = rm.locals := rfl; rw [hr9]; have hs9 : ((F0 m pc ls rest).stack.map fun v => v.category).sum ≤ Wd := hW; omega) (by rw [show (headSpec ws rm).room.cells = mc from hrc]; exact hroom.1) (by rw [show (headSpec ws rm).room.slots = ms from hrs]; exact hroom.2)) h1
  have hfr : (U.setTop (F0 m pc ls rest)).frames = [.java (F0 m pc ls rest)] ++ below := by rw [State.frames_setTop' _ h.top, X₁.tail]; rfl
  obtain ⟨o, s₂, hsteps, -, hend, hq⟩ := Steps.callFree hM p X₁.admits X₁.cas X₁.clock (acts := []) hfr happ (hblind _ _ _ _ (hpre U hU X₁.warmed)) trivial
  rcases hq with ⟨hF, -⟩ | ⟨x, rfl, hqt, hWt, hsm⟩
  · exact hF.elim
  rw [State.frames_setTop' _ h.top, X₁.tail] at hend
  obtain ⟨T', X', hWT, hsame, ht⟩ := X₁.outOfThrown (g := F0 m pc ls rest) rfl hend hWt hsm
  have hh : T'.heap = s₂.heap := by rw [ht]; exact (Stand.throwing_heap T' _ x).symm
  rw [List.append_nil] at X'
  have hal : s.vm.Alike U.vm := X₁.warmed.alike
  have hal2 : s.vm.Alike T'.vm := X'.warmed.alike
  have hvm2 : s₂.vm = T'.vm := by rw [ht]; exact Stand.throwing_vm T' _ x
  obtain ⟨hfind, k2⟩ := kk x (U.calling (F0 m pc ls rest) mk (Value.ref b :: As).toArray) s₂ hU hal (by rw [hvm2]; exact hal2) hqt
  obtain ⟨vm', X2, hgo⟩ := hfind T' hh X'
  obtain ⟨t, a1, b1⟩ := k2 (T'.setVm vm') hh X2
  refine ⟨t, hstep₁ _ fun acts => ?_, b1⟩
  rw [doInvoke_state]
  refine hsteps.trans ?_
  rw [ht]
  exact hgo _ a1
end KX2
