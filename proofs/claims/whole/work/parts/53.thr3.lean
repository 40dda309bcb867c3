/-! caught by the first row of the table, or by the second -/
section KX4
variable {p : Program} {l : Launch} {e : Env} {R : Room} {s : State} {m : MethodId} {args : Array Value} {below : List Frame} {meth : Method} {c : Code} {T : State} {locs : List Loc} {cells slots : Nat}
theorem kx_come {tb : Tables} {target : State} {g : JFrame} {a : Addr} {hpc : Nat} {vm' : Vm} (h : At T g.method c below)
    (hfind : ∀ (Q : Handler → Pre) (E : CtlPost) (d : Bool) (acts : List Action), wp (findHandler g a) Q E e d acts ((T.setTop g).pushFrame (.throwing a)) ↔ Q (.found hpc) d acts (((T.setTop g).pushFrame (.throwing a)).setVm vm'))
    (hrest : Steps tb e below ((T.setVm vm').setTop { g with pc := hpc, stack := [.ref a] }) target) : Steps tb e below ((T.setTop g).pushFrame (.throwing a)) target := by
  have hstep : ∀ r, (stepThrowing e ((T.setTop g).pushFrame (.throwing a)) a (.java g :: r)).Is ((((T.setTop g).pushFrame (.throwing a)).setVm vm').setFrames (.java { g with pc := hpc, stack := [.ref a] } :: r)) [] := by
    intro r
    simp only [stepThrowing, searchFrame, vmDo]
    generalize hr : Sem.go _ e false [] ((T.setTop g).pushFrame (.throwing a)) = res
    obtain ⟨as, rfl, ha⟩ := Sem.eq_ok_of hr (a := Handler.found hpc) (s' := ((T.setTop g).pushFrame (.throwing a)).setVm vm') (acts' := []) (by simp [hfind _ _ _ _])
    exact ⟨rfl, ha⟩
  obtain ⟨hgo, hw⟩ := h.throwing a
  refine Steps.head hgo hw ?_
  obtain ⟨g₀, hg⟩ := Option.isSome_iff_exists.mp h.top
  obtain ⟨r, hr⟩ := State.topJava?_eq_some.mp hg
  have hr' : (T.setVm vm').frames = .java g₀ :: r := hr
  have hfl : ∀ (u : State) (F G : List Frame), ((u.setFrames F).setVm vm').setFrames G = (u.setVm vm').setFrames G := fun u F G => by
    rw [show (u.setFrames F).setVm vm' = (u.setVm vm').setFrames F from rfl, State.setFrames_setFrames]
  rw [stepThread_throwing (frames_entered h.top _), (hstep _).1]
  rw [State.setTop_of_frames _ hr'] at hrest
  rw [hr, List.tail_cons, State.pushFrame, hfl, State.setTop_of_frames _ hr, hfl]
  exact hrest
/-- a class that the law's table names, at a later state -/
theorem kx_lk (X : Stand p l e R s m args below meth c T locs cells slots) {own name : String} {i : Nat} (hown : s.vm.findClass own = some m.cls) (hlink : (Cond.classLink own i name).before args s = true) {vm : Vm} (hW : s.WarmedH vm) :
    ∃ k : ClassId, s.vm.findClass name = some k ∧ vm.ClassLinks e.platform m.cls i k ∧ s.WarmedH (vm.noted m.cls i (.cls k)) ∧ ∃ z, vm.classes[k]? = some z := by
  have hpl : e.platform.magicAccessors = ({} : Platform).magicAccessors := by rw [X.admits.platform]
  obtain ⟨k, hk, hcl⟩ := Cond.classLink_spec hown hlink e.platform hpl
  obtain ⟨dk, _, _, kt, hd, _, _, _, _, hkt, _, hopen⟩ := hcl.here
  obtain ⟨kt', hkt', -⟩ := hW.alike.2.2 _ _ hkt
  exact ⟨k, hk, hW.classLinks hcl, hW.noted hd hopen (State.rightAt_cls hcl), kt', hkt'⟩
theorem kx_c1 (X : Stand p l e R s m args below meth c T locs cells slots) {g : JFrame} (hg : g.method = m) {own n1 : String} (hown : s.vm.findClass own = some m.cls) {r1 : ExceptionTableEntry} {tl : List ExceptionTableEntry} (htab : c.exceptionTable.toList = r1 :: tl)
    (hx1 : covers r1 g.pc = true) (h01 : r1.catchType ≠ 0) (hl1 : (Cond.classLink own r1.catchType n1).before args s = true) {a : Addr} {cell : Cell} (hcell : T.heap[a]? = some cell) (hobj : cell.vm.isStatics = false) (hkc : ∃ z, s.vm.classes[cell.cls]? = some z)
    (hfit : ∀ k, s.vm.findClass n1 = some k → s.vm.assignable cell.cls k = true) : kx_Caught p l e R s m args below meth c T locs cells slots g a r1.handlerPc := by
  subst hg
  obtain ⟨k1, hk1, hc1, hW1, hz1⟩ := kx_lk X hown hl1 X.warmed
  obtain ⟨z0, hz0⟩ := hkc
  obtain ⟨z0', hz0', -⟩ := X.warmed.alike.2.2 _ _ hz0
  refine ⟨T.vm.noted g.method.cls r1.catchType (.cls k1), X.noted hW1, fun target h => kx_come X.here (fun Q E d acts => ?_) h⟩
  have hvm : ((T.setTop g).pushFrame (.throwing a)).vm = T.vm := Stand.throwing_vm T g a
  have hhp : ((T.setTop g).pushFrame (.throwing a)).heap = T.heap := Stand.throwing_heap T g a
  rw [W.findHandler_eq (by rw [hvm]; exact X.method') X.code, htab, kx_row hx1 h01 (k := k1) (cell := cell) (by rw [hvm]; exact hc1) (by rw [hhp]; exact hcell) (VmData.ne_statics_of hobj) (by rw [hvm]; exact ⟨z0', hz0'⟩) (by rw [hvm]; exact hz1), hvm, if_pos (by rw [X.warmed.alike.assignable]; exact hfit k1 hk1)]
theorem kx_c2 (X : Stand p l e R s m args below meth c T locs cells slots) {g : JFrame} (hg : g.method = m) {own n1 n2 : String} (hown : s.vm.findClass own = some m.cls) {r1 r2 : ExceptionTableEntry} {tl : List ExceptionTableEntry} (htab : c.exceptionTable.toList = r1 :: r2 :: tl)
    (hx1 : covers r1 g.pc = true) (h01 : r1.catchType ≠ 0) (hl1 : (Cond.classLink own r1.catchType n1).before args s = true) (hx2 : covers r2 g.pc = true) (h02 : r2.catchType ≠ 0) (hl2 : (Cond.classLink own r2.catchType n2).before args s = true)
    {a : Addr} {cell : Cell} (hcell : T.heap[a]? = some cell) (hobj : cell.vm.isStatics = false) (hkc : ∃ z, s.vm.classes[cell.cls]? = some z)
    (hno : ∀ k, s.vm.findClass n1 = some k → s.vm.assignable cell.cls k = false) (hfit : ∀ k, s.vm.findClass n2 = some k → s.vm.assignable cell.cls k = true) : kx_Caught p l e R s m args below meth c T locs cells slots g a r2.handlerPc := by
  subst hg
  obtain ⟨k1, hk1, hc1, hW1, hz1⟩ := kx_lk X hown hl1 X.warmed
  obtain ⟨k2, hk2, hc2, hW2, hz2⟩ := kx_lk X hown hl2 hW1
  obtain ⟨z0, hz0⟩ := hkc
  obtain ⟨z0', hz0', -⟩ := X.warmed.alike.2.2 _ _ hz0
  obtain ⟨z1', hz1', -⟩ := hW1.alike.2.2 _ _ hz0
  refine ⟨(T.vm.noted g.method.cls r1.catchType (.cls k1)).noted g.method.cls r2.catchType (.cls k2), X.noted hW2, fun target h => kx_come X.here (fun Q E d acts => ?_) h⟩
  have hvm : ((T.setTop g).pushFrame (.throwing a)).vm = T.vm := Stand.throwing_vm T g a
  have hhp : ((T.setTop g).pushFrame (.throwing a)).heap = T.heap := Stand.throwing_heap T g a
  rw [W.findHandler_eq (by rw [hvm]; exact X.method') X.code, htab, kx_row hx1 h01 (k := k1) (cell := cell) (by rw [hvm]; exact hc1) (by rw [hhp]; exact hcell) (VmData.ne_statics_of hobj) (by rw [hvm]; exact ⟨z0', hz0'⟩) (by rw [hvm]; exact hz1), hvm, if_neg (by rw [X.warmed.alike.assignable, hno k1 hk1]; decide)]
  rw [kx_row hx2 h02 (k := k2) (cell := cell) hc2 (by show ((T.setTop g).pushFrame (.throwing a)).heap[a]? = _; rw [hhp]; exact hcell) (VmData.ne_statics_of hobj) ⟨z1', hz1'⟩ hz2, if_pos (by show (T.vm.noted g.method.cls r1.catchType (.cls k1)).assignable _ _ = true; rw [hW1.alike.assignable]; exact hfit k2 hk2)]
  rfl
end KX4
