/-! throws -/
def kx_up : List String := ["java/lang/RuntimeException", "java/lang/Exception"]
/-- the words that the tables alone do not give in a later state: of Throwable's statics, and three kinds that are not among the good ones -/
def kx_hw : List Cond := [.laysStatic Bundle.tN "UNASSIGNED_STACK" Bundle.steD, .laysStatic Bundle.tN "SUPPRESSED_SENTINEL" Bundle.listD, .isRef (.static Bundle.tN "UNASSIGNED_STACK" Bundle.steD), .isRef (.static Bundle.tN "SUPPRESSED_SENTINEL" Bundle.listD),
  .declares (Bundle.init0 "java/lang/RuntimeException"), .declares (Bundle.init0 "java/lang/Exception"), .declares (Bundle.init0 Bundle.tN), .castable "java/lang/IllegalArgumentException" "java/lang/IllegalArgumentException", .castable "java/lang/IllegalStateException" "java/lang/IllegalStateException", .not (.castable "java/lang/IllegalStateException" "java/lang/IllegalArgumentException")]
theorem kx_wA : ∀ a ∈ Bundle.ownAtoms0 "LaneMachine" 75 "java/lang/IllegalArgumentException" kx_up, a ∈ kg_G ∨ a ∈ kx_hw := by decide +kernel
theorem kx_wS : ∀ a ∈ Bundle.ownAtoms0 "LaneMachine" 84 "java/lang/IllegalStateException" kx_up, a ∈ kg_G ∨ a ∈ kx_hw := by decide +kernel
/-- they hold -/
def kx_St (U : State) : Prop := ∀ w ∈ kx_hw, w.before #[] U = true
theorem kx_St.at {args : Array Value} {U : State} (h : kx_St U) : ∀ w ∈ kx_hw, w.before args U = true := by
  intro w hw
  have h1 := h w hw
  simp only [kx_hw, List.mem_cons, List.not_mem_nil, or_false] at hw
  rcases hw with rfl | rfl | rfl | rfl | rfl | rfl | rfl | rfl | rfl | rfl <;> exact h1
theorem kx_atA {args : Array Value} {s : State} (hg : ∀ w ∈ kg_G, w.before args s = true) (h : kx_St s) : ∀ a ∈ Bundle.ownAtoms0 "LaneMachine" 75 "java/lang/IllegalArgumentException" kx_up, a.before args s = true := fun a ha => (kx_wA a ha).elim (hg a) (h.at a)
theorem kx_atS {args : Array Value} {s : State} (hg : ∀ w ∈ kg_G, w.before args s = true) (h : kx_St s) : ∀ a ∈ Bundle.ownAtoms0 "LaneMachine" 84 "java/lang/IllegalStateException" kx_up, a.before args s = true := fun a ha => (kx_wS a ha).elim (hg a) (h.at a)
/-- the end of a method that came back, or threw ahead of every write -/
def kx_End (Qc : Array Value → State → Outcome → State → Prop) (Qt : Addr → State → State → Prop) (mc ms : Nat) (free : Addr → Prop) (a : Array Value) (st : State) (o : Outcome) (t : State) : Prop :=
  (Qc a st o t ∧ ∃ L, FrameEnd st o t L mc ms ∧ ∀ q ∈ L, free q.base) ∨ ∃ x, o = .threw x ∧ Qt x st t ∧ st.WarmedH t.vm ∧ st.sameButNew ({ t with vm := st.vm } : State) [] mc ms
def kx_Met (l : Launch) (y : MethodName) (ws : List Cond) (rm : Room) (Pc : Array Value → State → Prop) (Qc : Array Value → State → Outcome → State → Prop) (Qt : Addr → State → State → Prop) (mc ms : Nat) (free : Addr → Prop) : Prop :=
  MetFree l y (headSpec ws rm) Pc (fun _ _ _ _ _ => True) (kx_End Qc Qt mc ms free)
def kx_MQ (below : List Frame) (Qc : Array Value → State → Outcome → State → Prop) (Qt : Addr → State → State → Prop) (a : Array Value) (s : State) (mc ms : Nat) (free : Addr → Prop) : State → Prop := fun t =>
  ∃ o, t.status = .running ∧ Ended t below o ∧ kx_End Qc Qt mc ms free a s o t
theorem kx_Met.ofW {l : Launch} {y : MethodName} {ws ws' : List Cond} {rm : Room} {Pc : Array Value → State → Prop} {Qc : Array Value → State → Outcome → State → Prop} {Qt : Addr → State → State → Prop} {mc ms : Nat} {free : Addr → Prop} {cc : ByteArray} {maxL : Nat} {ret : Option FieldType}
    (hy : plainName y.cls = true) (hw : ws = Cond.code y cc maxL ret :: ws')
    (body : ∀ p e s m args below meth c s₁, BodyLoose p l y (headSpec ws rm) cc maxL ret e s m args below meth c s₁ → c.maxLocals = maxL → Pc args s →
      W p l e (headSpec ws rm).room s m args below meth c s.heap [] 0 0 (kx_MQ below Qc Qt args s mc ms free) (entryFrame m args maxL)) : kx_Met l y ws rm Pc Qc Qt mc ms free := by
  refine MetFree.of_bodyS (code := cc) (maxLocals := maxL) (ret := ret) hy ?_ ?_
  · intro args s m h hn
    obtain ⟨meth, c, h1, h2, h3, h4, h5, h6, -, -⟩ := Cond.code_spec hn (atoms_spec (ws := ws) h _ (by rw [hw]; exact List.mem_cons_self))
    exact ⟨meth, c, h1, h2, h3, h4, h5, h6⟩
  · intro p e s m args below meth c s₁ B hml hP _
    obtain ⟨t, a1, o, b1, b2, b3⟩ := body p e s m args below meth c s₁ B hml hP s₁ (by rw [B.state]; rfl) (Stand.of_body B)
    exact ⟨t, o, a1, b1, b2, b3⟩
section KX
variable {p : Program} {l : Launch} {e : Env} {R : Room} {s : State} {m : MethodId} {args : Array Value} {below : List Frame} {meth : Method} {c : Code} {H : Heap} {locs : List Loc} {cells slots : Nat} {Q : State → Prop}
/-- a way back, seen as an end that may throw -/
theorem kx_back {Qc : Array Value → State → Outcome → State → Prop} {Qt : Addr → State → State → Prop} {mc ms : Nat} {free : Addr → Prop} {g : JFrame} (h : W p l e R s m args below meth c H locs cells slots (MQ below Qc args s mc ms free) g) :
    W p l e R s m args below meth c H locs cells slots (kx_MQ below Qc Qt args s mc ms free) g := by
  intro T hT X
  obtain ⟨t, h1, o, h2, h3, h4, h5⟩ := h T hT X
  exact ⟨t, h1, o, h2, h3, Or.inl ⟨h4, h5⟩⟩
/-- what is thrown: a new cell of that class, and the old cells as they were -/
def kx_T (C : String) (x : Addr) (st t : State) : Prop := st.heap.size ≤ x ∧ (∃ ce : Cell, t.heap[x]? = some ce ∧ st.vm.findClass C = some ce.cls ∧ ce.vm.isStatics = false ∧ st.vm.assignable ce.cls ce.cls = true) ∧ ∀ q : Nat, q < st.heap.size → t.heap[q]? = st.heap[q]?
theorem kx_throw {cc : ByteArray} {Qc : Array Value → State → Outcome → State → Prop} {Qt : Addr → State → State → Prop} {free : Addr → Prop} (hexec : p.tables.exec = Jvm.exec) (hb : c.code = cc) (htr : ∀ e : Env, l.admits e → e.platform.stackTraces = false) {own cls : String} {names : List String} {ic inew : Nat}
    (hown : s.vm.findClass own = some m.cls) (hcls : Bundle.fit cls = true) (hnames : ∀ n ∈ names, Bundle.fit n = true) (h : ∀ a ∈ Bundle.ownAtoms0 own ic cls names, a.before args s = true)
    (hcl : (Cond.classLink own inew cls).before args s = true) (hini : (Cond.initialized cls).before args s = true)
    {pc : Nat} {ls : Array Slot} (hsize : ls.size = c.maxLocals) (hd0 : decode cc pc = .ok (.new inew, 3)) (hd3 : decode cc (pc + 3) = .ok (.dup, 1)) (hd4 : decode cc (pc + 4) = .ok (.invokespecial ic, 3)) (hd7 : decode cc (pc + 7) = .ok (.athrow, 1))
    (hout : ∀ x ∈ c.exceptionTable.toList, covers x (pc + 7) = false) (hlocks : meth.locks = false)
    (hcells : 1 ≤ R.cells) (hslots : 6 ≤ R.slots) (hfr : names.length + 3 < R.frames) (hloc : 13 * (names.length + 1) + 42 ≤ R.locals)
    (hq : ∀ (x : Addr) (t : State), kx_T cls x s t → Qt x s t) :
    W p l e R s m args below meth c s.heap [] 0 0 (kx_MQ below Qc Qt args s 1 6 free) (F0 m pc ls []) := by
  intro T hT X
  subst hb
  obtain ⟨vm₁, cX, kX, hfX, hkX, -, -, X₁, st1⟩ := X.newCold hexec (own := own) (C := cls) (index := inew) (n := 6) hown hcl (h (.instantiable cls 6) (by simp [Bundle.ownAtoms0])) hini (g := F0 m pc ls []) rfl hd0 (by omega) (by omega)
  generalize hT1 : (T.setVm vm₁).pushCell { cls := cX, slots := kX.instanceTypes.map defaultValue, vm := .none } = T1 at X₁ st1
  have hcellA : T1.heap[T.heap.size]? = some (freshCell cX kX) := by rw [← hT1]; exact State.heap_pushCell_size _ _
  obtain ⟨U, hsteps, hrun, hend, hW, hsame, ce, hce, K⟩ := X₁.ctorThrow0 hexec (htr e X.admits) (own := own) (cls := cls) (names := names) (ic := ic) hown hcls hnames h (fun y hy => by cases hy) hfX hkX hcellA (by rw [hT]; exact Nat.le_refl _)
    (g := F0 m (pc + 4) ls [.ref T.heap.size, .ref T.heap.size]) rfl hsize rfl rfl (rest := []) rfl hd4 hd7 hout hfr (by have := hloc; simp [Value.category]; omega) hlocks
  refine ⟨U, ?_, .threw T.heap.size, hrun, hend, Or.inr ⟨T.heap.size, rfl, hq _ _ ⟨by rw [hT]; exact Nat.le_refl _, ⟨ce, hce, K.cls, by rw [K.vm]; rfl, K.self⟩, ?_⟩, hW, hsame⟩⟩
  · refine st1 _ ?_
    show Steps p.tables e below (T1.setTop (F0 m (pc + 3) ls [.ref T.heap.size])) _
    jvm_step X₁.here [X₁.here.top, hexec, hd3, Value.category]
    exact hsteps
  · intro q hq
    have hq1 : q < s.heap.size := hq
    obtain ⟨c', h1, h2, h3, h4⟩ := hsame.2.2.2.2.2 q _ (Array.getElem?_eq_getElem hq1)
    have h1 : U.heap[q]? = some c' := h1
    have h5 : c'.slots = (s.heap[q]).slots := by
      apply Array.ext_getElem?
      intro i
      exact h4 i (by intro z; cases z)
    rw [h1, Array.getElem?_eq_getElem hq1, h2, h5]
end KX
/-- a method that throws a new C, ahead of every write -/
def kx_th (l : Launch) (y : MethodName) (ws : List Cond) (rm : Room) (D : va_G) (cl : List vw_C) (tys : List (ClassId × FieldType)) (ad : Nat → Nat) (n : Nat) (cs : Nat → va_E) (vs : List Value) (C : String) : Prop :=
  kx_Met l y ws rm (va_Pc vs (fun U => kw_Pre D cl tys ad n cs U ∧ kx_St U)) (fun _ _ _ _ => False) (kx_T C) 1 6 (fun _ => False)
theorem kx_of {l : Launch} {y : MethodName} {ws ws' : List Cond} {rm : Room} {D : va_G} {cl : List vw_C} {tys : List (ClassId × FieldType)} {ad : Nat → Nat} {n : Nat} {cs : Nat → va_E} {vs : List Value} {C : String} {cc : ByteArray} {maxL : Nat} {ret : Option FieldType}
    (hy : plainName y.cls = true) (hw : ws = Cond.code y cc maxL ret :: ws') (hlen : (lg_sl vs).length ≤ maxL)
    (body : ∀ (p : Program) (e : Env) (s : State) (m : MethodId) (below : List Frame) (meth : Method) (c : Code) (ls : Array Slot), p.tables.exec = Jvm.exec → c.code = cc → meth.sig.returnType = ret → c.maxLocals = maxL → s.vm.findClass y.cls = some m.cls → (∀ w ∈ ws, w.before vs.toArray s = true) → meth.locks = false → (∀ pc : Nat, ∀ x ∈ c.exceptionTable.toList, covers x pc = false) → kx_St s → va_P D cl (kw_w ad cs n) s.heap → va_K D cl tys s → lv_has ls maxL (lv_args 0 vs) →
      W p l e rm s m vs.toArray below meth c s.heap [] 0 0 (kx_MQ below (fun _ _ _ _ => False) (kx_T C) vs.toArray s 1 6 (fun _ => False)) (F0 m 0 ls [])) : kx_th l y ws rm D cl tys ad n cs vs C := by
  refine kx_Met.ofW (cc := cc) (maxL := maxL) (ret := ret) hy hw ?_
  intro p e s m args below meth c s₁ B hml hv
  obtain ⟨rfl, ⟨hP, hK⟩, hSt⟩ := hv
  have hts := atoms_spec (ws := ws) B.pre
  have hl := lv_entry vs (n := maxL) hlen
  rw [lg_entry_eq]
  generalize (lg_sl vs ++ List.replicate (maxL - (lg_sl vs).length) Slot.unset).toArray = ls at hl ⊢
  exact body p e s m below meth c ls B.exec B.bytes B.returns hml (findClass_of_methodNamed B.named) hts B.notSynchronized (fun pc => covers_of_empty (B.noHandlers (hts _ (by rw [hw]; exact List.mem_cons_self))) pc) hSt hP hK hl
def kx_r : Room := { frames := 6, cells := 1, slots := 6, locals := 100 }
set_option maxRecDepth 100000 in
theorem x_M_limit_A (l : Launch) (htr : ∀ e : Env, l.admits e → e.platform.stackTraces = false) {D : va_G} {tys : List (ClassId × FieldType)} {ad : Nat → Nat} {n q0 : Nat} {cs : Nat → va_E} {v : Int32} (hbad : v < 0 ∨ 128 < v) : kx_th l y_M_limit w_M_limit kx_r D kc tys ad n cs [.ref (ad q0), .int v] "java/lang/IllegalArgumentException" := by
  refine kx_of (cc := b_M_limit) (maxL := 2) (ret := some .boolean) (by decide) rfl (Nat.le_of_ble_eq_true rfl) ?_
  intro p e s m below meth c ls hx hb hr hml hown hts hlocks hnh hSt hP hK hl
  have hg : ∀ w9 ∈ kg_G, w9.before [.ref (ad q0), .int v].toArray s = true := fun w9 h9 => hts w9 (List.mem_cons_of_mem _ h9)
  have hown : s.vm.findClass "LaneMachine" = some m.cls := hown
  have hl : lv_has ls 2 [(0, .ref (ad q0)), (1, .int v)] := hl
  have KT : W p l e kx_r s m [.ref (ad q0), .int v].toArray below meth c s.heap [] 0 0 (kx_MQ below (fun _ _ _ _ => False) (kx_T "java/lang/IllegalArgumentException") [.ref (ad q0), .int v].toArray s 1 6 (fun _ => False)) (F0 m 11 ls []) :=
    kx_throw hx hb htr (inew := 73) hown (by decide +kernel) (by decide +kernel) (kx_atA hg hSt) (hg _ kg_262) (hg _ kg_11) (by rw [hml]; exact hl.1) d_M_limit_11 d_M_limit_14 d_M_limit_15 d_M_limit_18 (hnh _) hlocks (by decide) (by decide) (by decide) (by decide) (fun _ _ h => h)
  refine lv_iload_n hx hb d_M_limit_0 rfl (lv_at hl 1 rfl) ?_
  refine lv_if_lt (tgt := 11) hx hb d_M_limit_1 (by decide) (fun _ => KT) (fun h1 => ?_)
  refine lv_iload_n hx hb d_M_limit_4 rfl (lv_at hl 1 rfl) ?_
  refine lv_sipush (v := 128) hx hb d_M_limit_5 (by decide) ?_
  exact lv_icmp_le (tgt := 19) hx hb d_M_limit_8 (by decide) (fun h2 => (hbad.elim h1 (fun z => absurd h2 (Int32.not_le.mpr z))).elim) (fun _ => KT)
