/-! THE CLAIM OUT OF ONE WALK OF THE LAW'S BODY. Your part is whole_start (and what it stands on); all else here is the same for every law, but numbers. -/
def R_law : String := "LaneMachineLaw"
def lw_P (b : Addr) (xs : List Int32) (args : Array Value) (s : State) : Prop := args = #[.ref b] ∧ s.IntsAt b xs ∧ xs.length ≤ 3585 ∧ (Jvm.Cond.and given_1 narrow_1).before args s = true
def lw_Q (_ : Array Value) (s : State) (o : Outcome) (t : State) : Prop := o = .returned (some (.int 1)) ∧ Framed s o t [] 604257 7283298
def lw_Z (below : List Frame) (a : Array Value) (s : State) : State → Prop := fun t => ∃ o, t.status = .running ∧ Ended t below o ∧ lw_Q a s o t
/-- the law's own end, with 1 on the stack, nothing written that was there before, its room as the claim has it -/
theorem lw_ret {p : Program} {l : Launch} {e : Env} {s : State} {m : MethodId} {below : List Frame} {meth : Method} {c : Code} {b : Nat} (hx : p.tables.exec = Jvm.exec) (hb : c.code = code) (hr : meth.sig.returnType = ret) (hlocks : meth.locks = false) {pc : Nat} {H : Heap} {ls : Array Slot} (hdg : decode code pc = .ok (.ireturn, 1)) : W p l e room_1 s m #[Value.ref b] below meth c H [] 604257 7283298 (lw_Z below #[Value.ref b] s) (F0 m pc ls [.int 1]) := by
  intro T hT X
  obtain ⟨fs, hret, hrun, hended, hW, hframe⟩ := X.leave (v := some (.int 1)) (hlocks := hlocks) (fun h => by rw [hr] at h; cases h)
  have hmeth' : T.vm.method? m = some meth := X.method'
  refine ⟨T.setFrames fs, ?_, .returned (some (.int 1)), hrun, hended, rfl, ⟨_, rfl⟩, hW, hframe⟩
  jvm_step X.here [X.here.top, hx, hb, hdg, hmeth', hr, ret, narrow_b1]
  (try refine ⟨rfl, ?_⟩); (try refine ⟨rfl, ?_⟩)
  first | (intro acts; rw [hret _ acts rfl rfl rfl]) | rw [hret _ _ rfl rfl rfl]
  exact Steps.refl _
/-- what holds at the law's entry: the machine, the code, the tables' words (any of lw_tbl by 'hts w (by decide +kernel)'), the script of L ints xs at the cell b, what the Statement gives of the start (any of its parts by flat_of_before) -/
def lw_At (p : Program) (s : State) (m : MethodId) (meth : Method) (c : Code) (b L : Nat) (xs : Nat → Int32) : Prop :=
  p.tables.exec = Jvm.exec ∧ c.code = code ∧ meth.sig.returnType = ret ∧ c.maxLocals = 7 ∧ s.vm.findClass R_law = some m.cls ∧ (∀ w ∈ lw_tbl, w.before #[Value.ref b] s = true) ∧ va_X b L xs s s.heap ∧ b < s.heap.size ∧ meth.locks = false ∧ (Jvm.Cond.and given_1 narrow_1).before #[Value.ref b] s = true
theorem kV_D3 {A : Nat → Prop} {D : va_G} {ad bd : Nat → Nat} {cs ds : Nat → va_E} {n k ao : Nat} {e : va_E} {H : Heap} (hP : va_P D kc ((kw_w ad cs n ++ kw_w bd ds k) ++ [(ao, e)]) H) (hD : va_D A ((kw_w ad cs n ++ kw_w bd ds k) ++ [(ao, e)])) : (∀ i, i < n → A (ad i)) ∧ (∀ j, j < k → A (bd j)) ∧ A ao ∧ (∀ i j, i < n → j < k → ad i ≠ bd j) ∧ (∀ i, i < n → ad i ≠ ao) ∧ (∀ j, j < k → bd j ≠ ao) ∧ va_P D kc (kw_w ad cs n) H ∧ va_P D kc (kw_w bd ds k) H ∧ va_P D kc [(ao, e)] H := by
  have l1 : (kw_w ad cs n).length = n := by simp [kw_w]
  have l2 : (kw_w bd ds k).length = k := by simp [kw_w]
  have e1 : ∀ i, i < n → ((kw_w ad cs n ++ kw_w bd ds k) ++ [(ao, e)])[i]? = some (ad i, cs i) := fun i h => by
    rw [List.getElem?_append_left (by rw [List.length_append, l1, l2]; omega), List.getElem?_append_left (by rw [l1]; exact h)]
    exact kw_at h
  have e2 : ∀ j, j < k → ((kw_w ad cs n ++ kw_w bd ds k) ++ [(ao, e)])[n + j]? = some (bd j, ds j) := fun j h => by
    rw [List.getElem?_append_left (by rw [List.length_append, l1, l2]; omega), List.getElem?_append_right (by rw [l1]; omega), l1, show n + j - n = j by omega]
    exact kw_at h
  have e3 : ((kw_w ad cs n ++ kw_w bd ds k) ++ [(ao, e)])[n + k]? = some (ao, e) := by
    rw [List.getElem?_append_right (by rw [List.length_append, l1, l2]; omega), List.length_append, l1, l2, Nat.sub_self]
    rfl
  refine ⟨fun i hi => hD.2 _ _ (e1 i hi), fun j hj => hD.2 _ _ (e2 j hj), hD.2 _ _ e3, fun i j hi hj h => ?_, fun i hi h => ?_, fun j hj h => ?_, fun i q hq => ?_, fun j q hq => ?_, fun j q hq => ?_⟩
  · have := hD.1 _ _ _ _ (e1 i hi) (e2 j hj) h
    omega
  · have := hD.1 _ _ _ _ (e1 i hi) e3 h
    omega
  · have := hD.1 _ _ _ _ (e2 j hj) e3 h
    omega
  · obtain ⟨hi, rfl⟩ := kw_at' hq
    exact hP _ _ (e1 i hi)
  · obtain ⟨hi, rfl⟩ := kw_at' hq
    exact hP _ _ (e2 j hi)
  · obtain ⟨-, rfl⟩ := kb_one hq
    exact hP _ _ e3
theorem kV_cell {p : Program} {l : Launch} {e : Env} {s : State} {m : MethodId} {below : List Frame} {meth : Method} {c : Code} {H : Heap} {locs : List Loc} {cells slots : Nat} {Q : State → Prop} {pc : Nat} {ls : Array Slot} {rest : List Value} {D : va_G} {ws : va_W} {b L : Nat} {xs : Nat → Int32} (S : CallFix p m c code 7 s #[Value.ref b] kg_G "LaneMachineLaw") (hX : va_X b L xs s s.heap) (hbl : b < s.heap.size) (hL : L ≤ 3585) (hP : va_P D kc ws H) (hS : va_S (kV_A s) s.heap H locs) (hsize : ls.size = 7) (hW : (rest.map fun v => v.category).sum ≤ 8) (hdg : decode code pc = .ok (.invokestatic 36, 3)) (hcs : cells ≤ room_1.cells ∧ slots ≤ room_1.slots)
    (kk : ∀ (H1 : Heap) (locs1 : List Loc), va_P D kc ws H1 → va_S (kV_A s) s.heap H1 locs1 → W p l e room_1 s m #[Value.ref b] below meth c H1 locs1 cells slots Q (F0 m (pc + 3) ls (.int (kL_lan L xs) :: rest))) : W p l e room_1 s m #[Value.ref b] below meth c H locs cells slots Q (F0 m pc ls (.int 0 :: .ref b :: rest)) := by
  have hg : ∀ w ∈ kg_G, w.before #[Value.ref b] s = true := S.2.2.2.2
  have hbA : ¬ kV_A s b := fun z => absurd hbl (Nat.not_lt.mpr z)
  have hXH : va_X b L xs s H := hX.kept (hS.2.1 b hbl hbA)
  refine va_calli (va_runS (As := [.ref b, .int 0]) (rest := rest) S (c_L_cell l hL) ⟨callB_of 2 hg (kg_goodG kg_249) rfl rfl rfl (hg _ kg_0) (hg _ kg_247) (by decide +kernel) ⟨by decide, by decide⟩, hg _ kg_248⟩ ⟨kL_blindC, fun U hU hWm => ⟨rfl, by rw [hU]; exact va_X.moved hWm.alike hXH, by rw [hU]; exact Nat.lt_of_lt_of_le hbl hS.1⟩⟩ rfl rfl hsize rfl (lv_room hW) hdg hcs) hS (fun q _ h => h.elim) (fun q h => h.elim) (fun r9 u t H1 locs1 ht hal hp hB hz hk hS1 => ?_)
  subst hp
  exact kk H1 locs1 (hP.kept (fun k q hq => hk q.1 (hP k q hq).lt (fun z => z))) hS1
set_option maxRecDepth 100000 in
set_option maxHeartbeats 4000000 in
theorem whole_start {p : Program} {e : Env} {s : State} {m : MethodId} {below : List Frame} {meth : Method} {c : Code} (l : Launch) (hfl : l.flags = flags0) {b L : Nat} {xs : Nat → Int32} (hL : L ≤ 3585) (C0 : lw_At p s m meth c b L xs) : W p l e room_1 s m #[Value.ref b] below meth c s.heap [] 0 0 (lw_Z below #[Value.ref b] s) (entryFrame m ([Value.ref b] : List Value).toArray 7) := by
  obtain ⟨hx, hb, hr, hml, hown, hts, hX, hbl, hlocks, hgv⟩ := C0
  have hs := flat_of_before _ hgv
  have hg : ∀ w ∈ kg_G, w.before #[Value.ref b] s = true := fun w h => hts w (List.mem_filter.mp h).1
  have htr : ∀ e : Env, l.admits e → e.platform.stackTraces = false := fun e ha => Launch.traces_off hfl ha
  have hSt : kx_St s := kx_St.of (args := #[Value.ref b]) (by
    intro w hw
    simp only [kx_hw, List.mem_cons, List.not_mem_nil, or_false] at hw
    rcases hw with rfl | rfl | rfl | rfl | rfl | rfl | rfl | rfl | rfl | rfl <;> first | exact hts _ (by decide +kernel) | exact hs _ (by decide +kernel))
  have hAO : ki_AO s := ⟨va_AO.of (hts _ (by decide +kernel)), va_AO.of (hts _ (by decide +kernel)), va_Nw.of rfl (hts _ (by decide +kernel))⟩
  have hown : s.vm.findClass "LaneMachineLaw" = some m.cls := hown
  obtain ⟨D, hK0⟩ := kD_all hg
  have hA : ∀ q, s.heap.size ≤ q → kV_A s q := fun q h => h
  have hS : va_S (kV_A s) s.heap s.heap [] := va_S.rf
  have hP : va_P D kc [] s.heap := fun k q h => by cases h
  have hD : va_D (kV_A s) [] := ⟨fun i j p q h => absurd h (by simp), fun k q h => absurd h (by simp)⟩
  have hl := lv_entry ([.ref b]) (n := 7) (Nat.le_of_ble_eq_true rfl)
  rw [lg_entry_eq]
  generalize (lg_sl ([.ref b]) ++ List.replicate (7 - (lg_sl ([.ref b])).length) Slot.unset).toArray = ls at hl ⊢
  have hl : lv_has ls 7 [(0, .ref b)] := hl
  refine va_new (C := R_M) (T := F_M) (N := 14) (ci := 4) (fs := [.int 0, .null, .null, .null, .null, .null, .null, .int 0, .int 0, .int 0, .int 0, .int 0, .int 0, .int 0]) hx hb hg in_M t_M ty_M hown (hg _ kg_13) (hg _ kg_14) (hg _ kg_1) hK0 hP hD hS hA rfl kb_dM (Nat.le_of_ble_eq_true rfl) (Nat.le_of_ble_eq_true rfl) d_L_law_0 (fun q1 H hP hD hS => ?_)
  refine lv_dup hx hb d_L_law_3 rfl ?_
  refine lv_aload_n hx hb d_L_law_4 rfl (lv_at hl 0 rfl) ?_
  refine lv_iconst (v := 0) hx hb d_L_law_5 (by decide) ?_
  refine kV_cell (rest := [.ref q1, .ref q1]) ⟨hx, hb, hml, hown, hg⟩ hX hbl hL hP hS hl.1 (Nat.le_of_ble_eq_true rfl) d_L_law_6 ⟨Nat.le_of_ble_eq_true rfl, Nat.le_of_ble_eq_true rfl⟩ (fun H locs hP hS => ?_)
  refine kb_initE (mc := 21) (ms := 580) (As := [.int (kL_lan L xs)]) (rest := [.ref q1]) (wl := []) (E := ki_AO) ⟨hx, hb, hml, hown, hg⟩ ⟨callB_of 1 hg (kg_goodG kg_17) rfl rfl rfl (hg _ kg_1) (hg _ kg_15) (by decide +kernel) ⟨by decide, by decide⟩, rfl, hg _ kg_16⟩ (fun h hz => ki_AO.same h hz) (fun U hW => ki_AO.warm hW hAO) (fun sz => c_M_init l) hK0 hP hD hS hA rfl hl.1 rfl (Nat.le_of_ble_eq_true rfl) d_L_law_9 ⟨Nat.le_of_ble_eq_true rfl, Nat.le_of_ble_eq_true rfl⟩ (fun t H locs ht hal hB hj hS => ?_)
  obtain ⟨ad, cI, cB, cJ, cQ, cW, cs, had0, hJ, hAd, hM, hPM, hKM⟩ := hB
  obtain ⟨hP, hD⟩ := hj (kw_w ad cs 22) (by rw [← ht]; exact hPM) (kw_D hJ hAd)
  have hKM := va_K.moved hal.symm hKM
  have hP : va_P D kc (kw_w ad cs 22) H := hP
  have hD : va_D (kV_A s) (kw_w ad cs 22) := hD
  clear hj ht hal hAd hPM
  refine lv_astore_n (lv' := [(1, .ref q1), (0, .ref b)]) hx hb d_L_law_12 rfl hl (by decide) rfl (fun ls hl => ?_)
  refine va_new (C := R_R) (T := F_R) (N := 31) (ci := 5) (fs := [.int 0, .int 0, .int 0, .int 0, .int 0, .int 0, .int 0, .int 0, .int 0, .int 0, .int 0, .null, .null, .null, .int 0, .null, .null, .null, .null, .null, .null, .int 0, .null, .null, .null, .null, .null, .null, .null, .null, .null]) hx hb hg in_R t_R ty_R hown (hg _ kg_577) (hg _ kg_578) (hg _ kg_7) hKM hP hD hS hA rfl kb_dR (Nat.le_of_ble_eq_true rfl) (Nat.le_of_ble_eq_true rfl) d_L_law_13 (fun q2 H hP hD hS => ?_)
  refine lv_dup hx hb d_L_law_16 rfl ?_
  refine lv_aload_n hx hb d_L_law_17 rfl (lv_at hl 1 rfl) ?_
  refine lv_iconst (v := 0) hx hb d_L_law_18 (by decide) ?_
  refine kV_cell (rest := [.ref q2, .ref q2]) ⟨hx, hb, hml, hown, hg⟩ hX hbl hL hP hS hl.1 (Nat.le_of_ble_eq_true rfl) d_L_law_19 ⟨Nat.le_of_ble_eq_true rfl, Nat.le_of_ble_eq_true rfl⟩ (fun H locs hP hS => ?_)
  refine kb_init (mc := 18) (ms := 485) (As := [.int (kL_lan L xs)]) (rest := [.ref q2]) (wl := kw_w ad cs 22) ⟨hx, hb, hml, hown, hg⟩ ⟨callB_of 1 hg (kg_goodG kg_581) rfl rfl rfl (hg _ kg_7) (hg _ kg_579) (by decide +kernel) ⟨by decide, by decide⟩, rfl, hg _ kg_580⟩ (fun sz => c_R_init l) hKM hP hD hS hA rfl hl.1 rfl (Nat.le_of_ble_eq_true rfl) d_L_law_22 ⟨Nat.le_of_ble_eq_true rfl, Nat.le_of_ble_eq_true rfl⟩ (fun t H locs ht hal hB hj hS => ?_)
  obtain ⟨bd, dI, dZ, ds, hbd0, hJR, hAR, hR, hPR, hKR⟩ := hB
  obtain ⟨hP, hD⟩ := hj (kw_w bd ds 19) (by rw [← ht]; exact hPR) (kw_D hJR hAR)
  have hKR := va_K.moved hal.symm hKR
  clear hj ht hal hAR hPR
  refine lv_astore_n (lv' := [(2, .ref q2), (1, .ref q1), (0, .ref b)]) hx hb d_L_law_25 rfl hl (by decide) rfl (fun ls hl => ?_)
  refine lv_iconst (v := 1) hx hb d_L_law_26 (by decide) ?_
  refine va_newa (atype := .long) (ty := .long) (a0 := (1, .inr (.inl (fun _ => 0)))) (N' := 1) hx hb (hg _ kg_161) rfl hKM hP hD hS hA (fun _ => rfl) (by decide) rfl (by decide) (Nat.le_of_ble_eq_true rfl) (Nat.le_of_ble_eq_true rfl) d_L_law_27 (fun ao cA H hK9 hP hD hS => ?_)
  have hcA : cA = cJ := kt_one (ty := .long) (i := 5) (j := 2) hK9 (fun c h => h) rfl rfl
  subst hcA
  obtain ⟨g1, g2, g3, g4, g5, g6, g7, g8, g9⟩ := kV_D3 hP hD
  refine lv_astore_n (lv' := [(3, .ref ao), (2, .ref q2), (1, .ref q1), (0, .ref b)]) hx hb d_L_law_29 rfl hl (by decide) rfl (fun ls hl => ?_)
  refine lv_iconst (v := 1) hx hb d_L_law_30 (by decide) ?_
  refine lv_istore (lv' := [(4, .int 1), (3, .ref ao), (2, .ref q2), (1, .ref q1), (0, .ref b)]) hx hb d_L_law_31 hl (by decide) rfl (fun ls hl => ?_)
  refine kLoop (D := D) (dI := dI) (dZ := dZ) (L := L) (xs := xs) (a0 := q1) (aR := q2) (ao := ao) ⟨htr, hx, hb, hml, hown, hg, hKM, hKR, hSt, hX, hbl, hL⟩ (fun H1 locs1 ls1 cells1 slots1 hS1 hc hsl => ?_) L 1 (kx0 (kL_lan L xs)) (kr0 (kL_lan L xs)) 0 H locs ls _ _ (by omega) (by omega) (by omega) (by omega) (kZ0 _) ⟨ad, cs, bd, ds, fun _ => 0, had0, hbd0, rfl, hJ, hJR, g1, g2, g3, g4, g5, g6, hM, hR, g7, g8, g9⟩ hS (lv_sub hl [4, 3, 2, 1, 0] rfl)
  refine lv_iconst (v := 1) hx hb d_L_law_679 (by decide) ?_
  refine va_forget (fun q hq => hS1.2.2 q hq) ?_
  refine W.widen (k := 604257) (n := 7283298) hc hsl ?_
  exact lw_ret hx hb hr hlocks d_L_law_680
set_option maxHeartbeats 4000000 in
theorem lw_walk (l : Launch) (hfl : l.flags = flags0) (b : Addr) (xs : List Int32) : MetFree l x (headSpec (Jvm.Cond.code x code maxLocals ret :: tables_1) room_1) (lw_P b xs) (fun _ _ _ _ _ => True) lw_Q := by
  refine MetFree.of_bodyS (code := code) (maxLocals := maxLocals) (ret := ret) (by decide) ?_ ?_
  · intro args s m h hn
    obtain ⟨meth, c, h1, h2, h3, h4, h5, h6, -, -⟩ := Cond.code_spec hn (atoms_spec (ws := Jvm.Cond.code x code maxLocals ret :: tables_1) h _ List.mem_cons_self)
    exact ⟨meth, c, h1, h2, h3, h4, h5, h6⟩
  · intro p e s m args below meth c s₁ B hml0 hP _
    obtain ⟨rfl, hx, hbd, hgv⟩ := hP
    obtain ⟨scr, harrAt, hlist, hof, hsmall⟩ := hx
    obtain ⟨hcb, hkn, -, -⟩ := State.arrayAt?_spec harrAt
    have hown : s.vm.findClass R_law = some m.cls := findClass_of_methodNamed B.named
    have hts0 : ∀ c ∈ (Jvm.Cond.code x code maxLocals ret :: tables_1), c.before #[Value.ref b] s = true := atoms_spec (ws := Jvm.Cond.code x code maxLocals ret :: tables_1) B.pre
    have hts : ∀ w ∈ lw_tbl, w.before #[Value.ref b] s = true := k2_hts_sels lw_privs (fun w hw => hts0 w (List.mem_cons_of_mem _ hw)) lw_privs_ok
    have hml : c.maxLocals = 7 := B.maxLocals_eq (hts0 _ List.mem_cons_self)
    have X₀ : Stand p l e room_1 s m #[Value.ref b] below meth c s₁ [] 0 0 := Stand.of_body B
    have hh0 : s₁.heap = s.heap := by rw [B.state]; rfl
    have hsz : scr.slots.size = xs.length := by rw [← Array.length_toList, hlist, List.length_map]
    have hval : ∀ j : Nat, j < xs.length → scr.slots[j]? = some (.int (xs.getD j 0)) := fun j hj => by
      rw [← Array.getElem?_toList, hlist]
      simp [hj]
    have hbl : b < s.heap.size := (Array.getElem?_eq_some_iff.mp hcb).1
    have hX : va_X b xs.length (fun j => xs.getD j 0) s s.heap := ⟨scr, hcb, hof, hkn, hsz, hval⟩
    have K : W p l e room_1 s m #[Value.ref b] below meth c s₁.heap [] 0 0 (lw_Z below #[Value.ref b] s) (entryFrame m ([Value.ref b] : List Value).toArray 7) := by
      rw [hh0]
      exact whole_start l hfl hbd ⟨B.exec, B.bytes, B.returns, hml, hown, hts, hX, hbl, B.notSynchronized, hgv⟩
    obtain ⟨t, a1, o, b1, b2, b3⟩ := K s₁ rfl X₀
    exact ⟨t, o, a1, b1, b2, b3⟩
theorem lw_pre_spec {args : Array Value} {s : State} (h : (Jvm.Cond.and given_1 narrow_1).before args s = true) (hr : rest_1_c.before args s = true) : ∃ (b : Addr) (xs : List Int32), lw_P b xs args s := by
  have hs := flat_of_before _ h
  have hq := flat_of_before _ hr
  have hc : (Cond.count 1).before args s = true := hs _ (by decide +kernel)
  have harr : (Cond.arrayOf (.arg 0) .int).before args s = true := hs _ (by decide +kernel)
  have hle : (Cond.le (.length (.arg 0)) (.int 3585)).before args s = true := hs _ (by decide +kernel)
  have hlen : (Cond.isInt (.length (.arg 0))).before args s = true := hq _ (by decide +kernel)
  have hall : (Cond.all (.arg 0) (.isInt (.elem (.arg 0) (.index 0)))).before args s = true := hq _ (by decide +kernel)
  obtain ⟨b, xs, hb, hx⟩ := State.ints_of_pre rfl harr hlen hall
  have hsm : xs.length < 2 ^ 31 := hx.choose_spec.2.2.2
  have hev : (Term.length (.arg 0)).eval args s none [] s = some (.int xs.length.toInt32) := hx.length_eval hb
  have hv := Cond.le_ints hev (show (Term.int 3585).eval args s none [] s = some (.int 3585) from rfl)
  have hd : xs.length.toInt32 ≤ 3585 := by
    simpa [Cond.before, Cond.holds, hv] using hle
  have hN : xs.length ≤ 3585 := (Int32.ofNat_le_ofNat hsm (by decide)).mp (show Int32.ofNat xs.length ≤ Int32.ofNat 3585 from hd)
  exact ⟨b, xs, Cond.one_arg hc (show args[0]? = some (.ref b) from hb), hx, hN, h⟩
theorem lw_comes (l : Launch) (hfl : l.flags = flags0) : Comes l x (Jvm.Cond.code x code maxLocals ret :: tables_1) room_1 (fun tb e args s => Calls_1 tb e args s ∧ rest_1 tb e args s ∧ Pre_1 tb e args s)
    (fun _ _ args s o t => lw_Q args s o t) := by
  intro p e ha hc hk s m args below hf hfit hheap happ hpre
  obtain ⟨b, xs, hP⟩ := lw_pre_spec hpre.2.2 hpre.2.1
  obtain ⟨k, o, h1, h2, h3, hQ⟩ := lw_walk l hfl b xs p e ha hc hk s m args below hf ((Spec.applies_iff_loose hf).mp happ).1 hP trivial
  exact ⟨k, o, h1, h2, h3, hQ⟩
theorem lw_frame {s t : State} {o : Outcome} {args : Array Value} (h : Framed s o t [] 604257 7283298) :
    Framed s o t (fieldLocs frame_1_writes args s ++ arrayLocs frame_1_arrays args s ++ staticLocs frame_1_statics s) 604257 7283298 := h
theorem lw_limb (L : Cond) (hL : ∀ (args : Array Value) (s t : State), L.after args s (.returned (some (.int 1))) t = true) :
    ArmFor flags0 classFile x code maxLocals ret World_1 tables_1 room_1 Calls_1 rest_1 Pre_1
      (fun tb e a s o t => postC L tb e a s o t ∧ Framed s o t (fieldLocs frame_1_writes a s ++ arrayLocs frame_1_arrays a s ++ staticLocs frame_1_statics s) 604257 7283298) := by
  intro l hfl _ _ p e ha hc hk s m args below hf hfit hheap happ hpre
  obtain ⟨k, o, h1, h2, h3, rfl, hF⟩ := lw_comes l hfl p e ha hc hk s m args below hf hfit hheap happ hpre
  exact ⟨k, _, h1, h2, h3, hL args s _, lw_frame hF⟩
theorem i_vc : Claimed_1_1 ∧ Claimed_1_2 := ⟨lw_limb limb_1_1 (fun args s t => by simp [limb_1_1, Cond.after, Cond.holds, Cond.value]), lw_limb limb_1_2 (fun args s t => Cond.after_iff.mpr (by
  first | (rw [show limb_1_2 = Cond.eq .result (.int 1) from rfl, Cond.eq_ints (x := 1) (y := 1) rfl rfl]; simp; done) | (simp [limb_1_2, Cond.value, Term.eval]; done)))⟩
