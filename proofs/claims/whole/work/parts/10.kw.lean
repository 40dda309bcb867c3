/-! the world by names: name k lies at ad k and holds cs k -/
def kw_w (ad : Nat → Nat) (cs : Nat → va_E) (n : Nat) : va_W := (List.range n).map (fun k => (ad k, cs k))
theorem kw_at {ad : Nat → Nat} {cs : Nat → va_E} {n k : Nat} (hk : k < n) : (kw_w ad cs n)[k]? = some (ad k, cs k) := by
  simp [kw_w, hk]
theorem kw_at' {ad : Nat → Nat} {cs : Nat → va_E} {n k : Nat} {q : Nat × va_E} (h : (kw_w ad cs n)[k]? = some q) : k < n ∧ q = (ad k, cs k) := by
  have hk : k < n := by
    have := (List.getElem?_eq_some_iff.mp h).1
    simpa [kw_w] using this
  exact ⟨hk, (Option.some.inj ((kw_at hk).symm.trans h)).symm⟩
theorem kw_set {ad : Nat → Nat} {cs : Nat → va_E} {n k : Nat} {e : va_E} : (kw_w ad cs n).set k (ad k, e) = kw_w ad (va_up cs k e) n := by
  apply List.ext_getElem?
  intro i
  rw [List.getElem?_set]
  by_cases hi : i < n
  · rw [kw_at hi]
    by_cases hk : k = i
    · subst hk
      rw [if_pos rfl, if_pos (by simpa [kw_w] using hi), kw_at hi, va_up_self]
    · rw [if_neg hk, kw_at hi, va_up_ne _ _ (fun h => hk h.symm)]
  · have h1 : (kw_w ad cs n)[i]? = none := by simp [kw_w]; omega
    have h2 : (kw_w ad (va_up cs k e) n)[i]? = none := by simp [kw_w]; omega
    rw [h1, h2]
    by_cases hk : k = i
    · rw [if_pos hk, if_neg (by simp [kw_w]; omega)]
    · rw [if_neg hk]
theorem kw_push {ad : Nat → Nat} {cs : Nat → va_E} {n q : Nat} {e : va_E} : kw_w ad cs n ++ [(q, e)] = kw_w (va_up ad n q) (va_up cs n e) (n + 1) := by
  unfold kw_w
  rw [List.range_succ, List.map_append]
  congr 1
  · apply List.map_congr_left
    intro k hk
    have h := List.mem_range.mp hk
    rw [va_up_ne _ _ (by omega), va_up_ne _ _ (by omega)]
  · simp [va_up_self]
/-- names lie apart -/
def kw_J (ad : Nat → Nat) (n : Nat) : Prop := ∀ i j, i < n → j < n → ad i = ad j → i = j
/-- the addresses of the names -/
def kw_A (ad : Nat → Nat) (n : Nat) : Nat → Prop := fun q => ∃ k, k < n ∧ ad k = q
theorem kw_D {ad : Nat → Nat} {n : Nat} {cs : Nat → va_E} {A : Nat → Prop} (hJ : kw_J ad n) (hA : ∀ k, k < n → A (ad k)) : va_D A (kw_w ad cs n) := by
  refine ⟨fun i j p q hi hj h => ?_, fun k q hk => ?_⟩
  · obtain ⟨h1, rfl⟩ := kw_at' hi
    obtain ⟨h2, rfl⟩ := kw_at' hj
    exact hJ i j h1 h2 h
  · obtain ⟨h1, rfl⟩ := kw_at' hk
    exact hA k h1
theorem kw_J.of {ad : Nat → Nat} {n : Nat} {cs : Nat → va_E} {A : Nat → Prop} (h : va_D A (kw_w ad cs n)) : kw_J ad n := fun i j hi hj he => h.1 i j _ _ (kw_at hi) (kw_at hj) he
section KWR
variable {p : Program} {l : Launch} {e : Env} {R : Room} {s : State} {m : MethodId} {args : Array Value} {below : List Frame} {meth : Method} {c : Code} {H : Heap} {locs : List Loc} {cells slots : Nat} {Q : State → Prop}
variable {cc : ByteArray} {pc : Nat} {ls : Array Slot} {rest : List Value} {D : va_G} {cl : List vw_C} {A : Nat → Prop} {tys : List (ClassId × FieldType)} {ad : Nat → Nat} {cs : Nat → va_E} {n : Nat} {H0 : Heap}
theorem kw_get (hexec : p.tables.exec = Jvm.exec) (hb : c.code = cc) {own ref C : String} {T : u_T} {N ci index : Nat} {Ts : List Cond} (hts : ∀ w ∈ Ts, w.before args s = true) (hin : ∀ w ∈ u_ws C T N, w ∈ Ts) (hown : s.vm.findClass own = some m.cls) (hK : va_K D cl tys s) (hP : va_P D cl (kw_w ad cs n) H) (q0 : Nat) (hq : q0 < n) {fs : List Value} (he : cs q0 = .inr (ci, fs)) (hc : cl[ci]? = some (C, T, N)) (k : Nat) (hk : k < N) (hlink : (Cond.fieldLink own index ref (T k).2.1 (T k).2.2.1).before args s = true) (hsame : (T k).1 = ref) {v : Value} (hv : fs[k]? = some v) (hdg : decode cc pc = .ok (.getfield index, 3))
    (kk : W p l e R s m args below meth c H locs cells slots Q (F0 m (pc + 3) ls (v :: rest))) : W p l e R s m args below meth c H locs cells slots Q (F0 m pc ls (.ref (ad q0) :: rest)) :=
  va_get hexec hb hts hin hown hK hP q0 ((kw_at hq).trans (by rw [he])) hc k hk hlink (fun x h => by rw [← hsame]; exact h) hv hdg kk
theorem kw_getN (hexec : p.tables.exec = Jvm.exec) (hb : c.code = cc) {own ref C host : String} {T : u_T} {N ci index : Nat} {Ts : List Cond} (hts : ∀ w ∈ Ts, w.before args s = true) (hin : ∀ w ∈ u_ws C T N, w ∈ Ts) (hown : s.vm.findClass own = some m.cls) (hK : va_K D cl tys s) (hP : va_P D cl (kw_w ad cs n) H) (q0 : Nat) (hq : q0 < n) {fs : List Value} (he : cs q0 = .inr (ci, fs)) (hc : cl[ci]? = some (C, T, N)) (k : Nat) (hk : k < N) (hlink : (Cond.fieldLinkNest own index ref (T k).2.1 (T k).2.2.1 host).before args s = true) (hsame : (T k).1 = ref) {v : Value} (hv : fs[k]? = some v) (hdg : decode cc pc = .ok (.getfield index, 3))
    (kk : W p l e R s m args below meth c H locs cells slots Q (F0 m (pc + 3) ls (v :: rest))) : W p l e R s m args below meth c H locs cells slots Q (F0 m pc ls (.ref (ad q0) :: rest)) :=
  va_getN hexec hb hts hin hown hK hP q0 ((kw_at hq).trans (by rw [he])) hc k hk hlink (fun x h => by rw [← hsame]; exact h) hv hdg kk
theorem kw_put (hexec : p.tables.exec = Jvm.exec) (hb : c.code = cc) {own ref C : String} {T : u_T} {N ci index : Nat} {Ts : List Cond} (hts : ∀ w ∈ Ts, w.before args s = true) (hin : ∀ w ∈ u_ws C T N, w ∈ Ts) (ty0 : Nat → FieldType) (hty : ∀ k, k < N → parseFieldDescriptor (T k).2.2.1 = some (ty0 k)) (hnm : ∀ a, a < N → ∀ b, b < N → a ≠ b → (T a).2.1 ≠ (T b).2.1) (hown : s.vm.findClass own = some m.cls) (hK : va_K D cl tys s) (hP : va_P D cl (kw_w ad cs n) H) (hJ : kw_J ad n) (hA : ∀ k, k < n → A (ad k)) (hS : va_S A H0 H locs) (q0 : Nat) (hq : q0 < n) {fs : List Value} (he : cs q0 = .inr (ci, fs)) (hc : cl[ci]? = some (C, T, N)) (k : Nat) (hk : k < N) (hlink : (Cond.fieldLink own index ref (T k).2.1 (T k).2.2.1).before args s = true) (hsame : (T k).1 = ref) (hfin : (T k).2.2.2 = false) {ty : FieldType} {v : Value} (hd : parseFieldDescriptor (T k).2.2.1 = some ty) (hn : narrow ty v = v) (hfit : fits ty v = true) (hl : k < fs.length) (hdg : decode cc pc = .ok (.putfield index, 3))
    (kk : ∀ (H1 : Heap) (locs1 : List Loc), va_P D cl (kw_w ad (va_up cs q0 (.inr (ci, fs.set k v))) n) H1 → va_S A H0 H1 locs1 → W p l e R s m args below meth c H1 locs1 cells slots Q (F0 m (pc + 3) ls rest)) : W p l e R s m args below meth c H locs cells slots Q (F0 m pc ls (v :: .ref (ad q0) :: rest)) :=
  va_put hexec hb hts hin ty0 hty hnm hown hK hP (kw_D hJ hA) hS q0 ((kw_at hq).trans (by rw [he])) hc k hk hlink (fun x h => by rw [← hsame]; exact h) hfin hd hn hfit hl hdg (fun H1 locs1 h1 _ h3 => kk H1 locs1 (by rw [kw_set] at h1; exact h1) h3)
theorem kw_putN (hexec : p.tables.exec = Jvm.exec) (hb : c.code = cc) {own ref C host : String} {T : u_T} {N ci index : Nat} {Ts : List Cond} (hts : ∀ w ∈ Ts, w.before args s = true) (hin : ∀ w ∈ u_ws C T N, w ∈ Ts) (ty0 : Nat → FieldType) (hty : ∀ k, k < N → parseFieldDescriptor (T k).2.2.1 = some (ty0 k)) (hnm : ∀ a, a < N → ∀ b, b < N → a ≠ b → (T a).2.1 ≠ (T b).2.1) (hown : s.vm.findClass own = some m.cls) (hK : va_K D cl tys s) (hP : va_P D cl (kw_w ad cs n) H) (hJ : kw_J ad n) (hA : ∀ k, k < n → A (ad k)) (hS : va_S A H0 H locs) (q0 : Nat) (hq : q0 < n) {fs : List Value} (he : cs q0 = .inr (ci, fs)) (hc : cl[ci]? = some (C, T, N)) (k : Nat) (hk : k < N) (hlink : (Cond.fieldLinkNest own index ref (T k).2.1 (T k).2.2.1 host).before args s = true) (hsame : (T k).1 = ref) (hfin : (T k).2.2.2 = false) {ty : FieldType} {v : Value} (hd : parseFieldDescriptor (T k).2.2.1 = some ty) (hn : narrow ty v = v) (hfit : fits ty v = true) (hl : k < fs.length) (hdg : decode cc pc = .ok (.putfield index, 3))
    (kk : ∀ (H1 : Heap) (locs1 : List Loc), va_P D cl (kw_w ad (va_up cs q0 (.inr (ci, fs.set k v))) n) H1 → va_S A H0 H1 locs1 → W p l e R s m args below meth c H1 locs1 cells slots Q (F0 m (pc + 3) ls rest)) : W p l e R s m args below meth c H locs cells slots Q (F0 m pc ls (v :: .ref (ad q0) :: rest)) :=
  va_putN hexec hb hts hin ty0 hty hnm hown hK hP (kw_D hJ hA) hS q0 ((kw_at hq).trans (by rw [he])) hc k hk hlink (fun x h => by rw [← hsame]; exact h) hfin hd hn hfit hl hdg (fun H1 locs1 h1 _ h3 => kk H1 locs1 (by rw [kw_set] at h1; exact h1) h3)
theorem kw_iald (hexec : p.tables.exec = Jvm.exec) (hb : c.code = cc) (hK : va_K D cl tys s) (hP : va_P D cl (kw_w ad cs n) H) (q0 t0 : Nat) (hq : q0 < n) {cA : ClassId} {N : Nat} {f : Nat → Int32} (he : cs q0 = .inl (cA, N, .inl f)) (ht : tys[t0]? = some (cA, .int)) {i : Int32} (j : Nat) (hi : i = nI j) (hj : j < N) (hN : N < 2 ^ 31) (hdg : decode cc pc = .ok (.iaload, 1))
    (kk : W p l e R s m args below meth c H locs cells slots Q (F0 m (pc + 1) ls (.int (f j) :: rest))) : W p l e R s m args below meth c H locs cells slots Q (F0 m pc ls (.int i :: .ref (ad q0) :: rest)) := by
  subst hi
  refine va_iald hexec hb hK hP q0 t0 ((kw_at hq).trans (by rw [he])) ht (vp_in_nI hj hN) hdg ?_
  rw [nI_clamp (Nat.lt_trans hj hN)]
  exact kk
theorem kw_bald (hexec : p.tables.exec = Jvm.exec) (hb : c.code = cc) (hK : va_K D cl tys s) (hP : va_P D cl (kw_w ad cs n) H) (q0 t0 : Nat) (hq : q0 < n) {cA : ClassId} {N : Nat} {f : Nat → Int32} (he : cs q0 = .inl (cA, N, .inl f)) (ht : tys[t0]? = some (cA, .byte)) {i : Int32} (j : Nat) (hi : i = nI j) (hj : j < N) (hN : N < 2 ^ 31) (hdg : decode cc pc = .ok (.baload, 1))
    (kk : W p l e R s m args below meth c H locs cells slots Q (F0 m (pc + 1) ls (.int (f j) :: rest))) : W p l e R s m args below meth c H locs cells slots Q (F0 m pc ls (.int i :: .ref (ad q0) :: rest)) := by
  subst hi
  refine va_bald hexec hb hK hP q0 t0 ((kw_at hq).trans (by rw [he])) ht (vp_in_nI hj hN) hdg ?_
  rw [nI_clamp (Nat.lt_trans hj hN)]
  exact kk
theorem kw_zald (hexec : p.tables.exec = Jvm.exec) (hb : c.code = cc) (hK : va_K D cl tys s) (hP : va_P D cl (kw_w ad cs n) H) (q0 t0 : Nat) (hq : q0 < n) {cA : ClassId} {N : Nat} {f : Nat → Int32} (he : cs q0 = .inl (cA, N, .inl f)) (ht : tys[t0]? = some (cA, .boolean)) {i : Int32} (j : Nat) (hi : i = nI j) (hj : j < N) (hN : N < 2 ^ 31) (hdg : decode cc pc = .ok (.baload, 1))
    (kk : W p l e R s m args below meth c H locs cells slots Q (F0 m (pc + 1) ls (.int (f j) :: rest))) : W p l e R s m args below meth c H locs cells slots Q (F0 m pc ls (.int i :: .ref (ad q0) :: rest)) := by
  subst hi
  refine va_zald hexec hb hK hP q0 t0 ((kw_at hq).trans (by rw [he])) ht (vp_in_nI hj hN) hdg ?_
  rw [nI_clamp (Nat.lt_trans hj hN)]
  exact kk
theorem kw_lald (hexec : p.tables.exec = Jvm.exec) (hb : c.code = cc) (hK : va_K D cl tys s) (hP : va_P D cl (kw_w ad cs n) H) (q0 t0 : Nat) (hq : q0 < n) {cA : ClassId} {N : Nat} {f : Nat → Int64} (he : cs q0 = .inl (cA, N, .inr (.inl f))) (ht : tys[t0]? = some (cA, .long)) {i : Int32} (j : Nat) (hi : i = nI j) (hj : j < N) (hN : N < 2 ^ 31) (hdg : decode cc pc = .ok (.laload, 1))
    (kk : W p l e R s m args below meth c H locs cells slots Q (F0 m (pc + 1) ls (.long (f j) :: rest))) : W p l e R s m args below meth c H locs cells slots Q (F0 m pc ls (.int i :: .ref (ad q0) :: rest)) := by
  subst hi
  refine va_lald hexec hb hK hP q0 t0 ((kw_at hq).trans (by rw [he])) ht (vp_in_nI hj hN) hdg ?_
  rw [nI_clamp (Nat.lt_trans hj hN)]
  exact kk
theorem kw_iast (hexec : p.tables.exec = Jvm.exec) (hb : c.code = cc) (hK : va_K D cl tys s) (hP : va_P D cl (kw_w ad cs n) H) (hJ : kw_J ad n) (hA : ∀ k, k < n → A (ad k)) (hS : va_S A H0 H locs) (q0 t0 : Nat) (hq : q0 < n) {cA : ClassId} {N : Nat} {f : Nat → Int32} (he : cs q0 = .inl (cA, N, .inl (f))) (ht : tys[t0]? = some (cA, .int)) {i : Int32} {x : Int32} (j : Nat) (hi : i = nI j) (hj : j < N) (hN : N < 2 ^ 31) (hdg : decode cc pc = .ok (.iastore, 1))
    (kk : ∀ (H1 : Heap) (locs1 : List Loc), va_P D cl (kw_w ad (va_up cs q0 (.inl (cA, N, .inl (upd f j x)))) n) H1 → va_S A H0 H1 locs1 → W p l e R s m args below meth c H1 locs1 cells slots Q (F0 m (pc + 1) ls rest)) : W p l e R s m args below meth c H locs cells slots Q (F0 m pc ls (.int x :: .int i :: .ref (ad q0) :: rest)) := by
  subst hi
  refine va_iast hexec hb hK hP (kw_D hJ hA) hS q0 t0 ((kw_at hq).trans (by rw [he])) ht (vp_in_nI hj hN) hdg (fun H1 locs1 h1 _ h3 => ?_)
  rw [nI_clamp (Nat.lt_trans hj hN), kw_set] at h1
  exact kk H1 locs1 h1 h3
theorem kw_bast (hexec : p.tables.exec = Jvm.exec) (hb : c.code = cc) (hK : va_K D cl tys s) (hP : va_P D cl (kw_w ad cs n) H) (hJ : kw_J ad n) (hA : ∀ k, k < n → A (ad k)) (hS : va_S A H0 H locs) (q0 t0 : Nat) (hq : q0 < n) {cA : ClassId} {N : Nat} {f : Nat → Int32} (he : cs q0 = .inl (cA, N, .inl (f))) (ht : tys[t0]? = some (cA, .byte)) {i : Int32} {x : Int32} (j : Nat) (hi : i = nI j) (hj : j < N) (hN : N < 2 ^ 31) (hdg : decode cc pc = .ok (.bastore, 1))
    (kk : ∀ (H1 : Heap) (locs1 : List Loc), va_P D cl (kw_w ad (va_up cs q0 (.inl (cA, N, .inl (upd f j (vp_nar .byte x))))) n) H1 → va_S A H0 H1 locs1 → W p l e R s m args below meth c H1 locs1 cells slots Q (F0 m (pc + 1) ls rest)) : W p l e R s m args below meth c H locs cells slots Q (F0 m pc ls (.int x :: .int i :: .ref (ad q0) :: rest)) := by
  subst hi
  refine va_bast hexec hb hK hP (kw_D hJ hA) hS q0 t0 ((kw_at hq).trans (by rw [he])) ht (vp_in_nI hj hN) hdg (fun H1 locs1 h1 _ h3 => ?_)
  rw [nI_clamp (Nat.lt_trans hj hN), kw_set] at h1
  exact kk H1 locs1 h1 h3
theorem kw_zast (hexec : p.tables.exec = Jvm.exec) (hb : c.code = cc) (hK : va_K D cl tys s) (hP : va_P D cl (kw_w ad cs n) H) (hJ : kw_J ad n) (hA : ∀ k, k < n → A (ad k)) (hS : va_S A H0 H locs) (q0 t0 : Nat) (hq : q0 < n) {cA : ClassId} {N : Nat} {f : Nat → Int32} (he : cs q0 = .inl (cA, N, .inl (f))) (ht : tys[t0]? = some (cA, .boolean)) {i : Int32} {x : Int32} (j : Nat) (hi : i = nI j) (hj : j < N) (hN : N < 2 ^ 31) (hdg : decode cc pc = .ok (.bastore, 1))
    (kk : ∀ (H1 : Heap) (locs1 : List Loc), va_P D cl (kw_w ad (va_up cs q0 (.inl (cA, N, .inl (upd f j (vp_nar .boolean x))))) n) H1 → va_S A H0 H1 locs1 → W p l e R s m args below meth c H1 locs1 cells slots Q (F0 m (pc + 1) ls rest)) : W p l e R s m args below meth c H locs cells slots Q (F0 m pc ls (.int x :: .int i :: .ref (ad q0) :: rest)) := by
  subst hi
  refine va_zast hexec hb hK hP (kw_D hJ hA) hS q0 t0 ((kw_at hq).trans (by rw [he])) ht (vp_in_nI hj hN) hdg (fun H1 locs1 h1 _ h3 => ?_)
  rw [nI_clamp (Nat.lt_trans hj hN), kw_set] at h1
  exact kk H1 locs1 h1 h3
theorem kw_last (hexec : p.tables.exec = Jvm.exec) (hb : c.code = cc) (hK : va_K D cl tys s) (hP : va_P D cl (kw_w ad cs n) H) (hJ : kw_J ad n) (hA : ∀ k, k < n → A (ad k)) (hS : va_S A H0 H locs) (q0 t0 : Nat) (hq : q0 < n) {cA : ClassId} {N : Nat} {f : Nat → Int64} (he : cs q0 = .inl (cA, N, .inr (.inl (f)))) (ht : tys[t0]? = some (cA, .long)) {i : Int32} {x : Int64} (j : Nat) (hi : i = nI j) (hj : j < N) (hN : N < 2 ^ 31) (hdg : decode cc pc = .ok (.lastore, 1))
    (kk : ∀ (H1 : Heap) (locs1 : List Loc), va_P D cl (kw_w ad (va_up cs q0 (.inl (cA, N, .inr (.inl (vp_updL f j x))))) n) H1 → va_S A H0 H1 locs1 → W p l e R s m args below meth c H1 locs1 cells slots Q (F0 m (pc + 1) ls rest)) : W p l e R s m args below meth c H locs cells slots Q (F0 m pc ls (.long x :: .int i :: .ref (ad q0) :: rest)) := by
  subst hi
  refine va_last hexec hb hK hP (kw_D hJ hA) hS q0 t0 ((kw_at hq).trans (by rw [he])) ht (vp_in_nI hj hN) hdg (fun H1 locs1 h1 _ h3 => ?_)
  rw [nI_clamp (Nat.lt_trans hj hN), kw_set] at h1
  exact kk H1 locs1 h1 h3
theorem kw_alen (hexec : p.tables.exec = Jvm.exec) (hb : c.code = cc) (hK : va_K D cl tys s) (hP : va_P D cl (kw_w ad cs n) H) (q0 t0 : Nat) (hq : q0 < n) {cA : ClassId} {x : vp_A} (he : cs q0 = .inl (cA, x)) {ty : FieldType} (ht : tys[t0]? = some (cA, ty)) {v : Int32} (hv : Int32.ofNat x.1 = v) (hdg : decode cc pc = .ok (.arraylength, 1))
    (kk : W p l e R s m args below meth c H locs cells slots Q (F0 m (pc + 1) ls (.int v :: rest))) : W p l e R s m args below meth c H locs cells slots Q (F0 m pc ls (.ref (ad q0) :: rest)) :=
  va_alen hexec hb hK hP q0 t0 ((kw_at hq).trans (by rw [he])) ht hv hdg kk
theorem kw_aldq (hexec : p.tables.exec = Jvm.exec) (hb : c.code = cc) (hK : va_K D cl tys s) (hP : va_P D cl (kw_w ad cs n) H) (q0 t0 : Nat) (hq : q0 < n) {cA : ClassId} {C : String} {N : Nat} {f : Nat → Option Nat} (he : cs q0 = .inl (cA, N, .inr (.inr (.inr (.inr f))))) (ht : tys[t0]? = some (cA, .object C)) {i : Int32} (j : Nat) (hi : i = nI j) (hj : j < N) (hN : N < 2 ^ 31) (hdg : decode cc pc = .ok (.aaload, 1))
    (kk : W p l e R s m args below meth c H locs cells slots Q (F0 m (pc + 1) ls (va_rf (f j) :: rest))) : W p l e R s m args below meth c H locs cells slots Q (F0 m pc ls (.int i :: .ref (ad q0) :: rest)) := by
  subst hi
  refine va_aldq hexec hb hK hP q0 t0 ((kw_at hq).trans (by rw [he])) ht (vp_in_nI hj hN) hdg ?_
  rw [nI_clamp (Nat.lt_trans hj hN)]
  exact kk
theorem kw_astq (hexec : p.tables.exec = Jvm.exec) (hb : c.code = cc) (hK : va_K D cl tys s) (hP : va_P D cl (kw_w ad cs n) H) (hJ : kw_J ad n) (hA : ∀ k, k < n → A (ad k)) (hS : va_S A H0 H locs) (q0 t0 qk ci : Nat) (hq : q0 < n) (hqk : qk < n) {cA : ClassId} {r : vw_C} {N : Nat} {vs : List Value} {f : Nat → Option Nat} (he : cs q0 = .inl (cA, N, .inr (.inr (.inr (.inr f))))) (ht : tys[t0]? = some (cA, .object r.1)) (hv : cs qk = .inr (ci, vs)) (hc : cl[ci]? = some r) {i : Int32} (j : Nat) (hi : i = nI j) (hj : j < N) (hN : N < 2 ^ 31) (hdg : decode cc pc = .ok (.aastore, 1))
    (kk : ∀ (H1 : Heap) (locs1 : List Loc), va_P D cl (kw_w ad (va_up cs q0 (.inl (cA, N, .inr (.inr (.inr (.inr (va_up f j (some (ad qk))))))))) n) H1 → va_S A H0 H1 locs1 → W p l e R s m args below meth c H1 locs1 cells slots Q (F0 m (pc + 1) ls rest)) : W p l e R s m args below meth c H locs cells slots Q (F0 m pc ls (.ref (ad qk) :: .int i :: .ref (ad q0) :: rest)) := by
  subst hi
  refine va_astq hexec hb hK hP (kw_D hJ hA) hS q0 t0 qk ci ((kw_at hq).trans (by rw [he])) ht ((kw_at hqk).trans (by rw [hv])) hc (vp_in_nI hj hN) hdg (fun H1 locs1 h1 _ h3 => ?_)
  rw [nI_clamp (Nat.lt_trans hj hN), kw_set] at h1
  exact kk H1 locs1 h1 h3
end KWR
