/-! the law: helpers of its wrappers -/
def kL_r : Room := { frames := 8, cells := 1, slots := 6, locals := 340 }
def kL_o (cJ : ClassId) (ao : Nat) (o : Nat → Int64) : va_W := [(ao, .inl (cJ, 1, .inr (.inl o)))]
/-- what a wrapper finds: the machine's cells, the row for the answer, the words for throws -/
def kL_P (D : va_G) (tys : List (ClassId × FieldType)) (ad : Nat → Nat) (n : Nat) (cs : Nat → va_E) (cJ : ClassId) (ao : Nat) (o : Nat → Int64) (sz : Nat) (U : State) : Prop := U.heap.size = sz ∧ kw_Pre D kc tys ad n cs U ∧ va_P D kc (kL_o cJ ao o) U.heap ∧ kx_St U
theorem kL_Stc {U : State} {g : JFrame} {mk : MethodId} {a : Array Value} (h : kx_St U) : kx_St (U.calling g mk a) := kx_St.moved (s := U) (U := U.calling g mk a) h (State.WarmedH.refl U) (fun q cell hq _ => hq)
theorem kL_blind {D : va_G} {tys : List (ClassId × FieldType)} {ad : Nat → Nat} {n : Nat} {cs : Nat → va_E} {cJ : ClassId} {ao : Nat} {o : Nat → Int64} {sz : Nat} {vs : List Value} : FrameBlind (va_Pc vs (kL_P D tys ad n cs cJ ao o sz)) := fun a U g mk h => by
  obtain ⟨h0, hz, ⟨hP, hK⟩, hPo, hSt⟩ := h
  exact ⟨h0, hz, ⟨hP, va_K.moved (u := U) (U := U.calling g mk a) (Vm.Alike.refl U.vm) hK⟩, hPo, kL_Stc hSt⟩
theorem kL_blindX {D : va_G} {tys : List (ClassId × FieldType)} {ad : Nat → Nat} {n : Nat} {cs : Nat → va_E} {vs : List Value} : FrameBlind (va_Pc vs (fun U => kw_Pre D kc tys ad n cs U ∧ kx_St U)) := fun a U g mk h => by
  obtain ⟨h0, ⟨hP, hK⟩, hSt⟩ := h
  exact ⟨h0, ⟨hP, va_K.moved (u := U) (U := U.calling g mk a) (Vm.Alike.refl U.vm) hK⟩, kL_Stc hSt⟩
theorem kL_blindP {D : va_G} {tys : List (ClassId × FieldType)} {ad : Nat → Nat} {n : Nat} {cs : Nat → va_E} {sz : Nat} {vs : List Value} : FrameBlind (va_Pc vs (fun U => U.heap.size = sz ∧ kw_Pre D kc tys ad n cs U)) := fun a U g mk h => by
  obtain ⟨h0, hz, hP, hK⟩ := h
  exact ⟨h0, hz, hP, va_K.moved (u := U) (U := U.calling g mk a) (Vm.Alike.refl U.vm) hK⟩
def kL_A (ad : Nat → Nat) (n ao : Nat) : Nat → Prop := fun q => kw_A ad n q ∨ q = ao
def kL_A2 (ad : Nat → Nat) (n ao sz : Nat) : Nat → Prop := fun q => kw_A ad n q ∨ q = ao ∨ sz ≤ q
/-- the machine's names and the row's -/
theorem kL_J {ad : Nat → Nat} {n ao : Nat} (hJ : kw_J ad n) (hap : ∀ k, k < n → ad k ≠ ao) : kw_J (va_up ad n ao) (n + 1) := by
  intro i j hi hj h
  by_cases h1 : i = n
  · by_cases h2 : j = n
    · rw [h1, h2]
    · rw [h1, va_up_self, va_up_ne _ _ h2] at h
      exact absurd h.symm (hap j (by omega))
  · by_cases h2 : j = n
    · rw [h2, va_up_self, va_up_ne _ _ h1] at h
      exact absurd h (hap i (by omega))
    · rw [va_up_ne _ _ h1, va_up_ne _ _ h2] at h
      exact hJ i j (by omega) (by omega) h
theorem kL_split {D : va_G} {ad : Nat → Nat} {n ao : Nat} {cs : Nat → va_E} {e e1 : va_E} {H : Heap} (hP : va_P D kc (kw_w (va_up ad n ao) (va_up (va_up cs n e) n e1) (n + 1)) H) : va_P D kc (kw_w ad cs n) H ∧ va_P D kc [(ao, e1)] H := by
  refine ⟨fun k q hk => ?_, fun k q hk => ?_⟩
  · obtain ⟨h1, rfl⟩ := kw_at' hk
    have h := hP k _ (kw_at (show k < n + 1 by omega))
    rw [va_up_ne _ _ (by omega), va_up_ne _ _ (by omega), va_up_ne _ _ (by omega)] at h
    exact h
  · obtain ⟨-, rfl⟩ := kb_one hk
    have h := hP n _ (kw_at (show n < n + 1 by omega))
    rw [va_up_self, va_up_self] at h
    exact h
theorem kL_keep {D : va_G} {cJ : ClassId} {ao : Nat} {o : Nat → Int64} {H H1 : Heap} {A1 : Nat → Prop} (hPo : va_P D kc (kL_o cJ ao o) H) (hn : ¬ A1 ao) (hk : ∀ q : Nat, q < H.size → ¬ A1 q → H1[q]? = H[q]?) : va_P D kc (kL_o cJ ao o) H1 := by
  refine hPo.kept (fun k q hq => ?_)
  obtain ⟨-, rfl⟩ := kb_one hq
  exact hk ao (hPo 0 _ rfl).lt hn
theorem kL_notA {ad : Nat → Nat} {n ao : Nat} (hap : ∀ k, k < n → ad k ≠ ao) : ¬ kw_A ad n ao := fun ⟨k, h1, h2⟩ => hap k h1 h2
theorem kL_not {s : State} (hSt : kx_St s) {c k : ClassId} (hc : s.vm.findClass "java/lang/IllegalStateException" = some c) (hk : s.vm.findClass "java/lang/IllegalArgumentException" = some k) : s.vm.assignable c k = false := by
  have h := hSt (.not (.castable "java/lang/IllegalStateException" "java/lang/IllegalArgumentException")) (by simp [kx_hw])
  simp only [Cond.before, Cond.holds, Cond.value] at h
  rw [hc, hk] at h
  simpa using h
def kL_b (r : Int32) : Int64 := if r = 0 then 0 else 1
section KLX
variable {p : Program} {l : Launch} {e : Env} {R : Room} {s : State} {m : MethodId} {args : Array Value} {below : List Frame} {meth : Method} {c : Code} {T : State} {locs : List Loc} {cells slots : Nat}
theorem kL_ex (X : Stand p l e R s m args below meth c T locs cells slots) {own name : String} {i : Nat} (hown : s.vm.findClass own = some m.cls) (hlink : (Cond.classLink own i name).before args s = true) {k : ClassId} (hk : s.vm.findClass name = some k) : ∃ z, s.vm.classes[k]? = some z := by
  have hpl : e.platform.magicAccessors = ({} : Platform).magicAccessors := by rw [X.admits.platform]
  obtain ⟨k', hk', hcl⟩ := Cond.classLink_spec hown hlink e.platform hpl
  obtain ⟨dk, _, _, kt, hd, _, _, _, _, hkt, _, hopen⟩ := hcl.here
  cases hk.symm.trans hk'
  exact ⟨kt, hkt⟩
end KLX
theorem kL_t1 {L : List ExceptionTableEntry} {a b h t : Nat} (hm : L.map (fun h => (h.startPc, h.endPc, h.handlerPc, h.catchType)) = [(a, b, h, t)]) : L = [⟨a, b, h, t⟩] := by
  cases L with
  | nil => cases hm
  | cons x xs =>
    cases xs with
    | nil => cases x; simp at hm; simp [hm]
    | cons y ys => simp at hm
theorem kL_t2 {L : List ExceptionTableEntry} {a b h t a' b' h' t' : Nat} (hm : L.map (fun h => (h.startPc, h.endPc, h.handlerPc, h.catchType)) = [(a, b, h, t), (a', b', h', t')]) : L = [⟨a, b, h, t⟩, ⟨a', b', h', t'⟩] := by
  cases L with
  | nil => cases hm
  | cons x xs =>
    cases xs with
    | nil => simp at hm
    | cons y ys =>
      cases ys with
      | nil => cases x; cases y; simp at hm; simp [hm]
      | cons z zs => simp at hm
