/-! the words of the throws, at a later state -/
theorem kx_St.moved {s U : State} (h : kx_St s) (hW : s.WarmedH U.vm) (hH : ∀ (q : Nat) (cell : Cell), s.heap[q]? = some cell → cell.vm.isStatics = true → U.heap[q]? = some cell) : kx_St U := by
  have h1 : kx_St (s.setVm U.vm) := by
    intro w hw
    have h2 := h w hw
    simp only [kx_hw, List.mem_cons, List.not_mem_nil, or_false] at hw
    rcases hw with rfl | rfl | rfl | rfl | rfl | rfl | rfl | rfl | rfl | rfl
    iterate 9 exact Cond.before_shiftedFace (State.Shifted.of_warmed hW) _ rfl h2
    have hv := Cond.holds_not_iff.mp h2
    refine Cond.holds_not_iff.mpr ?_
    simp only [Cond.value] at hv ⊢
    rw [show (s.setVm U.vm).vm = U.vm from rfl, hW.alike.findClass, hW.alike.findClass]
    simp only [hW.alike.assignable]
    exact hv
  have hl : ∀ {f d : String}, (Cond.laysStatic Bundle.tN f d).before #[] (s.setVm U.vm) = true → (Cond.laysStatic Bundle.tN f d).before #[] U = true ∧ ((Cond.isRef (.static Bundle.tN f d)).before #[] (s.setVm U.vm) = true → (Cond.isRef (.static Bundle.tN f d)).before #[] U = true) := by
    intro f d h2
    obtain ⟨c, k, i, fd, a, cell, hc, hf, hst, hsta, hcell, hiss, hcls, hlt, hty⟩ := Cond.laysStatic_spec h2
    have hcU : U.heap[a]? = some cell := hH a cell hcell hiss
    have hc' : U.vm.findClass Bundle.tN = some c := hc
    have hf' : U.fieldFound? Bundle.tN f d = some (c, k, i, fd) := hf
    refine ⟨by simp [Cond.before, Cond.holds, Cond.value, hc', hf', hst, hsta, hcU, hiss, hcls, hlt, hty], fun h3 => ?_⟩
    have hcs : s.heap[a]? = some cell := hcell
    have e1 : (Term.static Bundle.tN f d).eval #[] (s.setVm U.vm) none [] (s.setVm U.vm) = cell.slots[fd.slot]? := by simp [Term.eval, State.fieldNamed?, hf, hst, hsta, hcs, hiss]
    have e2 : (Term.static Bundle.tN f d).eval #[] U none [] U = cell.slots[fd.slot]? := by simp [Term.eval, State.fieldNamed?, hf', hst, hsta, hcU, hiss]
    simp only [Cond.before, Cond.holds, Cond.value, e1] at h3
    simp only [Cond.before, Cond.holds, Cond.value, e2]
    exact h3
  intro w hw
  have h2 := h1 w hw
  have ha := h1 (.laysStatic Bundle.tN "UNASSIGNED_STACK" Bundle.steD) (by simp [kx_hw])
  have hb := h1 (.laysStatic Bundle.tN "SUPPRESSED_SENTINEL" Bundle.listD) (by simp [kx_hw])
  simp only [kx_hw, List.mem_cons, List.not_mem_nil, or_false] at hw
  rcases hw with rfl | rfl | rfl | rfl | rfl | rfl | rfl | rfl | rfl | rfl
  · exact (hl ha).1
  · exact (hl hb).1
  · exact (hl ha).2 h2
  · exact (hl hb).2 h2
  all_goals exact h2
