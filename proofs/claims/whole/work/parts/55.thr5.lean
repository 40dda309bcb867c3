/-! throws: further -/
section KX6
variable {p : Program} {l : Launch} {e : Env} {R : Room} {s : State} {m : MethodId} {args : Array Value} {below : List Frame} {meth : Method} {c : Code} {H : Heap} {locs : List Loc} {Q : State → Prop} {g : JFrame}
/-- behind a call that may touch nothing and makes nothing: the heap is the one of the entry -/
theorem kx_same (hS : va_S (fun _ => False) s.heap H locs) (kk : W p l e R s m args below meth c s.heap [] 0 0 Q g) : W p l e R s m args below meth c H locs 0 0 Q g := by
  have hl : locs = [] := by
    cases locs with
    | nil => rfl
    | cons a t => exact (hS.2.2 a List.mem_cons_self).elim
  subst hl
  intro T hT X
  have hsz : T.heap.size ≤ s.heap.size := by
    have := X.same.2.2.1
    simpa using this
  have hHe : H = s.heap := by
    apply Array.ext_getElem?
    intro q
    by_cases hq : q < s.heap.size
    · exact hS.2.1 q hq (fun h => h)
    · rw [Array.getElem?_eq_none (by rw [← hT]; omega), Array.getElem?_eq_none (by omega)]
  exact kk T (hT.trans hHe) X
end KX6
set_option maxRecDepth 100000 in
theorem x_M_resume_S (l : Launch) (htr : ∀ e : Env, l.admits e → e.platform.stackTraces = false) {D : va_G} {tys : List (ClassId × FieldType)} {ad : Nat → Nat} {n q0 : Nat} {cs : Nat → va_E} {fs : List Value} {st qu : Int32} (hq0 : q0 < n) (e0 : cs q0 = .inr (4, fs)) (hst : fs[9]? = some (.int st)) (hqu : fs[8]? = some (.int qu)) (hbad : ¬ st = 2 ∨ 0 < qu) : kx_th l y_M_resume w_M_resume kx_r D kc tys ad n cs [.ref (ad q0)] "java/lang/IllegalStateException" := by
  refine kx_of (cc := b_M_resume) (maxL := 1) (ret := some .int) (by decide) rfl (Nat.le_of_ble_eq_true rfl) ?_
  intro p e s m below meth c ls hx hb hr hml hown hts hlocks hnh hSt hP hK hl
  have hg : ∀ w9 ∈ kg_G, w9.before [.ref (ad q0)].toArray s = true := fun w9 h9 => hts w9 (List.mem_cons_of_mem _ h9)
  have hown : s.vm.findClass "LaneMachine" = some m.cls := hown
  have hl : lv_has ls 1 [(0, .ref (ad q0))] := hl
  have KT : W p l e kx_r s m [.ref (ad q0)].toArray below meth c s.heap [] 0 0 (kx_MQ below (fun _ _ _ _ => False) (kx_T "java/lang/IllegalStateException") [.ref (ad q0)].toArray s 1 6 (fun _ => False)) (F0 m 15 ls []) :=
    kx_throw hx hb htr (inew := 82) hown (by decide +kernel) (by decide +kernel) (kx_atS hg hSt) (hg _ kg_327) (hg _ kg_12) (by rw [hml]; exact hl.1) d_M_resume_15 d_M_resume_18 d_M_resume_19 d_M_resume_22 (hnh _) hlocks (by decide) (by decide) (by decide) (by decide) (fun _ _ h => h)
  refine lv_aload_n hx hb d_M_resume_0 rfl (lv_at hl 0 rfl) ?_
  refine kw_get (v := .int st) hx hb hg in_M hown hK hP q0 hq0 e0 rfl 9 (by decide) (hg _ kg_171) rfl hst d_M_resume_1 ?_
  refine lv_iconst (v := 2) hx hb d_M_resume_4 (by decide) ?_
  refine lv_icmp_ne (tgt := 15) hx hb d_M_resume_5 (by decide) (fun _ => KT) (fun h1 => ?_)
  refine lv_aload_n hx hb d_M_resume_8 rfl (lv_at hl 0 rfl) ?_
  refine kw_get (v := .int qu) hx hb hg in_M hown hK hP q0 hq0 e0 rfl 8 (by decide) (hg _ kg_170) rfl hqu d_M_resume_9 ?_
  exact lv_if_le (tgt := 23) hx hb d_M_resume_12 (by decide) (fun h2 => (hbad.elim (fun z => z h1) (fun z => absurd h2 (Int32.not_le.mpr z))).elim) (fun _ => KT)
