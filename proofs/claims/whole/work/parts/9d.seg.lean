/-! the law's loop, an operation at a time -/
def kCx (p : Program) (l : Launch) (s : State) (m : MethodId) (c : Code) (b L : Nat) (xs : Nat → Int32) (D : va_G) (cI cB cJ cQ cW dI dZ : ClassId) : Prop := (∀ e : Env, l.admits e → e.platform.stackTraces = false) ∧ p.tables.exec = Jvm.exec ∧ c.code = code ∧ c.maxLocals = 7 ∧ s.vm.findClass "LaneMachineLaw" = some m.cls ∧ (∀ w ∈ kg_G, w.before #[Value.ref b] s = true) ∧ va_K D kc (kt cI cB cJ cQ cW) s ∧ va_K D kc (ktR dI dZ) s ∧ kx_St s ∧ va_X b L xs s s.heap ∧ b < s.heap.size ∧ L ≤ 3585
theorem kV_len {d : String} {n : Nat} (h : (parseMethodDescriptor d).map (fun g => g.parameters.length) = some n) : ∀ sig, parseMethodDescriptor d = some sig → n = sig.parameters.length := fun sig hs => by
  rw [hs] at h
  exact (Option.some.inj h).symm
theorem kR_th {ad : Nat → Nat} {cI cZ : ClassId} {cs : Nat → va_E} {r : kRS} (v : Int32) (h : kRof ad cI cZ cs r) : kRof ad cI cZ (va_up cs 0 (.inr (5, [.int (nI r.la), .int v, .int (nI r.st), .int r.nx, .int (nI r.wi), .int (nI r.gp), .int (nI r.vl), .int (nI r.sa), .int (nI r.bo), .int r.cy, .int r.sd, .ref (ad 1), .ref (ad 2), .ref (ad 3), .int (nI r.ma), .ref (ad 4), .ref (ad 5), .ref (ad 6), .ref (ad 7), .ref (ad 8), .ref (ad 9), .int (nI r.qu), .ref (ad 10), .ref (ad 11), .ref (ad 12), .ref (ad 13), .ref (ad 14), .ref (ad 15), .ref (ad 16), .ref (ad 17), .ref (ad 18)]))) (kq_th r v) := by
  obtain ⟨e0, e1, e2, e3, e4, e5, e6, e7, e8, e9, e10, e11, e12, e13, e14, e15, e16, e17, e18⟩ := h
  exact ⟨va_up_self _ _ _, (va_up_ne _ _ (by decide)).trans e1, (va_up_ne _ _ (by decide)).trans e2, (va_up_ne _ _ (by decide)).trans e3, (va_up_ne _ _ (by decide)).trans e4, (va_up_ne _ _ (by decide)).trans e5, (va_up_ne _ _ (by decide)).trans e6, (va_up_ne _ _ (by decide)).trans e7, (va_up_ne _ _ (by decide)).trans e8, (va_up_ne _ _ (by decide)).trans e9, (va_up_ne _ _ (by decide)).trans e10, (va_up_ne _ _ (by decide)).trans e11, (va_up_ne _ _ (by decide)).trans e12, (va_up_ne _ _ (by decide)).trans e13, (va_up_ne _ _ (by decide)).trans e14, (va_up_ne _ _ (by decide)).trans e15, (va_up_ne _ _ (by decide)).trans e16, (va_up_ne _ _ (by decide)).trans e17, (va_up_ne _ _ (by decide)).trans e18⟩
/-- an answer in the exact form, as a state -/
theorem kw_ex {l : Launch} {y : MethodName} {ws : List Cond} {rm : Room} {D : va_G} {tys : List (ClassId × FieldType)} {ad : Nat → Nat} {n : Nat} {cs cs1 : Nat → va_E} {vs : List Value} {v : Int32} {P : (Nat → va_E) → Prop} (h : kw_mi l y ws rm D kc tys ad n cs vs (fun r9 c9 => r9 = v ∧ c9 = cs1)) (hP : P cs1) : kw_mi l y ws rm D kc tys ad n cs vs (fun r9 c9 => r9 = v ∧ P c9) := by
  refine kL_mono h (fun a st oc t _ hQ => ?_) (fun q h => h)
  obtain ⟨⟨r9, u, w1, ⟨w2, w3⟩, w4⟩, w5⟩ := hQ
  exact ⟨⟨r9, u, w1, ⟨w2, by rw [w3]; exact hP⟩, w4⟩, w5⟩
section KVB
variable {p : Program} {l : Launch} {e : Env} {R : Room} {s : State} {m : MethodId} {args : Array Value} {below : List Frame} {meth : Method} {c : Code} {H : Heap} {locs : List Loc} {cells slots : Nat} {Q : State → Prop}
variable {cc : ByteArray} {pc : Nat} {ls : Array Slot} {rest : List Value}
theorem kV_rd (hx : p.tables.exec = Jvm.exec) (hb : c.code = cc) {b L j : Nat} {xs : Nat → Int32} (hX : va_X b L xs s s.heap) (hbl : b < s.heap.size) (hS : va_S (kV_A s) s.heap H locs) (hL : L ≤ 3585) (hj : j < L) {v : Int32} (hv : v = nI j) (hdg : decode cc pc = .ok (.iaload, 1))
    (kk : W p l e R s m args below meth c H locs cells slots Q (F0 m (pc + 1) ls (.int (xs j) :: rest))) : W p l e R s m args below meth c H locs cells slots Q (F0 m pc ls (.int v :: .ref b :: rest)) := by
  subst hv
  refine va_sld hx hb hX hbl (fun z => absurd hbl (Nat.not_lt.mpr z)) hS (vp_in_nI hj (by omega)) hdg ?_
  rw [nI_clamp (by omega)]
  exact kk
/-- the diamond of a truth value -/
theorem kV_bz (hx : p.tables.exec = Jvm.exec) (hb : c.code = cc) {w : Int32} (d1 : decode cc pc = .ok (.ifCond .eq 7, 3)) (d2 : decode cc (pc + 3) = .ok (.iconst 1, 1)) (d3 : decode cc (pc + 4) = .ok (.goto 4, 3)) (d4 : decode cc (pc + 7) = .ok (.iconst 0, 1))
    (kk : W p l e R s m args below meth c H locs cells slots Q (F0 m (pc + 8) ls (.int (if w = 0 then 0 else 1) :: rest))) : W p l e R s m args below meth c H locs cells slots Q (F0 m pc ls (.int w :: rest)) := by
  refine lv_if_eq (tgt := pc + 7) hx hb d1 (by omega) (fun h => ?_) (fun h => ?_)
  · rw [if_pos h] at kk
    exact lv_iconst (v := 0) hx hb d4 (by decide) kk
  · rw [if_neg h] at kk
    refine lv_iconst (v := 1) hx hb d2 (by decide) ?_
    exact lv_goto (tgt := pc + 8) hx hb d3 (by omega) kk
theorem kV_bl (hx : p.tables.exec = Jvm.exec) (hb : c.code = cc) {w : Int32} (d1 : decode cc pc = .ok (.ifCond .eq 7, 3)) (d2 : decode cc (pc + 3) = .ok (.lconst 1, 1)) (d3 : decode cc (pc + 4) = .ok (.goto 4, 3)) (d4 : decode cc (pc + 7) = .ok (.lconst 0, 1))
    (kk : W p l e R s m args below meth c H locs cells slots Q (F0 m (pc + 8) ls (.long (kL_b w) :: rest))) : W p l e R s m args below meth c H locs cells slots Q (F0 m pc ls (.int w :: rest)) := by
  unfold kL_b at kk
  refine lv_if_eq (tgt := pc + 7) hx hb d1 (by omega) (fun h => ?_) (fun h => ?_)
  · rw [if_pos h] at kk
    exact lv_lconst (v := 0) hx hb d4 (by decide) kk
  · rw [if_neg h] at kk
    refine lv_lconst (v := 1) hx hb d2 (by decide) ?_
    exact lv_goto (tgt := pc + 8) hx hb d3 (by omega) kk
end KVB
set_option maxRecDepth 100000 in
set_option maxHeartbeats 4000000 in
theorem kS_put {p : Program} {l : Launch} {e : Env} {s : State} {m : MethodId} {below : List Frame} {meth : Method} {c : Code} {H : Heap} {locs : List Loc} {cells slots : Nat} {Q : State → Prop} {ls : Array Slot} {D : va_G} {cI cB cJ cQ cW dI dZ : ClassId} {b L i a0 aR ao : Nat} {xs : Nat → Int32} {x : kMS} {r : kRS} {ov : Int64} (C0 : kCx p l s m c b L xs D cI cB cJ cQ cW dI dZ) (hi : i + 7 ≤ L) (hZ : kZ x r) (hV : kV D cI cB cJ cQ cW dI dZ s.heap.size a0 aR ao x r ov H) (hS : va_S (kV_A s) s.heap H locs) (hl : lv_has ls 7 [(0, .ref b), (1, .ref a0), (2, .ref aR), (3, .ref ao), (4, .int (nI i))]) (hf : cells + 1 ≤ room_1.cells ∧ slots + 6 ≤ room_1.slots) (KK : ∀ (H1 : Heap) (locs1 : List Loc) (ls1 : Array Slot) (x1 : kMS) (r1 : kRS) (ov1 : Int64), kZ x1 r1 → kV D cI cB cJ cQ cW dI dZ s.heap.size a0 aR ao x1 r1 ov1 H1 → va_S (kV_A s) s.heap H1 locs1 → lv_has ls1 7 [(0, .ref b), (1, .ref a0), (2, .ref aR), (3, .ref ao), (4, .int (nI i))] → W p l e room_1 s m #[Value.ref b] below meth c H1 locs1 (cells + 1) (slots + 6) Q (F0 m 673 ls1 [])) : W p l e room_1 s m #[Value.ref b] below meth c H locs cells slots Q (F0 m 108 ls []) := by
  obtain ⟨htr, hx, hb, hml, hown, hg, hK, hKR, hSt, hX, hbl, hL⟩ := C0
  obtain ⟨k, x1, val, r1, bb, hth, hval, hZ1, hLc, hRm⟩ := kO_put (D := D) (cI := cI) (cB := cB) (cJ := cJ) (cQ := cQ) (cW := cW) (dI := dI) (dZ := dZ) l htr hZ (xs (i + 1)) (xs (i + 2)) (xs (i + 3)) (xs (i + 4)) (xs (i + 5)) ((if xs (i + 6) = 0 then 0 else 1)) (by by_cases z : xs (i + 6) = 0; exact Or.inl (if_pos z); exact Or.inr (if_neg z))
  refine lv_aload_n hx hb d_L_law_108 rfl (lv_at hl 1 rfl) ?_
  refine lv_aload_n hx hb d_L_law_109 rfl (lv_at hl 0 rfl) ?_
  refine lv_iload hx hb d_L_law_110 (lv_at hl 4 rfl) ?_
  refine lv_iconst (v := 1) hx hb d_L_law_112 (by decide) ?_
  refine lv_iadd hx hb d_L_law_113 ?_
  refine kV_rd hx hb hX hbl hS hL (j := i + 1) (by omega) (nI_add i 1) d_L_law_114 ?_
  refine lv_aload_n hx hb d_L_law_115 rfl (lv_at hl 0 rfl) ?_
  refine lv_iload hx hb d_L_law_116 (lv_at hl 4 rfl) ?_
  refine lv_iconst (v := 2) hx hb d_L_law_118 (by decide) ?_
  refine lv_iadd hx hb d_L_law_119 ?_
  refine kV_rd hx hb hX hbl hS hL (j := i + 2) (by omega) (nI_add i 2) d_L_law_120 ?_
  refine lv_aload_n hx hb d_L_law_121 rfl (lv_at hl 0 rfl) ?_
  refine lv_iload hx hb d_L_law_122 (lv_at hl 4 rfl) ?_
  refine lv_iconst (v := 3) hx hb d_L_law_124 (by decide) ?_
  refine lv_iadd hx hb d_L_law_125 ?_
  refine kV_rd hx hb hX hbl hS hL (j := i + 3) (by omega) (nI_add i 3) d_L_law_126 ?_
  refine lv_aload_n hx hb d_L_law_127 rfl (lv_at hl 0 rfl) ?_
  refine lv_iload hx hb d_L_law_128 (lv_at hl 4 rfl) ?_
  refine lv_iconst (v := 4) hx hb d_L_law_130 (by decide) ?_
  refine lv_iadd hx hb d_L_law_131 ?_
  refine kV_rd hx hb hX hbl hS hL (j := i + 4) (by omega) (nI_add i 4) d_L_law_132 ?_
  refine lv_aload_n hx hb d_L_law_133 rfl (lv_at hl 0 rfl) ?_
  refine lv_iload hx hb d_L_law_134 (lv_at hl 4 rfl) ?_
  refine lv_iconst (v := 5) hx hb d_L_law_136 (by decide) ?_
  refine lv_iadd hx hb d_L_law_137 ?_
  refine kV_rd hx hb hX hbl hS hL (j := i + 5) (by omega) (nI_add i 5) d_L_law_138 ?_
  refine lv_aload_n hx hb d_L_law_139 rfl (lv_at hl 0 rfl) ?_
  refine lv_iload hx hb d_L_law_140 (lv_at hl 4 rfl) ?_
  refine lv_bipush (v := 6) hx hb d_L_law_142 (by decide) ?_
  refine lv_iadd hx hb d_L_law_144 ?_
  refine kV_rd hx hb hX hbl hS hL (j := i + 6) (by omega) (nI_add i 6) d_L_law_145 ?_
  refine kV_bz hx hb d_L_law_146 d_L_law_149 d_L_law_150 d_L_law_153 ?_
  refine lv_aload_n hx hb d_L_law_154 rfl (lv_at hl 3 rfl) ?_
  refine kV_L (vs := [.int (xs (i + 1)), .int (xs (i + 2)), .int (xs (i + 3)), .int (xs (i + 4)), .int (xs (i + 5)), .int ((if xs (i + 6) = 0 then 0 else 1))]) (k := k) (x1 := x1) (val := val) ⟨hx, hb, hml, hown, hg⟩ hK hSt hV hS hLc kg_252 kg_0 kg_251 kg_250 ⟨by decide, by decide⟩ (by decide) (by decide) (kV_len (n := 8) (by decide +kernel)) hl.1 rfl d_L_law_155 hf (fun H locs ov1 hov hV hS => ?_)
  refine lv_istore (lv' := [(5, .int k), (0, .ref b), (1, .ref a0), (2, .ref aR), (3, .ref ao), (4, .int (nI i))]) hx hb d_L_law_158 hl (by decide) rfl (fun ls hl => ?_)
  refine lv_aload_n hx hb d_L_law_160 rfl (lv_at hl 3 rfl) ?_
  refine lv_aload_n hx hb d_L_law_161 rfl (lv_at hl 1 rfl) ?_
  refine lv_iload hx hb d_L_law_162 (lv_at hl 5 rfl) ?_
  refine lv_iconst (v := 1) hx hb d_L_law_164 (by decide) ?_
  refine lv_iadd hx hb d_L_law_165 ?_
  refine kV_rd hx hb hX hbl hS hL (j := i + 1) (by omega) (nI_add i 1) d_L_law_166 ?_
  refine lv_aload_n hx hb d_L_law_167 rfl (lv_at hl 1 rfl) ?_
  refine lv_iload hx hb d_L_law_168 (lv_at hl 5 rfl) ?_
  refine lv_iconst (v := 2) hx hb d_L_law_170 (by decide) ?_
  refine lv_iadd hx hb d_L_law_171 ?_
  refine kV_rd hx hb hX hbl hS hL (j := i + 2) (by omega) (nI_add i 2) d_L_law_172 ?_
  refine lv_aload_n hx hb d_L_law_173 rfl (lv_at hl 1 rfl) ?_
  refine lv_iload hx hb d_L_law_174 (lv_at hl 5 rfl) ?_
  refine lv_iconst (v := 3) hx hb d_L_law_176 (by decide) ?_
  refine lv_iadd hx hb d_L_law_177 ?_
  refine kV_rd hx hb hX hbl hS hL (j := i + 3) (by omega) (nI_add i 3) d_L_law_178 ?_
  refine lv_aload_n hx hb d_L_law_179 rfl (lv_at hl 1 rfl) ?_
  refine lv_iload hx hb d_L_law_180 (lv_at hl 5 rfl) ?_
  refine lv_iconst (v := 4) hx hb d_L_law_182 (by decide) ?_
  refine lv_iadd hx hb d_L_law_183 ?_
  refine kV_rd hx hb hX hbl hS hL (j := i + 4) (by omega) (nI_add i 4) d_L_law_184 ?_
  refine lv_aload_n hx hb d_L_law_185 rfl (lv_at hl 1 rfl) ?_
  refine lv_iload hx hb d_L_law_186 (lv_at hl 5 rfl) ?_
  refine lv_iconst (v := 5) hx hb d_L_law_188 (by decide) ?_
  refine lv_iadd hx hb d_L_law_189 ?_
  refine kV_rd hx hb hX hbl hS hL (j := i + 5) (by omega) (nI_add i 5) d_L_law_190 ?_
  refine lv_aload_n hx hb d_L_law_191 rfl (lv_at hl 1 rfl) ?_
  refine lv_iload hx hb d_L_law_192 (lv_at hl 5 rfl) ?_
  refine lv_bipush (v := 6) hx hb d_L_law_194 (by decide) ?_
  refine lv_iadd hx hb d_L_law_196 ?_
  refine kV_rd hx hb hX hbl hS hL (j := i + 6) (by omega) (nI_add i 6) d_L_law_197 ?_
  refine kV_bz hx hb d_L_law_198 d_L_law_201 d_L_law_202 d_L_law_205 ?_
  refine kV_R (vs := [.int (xs (i + 1)), .int (xs (i + 2)), .int (xs (i + 3)), .int (xs (i + 4)), .int (xs (i + 5)), .int ((if xs (i + 6) = 0 then 0 else 1))]) (rest := []) (b := bb) (r1 := r1) ⟨hx, hb, hml, hown, hg⟩ hKR hV hS hRm ⟨callB_of 6 hg (kg_goodG kg_801) rfl rfl rfl (hg _ kg_7) (hg _ kg_798) (by decide +kernel) ⟨by decide, by decide⟩, hg _ kg_799, hg _ kg_800⟩ rfl hl.1 rfl (Nat.le_of_ble_eq_true rfl) d_L_law_206 hf (fun H locs hV hS => ?_)
  refine lv_istore (lv' := [(6, .int bb), (5, .int k), (0, .ref b), (1, .ref a0), (2, .ref aR), (3, .ref ao), (4, .int (nI i))]) hx hb d_L_law_209 hl (by decide) rfl (fun ls hl => ?_)
  refine lv_aload_n hx hb d_L_law_211 rfl (lv_at hl 4 rfl) ?_
  refine kV_R (vs := []) (rest := []) (b := k) (r1 := r1) ⟨hx, hb, hml, hown, hg⟩ hKR hV hS (fun ad cs hJ h => by rw [← hth]; exact kw_ex (c_R_thrown l (Nat.le_refl _) h) h) ⟨callB_of 0 hg (kg_goodG kg_681) rfl rfl rfl (hg _ kg_7) (hg _ kg_678) (by decide +kernel) ⟨by decide, by decide⟩, hg _ kg_679, hg _ kg_680⟩ rfl hl.1 rfl (Nat.le_of_ble_eq_true rfl) d_L_law_212 hf (fun H locs hV hS => ?_)
  refine lv_iload hx hb d_L_law_215 (lv_at hl 1 rfl) ?_
  refine lv_icmp_eq (tgt := 222) hx hb d_L_law_217 (by decide) (fun _ => ?_) (fun h => absurd rfl h)
  refine lv_iload hx hb d_L_law_222 (lv_at hl 1 rfl) ?_
  have KE : W p l e room_1 s m #[Value.ref b] below meth c H locs (cells + 1) (slots + 6) Q (F0 m 239 ls []) := lv_goto (tgt := 673) hx hb d_L_law_239 (by decide) (KK H locs ls x1 r1 ov1 hZ1 hV hS (lv_sub hl [2, 3, 4, 5, 6] rfl))
  refine lv_if_ne (tgt := 239) hx hb d_L_law_224 (by decide) (fun _ => KE) (fun h0 => ?_)
  refine lv_aload_n hx hb d_L_law_227 rfl (lv_at hl 5 rfl) ?_
  refine lv_iconst (v := 0) hx hb d_L_law_228 (by decide) ?_
  refine kV_ld hx hb hK hV d_L_law_229 ?_
  refine lv_iload hx hb d_L_law_230 (lv_at hl 0 rfl) ?_
  refine lv_i2l hx hb d_L_law_232 rfl ?_
  refine W.lcmp hx hb d_L_law_233 ?_
  exact lv_if_eq (tgt := 239) hx hb d_L_law_234 (by decide) (fun _ => KE) (fun h => absurd (kp_cmp0.mpr ((hov h0).trans (hval h0))) h)
set_option maxRecDepth 100000 in
set_option maxHeartbeats 4000000 in
theorem kS_go {p : Program} {l : Launch} {e : Env} {s : State} {m : MethodId} {below : List Frame} {meth : Method} {c : Code} {H : Heap} {locs : List Loc} {cells slots : Nat} {Q : State → Prop} {ls : Array Slot} {D : va_G} {cI cB cJ cQ cW dI dZ : ClassId} {b L i a0 aR ao : Nat} {xs : Nat → Int32} {x : kMS} {r : kRS} {ov : Int64} (C0 : kCx p l s m c b L xs D cI cB cJ cQ cW dI dZ) (hi : i + 7 ≤ L) (hZ : kZ x r) (hV : kV D cI cB cJ cQ cW dI dZ s.heap.size a0 aR ao x r ov H) (hS : va_S (kV_A s) s.heap H locs) (hl : lv_has ls 7 [(0, .ref b), (1, .ref a0), (2, .ref aR), (3, .ref ao), (4, .int (nI i))]) (hf : cells + 1 ≤ room_1.cells ∧ slots + 6 ≤ room_1.slots) (KK : ∀ (H1 : Heap) (locs1 : List Loc) (ls1 : Array Slot) (x1 : kMS) (r1 : kRS) (ov1 : Int64), kZ x1 r1 → kV D cI cB cJ cQ cW dI dZ s.heap.size a0 aR ao x1 r1 ov1 H1 → va_S (kV_A s) s.heap H1 locs1 → lv_has ls1 7 [(0, .ref b), (1, .ref a0), (2, .ref aR), (3, .ref ao), (4, .int (nI i))] → W p l e room_1 s m #[Value.ref b] below meth c H1 locs1 (cells + 1) (slots + 6) Q (F0 m 673 ls1 [])) : W p l e room_1 s m #[Value.ref b] below meth c H locs cells slots Q (F0 m 242 ls []) := by
  obtain ⟨htr, hx, hb, hml, hown, hg, hK, hKR, hSt, hX, hbl, hL⟩ := C0
  obtain ⟨k, x1, val, r1, bb, hth, hval, hZ1, hLc, hRm⟩ := kO_go (D := D) (cI := cI) (cB := cB) (cJ := cJ) (cQ := cQ) (cW := cW) (dI := dI) (dZ := dZ) l htr hZ (xs (i + 1))
  refine lv_aload_n hx hb d_L_law_242 rfl (lv_at hl 1 rfl) ?_
  refine lv_aload_n hx hb d_L_law_243 rfl (lv_at hl 0 rfl) ?_
  refine lv_iload hx hb d_L_law_244 (lv_at hl 4 rfl) ?_
  refine lv_iconst (v := 1) hx hb d_L_law_246 (by decide) ?_
  refine lv_iadd hx hb d_L_law_247 ?_
  refine kV_rd hx hb hX hbl hS hL (j := i + 1) (by omega) (nI_add i 1) d_L_law_248 ?_
  refine lv_aload_n hx hb d_L_law_249 rfl (lv_at hl 3 rfl) ?_
  refine kV_L (vs := [.int (xs (i + 1))]) (k := k) (x1 := x1) (val := val) ⟨hx, hb, hml, hown, hg⟩ hK hSt hV hS hLc kg_344 kg_0 kg_343 kg_342 ⟨by decide, by decide⟩ (by decide) (by decide) (kV_len (n := 3) (by decide +kernel)) hl.1 rfl d_L_law_250 hf (fun H locs ov1 hov hV hS => ?_)
  refine lv_istore (lv' := [(5, .int k), (0, .ref b), (1, .ref a0), (2, .ref aR), (3, .ref ao), (4, .int (nI i))]) hx hb d_L_law_253 hl (by decide) rfl (fun ls hl => ?_)
  refine lv_aload_n hx hb d_L_law_255 rfl (lv_at hl 3 rfl) ?_
  refine lv_aload_n hx hb d_L_law_256 rfl (lv_at hl 1 rfl) ?_
  refine lv_iload hx hb d_L_law_257 (lv_at hl 5 rfl) ?_
  refine lv_iconst (v := 1) hx hb d_L_law_259 (by decide) ?_
  refine lv_iadd hx hb d_L_law_260 ?_
  refine kV_rd hx hb hX hbl hS hL (j := i + 1) (by omega) (nI_add i 1) d_L_law_261 ?_
  refine kV_R (vs := [.int (xs (i + 1))]) (rest := []) (b := bb) (r1 := r1) ⟨hx, hb, hml, hown, hg⟩ hKR hV hS hRm ⟨callB_of 1 hg (kg_goodG kg_808) rfl rfl rfl (hg _ kg_7) (hg _ kg_805) (by decide +kernel) ⟨by decide, by decide⟩, hg _ kg_806, hg _ kg_807⟩ rfl hl.1 rfl (Nat.le_of_ble_eq_true rfl) d_L_law_262 hf (fun H locs hV hS => ?_)
  refine lv_istore (lv' := [(6, .int bb), (5, .int k), (0, .ref b), (1, .ref a0), (2, .ref aR), (3, .ref ao), (4, .int (nI i))]) hx hb d_L_law_265 hl (by decide) rfl (fun ls hl => ?_)
  refine lv_aload_n hx hb d_L_law_267 rfl (lv_at hl 4 rfl) ?_
  refine kV_R (vs := []) (rest := []) (b := k) (r1 := r1) ⟨hx, hb, hml, hown, hg⟩ hKR hV hS (fun ad cs hJ h => by rw [← hth]; exact kw_ex (c_R_thrown l (Nat.le_refl _) h) h) ⟨callB_of 0 hg (kg_goodG kg_681) rfl rfl rfl (hg _ kg_7) (hg _ kg_678) (by decide +kernel) ⟨by decide, by decide⟩, hg _ kg_679, hg _ kg_680⟩ rfl hl.1 rfl (Nat.le_of_ble_eq_true rfl) d_L_law_268 hf (fun H locs hV hS => ?_)
  refine lv_iload hx hb d_L_law_271 (lv_at hl 1 rfl) ?_
  refine lv_icmp_eq (tgt := 278) hx hb d_L_law_273 (by decide) (fun _ => ?_) (fun h => absurd rfl h)
  refine lv_iload hx hb d_L_law_278 (lv_at hl 1 rfl) ?_
  have KE : W p l e room_1 s m #[Value.ref b] below meth c H locs (cells + 1) (slots + 6) Q (F0 m 295 ls []) := lv_goto (tgt := 673) hx hb d_L_law_295 (by decide) (KK H locs ls x1 r1 ov1 hZ1 hV hS (lv_sub hl [2, 3, 4, 5, 6] rfl))
  refine lv_if_ne (tgt := 295) hx hb d_L_law_280 (by decide) (fun _ => KE) (fun h0 => ?_)
  refine lv_aload_n hx hb d_L_law_283 rfl (lv_at hl 5 rfl) ?_
  refine lv_iconst (v := 0) hx hb d_L_law_284 (by decide) ?_
  refine kV_ld hx hb hK hV d_L_law_285 ?_
  refine lv_iload hx hb d_L_law_286 (lv_at hl 0 rfl) ?_
  refine lv_i2l hx hb d_L_law_288 rfl ?_
  refine W.lcmp hx hb d_L_law_289 ?_
  exact lv_if_eq (tgt := 295) hx hb d_L_law_290 (by decide) (fun _ => KE) (fun h => absurd (kp_cmp0.mpr ((hov h0).trans (hval h0))) h)
set_option maxRecDepth 100000 in
set_option maxHeartbeats 4000000 in
theorem kS_resume {p : Program} {l : Launch} {e : Env} {s : State} {m : MethodId} {below : List Frame} {meth : Method} {c : Code} {H : Heap} {locs : List Loc} {cells slots : Nat} {Q : State → Prop} {ls : Array Slot} {D : va_G} {cI cB cJ cQ cW dI dZ : ClassId} {b L i a0 aR ao : Nat} {xs : Nat → Int32} {x : kMS} {r : kRS} {ov : Int64} (C0 : kCx p l s m c b L xs D cI cB cJ cQ cW dI dZ) (hi : i + 7 ≤ L) (hZ : kZ x r) (hV : kV D cI cB cJ cQ cW dI dZ s.heap.size a0 aR ao x r ov H) (hS : va_S (kV_A s) s.heap H locs) (hl : lv_has ls 7 [(0, .ref b), (1, .ref a0), (2, .ref aR), (3, .ref ao), (4, .int (nI i))]) (hf : cells + 1 ≤ room_1.cells ∧ slots + 6 ≤ room_1.slots) (KK : ∀ (H1 : Heap) (locs1 : List Loc) (ls1 : Array Slot) (x1 : kMS) (r1 : kRS) (ov1 : Int64), kZ x1 r1 → kV D cI cB cJ cQ cW dI dZ s.heap.size a0 aR ao x1 r1 ov1 H1 → va_S (kV_A s) s.heap H1 locs1 → lv_has ls1 7 [(0, .ref b), (1, .ref a0), (2, .ref aR), (3, .ref ao), (4, .int (nI i))] → W p l e room_1 s m #[Value.ref b] below meth c H1 locs1 (cells + 1) (slots + 6) Q (F0 m 673 ls1 [])) : W p l e room_1 s m #[Value.ref b] below meth c H locs cells slots Q (F0 m 298 ls []) := by
  obtain ⟨htr, hx, hb, hml, hown, hg, hK, hKR, hSt, hX, hbl, hL⟩ := C0
  obtain ⟨k, x1, val, r1, bb, hth, hval, hZ1, hLc, hRm⟩ := kO_resume (D := D) (cI := cI) (cB := cB) (cJ := cJ) (cQ := cQ) (cW := cW) (dI := dI) (dZ := dZ) l htr hZ 
  refine lv_aload_n hx hb d_L_law_298 rfl (lv_at hl 1 rfl) ?_
  refine lv_aload_n hx hb d_L_law_299 rfl (lv_at hl 3 rfl) ?_
  refine kV_L (vs := []) (k := k) (x1 := x1) (val := val) ⟨hx, hb, hml, hown, hg⟩ hK hSt hV hS hLc kg_351 kg_0 kg_350 kg_349 ⟨by decide, by decide⟩ (by decide) (by decide) (kV_len (n := 2) (by decide +kernel)) hl.1 rfl d_L_law_300 hf (fun H locs ov1 hov hV hS => ?_)
  refine lv_istore (lv' := [(5, .int k), (0, .ref b), (1, .ref a0), (2, .ref aR), (3, .ref ao), (4, .int (nI i))]) hx hb d_L_law_303 hl (by decide) rfl (fun ls hl => ?_)
  refine lv_aload_n hx hb d_L_law_305 rfl (lv_at hl 3 rfl) ?_
  refine kV_R (vs := []) (rest := []) (b := bb) (r1 := r1) ⟨hx, hb, hml, hown, hg⟩ hKR hV hS hRm ⟨callB_of 0 hg (kg_goodG kg_812) rfl rfl rfl (hg _ kg_7) (hg _ kg_809) (by decide +kernel) ⟨by decide, by decide⟩, hg _ kg_810, hg _ kg_811⟩ rfl hl.1 rfl (Nat.le_of_ble_eq_true rfl) d_L_law_306 hf (fun H locs hV hS => ?_)
  refine lv_istore (lv' := [(6, .int bb), (5, .int k), (0, .ref b), (1, .ref a0), (2, .ref aR), (3, .ref ao), (4, .int (nI i))]) hx hb d_L_law_309 hl (by decide) rfl (fun ls hl => ?_)
  refine lv_aload_n hx hb d_L_law_311 rfl (lv_at hl 4 rfl) ?_
  refine kV_R (vs := []) (rest := []) (b := k) (r1 := r1) ⟨hx, hb, hml, hown, hg⟩ hKR hV hS (fun ad cs hJ h => by rw [← hth]; exact kw_ex (c_R_thrown l (Nat.le_refl _) h) h) ⟨callB_of 0 hg (kg_goodG kg_681) rfl rfl rfl (hg _ kg_7) (hg _ kg_678) (by decide +kernel) ⟨by decide, by decide⟩, hg _ kg_679, hg _ kg_680⟩ rfl hl.1 rfl (Nat.le_of_ble_eq_true rfl) d_L_law_312 hf (fun H locs hV hS => ?_)
  refine lv_iload hx hb d_L_law_315 (lv_at hl 1 rfl) ?_
  refine lv_icmp_eq (tgt := 322) hx hb d_L_law_317 (by decide) (fun _ => ?_) (fun h => absurd rfl h)
  refine lv_iload hx hb d_L_law_322 (lv_at hl 1 rfl) ?_
  have KE : W p l e room_1 s m #[Value.ref b] below meth c H locs (cells + 1) (slots + 6) Q (F0 m 339 ls []) := lv_goto (tgt := 673) hx hb d_L_law_339 (by decide) (KK H locs ls x1 r1 ov1 hZ1 hV hS (lv_sub hl [2, 3, 4, 5, 6] rfl))
  refine lv_if_ne (tgt := 339) hx hb d_L_law_324 (by decide) (fun _ => KE) (fun h0 => ?_)
  refine lv_aload_n hx hb d_L_law_327 rfl (lv_at hl 5 rfl) ?_
  refine lv_iconst (v := 0) hx hb d_L_law_328 (by decide) ?_
  refine kV_ld hx hb hK hV d_L_law_329 ?_
  refine lv_iload hx hb d_L_law_330 (lv_at hl 0 rfl) ?_
  refine lv_i2l hx hb d_L_law_332 rfl ?_
  refine W.lcmp hx hb d_L_law_333 ?_
  exact lv_if_eq (tgt := 339) hx hb d_L_law_334 (by decide) (fun _ => KE) (fun h => absurd (kp_cmp0.mpr ((hov h0).trans (hval h0))) h)
set_option maxRecDepth 100000 in
set_option maxHeartbeats 4000000 in
theorem kS_cycles {p : Program} {l : Launch} {e : Env} {s : State} {m : MethodId} {below : List Frame} {meth : Method} {c : Code} {H : Heap} {locs : List Loc} {cells slots : Nat} {Q : State → Prop} {ls : Array Slot} {D : va_G} {cI cB cJ cQ cW dI dZ : ClassId} {b L i a0 aR ao : Nat} {xs : Nat → Int32} {x : kMS} {r : kRS} {ov : Int64} (C0 : kCx p l s m c b L xs D cI cB cJ cQ cW dI dZ) (hi : i + 7 ≤ L) (hZ : kZ x r) (hV : kV D cI cB cJ cQ cW dI dZ s.heap.size a0 aR ao x r ov H) (hS : va_S (kV_A s) s.heap H locs) (hl : lv_has ls 7 [(0, .ref b), (1, .ref a0), (2, .ref aR), (3, .ref ao), (4, .int (nI i))]) (hf : cells + 1 ≤ room_1.cells ∧ slots + 6 ≤ room_1.slots) (KK : ∀ (H1 : Heap) (locs1 : List Loc) (ls1 : Array Slot) (x1 : kMS) (r1 : kRS) (ov1 : Int64), kZ x1 r1 → kV D cI cB cJ cQ cW dI dZ s.heap.size a0 aR ao x1 r1 ov1 H1 → va_S (kV_A s) s.heap H1 locs1 → lv_has ls1 7 [(0, .ref b), (1, .ref a0), (2, .ref aR), (3, .ref ao), (4, .int (nI i))] → W p l e room_1 s m #[Value.ref b] below meth c H1 locs1 (cells + 1) (slots + 6) Q (F0 m 673 ls1 [])) : W p l e room_1 s m #[Value.ref b] below meth c H locs cells slots Q (F0 m 342 ls []) := by
  obtain ⟨htr, hx, hb, hml, hown, hg, hK, hKR, hSt, hX, hbl, hL⟩ := C0
  obtain ⟨k, x1, val, r1, bb, hth, hval, hZ1, hLc, hRm⟩ := kO_cycles (D := D) (cI := cI) (cB := cB) (cJ := cJ) (cQ := cQ) (cW := cW) (dI := dI) (dZ := dZ) l htr hZ (xs (i + 1))
  refine lv_aload_n hx hb d_L_law_342 rfl (lv_at hl 1 rfl) ?_
  refine lv_aload_n hx hb d_L_law_343 rfl (lv_at hl 0 rfl) ?_
  refine lv_iload hx hb d_L_law_344 (lv_at hl 4 rfl) ?_
  refine lv_iconst (v := 1) hx hb d_L_law_346 (by decide) ?_
  refine lv_iadd hx hb d_L_law_347 ?_
  refine kV_rd hx hb hX hbl hS hL (j := i + 1) (by omega) (nI_add i 1) d_L_law_348 ?_
  refine lv_aload_n hx hb d_L_law_349 rfl (lv_at hl 3 rfl) ?_
  refine kV_L (vs := [.int (xs (i + 1))]) (k := k) (x1 := x1) (val := val) ⟨hx, hb, hml, hown, hg⟩ hK hSt hV hS hLc kg_358 kg_0 kg_357 kg_356 ⟨by decide, by decide⟩ (by decide) (by decide) (kV_len (n := 3) (by decide +kernel)) hl.1 rfl d_L_law_350 hf (fun H locs ov1 hov hV hS => ?_)
  refine lv_istore (lv' := [(5, .int k), (0, .ref b), (1, .ref a0), (2, .ref aR), (3, .ref ao), (4, .int (nI i))]) hx hb d_L_law_353 hl (by decide) rfl (fun ls hl => ?_)
  refine lv_aload_n hx hb d_L_law_355 rfl (lv_at hl 3 rfl) ?_
  refine lv_aload_n hx hb d_L_law_356 rfl (lv_at hl 1 rfl) ?_
  refine lv_iload hx hb d_L_law_357 (lv_at hl 5 rfl) ?_
  refine lv_iconst (v := 1) hx hb d_L_law_359 (by decide) ?_
  refine lv_iadd hx hb d_L_law_360 ?_
  refine kV_rd hx hb hX hbl hS hL (j := i + 1) (by omega) (nI_add i 1) d_L_law_361 ?_
  refine kV_R (vs := [.int (xs (i + 1))]) (rest := []) (b := bb) (r1 := r1) ⟨hx, hb, hml, hown, hg⟩ hKR hV hS hRm ⟨callB_of 1 hg (kg_goodG kg_685) rfl rfl rfl (hg _ kg_7) (hg _ kg_682) (by decide +kernel) ⟨by decide, by decide⟩, hg _ kg_683, hg _ kg_684⟩ rfl hl.1 rfl (Nat.le_of_ble_eq_true rfl) d_L_law_362 hf (fun H locs hV hS => ?_)
  refine lv_istore (lv' := [(6, .int bb), (5, .int k), (0, .ref b), (1, .ref a0), (2, .ref aR), (3, .ref ao), (4, .int (nI i))]) hx hb d_L_law_365 hl (by decide) rfl (fun ls hl => ?_)
  refine lv_aload_n hx hb d_L_law_367 rfl (lv_at hl 4 rfl) ?_
  refine kV_R (vs := []) (rest := []) (b := k) (r1 := r1) ⟨hx, hb, hml, hown, hg⟩ hKR hV hS (fun ad cs hJ h => by rw [← hth]; exact kw_ex (c_R_thrown l (Nat.le_refl _) h) h) ⟨callB_of 0 hg (kg_goodG kg_681) rfl rfl rfl (hg _ kg_7) (hg _ kg_678) (by decide +kernel) ⟨by decide, by decide⟩, hg _ kg_679, hg _ kg_680⟩ rfl hl.1 rfl (Nat.le_of_ble_eq_true rfl) d_L_law_368 hf (fun H locs hV hS => ?_)
  refine lv_iload hx hb d_L_law_371 (lv_at hl 1 rfl) ?_
  refine lv_icmp_eq (tgt := 378) hx hb d_L_law_373 (by decide) (fun _ => ?_) (fun h => absurd rfl h)
  refine lv_iload hx hb d_L_law_378 (lv_at hl 1 rfl) ?_
  have KE : W p l e room_1 s m #[Value.ref b] below meth c H locs (cells + 1) (slots + 6) Q (F0 m 395 ls []) := lv_goto (tgt := 673) hx hb d_L_law_395 (by decide) (KK H locs ls x1 r1 ov1 hZ1 hV hS (lv_sub hl [2, 3, 4, 5, 6] rfl))
  refine lv_if_ne (tgt := 395) hx hb d_L_law_380 (by decide) (fun _ => KE) (fun h0 => ?_)
  refine lv_aload_n hx hb d_L_law_383 rfl (lv_at hl 5 rfl) ?_
  refine lv_iconst (v := 0) hx hb d_L_law_384 (by decide) ?_
  refine kV_ld hx hb hK hV d_L_law_385 ?_
  refine lv_iload hx hb d_L_law_386 (lv_at hl 0 rfl) ?_
  refine lv_i2l hx hb d_L_law_388 rfl ?_
  refine W.lcmp hx hb d_L_law_389 ?_
  exact lv_if_eq (tgt := 395) hx hb d_L_law_390 (by decide) (fun _ => KE) (fun h => absurd (kp_cmp0.mpr ((hov h0).trans (hval h0))) h)
set_option maxRecDepth 100000 in
set_option maxHeartbeats 4000000 in
theorem kS_poke {p : Program} {l : Launch} {e : Env} {s : State} {m : MethodId} {below : List Frame} {meth : Method} {c : Code} {H : Heap} {locs : List Loc} {cells slots : Nat} {Q : State → Prop} {ls : Array Slot} {D : va_G} {cI cB cJ cQ cW dI dZ : ClassId} {b L i a0 aR ao : Nat} {xs : Nat → Int32} {x : kMS} {r : kRS} {ov : Int64} (C0 : kCx p l s m c b L xs D cI cB cJ cQ cW dI dZ) (hi : i + 7 ≤ L) (hZ : kZ x r) (hV : kV D cI cB cJ cQ cW dI dZ s.heap.size a0 aR ao x r ov H) (hS : va_S (kV_A s) s.heap H locs) (hl : lv_has ls 7 [(0, .ref b), (1, .ref a0), (2, .ref aR), (3, .ref ao), (4, .int (nI i))]) (hf : cells + 1 ≤ room_1.cells ∧ slots + 6 ≤ room_1.slots) (KK : ∀ (H1 : Heap) (locs1 : List Loc) (ls1 : Array Slot) (x1 : kMS) (r1 : kRS) (ov1 : Int64), kZ x1 r1 → kV D cI cB cJ cQ cW dI dZ s.heap.size a0 aR ao x1 r1 ov1 H1 → va_S (kV_A s) s.heap H1 locs1 → lv_has ls1 7 [(0, .ref b), (1, .ref a0), (2, .ref aR), (3, .ref ao), (4, .int (nI i))] → W p l e room_1 s m #[Value.ref b] below meth c H1 locs1 (cells + 1) (slots + 6) Q (F0 m 673 ls1 [])) : W p l e room_1 s m #[Value.ref b] below meth c H locs cells slots Q (F0 m 398 ls []) := by
  obtain ⟨htr, hx, hb, hml, hown, hg, hK, hKR, hSt, hX, hbl, hL⟩ := C0
  obtain ⟨k, x1, val, r1, bb, hth, hval, hZ1, hLc, hRm⟩ := kO_poke (D := D) (cI := cI) (cB := cB) (cJ := cJ) (cQ := cQ) (cW := cW) (dI := dI) (dZ := dZ) l htr hZ (xs (i + 1)) (xs (i + 2))
  refine lv_aload_n hx hb d_L_law_398 rfl (lv_at hl 1 rfl) ?_
  refine lv_aload_n hx hb d_L_law_399 rfl (lv_at hl 0 rfl) ?_
  refine lv_iload hx hb d_L_law_400 (lv_at hl 4 rfl) ?_
  refine lv_iconst (v := 1) hx hb d_L_law_402 (by decide) ?_
  refine lv_iadd hx hb d_L_law_403 ?_
  refine kV_rd hx hb hX hbl hS hL (j := i + 1) (by omega) (nI_add i 1) d_L_law_404 ?_
  refine lv_aload_n hx hb d_L_law_405 rfl (lv_at hl 0 rfl) ?_
  refine lv_iload hx hb d_L_law_406 (lv_at hl 4 rfl) ?_
  refine lv_iconst (v := 2) hx hb d_L_law_408 (by decide) ?_
  refine lv_iadd hx hb d_L_law_409 ?_
  refine kV_rd hx hb hX hbl hS hL (j := i + 2) (by omega) (nI_add i 2) d_L_law_410 ?_
  refine lv_aload_n hx hb d_L_law_411 rfl (lv_at hl 3 rfl) ?_
  refine kV_L (vs := [.int (xs (i + 1)), .int (xs (i + 2))]) (k := k) (x1 := x1) (val := val) ⟨hx, hb, hml, hown, hg⟩ hK hSt hV hS hLc kg_564 kg_0 kg_563 kg_562 ⟨by decide, by decide⟩ (by decide) (by decide) (kV_len (n := 4) (by decide +kernel)) hl.1 rfl d_L_law_412 hf (fun H locs ov1 hov hV hS => ?_)
  refine lv_istore (lv' := [(5, .int k), (0, .ref b), (1, .ref a0), (2, .ref aR), (3, .ref ao), (4, .int (nI i))]) hx hb d_L_law_415 hl (by decide) rfl (fun ls hl => ?_)
  refine lv_aload_n hx hb d_L_law_417 rfl (lv_at hl 3 rfl) ?_
  refine lv_aload_n hx hb d_L_law_418 rfl (lv_at hl 1 rfl) ?_
  refine lv_iload hx hb d_L_law_419 (lv_at hl 5 rfl) ?_
  refine lv_iconst (v := 1) hx hb d_L_law_421 (by decide) ?_
  refine lv_iadd hx hb d_L_law_422 ?_
  refine kV_rd hx hb hX hbl hS hL (j := i + 1) (by omega) (nI_add i 1) d_L_law_423 ?_
  refine lv_aload_n hx hb d_L_law_424 rfl (lv_at hl 1 rfl) ?_
  refine lv_iload hx hb d_L_law_425 (lv_at hl 5 rfl) ?_
  refine lv_iconst (v := 2) hx hb d_L_law_427 (by decide) ?_
  refine lv_iadd hx hb d_L_law_428 ?_
  refine kV_rd hx hb hX hbl hS hL (j := i + 2) (by omega) (nI_add i 2) d_L_law_429 ?_
  refine kV_R (vs := [.int (xs (i + 1)), .int (xs (i + 2))]) (rest := []) (b := bb) (r1 := r1) ⟨hx, hb, hml, hown, hg⟩ hKR hV hS hRm ⟨callB_of 2 hg (kg_goodG kg_816) rfl rfl rfl (hg _ kg_7) (hg _ kg_813) (by decide +kernel) ⟨by decide, by decide⟩, hg _ kg_814, hg _ kg_815⟩ rfl hl.1 rfl (Nat.le_of_ble_eq_true rfl) d_L_law_430 hf (fun H locs hV hS => ?_)
  refine lv_istore (lv' := [(6, .int bb), (5, .int k), (0, .ref b), (1, .ref a0), (2, .ref aR), (3, .ref ao), (4, .int (nI i))]) hx hb d_L_law_433 hl (by decide) rfl (fun ls hl => ?_)
  refine lv_aload_n hx hb d_L_law_435 rfl (lv_at hl 4 rfl) ?_
  refine kV_R (vs := []) (rest := []) (b := k) (r1 := r1) ⟨hx, hb, hml, hown, hg⟩ hKR hV hS (fun ad cs hJ h => by rw [← hth]; exact kw_ex (c_R_thrown l (Nat.le_refl _) h) h) ⟨callB_of 0 hg (kg_goodG kg_681) rfl rfl rfl (hg _ kg_7) (hg _ kg_678) (by decide +kernel) ⟨by decide, by decide⟩, hg _ kg_679, hg _ kg_680⟩ rfl hl.1 rfl (Nat.le_of_ble_eq_true rfl) d_L_law_436 hf (fun H locs hV hS => ?_)
  refine lv_iload hx hb d_L_law_439 (lv_at hl 1 rfl) ?_
  refine lv_icmp_eq (tgt := 446) hx hb d_L_law_441 (by decide) (fun _ => ?_) (fun h => absurd rfl h)
  refine lv_iload hx hb d_L_law_446 (lv_at hl 1 rfl) ?_
  have KE : W p l e room_1 s m #[Value.ref b] below meth c H locs (cells + 1) (slots + 6) Q (F0 m 470 ls []) := lv_goto (tgt := 673) hx hb d_L_law_470 (by decide) (KK H locs ls x1 r1 ov1 hZ1 hV hS (lv_sub hl [2, 3, 4, 5, 6] rfl))
  refine lv_if_ne (tgt := 470) hx hb d_L_law_448 (by decide) (fun _ => KE) (fun h0 => ?_)
  refine lv_aload_n hx hb d_L_law_451 rfl (lv_at hl 5 rfl) ?_
  refine lv_iconst (v := 0) hx hb d_L_law_452 (by decide) ?_
  refine kV_ld hx hb hK hV d_L_law_453 ?_
  refine lv_iload hx hb d_L_law_454 (lv_at hl 0 rfl) ?_
  refine kV_bl hx hb d_L_law_456 d_L_law_459 d_L_law_460 d_L_law_463 ?_
  refine W.lcmp hx hb d_L_law_464 ?_
  exact lv_if_eq (tgt := 470) hx hb d_L_law_465 (by decide) (fun _ => KE) (fun h => absurd (kp_cmp0.mpr ((hov h0).trans (hval h0))) h)
set_option maxRecDepth 100000 in
set_option maxHeartbeats 4000000 in
theorem kS_limit {p : Program} {l : Launch} {e : Env} {s : State} {m : MethodId} {below : List Frame} {meth : Method} {c : Code} {H : Heap} {locs : List Loc} {cells slots : Nat} {Q : State → Prop} {ls : Array Slot} {D : va_G} {cI cB cJ cQ cW dI dZ : ClassId} {b L i a0 aR ao : Nat} {xs : Nat → Int32} {x : kMS} {r : kRS} {ov : Int64} (C0 : kCx p l s m c b L xs D cI cB cJ cQ cW dI dZ) (hi : i + 7 ≤ L) (hZ : kZ x r) (hV : kV D cI cB cJ cQ cW dI dZ s.heap.size a0 aR ao x r ov H) (hS : va_S (kV_A s) s.heap H locs) (hl : lv_has ls 7 [(0, .ref b), (1, .ref a0), (2, .ref aR), (3, .ref ao), (4, .int (nI i))]) (hf : cells + 1 ≤ room_1.cells ∧ slots + 6 ≤ room_1.slots) (KK : ∀ (H1 : Heap) (locs1 : List Loc) (ls1 : Array Slot) (x1 : kMS) (r1 : kRS) (ov1 : Int64), kZ x1 r1 → kV D cI cB cJ cQ cW dI dZ s.heap.size a0 aR ao x1 r1 ov1 H1 → va_S (kV_A s) s.heap H1 locs1 → lv_has ls1 7 [(0, .ref b), (1, .ref a0), (2, .ref aR), (3, .ref ao), (4, .int (nI i))] → W p l e room_1 s m #[Value.ref b] below meth c H1 locs1 (cells + 1) (slots + 6) Q (F0 m 673 ls1 [])) : W p l e room_1 s m #[Value.ref b] below meth c H locs cells slots Q (F0 m 473 ls []) := by
  obtain ⟨htr, hx, hb, hml, hown, hg, hK, hKR, hSt, hX, hbl, hL⟩ := C0
  obtain ⟨k, x1, val, r1, bb, hth, hval, hZ1, hLc, hRm⟩ := kO_limit (D := D) (cI := cI) (cB := cB) (cJ := cJ) (cQ := cQ) (cW := cW) (dI := dI) (dZ := dZ) l htr hZ (xs (i + 1))
  refine lv_aload_n hx hb d_L_law_473 rfl (lv_at hl 1 rfl) ?_
  refine lv_aload_n hx hb d_L_law_474 rfl (lv_at hl 0 rfl) ?_
  refine lv_iload hx hb d_L_law_475 (lv_at hl 4 rfl) ?_
  refine lv_iconst (v := 1) hx hb d_L_law_477 (by decide) ?_
  refine lv_iadd hx hb d_L_law_478 ?_
  refine kV_rd hx hb hX hbl hS hL (j := i + 1) (by omega) (nI_add i 1) d_L_law_479 ?_
  refine lv_aload_n hx hb d_L_law_480 rfl (lv_at hl 3 rfl) ?_
  refine kV_L (vs := [.int (xs (i + 1))]) (k := k) (x1 := x1) (val := val) ⟨hx, hb, hml, hown, hg⟩ hK hSt hV hS hLc kg_572 kg_0 kg_571 kg_570 ⟨by decide, by decide⟩ (by decide) (by decide) (kV_len (n := 3) (by decide +kernel)) hl.1 rfl d_L_law_481 hf (fun H locs ov1 hov hV hS => ?_)
  refine lv_istore (lv' := [(5, .int k), (0, .ref b), (1, .ref a0), (2, .ref aR), (3, .ref ao), (4, .int (nI i))]) hx hb d_L_law_484 hl (by decide) rfl (fun ls hl => ?_)
  refine lv_aload_n hx hb d_L_law_486 rfl (lv_at hl 3 rfl) ?_
  refine lv_aload_n hx hb d_L_law_487 rfl (lv_at hl 1 rfl) ?_
  refine lv_iload hx hb d_L_law_488 (lv_at hl 5 rfl) ?_
  refine lv_iconst (v := 1) hx hb d_L_law_490 (by decide) ?_
  refine lv_iadd hx hb d_L_law_491 ?_
  refine kV_rd hx hb hX hbl hS hL (j := i + 1) (by omega) (nI_add i 1) d_L_law_492 ?_
  refine kV_R (vs := [.int (xs (i + 1))]) (rest := []) (b := bb) (r1 := r1) ⟨hx, hb, hml, hown, hg⟩ hKR hV hS hRm ⟨callB_of 1 hg (kg_goodG kg_820) rfl rfl rfl (hg _ kg_7) (hg _ kg_817) (by decide +kernel) ⟨by decide, by decide⟩, hg _ kg_818, hg _ kg_819⟩ rfl hl.1 rfl (Nat.le_of_ble_eq_true rfl) d_L_law_493 hf (fun H locs hV hS => ?_)
  refine lv_istore (lv' := [(6, .int bb), (5, .int k), (0, .ref b), (1, .ref a0), (2, .ref aR), (3, .ref ao), (4, .int (nI i))]) hx hb d_L_law_496 hl (by decide) rfl (fun ls hl => ?_)
  refine lv_aload_n hx hb d_L_law_498 rfl (lv_at hl 4 rfl) ?_
  refine kV_R (vs := []) (rest := []) (b := k) (r1 := r1) ⟨hx, hb, hml, hown, hg⟩ hKR hV hS (fun ad cs hJ h => by rw [← hth]; exact kw_ex (c_R_thrown l (Nat.le_refl _) h) h) ⟨callB_of 0 hg (kg_goodG kg_681) rfl rfl rfl (hg _ kg_7) (hg _ kg_678) (by decide +kernel) ⟨by decide, by decide⟩, hg _ kg_679, hg _ kg_680⟩ rfl hl.1 rfl (Nat.le_of_ble_eq_true rfl) d_L_law_499 hf (fun H locs hV hS => ?_)
  refine lv_iload hx hb d_L_law_502 (lv_at hl 1 rfl) ?_
  refine lv_icmp_eq (tgt := 509) hx hb d_L_law_504 (by decide) (fun _ => ?_) (fun h => absurd rfl h)
  refine lv_iload hx hb d_L_law_509 (lv_at hl 1 rfl) ?_
  have KE : W p l e room_1 s m #[Value.ref b] below meth c H locs (cells + 1) (slots + 6) Q (F0 m 533 ls []) := lv_goto (tgt := 673) hx hb d_L_law_533 (by decide) (KK H locs ls x1 r1 ov1 hZ1 hV hS (lv_sub hl [2, 3, 4, 5, 6] rfl))
  refine lv_if_ne (tgt := 533) hx hb d_L_law_511 (by decide) (fun _ => KE) (fun h0 => ?_)
  refine lv_aload_n hx hb d_L_law_514 rfl (lv_at hl 5 rfl) ?_
  refine lv_iconst (v := 0) hx hb d_L_law_515 (by decide) ?_
  refine kV_ld hx hb hK hV d_L_law_516 ?_
  refine lv_iload hx hb d_L_law_517 (lv_at hl 0 rfl) ?_
  refine kV_bl hx hb d_L_law_519 d_L_law_522 d_L_law_523 d_L_law_526 ?_
  refine W.lcmp hx hb d_L_law_527 ?_
  exact lv_if_eq (tgt := 533) hx hb d_L_law_528 (by decide) (fun _ => KE) (fun h => absurd (kp_cmp0.mpr ((hov h0).trans (hval h0))) h)
set_option maxRecDepth 100000 in
set_option maxHeartbeats 4000000 in
theorem kS_scalar {p : Program} {l : Launch} {e : Env} {s : State} {m : MethodId} {below : List Frame} {meth : Method} {c : Code} {H : Heap} {locs : List Loc} {cells slots : Nat} {Q : State → Prop} {ls : Array Slot} {D : va_G} {cI cB cJ cQ cW dI dZ : ClassId} {b L i a0 aR ao : Nat} {xs : Nat → Int32} {x : kMS} {r : kRS} {ov : Int64} (C0 : kCx p l s m c b L xs D cI cB cJ cQ cW dI dZ) (hi : i + 7 ≤ L) (hZ : kZ x r) (hV : kV D cI cB cJ cQ cW dI dZ s.heap.size a0 aR ao x r ov H) (hS : va_S (kV_A s) s.heap H locs) (hl : lv_has ls 7 [(0, .ref b), (1, .ref a0), (2, .ref aR), (3, .ref ao), (4, .int (nI i))]) (hf : cells + 1 ≤ room_1.cells ∧ slots + 6 ≤ room_1.slots) (KK : ∀ (H1 : Heap) (locs1 : List Loc) (ls1 : Array Slot) (x1 : kMS) (r1 : kRS) (ov1 : Int64), kZ x1 r1 → kV D cI cB cJ cQ cW dI dZ s.heap.size a0 aR ao x1 r1 ov1 H1 → va_S (kV_A s) s.heap H1 locs1 → lv_has ls1 7 [(0, .ref b), (1, .ref a0), (2, .ref aR), (3, .ref ao), (4, .int (nI i))] → W p l e room_1 s m #[Value.ref b] below meth c H1 locs1 (cells + 1) (slots + 6) Q (F0 m 673 ls1 [])) : W p l e room_1 s m #[Value.ref b] below meth c H locs cells slots Q (F0 m 536 ls []) := by
  obtain ⟨htr, hx, hb, hml, hown, hg, hK, hKR, hSt, hX, hbl, hL⟩ := C0
  have hf2 : cells ≤ room_1.cells ∧ slots ≤ room_1.slots := ⟨Nat.le_of_succ_le hf.1, Nat.le_trans (Nat.le_add_right _ 6) hf.2⟩
  refine lv_aload_n hx hb d_L_law_536 rfl (lv_at hl 1 rfl) ?_
  refine lv_aload_n hx hb d_L_law_537 rfl (lv_at hl 0 rfl) ?_
  refine lv_iload hx hb d_L_law_538 (lv_at hl 4 rfl) ?_
  refine lv_iconst (v := 1) hx hb d_L_law_540 (by decide) ?_
  refine lv_iadd hx hb d_L_law_541 ?_
  refine kV_rd hx hb hX hbl hS hL (j := i + 1) (by omega) (nI_add i 1) d_L_law_542 ?_
  refine kV_M (vs := [.int (xs (i + 1))]) (rest := []) (dR := 0) (b := kv_M_scalar (xs (i + 1)) x.X) ⟨hx, hb, hml, hown, hg⟩ hK hV hS (fun ad cs hJ h => c_M_scalar l (by omega) (kM_0 h) (by omega) (kM_1 h)) ⟨callB_of 1 hg (kg_goodG kg_208) rfl rfl rfl (hg _ kg_1) (hg _ kg_205) (by decide +kernel) ⟨by decide, by decide⟩, hg _ kg_206, hg _ kg_207⟩ rfl hl.1 rfl (Nat.le_of_ble_eq_true rfl) d_L_law_543 hf2 (fun H locs hV hS => ?_)
  refine lv_aload_n hx hb d_L_law_546 rfl (lv_at hl 2 rfl) ?_
  refine lv_aload_n hx hb d_L_law_547 rfl (lv_at hl 0 rfl) ?_
  refine lv_iload hx hb d_L_law_548 (lv_at hl 4 rfl) ?_
  refine lv_iconst (v := 1) hx hb d_L_law_550 (by decide) ?_
  refine lv_iadd hx hb d_L_law_551 ?_
  refine kV_rd hx hb hX hbl hS hL (j := i + 1) (by omega) (nI_add i 1) d_L_law_552 ?_
  refine kV_R (vs := [.int (xs (i + 1))]) (rest := [.int (kv_M_scalar (xs (i + 1)) x.X)]) (dR := 1) (b := kv_R_scalar r.X (xs (i + 1))) (r1 := kq_th r 0) ⟨hx, hb, hml, hown, hg⟩ hKR hV hS (fun ad cs hJ h => kw_ex (c_R_scalar l hJ (Nat.le_refl _) h) (kR_th 0 h)) ⟨callB_of 1 hg (kg_goodG kg_824) rfl rfl rfl (hg _ kg_7) (hg _ kg_821) (by decide +kernel) ⟨by decide, by decide⟩, hg _ kg_822, hg _ kg_823⟩ rfl hl.1 rfl (Nat.le_of_ble_eq_true rfl) d_L_law_553 hf2 (fun H locs hV hS => ?_)
  refine W.widen (k := cells + 1) (n := slots + 6) (by omega) (by omega) ?_
  exact lv_icmp_eq (tgt := 673) hx hb d_L_law_556 (by decide) (fun _ => KK H locs ls x (kq_th r 0) ov (hZ.tho 0) hV hS hl) (fun h => absurd (hZ.scalar (xs (i + 1))) h)
set_option maxRecDepth 100000 in
set_option maxHeartbeats 4000000 in
theorem kS_file {p : Program} {l : Launch} {e : Env} {s : State} {m : MethodId} {below : List Frame} {meth : Method} {c : Code} {H : Heap} {locs : List Loc} {cells slots : Nat} {Q : State → Prop} {ls : Array Slot} {D : va_G} {cI cB cJ cQ cW dI dZ : ClassId} {b L i a0 aR ao : Nat} {xs : Nat → Int32} {x : kMS} {r : kRS} {ov : Int64} (C0 : kCx p l s m c b L xs D cI cB cJ cQ cW dI dZ) (hi : i + 7 ≤ L) (hZ : kZ x r) (hV : kV D cI cB cJ cQ cW dI dZ s.heap.size a0 aR ao x r ov H) (hS : va_S (kV_A s) s.heap H locs) (hl : lv_has ls 7 [(0, .ref b), (1, .ref a0), (2, .ref aR), (3, .ref ao), (4, .int (nI i))]) (hf : cells + 1 ≤ room_1.cells ∧ slots + 6 ≤ room_1.slots) (KK : ∀ (H1 : Heap) (locs1 : List Loc) (ls1 : Array Slot) (x1 : kMS) (r1 : kRS) (ov1 : Int64), kZ x1 r1 → kV D cI cB cJ cQ cW dI dZ s.heap.size a0 aR ao x1 r1 ov1 H1 → va_S (kV_A s) s.heap H1 locs1 → lv_has ls1 7 [(0, .ref b), (1, .ref a0), (2, .ref aR), (3, .ref ao), (4, .int (nI i))] → W p l e room_1 s m #[Value.ref b] below meth c H1 locs1 (cells + 1) (slots + 6) Q (F0 m 673 ls1 [])) : W p l e room_1 s m #[Value.ref b] below meth c H locs cells slots Q (F0 m 561 ls []) := by
  obtain ⟨htr, hx, hb, hml, hown, hg, hK, hKR, hSt, hX, hbl, hL⟩ := C0
  have hf2 : cells ≤ room_1.cells ∧ slots ≤ room_1.slots := ⟨Nat.le_of_succ_le hf.1, Nat.le_trans (Nat.le_add_right _ 6) hf.2⟩
  refine lv_aload_n hx hb d_L_law_561 rfl (lv_at hl 1 rfl) ?_
  refine lv_aload_n hx hb d_L_law_562 rfl (lv_at hl 0 rfl) ?_
  refine lv_iload hx hb d_L_law_563 (lv_at hl 4 rfl) ?_
  refine lv_iconst (v := 1) hx hb d_L_law_565 (by decide) ?_
  refine lv_iadd hx hb d_L_law_566 ?_
  refine kV_rd hx hb hX hbl hS hL (j := i + 1) (by omega) (nI_add i 1) d_L_law_567 ?_
  refine kV_M (vs := [.int (xs (i + 1))]) (rest := []) (dR := 2) (b := kv_M_file (xs (i + 1)) x.F) ⟨hx, hb, hml, hown, hg⟩ hK hV hS (fun ad cs hJ h => c_M_file l (by omega) (kM_0 h) (by omega) (kM_2 h) (by omega) (kM_3 h)) ⟨callB_of 1 hg (kg_goodG kg_212) rfl rfl rfl (hg _ kg_1) (hg _ kg_209) (by decide +kernel) ⟨by decide, by decide⟩, hg _ kg_210, hg _ kg_211⟩ rfl hl.1 rfl (Nat.le_of_ble_eq_true rfl) d_L_law_568 hf2 (fun H locs hV hS => ?_)
  refine lv_aload_n hx hb d_L_law_571 rfl (lv_at hl 2 rfl) ?_
  refine lv_aload_n hx hb d_L_law_572 rfl (lv_at hl 0 rfl) ?_
  refine lv_iload hx hb d_L_law_573 (lv_at hl 4 rfl) ?_
  refine lv_iconst (v := 1) hx hb d_L_law_575 (by decide) ?_
  refine lv_iadd hx hb d_L_law_576 ?_
  refine kV_rd hx hb hX hbl hS hL (j := i + 1) (by omega) (nI_add i 1) d_L_law_577 ?_
  refine kV_R (vs := [.int (xs (i + 1))]) (rest := [.int (kv_M_file (xs (i + 1)) x.F)]) (dR := 0) (b := kv_R_file r.F (xs (i + 1))) (r1 := kq_th r 0) ⟨hx, hb, hml, hown, hg⟩ hKR hV hS (fun ad cs hJ h => kw_ex (c_R_file l hJ (Nat.le_refl _) h) (kR_th 0 h)) ⟨callB_of 1 hg (kg_goodG kg_828) rfl rfl rfl (hg _ kg_7) (hg _ kg_825) (by decide +kernel) ⟨by decide, by decide⟩, hg _ kg_826, hg _ kg_827⟩ rfl hl.1 rfl (Nat.le_of_ble_eq_true rfl) d_L_law_578 hf2 (fun H locs hV hS => ?_)
  refine W.widen (k := cells + 1) (n := slots + 6) (by omega) (by omega) ?_
  exact lv_icmp_eq (tgt := 673) hx hb d_L_law_581 (by decide) (fun _ => KK H locs ls x (kq_th r 0) ov (hZ.tho 0) hV hS hl) (fun h => absurd (hZ.file (xs (i + 1))) h)
set_option maxRecDepth 100000 in
set_option maxHeartbeats 4000000 in
theorem kS_memory {p : Program} {l : Launch} {e : Env} {s : State} {m : MethodId} {below : List Frame} {meth : Method} {c : Code} {H : Heap} {locs : List Loc} {cells slots : Nat} {Q : State → Prop} {ls : Array Slot} {D : va_G} {cI cB cJ cQ cW dI dZ : ClassId} {b L i a0 aR ao : Nat} {xs : Nat → Int32} {x : kMS} {r : kRS} {ov : Int64} (C0 : kCx p l s m c b L xs D cI cB cJ cQ cW dI dZ) (hi : i + 7 ≤ L) (hZ : kZ x r) (hV : kV D cI cB cJ cQ cW dI dZ s.heap.size a0 aR ao x r ov H) (hS : va_S (kV_A s) s.heap H locs) (hl : lv_has ls 7 [(0, .ref b), (1, .ref a0), (2, .ref aR), (3, .ref ao), (4, .int (nI i))]) (hf : cells + 1 ≤ room_1.cells ∧ slots + 6 ≤ room_1.slots) (KK : ∀ (H1 : Heap) (locs1 : List Loc) (ls1 : Array Slot) (x1 : kMS) (r1 : kRS) (ov1 : Int64), kZ x1 r1 → kV D cI cB cJ cQ cW dI dZ s.heap.size a0 aR ao x1 r1 ov1 H1 → va_S (kV_A s) s.heap H1 locs1 → lv_has ls1 7 [(0, .ref b), (1, .ref a0), (2, .ref aR), (3, .ref ao), (4, .int (nI i))] → W p l e room_1 s m #[Value.ref b] below meth c H1 locs1 (cells + 1) (slots + 6) Q (F0 m 673 ls1 [])) : W p l e room_1 s m #[Value.ref b] below meth c H locs cells slots Q (F0 m 586 ls []) := by
  obtain ⟨htr, hx, hb, hml, hown, hg, hK, hKR, hSt, hX, hbl, hL⟩ := C0
  have hf2 : cells ≤ room_1.cells ∧ slots ≤ room_1.slots := ⟨Nat.le_of_succ_le hf.1, Nat.le_trans (Nat.le_add_right _ 6) hf.2⟩
  refine lv_aload_n hx hb d_L_law_586 rfl (lv_at hl 1 rfl) ?_
  refine lv_aload_n hx hb d_L_law_587 rfl (lv_at hl 0 rfl) ?_
  refine lv_iload hx hb d_L_law_588 (lv_at hl 4 rfl) ?_
  refine lv_iconst (v := 1) hx hb d_L_law_590 (by decide) ?_
  refine lv_iadd hx hb d_L_law_591 ?_
  refine kV_rd hx hb hX hbl hS hL (j := i + 1) (by omega) (nI_add i 1) d_L_law_592 ?_
  refine kV_M (vs := [.int (xs (i + 1))]) (rest := []) (dR := 2) (b := kv_M_memory (xs (i + 1)) x.G) ⟨hx, hb, hml, hown, hg⟩ hK hV hS (fun ad cs hJ h => c_M_memory l (by omega) (kM_0 h) (by omega) (kM_4 h) (by omega) (kM_5 h)) ⟨callB_of 1 hg (kg_goodG kg_224) rfl rfl rfl (hg _ kg_1) (hg _ kg_221) (by decide +kernel) ⟨by decide, by decide⟩, hg _ kg_222, hg _ kg_223⟩ rfl hl.1 rfl (Nat.le_of_ble_eq_true rfl) d_L_law_593 hf2 (fun H locs hV hS => ?_)
  refine lv_aload_n hx hb d_L_law_596 rfl (lv_at hl 2 rfl) ?_
  refine lv_aload_n hx hb d_L_law_597 rfl (lv_at hl 0 rfl) ?_
  refine lv_iload hx hb d_L_law_598 (lv_at hl 4 rfl) ?_
  refine lv_iconst (v := 1) hx hb d_L_law_600 (by decide) ?_
  refine lv_iadd hx hb d_L_law_601 ?_
  refine kV_rd hx hb hX hbl hS hL (j := i + 1) (by omega) (nI_add i 1) d_L_law_602 ?_
  refine kV_R (vs := [.int (xs (i + 1))]) (rest := [.int (kv_M_memory (xs (i + 1)) x.G)]) (dR := 0) (b := kv_R_memory r.M (xs (i + 1))) (r1 := kq_th r 0) ⟨hx, hb, hml, hown, hg⟩ hKR hV hS (fun ad cs hJ h => kw_ex (c_R_memory l hJ (Nat.le_refl _) h) (kR_th 0 h)) ⟨callB_of 1 hg (kg_goodG kg_832) rfl rfl rfl (hg _ kg_7) (hg _ kg_829) (by decide +kernel) ⟨by decide, by decide⟩, hg _ kg_830, hg _ kg_831⟩ rfl hl.1 rfl (Nat.le_of_ble_eq_true rfl) d_L_law_603 hf2 (fun H locs hV hS => ?_)
  refine W.widen (k := cells + 1) (n := slots + 6) (by omega) (by omega) ?_
  exact lv_icmp_eq (tgt := 673) hx hb d_L_law_606 (by decide) (fun _ => KK H locs ls x (kq_th r 0) ov (hZ.tho 0) hV hS hl) (fun h => absurd (hZ.memory (xs (i + 1))) h)
set_option maxRecDepth 100000 in
set_option maxHeartbeats 4000000 in
theorem kS_about {p : Program} {l : Launch} {e : Env} {s : State} {m : MethodId} {below : List Frame} {meth : Method} {c : Code} {H : Heap} {locs : List Loc} {cells slots : Nat} {Q : State → Prop} {ls : Array Slot} {D : va_G} {cI cB cJ cQ cW dI dZ : ClassId} {b L i a0 aR ao : Nat} {xs : Nat → Int32} {x : kMS} {r : kRS} {ov : Int64} (C0 : kCx p l s m c b L xs D cI cB cJ cQ cW dI dZ) (hi : i + 7 ≤ L) (hZ : kZ x r) (hV : kV D cI cB cJ cQ cW dI dZ s.heap.size a0 aR ao x r ov H) (hS : va_S (kV_A s) s.heap H locs) (hl : lv_has ls 7 [(0, .ref b), (1, .ref a0), (2, .ref aR), (3, .ref ao), (4, .int (nI i))]) (hf : cells + 1 ≤ room_1.cells ∧ slots + 6 ≤ room_1.slots) (KK : ∀ (H1 : Heap) (locs1 : List Loc) (ls1 : Array Slot) (x1 : kMS) (r1 : kRS) (ov1 : Int64), kZ x1 r1 → kV D cI cB cJ cQ cW dI dZ s.heap.size a0 aR ao x1 r1 ov1 H1 → va_S (kV_A s) s.heap H1 locs1 → lv_has ls1 7 [(0, .ref b), (1, .ref a0), (2, .ref aR), (3, .ref ao), (4, .int (nI i))] → W p l e room_1 s m #[Value.ref b] below meth c H1 locs1 (cells + 1) (slots + 6) Q (F0 m 673 ls1 [])) : W p l e room_1 s m #[Value.ref b] below meth c H locs cells slots Q (F0 m 611 ls []) := by
  obtain ⟨htr, hx, hb, hml, hown, hg, hK, hKR, hSt, hX, hbl, hL⟩ := C0
  have hf2 : cells ≤ room_1.cells ∧ slots ≤ room_1.slots := ⟨Nat.le_of_succ_le hf.1, Nat.le_trans (Nat.le_add_right _ 6) hf.2⟩
  refine lv_aload_n hx hb d_L_law_611 rfl (lv_at hl 1 rfl) ?_
  refine lv_aload_n hx hb d_L_law_612 rfl (lv_at hl 0 rfl) ?_
  refine lv_iload hx hb d_L_law_613 (lv_at hl 4 rfl) ?_
  refine lv_iconst (v := 1) hx hb d_L_law_615 (by decide) ?_
  refine lv_iadd hx hb d_L_law_616 ?_
  refine kV_rd hx hb hX hbl hS hL (j := i + 1) (by omega) (nI_add i 1) d_L_law_617 ?_
  refine kV_M (vs := [.int (xs (i + 1))]) (rest := []) (dR := 1) (b := kv_M_about x.ma x.qu x.st x.bo x.nx x.cy x.sd (nI x.wp) (nI x.gp) (nI x.ln) (nI x.sa) (xs (i + 1))) ⟨hx, hb, hml, hown, hg⟩ hK hV hS (fun ad cs hJ h => c_M_about l (by omega) (kM_0 h) (by omega) (kM_6 h)) ⟨callB_of 1 hg (kg_goodG kg_228) rfl rfl rfl (hg _ kg_1) (hg _ kg_225) (by decide +kernel) ⟨by decide, by decide⟩, hg _ kg_226, hg _ kg_227⟩ rfl hl.1 rfl (Nat.le_of_ble_eq_true rfl) d_L_law_618 hf2 (fun H locs hV hS => ?_)
  refine lv_aload_n hx hb d_L_law_621 rfl (lv_at hl 2 rfl) ?_
  refine lv_aload_n hx hb d_L_law_622 rfl (lv_at hl 0 rfl) ?_
  refine lv_iload hx hb d_L_law_623 (lv_at hl 4 rfl) ?_
  refine lv_iconst (v := 1) hx hb d_L_law_625 (by decide) ?_
  refine lv_iadd hx hb d_L_law_626 ?_
  refine kV_rd hx hb hX hbl hS hL (j := i + 1) (by omega) (nI_add i 1) d_L_law_627 ?_
  refine kV_R (vs := [.int (xs (i + 1))]) (rest := [.int (kv_M_about x.ma x.qu x.st x.bo x.nx x.cy x.sd (nI x.wp) (nI x.gp) (nI x.ln) (nI x.sa) (xs (i + 1)))]) (dR := 0) (b := kv_R_about r.st r.nx r.wi r.gp r.vl r.sa r.bo r.cy r.sd r.ma r.qu (xs (i + 1))) (r1 := kq_th r 0) ⟨hx, hb, hml, hown, hg⟩ hKR hV hS (fun ad cs hJ h => kw_ex (c_R_about l hJ (Nat.le_refl _) h) (kR_th 0 h)) ⟨callB_of 1 hg (kg_goodG kg_836) rfl rfl rfl (hg _ kg_7) (hg _ kg_833) (by decide +kernel) ⟨by decide, by decide⟩, hg _ kg_834, hg _ kg_835⟩ rfl hl.1 rfl (Nat.le_of_ble_eq_true rfl) d_L_law_628 hf2 (fun H locs hV hS => ?_)
  refine W.widen (k := cells + 1) (n := slots + 6) (by omega) (by omega) ?_
  exact lv_icmp_eq (tgt := 673) hx hb d_L_law_631 (by decide) (fun _ => KK H locs ls x (kq_th r 0) ov (hZ.tho 0) hV hS hl) (fun h => absurd (hZ.about (xs (i + 1))) h)
set_option maxRecDepth 100000 in
set_option maxHeartbeats 4000000 in
theorem kS_queue {p : Program} {l : Launch} {e : Env} {s : State} {m : MethodId} {below : List Frame} {meth : Method} {c : Code} {H : Heap} {locs : List Loc} {cells slots : Nat} {Q : State → Prop} {ls : Array Slot} {D : va_G} {cI cB cJ cQ cW dI dZ : ClassId} {b L i a0 aR ao : Nat} {xs : Nat → Int32} {x : kMS} {r : kRS} {ov : Int64} (C0 : kCx p l s m c b L xs D cI cB cJ cQ cW dI dZ) (hi : i + 7 ≤ L) (hZ : kZ x r) (hV : kV D cI cB cJ cQ cW dI dZ s.heap.size a0 aR ao x r ov H) (hS : va_S (kV_A s) s.heap H locs) (hl : lv_has ls 7 [(0, .ref b), (1, .ref a0), (2, .ref aR), (3, .ref ao), (4, .int (nI i))]) (hf : cells + 1 ≤ room_1.cells ∧ slots + 6 ≤ room_1.slots) (KK : ∀ (H1 : Heap) (locs1 : List Loc) (ls1 : Array Slot) (x1 : kMS) (r1 : kRS) (ov1 : Int64), kZ x1 r1 → kV D cI cB cJ cQ cW dI dZ s.heap.size a0 aR ao x1 r1 ov1 H1 → va_S (kV_A s) s.heap H1 locs1 → lv_has ls1 7 [(0, .ref b), (1, .ref a0), (2, .ref aR), (3, .ref ao), (4, .int (nI i))] → W p l e room_1 s m #[Value.ref b] below meth c H1 locs1 (cells + 1) (slots + 6) Q (F0 m 673 ls1 [])) : W p l e room_1 s m #[Value.ref b] below meth c H locs cells slots Q (F0 m 636 ls []) := by
  obtain ⟨htr, hx, hb, hml, hown, hg, hK, hKR, hSt, hX, hbl, hL⟩ := C0
  have hf2 : cells ≤ room_1.cells ∧ slots ≤ room_1.slots := ⟨Nat.le_of_succ_le hf.1, Nat.le_trans (Nat.le_add_right _ 6) hf.2⟩
  refine lv_aload_n hx hb d_L_law_636 rfl (lv_at hl 1 rfl) ?_
  refine lv_aload_n hx hb d_L_law_637 rfl (lv_at hl 0 rfl) ?_
  refine lv_iload hx hb d_L_law_638 (lv_at hl 4 rfl) ?_
  refine lv_iconst (v := 1) hx hb d_L_law_640 (by decide) ?_
  refine lv_iadd hx hb d_L_law_641 ?_
  refine kV_rd hx hb hX hbl hS hL (j := i + 1) (by omega) (nI_add i 1) d_L_law_642 ?_
  refine lv_aload_n hx hb d_L_law_643 rfl (lv_at hl 0 rfl) ?_
  refine lv_iload hx hb d_L_law_644 (lv_at hl 4 rfl) ?_
  refine lv_iconst (v := 2) hx hb d_L_law_646 (by decide) ?_
  refine lv_iadd hx hb d_L_law_647 ?_
  refine kV_rd hx hb hX hbl hS hL (j := i + 2) (by omega) (nI_add i 2) d_L_law_648 ?_
  refine kV_M (vs := [.int (xs (i + 1)), .int (xs (i + 2))]) (rest := []) (dR := 2) (b := kv_M_queue x.qu x.wk x.po x.fr x.wi x.nu x.tt x.dn (xs (i + 1)) (xs (i + 2))) ⟨hx, hb, hml, hown, hg⟩ hK hV hS (fun ad cs hJ h => c_M_queue l (Nat.le_refl _) h) ⟨callB_of 2 hg (kg_goodG kg_240) rfl rfl rfl (hg _ kg_1) (hg _ kg_237) (by decide +kernel) ⟨by decide, by decide⟩, hg _ kg_238, hg _ kg_239⟩ rfl hl.1 rfl (Nat.le_of_ble_eq_true rfl) d_L_law_649 hf2 (fun H locs hV hS => ?_)
  refine lv_aload_n hx hb d_L_law_652 rfl (lv_at hl 2 rfl) ?_
  refine lv_aload_n hx hb d_L_law_653 rfl (lv_at hl 0 rfl) ?_
  refine lv_iload hx hb d_L_law_654 (lv_at hl 4 rfl) ?_
  refine lv_iconst (v := 1) hx hb d_L_law_656 (by decide) ?_
  refine lv_iadd hx hb d_L_law_657 ?_
  refine kV_rd hx hb hX hbl hS hL (j := i + 1) (by omega) (nI_add i 1) d_L_law_658 ?_
  refine lv_aload_n hx hb d_L_law_659 rfl (lv_at hl 0 rfl) ?_
  refine lv_iload hx hb d_L_law_660 (lv_at hl 4 rfl) ?_
  refine lv_iconst (v := 2) hx hb d_L_law_662 (by decide) ?_
  refine lv_iadd hx hb d_L_law_663 ?_
  refine kV_rd hx hb hX hbl hS hL (j := i + 2) (by omega) (nI_add i 2) d_L_law_664 ?_
  refine kV_R (vs := [.int (xs (i + 1)), .int (xs (i + 2))]) (rest := [.int (kv_M_queue x.qu x.wk x.po x.fr x.wi x.nu x.tt x.dn (xs (i + 1)) (xs (i + 2)))]) (dR := 0) (b := kv_R_queue r.qu r.wh r.sp r.dn (xs (i + 1)) (xs (i + 2))) (r1 := kq_th r 0) ⟨hx, hb, hml, hown, hg⟩ hKR hV hS (fun ad cs hJ h => c_R_queue l hJ (Nat.le_refl _) h (Nat.le_trans hZ.1.2.1.2.1 (by decide))) ⟨callB_of 2 hg (kg_goodG kg_840) rfl rfl rfl (hg _ kg_7) (hg _ kg_837) (by decide +kernel) ⟨by decide, by decide⟩, hg _ kg_838, hg _ kg_839⟩ rfl hl.1 rfl (Nat.le_of_ble_eq_true rfl) d_L_law_665 hf2 (fun H locs hV hS => ?_)
  refine W.widen (k := cells + 1) (n := slots + 6) (by omega) (by omega) ?_
  exact lv_icmp_eq (tgt := 673) hx hb d_L_law_668 (by decide) (fun _ => KK H locs ls x (kq_th r 0) ov (hZ.tho 0) hV hS hl) (fun h => absurd (hZ.queue (xs (i + 1)) (xs (i + 2))) h)
