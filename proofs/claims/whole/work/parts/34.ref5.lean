/-! the reference: reads -/
def kv_rs (a w f0 : Nat) (z : Int32) : Nat → Nat → Int64 → Int64
  | 0, _, v => v
  | k + 1, e, v => if z = 0 then kv_rs a w f0 z k (e + 1) (v ||| kv_R_bytes (8 * nI a + (nI f0 + nI e) * nI w) (nI w))
    else kv_rs a w f0 z k (e + 1) ((v ||| kv_R_bytes (8 * nI a + (nI f0 + nI e) * nI w) (nI w)) ||| kv_R_bytes ((nI f0 + nI e) / 8) 1)
def kv_rg (a : Nat) : Nat → Nat → Int64 → Int64
  | 0, _, v => v
  | k + 1, e, v => kv_rg a k (e + 1) (v ||| kv_R_bytes (8 * nI a + nI e) 1)

def kv_R_reads (po : Nat → Nat) (pd : Nat → Nat) (pa : Nat → Nat) (pb : Nat → Nat) (pm : Nat → Int32) (wh : Nat → Nat) (wd : Nat → Nat) (rg : Nat → Nat) (fr : Nat → Nat) (XB : Nat → Int32) (q : Nat) (t : Nat) (vq : Nat) : Int64 := if (nI (po (wh q))) = 14 then (kv_rs (pa (wh q)) (wd q) (fr q) (pm (wh q)) (vq - fr q) 0 (kv_R_bytes (8 * nI (pb (wh q))) (nI (wd q)))) else if (nI (po (wh q))) ≤ 11 then (if (nI (po (wh q))) = 11 then (if (pm (wh q)) = 0 then (kv_R_bytes ((8 * (nI (pa (wh q)))) + (((nI (fr q)) + (nI t)) * (nI (wd q)))) (nI (wd q))) else ((kv_R_bytes ((8 * (nI (pa (wh q)))) + (((nI (fr q)) + (nI t)) * (nI (wd q)))) (nI (wd q))) ||| (kv_R_bytes (((nI (fr q)) + (nI t)) / 8) 1))) else if (pm (wh q)) = 0 then ((kv_R_bytes ((8 * (nI (pa (wh q)))) + (((nI (fr q)) + (nI t)) * (nI (wd q)))) (nI (wd q))) ||| (kv_R_bytes ((8 * (nI (pb (wh q)))) + (((nI (fr q)) + (nI t)) * (nI (wd q)))) (nI (wd q)))) else (((kv_R_bytes ((8 * (nI (pa (wh q)))) + (((nI (fr q)) + (nI t)) * (nI (wd q)))) (nI (wd q))) ||| (kv_R_bytes ((8 * (nI (pb (wh q)))) + (((nI (fr q)) + (nI t)) * (nI (wd q)))) (nI (wd q)))) ||| (kv_R_bytes (((nI (fr q)) + (nI t)) / 8) 1))) else if (nI (po (wh q))) = 12 then (if (pm (wh q)) = 0 then ((kv_R_bytes ((8 * (nI (pa (wh q)))) + (((nI (fr q)) + (nI t)) * (nI (wd q)))) (nI (wd q))) ||| (kv_R_bytes ((8 * (nI (pb (wh q)))) + (((nI (fr q)) + (nI t)) * (nI (wd q)))) (nI (wd q)))) else (((kv_R_bytes ((8 * (nI (pa (wh q)))) + (((nI (fr q)) + (nI t)) * (nI (wd q)))) (nI (wd q))) ||| (kv_R_bytes ((8 * (nI (pb (wh q)))) + (((nI (fr q)) + (nI t)) * (nI (wd q)))) (nI (wd q)))) ||| (kv_R_bytes (((nI (fr q)) + (nI t)) / 8) 1))) else if (nI (po (wh q))) = 13 then (if (pm (wh q)) = 0 then ((kv_R_bytes ((8 * (nI (pa (wh q)))) + (((nI (fr q)) + (nI t)) * (nI (wd q)))) (nI (wd q))) ||| (kv_R_bytes ((8 * (nI (pb (wh q)))) + (((nI (fr q)) + (nI t)) * (nI (wd q)))) (nI (wd q)))) else (((kv_R_bytes ((8 * (nI (pa (wh q)))) + (((nI (fr q)) + (nI t)) * (nI (wd q)))) (nI (wd q))) ||| (kv_R_bytes ((8 * (nI (pb (wh q)))) + (((nI (fr q)) + (nI t)) * (nI (wd q)))) (nI (wd q)))) ||| (kv_R_bytes (((nI (fr q)) + (nI t)) / 8) 1))) else if (nI (po (wh q))) = 15 then (if (((nI (fr q)) + (nI t)) + (XB q)) < 0 then (if (pm (wh q)) = 0 then 0 else (0 ||| (kv_R_bytes (((nI (fr q)) + (nI t)) / 8) 1))) else if ((8 * (nI (rg q))) / (nI (wd q))) ≤ (((nI (fr q)) + (nI t)) + (XB q)) then (if (pm (wh q)) = 0 then 0 else (0 ||| (kv_R_bytes (((nI (fr q)) + (nI t)) / 8) 1))) else if (pm (wh q)) = 0 then (kv_R_bytes ((8 * (nI (pa (wh q)))) + ((((nI (fr q)) + (nI t)) + (XB q)) * (nI (wd q)))) (nI (wd q))) else ((kv_R_bytes ((8 * (nI (pa (wh q)))) + ((((nI (fr q)) + (nI t)) + (XB q)) * (nI (wd q)))) (nI (wd q))) ||| (kv_R_bytes (((nI (fr q)) + (nI t)) / 8) 1))) else if (nI (po (wh q))) = 16 then (if (pm (wh q)) = 0 then ((kv_rg (pa (wh q)) (8 * rg q) 0 0) ||| (kv_R_bytes ((8 * (nI (pb (wh q)))) + (((nI (fr q)) + (nI t)) * (nI (wd q)))) (nI (wd q)))) else (((kv_rg (pa (wh q)) (8 * rg q) 0 0) ||| (kv_R_bytes ((8 * (nI (pb (wh q)))) + (((nI (fr q)) + (nI t)) * (nI (wd q)))) (nI (wd q)))) ||| (kv_R_bytes (((nI (fr q)) + (nI t)) / 8) 1))) else if (nI (po (wh q))) = 18 then (if (pm (wh q)) = 0 then (kv_R_bytes ((8 * (nI (pd (wh q)))) + (((nI (fr q)) + (nI t)) * (nI (wd q)))) (nI (wd q))) else ((kv_R_bytes ((8 * (nI (pd (wh q)))) + (((nI (fr q)) + (nI t)) * (nI (wd q)))) (nI (wd q))) ||| (kv_R_bytes (((nI (fr q)) + (nI t)) / 8) 1))) else if (nI (po (wh q))) = 19 then (if (pm (wh q)) = 0 then (kv_R_bytes ((8 * (nI (pb (wh q)))) + (((nI (fr q)) + (nI t)) * (nI (wd q)))) (nI (wd q))) else ((kv_R_bytes ((8 * (nI (pb (wh q)))) + (((nI (fr q)) + (nI t)) * (nI (wd q)))) (nI (wd q))) ||| (kv_R_bytes (((nI (fr q)) + (nI t)) / 8) 1))) else if (pm (wh q)) = 0 then 0 else (0 ||| (kv_R_bytes (((nI (fr q)) + (nI t)) / 8) 1))
set_option maxRecDepth 100000 in
set_option maxHeartbeats 4000000 in
theorem c_R_reads (l : Launch) {D : va_G} {ad : Nat → Nat} {n : Nat} {cs : Nat → va_E} {cI : ClassId} {cZ : ClassId} {la : Nat} {th : Int32} {st : Nat} {nx : Int32} {wi : Nat} {gp : Nat} {vl : Nat} {sa : Nat} {bo : Nat} {cy : Int32} {sd : Int32} {ma : Nat} {qu : Nat} {X : Nat → Int32} {F : Nat → Int32} {M : Nat → Int32} {po : Nat → Nat} {pd : Nat → Nat} {pa : Nat → Nat} {pb : Nat → Nat} {pn : Nat → Int32} {pm : Nat → Int32} {wh : Nat → Nat} {wd : Nat → Nat} {rg : Nat → Nat} {fr : Nat → Nat} {sp : Nat → Nat} {dn : Nat → Nat} {bf : Nat → Nat} {XA : Nat → Int32} {XB : Nat → Int32} {q : Nat} {t : Nat} {vq : Nat} (hn : 19 ≤ n) (hR : kR ad cI cZ cs la th st nx wi gp vl sa bo cy sd ma qu X F M po pd pa pb pn pm wh wd rg fr sp dn bf XA XB) (hq : q < 5) (hk : wh q < 40) (ho9 : po (wh q) < 21) (hrg : rg q < 5) (hw0 : 0 < wd q) (hwd : wd q < 5) (hvq : po (wh q) = 14 → XA q = nI vq) (hvf : po (wh q) = 14 → fr q ≤ vq) (hvl : po (wh q) = 14 → vq < 2 ^ 20) : kw_ml l y_R_reads w_R_reads (kr 1) D kc (ktR cI cZ) ad n cs [.ref (ad 0), .int (nI q), .int (nI t)] (fun r9 c9 => r9 = kv_R_reads po pd pa pb pm wh wd rg fr XB q t vq ∧ c9 = cs) := by
  refine kw_of (cc := b_R_reads) (maxL := 11) (ret := (some .long)) (by decide) rfl (Nat.le_of_ble_eq_true rfl) ?_
  intro p e s m below meth c ls hx hb hr hml hown hts hlocks hP hK hl
  have hg : ∀ w9 ∈ kg_G, w9.before [.ref (ad 0), .int (nI q), .int (nI t)].toArray s = true := fun w9 h9 => hts w9 (List.mem_cons_of_mem _ h9)
  have hown : s.vm.findClass "LaneMachineModel" = some m.cls := hown
  have hA : ∀ k, k < n → kw_A ad n (ad k) := fun k hk => ⟨k, hk, rfl⟩
  have hS : va_S (kw_A ad n) s.heap s.heap [] := va_S.rf
  have hl : lv_has ls 11 [(0, .ref (ad 0)), (1, .int (nI q)), (2, .int (nI t))] := hl
  obtain ⟨e0, e1, e2, e3, e4, e5, e6, e7, e8, e9, e10, e11, e12, e13, e14, e15, e16, e17, e18⟩ := hR
  refine lv_aload_n hx hb d_R_reads_0 rfl (lv_at hl 0 rfl) ?_
  refine kw_get hx hb hg in_R hown hK hP 0 (Nat.lt_of_lt_of_le (by decide : 0 < 19) hn) e0 rfl 22 (by decide) (hg _ kg_605) rfl rfl d_R_reads_1 ?_
  refine lv_iload_n hx hb d_R_reads_4 rfl (lv_at hl 1 rfl) ?_
  refine kw_iald hx hb hK hP 10 0 (Nat.lt_of_lt_of_le (by decide : 10 < 19) hn) e10 rfl q (rfl) (hq) (by omega) d_R_reads_5 ?_
  refine lv_istore_n (lv' := [(3, .int (nI (wh q))), (0, .ref (ad 0)), (1, .int (nI q)), (2, .int (nI t))]) hx hb d_R_reads_6 rfl hl (by decide) rfl (fun ls hl => ?_)
  refine lv_aload_n hx hb d_R_reads_7 rfl (lv_at hl 1 rfl) ?_
  refine kw_get hx hb hg in_R hown hK hP 0 (Nat.lt_of_lt_of_le (by decide : 0 < 19) hn) e0 rfl 23 (by decide) (hg _ kg_606) rfl rfl d_R_reads_8 ?_
  refine lv_iload_n hx hb d_R_reads_11 rfl (lv_at hl 2 rfl) ?_
  refine kw_iald hx hb hK hP 11 0 (Nat.lt_of_lt_of_le (by decide : 11 < 19) hn) e11 rfl q (rfl) (hq) (by omega) d_R_reads_12 ?_
  refine lv_istore (lv' := [(4, .int (nI (wd q))), (3, .int (nI (wh q))), (0, .ref (ad 0)), (1, .int (nI q)), (2, .int (nI t))]) hx hb d_R_reads_13 hl (by decide) rfl (fun ls hl => ?_)
  refine lv_aload_n hx hb d_R_reads_15 rfl (lv_at hl 2 rfl) ?_
  refine kw_get hx hb hg in_R hown hK hP 0 (Nat.lt_of_lt_of_le (by decide : 0 < 19) hn) e0 rfl 25 (by decide) (hg _ kg_608) rfl rfl d_R_reads_16 ?_
  refine lv_iload_n hx hb d_R_reads_19 rfl (lv_at hl 3 rfl) ?_
  refine kw_iald hx hb hK hP 13 0 (Nat.lt_of_lt_of_le (by decide : 13 < 19) hn) e13 rfl q (rfl) (hq) (by omega) d_R_reads_20 ?_
  refine lv_iload_n hx hb d_R_reads_21 rfl (lv_at hl 4 rfl) ?_
  refine lv_iadd hx hb d_R_reads_22 ?_
  refine lv_istore (lv' := [(5, .int ((nI (fr q)) + (nI t))), (4, .int (nI (wd q))), (3, .int (nI (wh q))), (0, .ref (ad 0)), (1, .int (nI q)), (2, .int (nI t))]) hx hb d_R_reads_23 hl (by decide) rfl (fun ls hl => ?_)
  refine lv_aload_n hx hb d_R_reads_25 rfl (lv_at hl 3 rfl) ?_
  refine kw_get hx hb hg in_R hown hK hP 0 (Nat.lt_of_lt_of_le (by decide : 0 < 19) hn) e0 rfl 15 (by decide) (hg _ kg_598) rfl rfl d_R_reads_26 ?_
  refine lv_iload_n hx hb d_R_reads_29 rfl (lv_at hl 2 rfl) ?_
  refine kw_iald hx hb hK hP 4 0 (Nat.lt_of_lt_of_le (by decide : 4 < 19) hn) e4 rfl (wh q) (rfl) (hk) (by omega) d_R_reads_30 ?_
  refine lv_istore (lv' := [(6, .int (nI (po (wh q)))), (5, .int ((nI (fr q)) + (nI t))), (4, .int (nI (wd q))), (3, .int (nI (wh q))), (0, .ref (ad 0)), (1, .int (nI q)), (2, .int (nI t))]) hx hb d_R_reads_31 hl (by decide) rfl (fun ls hl => ?_)
  refine lv_lconst (v := 0) hx hb d_R_reads_33 (by decide) ?_
  refine lv_lstore (lv' := [(7, .long 0), (6, .int (nI (po (wh q)))), (5, .int ((nI (fr q)) + (nI t))), (4, .int (nI (wd q))), (3, .int (nI (wh q))), (0, .ref (ad 0)), (1, .int (nI q)), (2, .int (nI t))]) hx hb d_R_reads_34 hl (by decide) rfl (fun ls hl => ?_)
  refine lv_iload hx hb d_R_reads_36 (lv_at hl 1 rfl) ?_
  refine lv_bipush (v := 14) hx hb d_R_reads_38 (by decide) ?_
  refine lv_icmp_ne (tgt := 159) hx hb d_R_reads_40 (by decide) (fun h1 => ?_) (fun h1 => ?_)
  · refine lv_iload hx hb d_R_reads_159 (lv_at hl 1 rfl) ?_
    refine lv_bipush (v := 11) hx hb d_R_reads_161 (by decide) ?_
    refine lv_icmp_le (tgt := 180) hx hb d_R_reads_163 (by decide) (fun h2 => ?_) (fun h2 => ?_)
    · refine lv_bipush (v := 8) hx hb d_R_reads_180 (by decide) ?_
      refine lv_aload_n hx hb d_R_reads_182 rfl (lv_at hl 5 rfl) ?_
      refine kw_get hx hb hg in_R hown hK hP 0 (Nat.lt_of_lt_of_le (by decide : 0 < 19) hn) e0 rfl 17 (by decide) (hg _ kg_600) rfl rfl d_R_reads_183 ?_
      refine lv_iload_n hx hb d_R_reads_186 rfl (lv_at hl 4 rfl) ?_
      refine kw_iald hx hb hK hP 6 0 (Nat.lt_of_lt_of_le (by decide : 6 < 19) hn) e6 rfl (wh q) (rfl) (hk) (by omega) d_R_reads_187 ?_
      refine lv_imul hx hb d_R_reads_188 ?_
      refine lv_iload hx hb d_R_reads_189 (lv_at hl 2 rfl) ?_
      refine lv_iload hx hb d_R_reads_191 (lv_at hl 3 rfl) ?_
      refine lv_imul hx hb d_R_reads_193 ?_
      refine lv_iadd hx hb d_R_reads_194 ?_
      refine lv_iload hx hb d_R_reads_195 (lv_at hl 3 rfl) ?_
      refine kw_calllx (kw_rS (As := [.int ((8 * (nI (pa (wh q)))) + (((nI (fr q)) + (nI t)) * (nI (wd q)))), .int (nI (wd q))]) (rest := []) ⟨hx, hb, hml, hown, hg⟩ ⟨callB_of 2 hg (kg_goodG kg_707) rfl rfl rfl (hg _ kg_7) (hg _ kg_705) (by decide +kernel) ⟨by decide, by decide⟩, hg _ kg_706⟩ (c_R_bytes l  ) hK hP rfl hl.1 rfl (Nat.le_of_ble_eq_true rfl) d_R_reads_197 ⟨Nat.zero_le _, Nat.zero_le _⟩) hA hS (fun H locs hP hS => ?_)
      refine lv_lstore (lv' := [(7, .long (kv_R_bytes ((8 * (nI (pa (wh q)))) + (((nI (fr q)) + (nI t)) * (nI (wd q)))) (nI (wd q)))), (6, .int (nI (po (wh q)))), (5, .int ((nI (fr q)) + (nI t))), (4, .int (nI (wd q))), (3, .int (nI (wh q))), (0, .ref (ad 0)), (1, .int (nI q)), (2, .int (nI t))]) hx hb d_R_reads_200 hl (by decide) rfl (fun ls hl => ?_)
      refine lv_iload hx hb d_R_reads_202 (lv_at hl 1 rfl) ?_
      refine lv_bipush (v := 11) hx hb d_R_reads_204 (by decide) ?_
      refine lv_icmp_ne (tgt := 214) hx hb d_R_reads_206 (by decide) (fun h3 => ?_) (fun h3 => ?_)
      · refine lv_lload hx hb d_R_reads_214 (lv_at hl 0 rfl) ?_
        refine lv_bipush (v := 8) hx hb d_R_reads_216 (by decide) ?_
        refine lv_aload_n hx hb d_R_reads_218 rfl (lv_at hl 5 rfl) ?_
        refine kw_get hx hb hg in_R hown hK hP 0 (Nat.lt_of_lt_of_le (by decide : 0 < 19) hn) e0 rfl 18 (by decide) (hg _ kg_601) rfl rfl d_R_reads_219 ?_
        refine lv_iload_n hx hb d_R_reads_222 rfl (lv_at hl 4 rfl) ?_
        refine kw_iald hx hb hK hP 7 0 (Nat.lt_of_lt_of_le (by decide : 7 < 19) hn) e7 rfl (wh q) (rfl) (hk) (by omega) d_R_reads_223 ?_
        refine lv_imul hx hb d_R_reads_224 ?_
        refine lv_iload hx hb d_R_reads_225 (lv_at hl 2 rfl) ?_
        refine lv_iload hx hb d_R_reads_227 (lv_at hl 3 rfl) ?_
        refine lv_imul hx hb d_R_reads_229 ?_
        refine lv_iadd hx hb d_R_reads_230 ?_
        refine lv_iload hx hb d_R_reads_231 (lv_at hl 3 rfl) ?_
        refine kw_calllx (kw_rS (As := [.int ((8 * (nI (pb (wh q)))) + (((nI (fr q)) + (nI t)) * (nI (wd q)))), .int (nI (wd q))]) (rest := [.long (kv_R_bytes ((8 * (nI (pa (wh q)))) + (((nI (fr q)) + (nI t)) * (nI (wd q)))) (nI (wd q)))]) ⟨hx, hb, hml, hown, hg⟩ ⟨callB_of 2 hg (kg_goodG kg_707) rfl rfl rfl (hg _ kg_7) (hg _ kg_705) (by decide +kernel) ⟨by decide, by decide⟩, hg _ kg_706⟩ (c_R_bytes l  ) hK hP rfl hl.1 rfl (Nat.le_of_ble_eq_true rfl) d_R_reads_233 ⟨Nat.zero_le _, Nat.zero_le _⟩) hA hS (fun H locs hP hS => ?_)
        refine lv_lor hx hb d_R_reads_236 ?_
        refine lv_lstore (lv' := [(7, .long ((kv_R_bytes ((8 * (nI (pa (wh q)))) + (((nI (fr q)) + (nI t)) * (nI (wd q)))) (nI (wd q))) ||| (kv_R_bytes ((8 * (nI (pb (wh q)))) + (((nI (fr q)) + (nI t)) * (nI (wd q)))) (nI (wd q))))), (6, .int (nI (po (wh q)))), (5, .int ((nI (fr q)) + (nI t))), (4, .int (nI (wd q))), (3, .int (nI (wh q))), (0, .ref (ad 0)), (1, .int (nI q)), (2, .int (nI t))]) hx hb d_R_reads_237 hl (by decide) rfl (fun ls hl => ?_)
        refine lv_goto (tgt := 451) hx hb d_R_reads_239 (by decide) ?_
        refine lv_aload_n hx hb d_R_reads_451 rfl (lv_at hl 5 rfl) ?_
        refine kw_get hx hb hg in_R hown hK hP 0 (Nat.lt_of_lt_of_le (by decide : 0 < 19) hn) e0 rfl 20 (by decide) (hg _ kg_603) rfl rfl d_R_reads_452 ?_
        refine lv_iload_n hx hb d_R_reads_455 rfl (lv_at hl 4 rfl) ?_
        refine kw_zald hx hb hK hP 9 1 (Nat.lt_of_lt_of_le (by decide : 9 < 19) hn) e9 rfl (wh q) (rfl) (hk) (by omega) d_R_reads_456 ?_
        refine lv_if_eq (tgt := 475) hx hb d_R_reads_457 (by decide) (fun h4 => ?_) (fun h4 => ?_)
        · refine lv_lload hx hb d_R_reads_475 (lv_at hl 0 rfl) ?_
          exact kw_lret hx hb hr hlocks hP hK hS ⟨by rw [kv_R_reads, if_neg h1, if_pos h2, if_neg h3, if_pos h4], rfl⟩ d_R_reads_477
        · refine lv_lload hx hb d_R_reads_460 (lv_at hl 0 rfl) ?_
          refine lv_iload hx hb d_R_reads_462 (lv_at hl 2 rfl) ?_
          refine lv_bipush (v := 8) hx hb d_R_reads_464 (by decide) ?_
          refine lv_idiv hx hb d_R_reads_466 (by decide) ?_
          refine lv_iconst (v := 1) hx hb d_R_reads_467 (by decide) ?_
          refine kw_calllx (kw_rS (As := [.int (((nI (fr q)) + (nI t)) / 8), .int 1]) (rest := [.long ((kv_R_bytes ((8 * (nI (pa (wh q)))) + (((nI (fr q)) + (nI t)) * (nI (wd q)))) (nI (wd q))) ||| (kv_R_bytes ((8 * (nI (pb (wh q)))) + (((nI (fr q)) + (nI t)) * (nI (wd q)))) (nI (wd q))))]) ⟨hx, hb, hml, hown, hg⟩ ⟨callB_of 2 hg (kg_goodG kg_707) rfl rfl rfl (hg _ kg_7) (hg _ kg_705) (by decide +kernel) ⟨by decide, by decide⟩, hg _ kg_706⟩ (c_R_bytes l  ) hK hP rfl hl.1 rfl (Nat.le_of_ble_eq_true rfl) d_R_reads_468 ⟨Nat.zero_le _, Nat.zero_le _⟩) hA hS (fun H locs hP hS => ?_)
          refine lv_lor hx hb d_R_reads_471 ?_
          refine lv_goto (tgt := 477) hx hb d_R_reads_472 (by decide) ?_
          exact kw_lret hx hb hr hlocks hP hK hS ⟨by rw [kv_R_reads, if_neg h1, if_pos h2, if_neg h3, if_neg h4], rfl⟩ d_R_reads_477
      · refine lv_lload hx hb d_R_reads_209 (lv_at hl 0 rfl) ?_
        refine lv_goto (tgt := 237) hx hb d_R_reads_211 (by decide) ?_
        refine lv_lstore (lv' := [(7, .long (kv_R_bytes ((8 * (nI (pa (wh q)))) + (((nI (fr q)) + (nI t)) * (nI (wd q)))) (nI (wd q)))), (6, .int (nI (po (wh q)))), (5, .int ((nI (fr q)) + (nI t))), (4, .int (nI (wd q))), (3, .int (nI (wh q))), (0, .ref (ad 0)), (1, .int (nI q)), (2, .int (nI t))]) hx hb d_R_reads_237 hl (by decide) rfl (fun ls hl => ?_)
        refine lv_goto (tgt := 451) hx hb d_R_reads_239 (by decide) ?_
        refine lv_aload_n hx hb d_R_reads_451 rfl (lv_at hl 5 rfl) ?_
        refine kw_get hx hb hg in_R hown hK hP 0 (Nat.lt_of_lt_of_le (by decide : 0 < 19) hn) e0 rfl 20 (by decide) (hg _ kg_603) rfl rfl d_R_reads_452 ?_
        refine lv_iload_n hx hb d_R_reads_455 rfl (lv_at hl 4 rfl) ?_
        refine kw_zald hx hb hK hP 9 1 (Nat.lt_of_lt_of_le (by decide : 9 < 19) hn) e9 rfl (wh q) (rfl) (hk) (by omega) d_R_reads_456 ?_
        refine lv_if_eq (tgt := 475) hx hb d_R_reads_457 (by decide) (fun h5 => ?_) (fun h5 => ?_)
        · refine lv_lload hx hb d_R_reads_475 (lv_at hl 0 rfl) ?_
          exact kw_lret hx hb hr hlocks hP hK hS ⟨by rw [kv_R_reads, if_neg h1, if_pos h2, if_pos h3, if_pos h5], rfl⟩ d_R_reads_477
        · refine lv_lload hx hb d_R_reads_460 (lv_at hl 0 rfl) ?_
          refine lv_iload hx hb d_R_reads_462 (lv_at hl 2 rfl) ?_
          refine lv_bipush (v := 8) hx hb d_R_reads_464 (by decide) ?_
          refine lv_idiv hx hb d_R_reads_466 (by decide) ?_
          refine lv_iconst (v := 1) hx hb d_R_reads_467 (by decide) ?_
          refine kw_calllx (kw_rS (As := [.int (((nI (fr q)) + (nI t)) / 8), .int 1]) (rest := [.long (kv_R_bytes ((8 * (nI (pa (wh q)))) + (((nI (fr q)) + (nI t)) * (nI (wd q)))) (nI (wd q)))]) ⟨hx, hb, hml, hown, hg⟩ ⟨callB_of 2 hg (kg_goodG kg_707) rfl rfl rfl (hg _ kg_7) (hg _ kg_705) (by decide +kernel) ⟨by decide, by decide⟩, hg _ kg_706⟩ (c_R_bytes l  ) hK hP rfl hl.1 rfl (Nat.le_of_ble_eq_true rfl) d_R_reads_468 ⟨Nat.zero_le _, Nat.zero_le _⟩) hA hS (fun H locs hP hS => ?_)
          refine lv_lor hx hb d_R_reads_471 ?_
          refine lv_goto (tgt := 477) hx hb d_R_reads_472 (by decide) ?_
          exact kw_lret hx hb hr hlocks hP hK hS ⟨by rw [kv_R_reads, if_neg h1, if_pos h2, if_pos h3, if_neg h5], rfl⟩ d_R_reads_477
    · refine lv_iload hx hb d_R_reads_166 (lv_at hl 1 rfl) ?_
      refine lv_bipush (v := 12) hx hb d_R_reads_168 (by decide) ?_
      refine lv_icmp_eq (tgt := 180) hx hb d_R_reads_170 (by decide) (fun h6 => ?_) (fun h6 => ?_)
      · refine lv_bipush (v := 8) hx hb d_R_reads_180 (by decide) ?_
        refine lv_aload_n hx hb d_R_reads_182 rfl (lv_at hl 5 rfl) ?_
        refine kw_get hx hb hg in_R hown hK hP 0 (Nat.lt_of_lt_of_le (by decide : 0 < 19) hn) e0 rfl 17 (by decide) (hg _ kg_600) rfl rfl d_R_reads_183 ?_
        refine lv_iload_n hx hb d_R_reads_186 rfl (lv_at hl 4 rfl) ?_
        refine kw_iald hx hb hK hP 6 0 (Nat.lt_of_lt_of_le (by decide : 6 < 19) hn) e6 rfl (wh q) (rfl) (hk) (by omega) d_R_reads_187 ?_
        refine lv_imul hx hb d_R_reads_188 ?_
        refine lv_iload hx hb d_R_reads_189 (lv_at hl 2 rfl) ?_
        refine lv_iload hx hb d_R_reads_191 (lv_at hl 3 rfl) ?_
        refine lv_imul hx hb d_R_reads_193 ?_
        refine lv_iadd hx hb d_R_reads_194 ?_
        refine lv_iload hx hb d_R_reads_195 (lv_at hl 3 rfl) ?_
        refine kw_calllx (kw_rS (As := [.int ((8 * (nI (pa (wh q)))) + (((nI (fr q)) + (nI t)) * (nI (wd q)))), .int (nI (wd q))]) (rest := []) ⟨hx, hb, hml, hown, hg⟩ ⟨callB_of 2 hg (kg_goodG kg_707) rfl rfl rfl (hg _ kg_7) (hg _ kg_705) (by decide +kernel) ⟨by decide, by decide⟩, hg _ kg_706⟩ (c_R_bytes l  ) hK hP rfl hl.1 rfl (Nat.le_of_ble_eq_true rfl) d_R_reads_197 ⟨Nat.zero_le _, Nat.zero_le _⟩) hA hS (fun H locs hP hS => ?_)
        refine lv_lstore (lv' := [(7, .long (kv_R_bytes ((8 * (nI (pa (wh q)))) + (((nI (fr q)) + (nI t)) * (nI (wd q)))) (nI (wd q)))), (6, .int (nI (po (wh q)))), (5, .int ((nI (fr q)) + (nI t))), (4, .int (nI (wd q))), (3, .int (nI (wh q))), (0, .ref (ad 0)), (1, .int (nI q)), (2, .int (nI t))]) hx hb d_R_reads_200 hl (by decide) rfl (fun ls hl => ?_)
        refine lv_iload hx hb d_R_reads_202 (lv_at hl 1 rfl) ?_
        refine lv_bipush (v := 11) hx hb d_R_reads_204 (by decide) ?_
        refine lv_icmp_ne (tgt := 214) hx hb d_R_reads_206 (by decide) (fun _ => ?_) (fun h7 => absurd h7 (by rw [h6] <;> decide))
        refine lv_lload hx hb d_R_reads_214 (lv_at hl 0 rfl) ?_
        refine lv_bipush (v := 8) hx hb d_R_reads_216 (by decide) ?_
        refine lv_aload_n hx hb d_R_reads_218 rfl (lv_at hl 5 rfl) ?_
        refine kw_get hx hb hg in_R hown hK hP 0 (Nat.lt_of_lt_of_le (by decide : 0 < 19) hn) e0 rfl 18 (by decide) (hg _ kg_601) rfl rfl d_R_reads_219 ?_
        refine lv_iload_n hx hb d_R_reads_222 rfl (lv_at hl 4 rfl) ?_
        refine kw_iald hx hb hK hP 7 0 (Nat.lt_of_lt_of_le (by decide : 7 < 19) hn) e7 rfl (wh q) (rfl) (hk) (by omega) d_R_reads_223 ?_
        refine lv_imul hx hb d_R_reads_224 ?_
        refine lv_iload hx hb d_R_reads_225 (lv_at hl 2 rfl) ?_
        refine lv_iload hx hb d_R_reads_227 (lv_at hl 3 rfl) ?_
        refine lv_imul hx hb d_R_reads_229 ?_
        refine lv_iadd hx hb d_R_reads_230 ?_
        refine lv_iload hx hb d_R_reads_231 (lv_at hl 3 rfl) ?_
        refine kw_calllx (kw_rS (As := [.int ((8 * (nI (pb (wh q)))) + (((nI (fr q)) + (nI t)) * (nI (wd q)))), .int (nI (wd q))]) (rest := [.long (kv_R_bytes ((8 * (nI (pa (wh q)))) + (((nI (fr q)) + (nI t)) * (nI (wd q)))) (nI (wd q)))]) ⟨hx, hb, hml, hown, hg⟩ ⟨callB_of 2 hg (kg_goodG kg_707) rfl rfl rfl (hg _ kg_7) (hg _ kg_705) (by decide +kernel) ⟨by decide, by decide⟩, hg _ kg_706⟩ (c_R_bytes l  ) hK hP rfl hl.1 rfl (Nat.le_of_ble_eq_true rfl) d_R_reads_233 ⟨Nat.zero_le _, Nat.zero_le _⟩) hA hS (fun H locs hP hS => ?_)
        refine lv_lor hx hb d_R_reads_236 ?_
        refine lv_lstore (lv' := [(7, .long ((kv_R_bytes ((8 * (nI (pa (wh q)))) + (((nI (fr q)) + (nI t)) * (nI (wd q)))) (nI (wd q))) ||| (kv_R_bytes ((8 * (nI (pb (wh q)))) + (((nI (fr q)) + (nI t)) * (nI (wd q)))) (nI (wd q))))), (6, .int (nI (po (wh q)))), (5, .int ((nI (fr q)) + (nI t))), (4, .int (nI (wd q))), (3, .int (nI (wh q))), (0, .ref (ad 0)), (1, .int (nI q)), (2, .int (nI t))]) hx hb d_R_reads_237 hl (by decide) rfl (fun ls hl => ?_)
        refine lv_goto (tgt := 451) hx hb d_R_reads_239 (by decide) ?_
        refine lv_aload_n hx hb d_R_reads_451 rfl (lv_at hl 5 rfl) ?_
        refine kw_get hx hb hg in_R hown hK hP 0 (Nat.lt_of_lt_of_le (by decide : 0 < 19) hn) e0 rfl 20 (by decide) (hg _ kg_603) rfl rfl d_R_reads_452 ?_
        refine lv_iload_n hx hb d_R_reads_455 rfl (lv_at hl 4 rfl) ?_
        refine kw_zald hx hb hK hP 9 1 (Nat.lt_of_lt_of_le (by decide : 9 < 19) hn) e9 rfl (wh q) (rfl) (hk) (by omega) d_R_reads_456 ?_
        refine lv_if_eq (tgt := 475) hx hb d_R_reads_457 (by decide) (fun h8 => ?_) (fun h8 => ?_)
        · refine lv_lload hx hb d_R_reads_475 (lv_at hl 0 rfl) ?_
          exact kw_lret hx hb hr hlocks hP hK hS ⟨by rw [kv_R_reads, if_neg h1, if_neg h2, if_pos h6, if_pos h8], rfl⟩ d_R_reads_477
        · refine lv_lload hx hb d_R_reads_460 (lv_at hl 0 rfl) ?_
          refine lv_iload hx hb d_R_reads_462 (lv_at hl 2 rfl) ?_
          refine lv_bipush (v := 8) hx hb d_R_reads_464 (by decide) ?_
          refine lv_idiv hx hb d_R_reads_466 (by decide) ?_
          refine lv_iconst (v := 1) hx hb d_R_reads_467 (by decide) ?_
          refine kw_calllx (kw_rS (As := [.int (((nI (fr q)) + (nI t)) / 8), .int 1]) (rest := [.long ((kv_R_bytes ((8 * (nI (pa (wh q)))) + (((nI (fr q)) + (nI t)) * (nI (wd q)))) (nI (wd q))) ||| (kv_R_bytes ((8 * (nI (pb (wh q)))) + (((nI (fr q)) + (nI t)) * (nI (wd q)))) (nI (wd q))))]) ⟨hx, hb, hml, hown, hg⟩ ⟨callB_of 2 hg (kg_goodG kg_707) rfl rfl rfl (hg _ kg_7) (hg _ kg_705) (by decide +kernel) ⟨by decide, by decide⟩, hg _ kg_706⟩ (c_R_bytes l  ) hK hP rfl hl.1 rfl (Nat.le_of_ble_eq_true rfl) d_R_reads_468 ⟨Nat.zero_le _, Nat.zero_le _⟩) hA hS (fun H locs hP hS => ?_)
          refine lv_lor hx hb d_R_reads_471 ?_
          refine lv_goto (tgt := 477) hx hb d_R_reads_472 (by decide) ?_
          exact kw_lret hx hb hr hlocks hP hK hS ⟨by rw [kv_R_reads, if_neg h1, if_neg h2, if_pos h6, if_neg h8], rfl⟩ d_R_reads_477
      · refine lv_iload hx hb d_R_reads_173 (lv_at hl 1 rfl) ?_
        refine lv_bipush (v := 13) hx hb d_R_reads_175 (by decide) ?_
        refine lv_icmp_ne (tgt := 242) hx hb d_R_reads_177 (by decide) (fun h9 => ?_) (fun h9 => ?_)
        · refine lv_iload hx hb d_R_reads_242 (lv_at hl 1 rfl) ?_
          refine lv_bipush (v := 15) hx hb d_R_reads_244 (by decide) ?_
          refine lv_icmp_ne (tgt := 311) hx hb d_R_reads_246 (by decide) (fun h10 => ?_) (fun h10 => ?_)
          · refine lv_iload hx hb d_R_reads_311 (lv_at hl 1 rfl) ?_
            refine lv_bipush (v := 16) hx hb d_R_reads_313 (by decide) ?_
            refine lv_icmp_ne (tgt := 390) hx hb d_R_reads_315 (by decide) (fun h11 => ?_) (fun h11 => ?_)
            · refine lv_iload hx hb d_R_reads_390 (lv_at hl 1 rfl) ?_
              refine lv_bipush (v := 18) hx hb d_R_reads_392 (by decide) ?_
              refine lv_icmp_ne (tgt := 422) hx hb d_R_reads_394 (by decide) (fun h12 => ?_) (fun h12 => ?_)
              · refine lv_iload hx hb d_R_reads_422 (lv_at hl 1 rfl) ?_
                refine lv_bipush (v := 19) hx hb d_R_reads_424 (by decide) ?_
                refine lv_icmp_ne (tgt := 451) hx hb d_R_reads_426 (by decide) (fun h13 => ?_) (fun h13 => ?_)
                · refine lv_aload_n hx hb d_R_reads_451 rfl (lv_at hl 5 rfl) ?_
                  refine kw_get hx hb hg in_R hown hK hP 0 (Nat.lt_of_lt_of_le (by decide : 0 < 19) hn) e0 rfl 20 (by decide) (hg _ kg_603) rfl rfl d_R_reads_452 ?_
                  refine lv_iload_n hx hb d_R_reads_455 rfl (lv_at hl 4 rfl) ?_
                  refine kw_zald hx hb hK hP 9 1 (Nat.lt_of_lt_of_le (by decide : 9 < 19) hn) e9 rfl (wh q) (rfl) (hk) (by omega) d_R_reads_456 ?_
                  refine lv_if_eq (tgt := 475) hx hb d_R_reads_457 (by decide) (fun h14 => ?_) (fun h14 => ?_)
                  · refine lv_lload hx hb d_R_reads_475 (lv_at hl 0 rfl) ?_
                    exact kw_lret hx hb hr hlocks hP hK hS ⟨by rw [kv_R_reads, if_neg h1, if_neg h2, if_neg h6, if_neg h9, if_neg h10, if_neg h11, if_neg h12, if_neg h13, if_pos h14], rfl⟩ d_R_reads_477
                  · refine lv_lload hx hb d_R_reads_460 (lv_at hl 0 rfl) ?_
                    refine lv_iload hx hb d_R_reads_462 (lv_at hl 2 rfl) ?_
                    refine lv_bipush (v := 8) hx hb d_R_reads_464 (by decide) ?_
                    refine lv_idiv hx hb d_R_reads_466 (by decide) ?_
                    refine lv_iconst (v := 1) hx hb d_R_reads_467 (by decide) ?_
                    refine kw_calllx (kw_rS (As := [.int (((nI (fr q)) + (nI t)) / 8), .int 1]) (rest := [.long 0]) ⟨hx, hb, hml, hown, hg⟩ ⟨callB_of 2 hg (kg_goodG kg_707) rfl rfl rfl (hg _ kg_7) (hg _ kg_705) (by decide +kernel) ⟨by decide, by decide⟩, hg _ kg_706⟩ (c_R_bytes l  ) hK hP rfl hl.1 rfl (Nat.le_of_ble_eq_true rfl) d_R_reads_468 ⟨Nat.zero_le _, Nat.zero_le _⟩) hA hS (fun H locs hP hS => ?_)
                    refine lv_lor hx hb d_R_reads_471 ?_
                    refine lv_goto (tgt := 477) hx hb d_R_reads_472 (by decide) ?_
                    exact kw_lret hx hb hr hlocks hP hK hS ⟨by rw [kv_R_reads, if_neg h1, if_neg h2, if_neg h6, if_neg h9, if_neg h10, if_neg h11, if_neg h12, if_neg h13, if_neg h14], rfl⟩ d_R_reads_477
                · refine lv_bipush (v := 8) hx hb d_R_reads_429 (by decide) ?_
                  refine lv_aload_n hx hb d_R_reads_431 rfl (lv_at hl 5 rfl) ?_
                  refine kw_get hx hb hg in_R hown hK hP 0 (Nat.lt_of_lt_of_le (by decide : 0 < 19) hn) e0 rfl 18 (by decide) (hg _ kg_601) rfl rfl d_R_reads_432 ?_
                  refine lv_iload_n hx hb d_R_reads_435 rfl (lv_at hl 4 rfl) ?_
                  refine kw_iald hx hb hK hP 7 0 (Nat.lt_of_lt_of_le (by decide : 7 < 19) hn) e7 rfl (wh q) (rfl) (hk) (by omega) d_R_reads_436 ?_
                  refine lv_imul hx hb d_R_reads_437 ?_
                  refine lv_iload hx hb d_R_reads_438 (lv_at hl 2 rfl) ?_
                  refine lv_iload hx hb d_R_reads_440 (lv_at hl 3 rfl) ?_
                  refine lv_imul hx hb d_R_reads_442 ?_
                  refine lv_iadd hx hb d_R_reads_443 ?_
                  refine lv_iload hx hb d_R_reads_444 (lv_at hl 3 rfl) ?_
                  refine kw_calllx (kw_rS (As := [.int ((8 * (nI (pb (wh q)))) + (((nI (fr q)) + (nI t)) * (nI (wd q)))), .int (nI (wd q))]) (rest := []) ⟨hx, hb, hml, hown, hg⟩ ⟨callB_of 2 hg (kg_goodG kg_707) rfl rfl rfl (hg _ kg_7) (hg _ kg_705) (by decide +kernel) ⟨by decide, by decide⟩, hg _ kg_706⟩ (c_R_bytes l  ) hK hP rfl hl.1 rfl (Nat.le_of_ble_eq_true rfl) d_R_reads_446 ⟨Nat.zero_le _, Nat.zero_le _⟩) hA hS (fun H locs hP hS => ?_)
                  refine lv_lstore (lv' := [(7, .long (kv_R_bytes ((8 * (nI (pb (wh q)))) + (((nI (fr q)) + (nI t)) * (nI (wd q)))) (nI (wd q)))), (6, .int (nI (po (wh q)))), (5, .int ((nI (fr q)) + (nI t))), (4, .int (nI (wd q))), (3, .int (nI (wh q))), (0, .ref (ad 0)), (1, .int (nI q)), (2, .int (nI t))]) hx hb d_R_reads_449 hl (by decide) rfl (fun ls hl => ?_)
                  refine lv_aload_n hx hb d_R_reads_451 rfl (lv_at hl 5 rfl) ?_
                  refine kw_get hx hb hg in_R hown hK hP 0 (Nat.lt_of_lt_of_le (by decide : 0 < 19) hn) e0 rfl 20 (by decide) (hg _ kg_603) rfl rfl d_R_reads_452 ?_
                  refine lv_iload_n hx hb d_R_reads_455 rfl (lv_at hl 4 rfl) ?_
                  refine kw_zald hx hb hK hP 9 1 (Nat.lt_of_lt_of_le (by decide : 9 < 19) hn) e9 rfl (wh q) (rfl) (hk) (by omega) d_R_reads_456 ?_
                  refine lv_if_eq (tgt := 475) hx hb d_R_reads_457 (by decide) (fun h15 => ?_) (fun h15 => ?_)
                  · refine lv_lload hx hb d_R_reads_475 (lv_at hl 0 rfl) ?_
                    exact kw_lret hx hb hr hlocks hP hK hS ⟨by rw [kv_R_reads, if_neg h1, if_neg h2, if_neg h6, if_neg h9, if_neg h10, if_neg h11, if_neg h12, if_pos h13, if_pos h15], rfl⟩ d_R_reads_477
                  · refine lv_lload hx hb d_R_reads_460 (lv_at hl 0 rfl) ?_
                    refine lv_iload hx hb d_R_reads_462 (lv_at hl 2 rfl) ?_
                    refine lv_bipush (v := 8) hx hb d_R_reads_464 (by decide) ?_
                    refine lv_idiv hx hb d_R_reads_466 (by decide) ?_
                    refine lv_iconst (v := 1) hx hb d_R_reads_467 (by decide) ?_
                    refine kw_calllx (kw_rS (As := [.int (((nI (fr q)) + (nI t)) / 8), .int 1]) (rest := [.long (kv_R_bytes ((8 * (nI (pb (wh q)))) + (((nI (fr q)) + (nI t)) * (nI (wd q)))) (nI (wd q)))]) ⟨hx, hb, hml, hown, hg⟩ ⟨callB_of 2 hg (kg_goodG kg_707) rfl rfl rfl (hg _ kg_7) (hg _ kg_705) (by decide +kernel) ⟨by decide, by decide⟩, hg _ kg_706⟩ (c_R_bytes l  ) hK hP rfl hl.1 rfl (Nat.le_of_ble_eq_true rfl) d_R_reads_468 ⟨Nat.zero_le _, Nat.zero_le _⟩) hA hS (fun H locs hP hS => ?_)
                    refine lv_lor hx hb d_R_reads_471 ?_
                    refine lv_goto (tgt := 477) hx hb d_R_reads_472 (by decide) ?_
                    exact kw_lret hx hb hr hlocks hP hK hS ⟨by rw [kv_R_reads, if_neg h1, if_neg h2, if_neg h6, if_neg h9, if_neg h10, if_neg h11, if_neg h12, if_pos h13, if_neg h15], rfl⟩ d_R_reads_477
              · refine lv_bipush (v := 8) hx hb d_R_reads_397 (by decide) ?_
                refine lv_aload_n hx hb d_R_reads_399 rfl (lv_at hl 5 rfl) ?_
                refine kw_get hx hb hg in_R hown hK hP 0 (Nat.lt_of_lt_of_le (by decide : 0 < 19) hn) e0 rfl 16 (by decide) (hg _ kg_599) rfl rfl d_R_reads_400 ?_
                refine lv_iload_n hx hb d_R_reads_403 rfl (lv_at hl 4 rfl) ?_
                refine kw_iald hx hb hK hP 5 0 (Nat.lt_of_lt_of_le (by decide : 5 < 19) hn) e5 rfl (wh q) (rfl) (hk) (by omega) d_R_reads_404 ?_
                refine lv_imul hx hb d_R_reads_405 ?_
                refine lv_iload hx hb d_R_reads_406 (lv_at hl 2 rfl) ?_
                refine lv_iload hx hb d_R_reads_408 (lv_at hl 3 rfl) ?_
                refine lv_imul hx hb d_R_reads_410 ?_
                refine lv_iadd hx hb d_R_reads_411 ?_
                refine lv_iload hx hb d_R_reads_412 (lv_at hl 3 rfl) ?_
                refine kw_calllx (kw_rS (As := [.int ((8 * (nI (pd (wh q)))) + (((nI (fr q)) + (nI t)) * (nI (wd q)))), .int (nI (wd q))]) (rest := []) ⟨hx, hb, hml, hown, hg⟩ ⟨callB_of 2 hg (kg_goodG kg_707) rfl rfl rfl (hg _ kg_7) (hg _ kg_705) (by decide +kernel) ⟨by decide, by decide⟩, hg _ kg_706⟩ (c_R_bytes l  ) hK hP rfl hl.1 rfl (Nat.le_of_ble_eq_true rfl) d_R_reads_414 ⟨Nat.zero_le _, Nat.zero_le _⟩) hA hS (fun H locs hP hS => ?_)
                refine lv_lstore (lv' := [(7, .long (kv_R_bytes ((8 * (nI (pd (wh q)))) + (((nI (fr q)) + (nI t)) * (nI (wd q)))) (nI (wd q)))), (6, .int (nI (po (wh q)))), (5, .int ((nI (fr q)) + (nI t))), (4, .int (nI (wd q))), (3, .int (nI (wh q))), (0, .ref (ad 0)), (1, .int (nI q)), (2, .int (nI t))]) hx hb d_R_reads_417 hl (by decide) rfl (fun ls hl => ?_)
                refine lv_goto (tgt := 451) hx hb d_R_reads_419 (by decide) ?_
                refine lv_aload_n hx hb d_R_reads_451 rfl (lv_at hl 5 rfl) ?_
                refine kw_get hx hb hg in_R hown hK hP 0 (Nat.lt_of_lt_of_le (by decide : 0 < 19) hn) e0 rfl 20 (by decide) (hg _ kg_603) rfl rfl d_R_reads_452 ?_
                refine lv_iload_n hx hb d_R_reads_455 rfl (lv_at hl 4 rfl) ?_
                refine kw_zald hx hb hK hP 9 1 (Nat.lt_of_lt_of_le (by decide : 9 < 19) hn) e9 rfl (wh q) (rfl) (hk) (by omega) d_R_reads_456 ?_
                refine lv_if_eq (tgt := 475) hx hb d_R_reads_457 (by decide) (fun h16 => ?_) (fun h16 => ?_)
                · refine lv_lload hx hb d_R_reads_475 (lv_at hl 0 rfl) ?_
                  exact kw_lret hx hb hr hlocks hP hK hS ⟨by rw [kv_R_reads, if_neg h1, if_neg h2, if_neg h6, if_neg h9, if_neg h10, if_neg h11, if_pos h12, if_pos h16], rfl⟩ d_R_reads_477
                · refine lv_lload hx hb d_R_reads_460 (lv_at hl 0 rfl) ?_
                  refine lv_iload hx hb d_R_reads_462 (lv_at hl 2 rfl) ?_
                  refine lv_bipush (v := 8) hx hb d_R_reads_464 (by decide) ?_
                  refine lv_idiv hx hb d_R_reads_466 (by decide) ?_
                  refine lv_iconst (v := 1) hx hb d_R_reads_467 (by decide) ?_
                  refine kw_calllx (kw_rS (As := [.int (((nI (fr q)) + (nI t)) / 8), .int 1]) (rest := [.long (kv_R_bytes ((8 * (nI (pd (wh q)))) + (((nI (fr q)) + (nI t)) * (nI (wd q)))) (nI (wd q)))]) ⟨hx, hb, hml, hown, hg⟩ ⟨callB_of 2 hg (kg_goodG kg_707) rfl rfl rfl (hg _ kg_7) (hg _ kg_705) (by decide +kernel) ⟨by decide, by decide⟩, hg _ kg_706⟩ (c_R_bytes l  ) hK hP rfl hl.1 rfl (Nat.le_of_ble_eq_true rfl) d_R_reads_468 ⟨Nat.zero_le _, Nat.zero_le _⟩) hA hS (fun H locs hP hS => ?_)
                  refine lv_lor hx hb d_R_reads_471 ?_
                  refine lv_goto (tgt := 477) hx hb d_R_reads_472 (by decide) ?_
                  exact kw_lret hx hb hr hlocks hP hK hS ⟨by rw [kv_R_reads, if_neg h1, if_neg h2, if_neg h6, if_neg h9, if_neg h10, if_neg h11, if_pos h12, if_neg h16], rfl⟩ d_R_reads_477
            · refine lv_iconst (v := 0) hx hb d_R_reads_318 (by decide) ?_
              refine lv_istore (lv' := [(9, .int 0), (7, .long 0), (6, .int (nI (po (wh q)))), (5, .int ((nI (fr q)) + (nI t))), (4, .int (nI (wd q))), (3, .int (nI (wh q))), (0, .ref (ad 0)), (1, .int (nI q)), (2, .int (nI t))]) hx hb d_R_reads_319 hl (by decide) rfl (fun ls hl => ?_)
              have KXb : ∀ (H : Heap) (locs : List Loc) (ls : Array Slot), va_P D kc (kw_w ad cs n) H → va_S (kw_A ad n) s.heap H locs → lv_has ls 11 [(7, .long (kv_rg (pa (wh q)) (8 * rg q) 0 0)), (3, .int (nI (wh q))), (4, .int (nI (wd q))), (5, .int ((nI (fr q)) + (nI t))), (6, .int (nI (po (wh q)))), (0, .ref (ad 0)), (1, .int (nI q)), (2, .int (nI t))] → W p l e (kr 1) s m [.ref (ad 0), .int (nI q), .int (nI t)].toArray below meth c H locs 0 0 (MQ below (va_Ql (fun r9 c9 => r9 = kv_R_reads po pd pa pb pm wh wd rg fr XB q t vq ∧ c9 = cs) (kw_Pre D kc (ktR cI cZ) ad n) (kw_A ad n)) [.ref (ad 0), .int (nI q), .int (nI t)].toArray s 0 0 (kw_A ad n)) (F0 m 362 ls []) := by
                intro H locs ls hP hS hl
                refine lv_lload hx hb d_R_reads_362 (lv_at hl 0 rfl) ?_
                refine lv_bipush (v := 8) hx hb d_R_reads_364 (by decide) ?_
                refine lv_aload_n hx hb d_R_reads_366 rfl (lv_at hl 5 rfl) ?_
                refine kw_get hx hb hg in_R hown hK hP 0 (Nat.lt_of_lt_of_le (by decide : 0 < 19) hn) e0 rfl 18 (by decide) (hg _ kg_601) rfl rfl d_R_reads_367 ?_
                refine lv_iload_n hx hb d_R_reads_370 rfl (lv_at hl 1 rfl) ?_
                refine kw_iald hx hb hK hP 7 0 (Nat.lt_of_lt_of_le (by decide : 7 < 19) hn) e7 rfl (wh q) (rfl) (hk) (by omega) d_R_reads_371 ?_
                refine lv_imul hx hb d_R_reads_372 ?_
                refine lv_iload hx hb d_R_reads_373 (lv_at hl 3 rfl) ?_
                refine lv_iload hx hb d_R_reads_375 (lv_at hl 2 rfl) ?_
                refine lv_imul hx hb d_R_reads_377 ?_
                refine lv_iadd hx hb d_R_reads_378 ?_
                refine lv_iload hx hb d_R_reads_379 (lv_at hl 2 rfl) ?_
                refine kw_calllx (kw_rS (As := [.int ((8 * (nI (pb (wh q)))) + (((nI (fr q)) + (nI t)) * (nI (wd q)))), .int (nI (wd q))]) (rest := [.long (kv_rg (pa (wh q)) (8 * rg q) 0 0)]) ⟨hx, hb, hml, hown, hg⟩ ⟨callB_of 2 hg (kg_goodG kg_707) rfl rfl rfl (hg _ kg_7) (hg _ kg_705) (by decide +kernel) ⟨by decide, by decide⟩, hg _ kg_706⟩ (c_R_bytes l  ) hK hP rfl hl.1 rfl (Nat.le_of_ble_eq_true rfl) d_R_reads_381 ⟨Nat.zero_le _, Nat.zero_le _⟩) hA hS (fun H locs hP hS => ?_)
                refine lv_lor hx hb d_R_reads_384 ?_
                refine lv_lstore (lv' := [(7, .long ((kv_rg (pa (wh q)) (8 * rg q) 0 0) ||| (kv_R_bytes ((8 * (nI (pb (wh q)))) + (((nI (fr q)) + (nI t)) * (nI (wd q)))) (nI (wd q))))), (3, .int (nI (wh q))), (4, .int (nI (wd q))), (5, .int ((nI (fr q)) + (nI t))), (6, .int (nI (po (wh q)))), (0, .ref (ad 0)), (1, .int (nI q)), (2, .int (nI t))]) hx hb d_R_reads_385 hl (by decide) rfl (fun ls hl => ?_)
                refine lv_goto (tgt := 451) hx hb d_R_reads_387 (by decide) ?_
                refine lv_aload_n hx hb d_R_reads_451 rfl (lv_at hl 5 rfl) ?_
                refine kw_get hx hb hg in_R hown hK hP 0 (Nat.lt_of_lt_of_le (by decide : 0 < 19) hn) e0 rfl 20 (by decide) (hg _ kg_603) rfl rfl d_R_reads_452 ?_
                refine lv_iload_n hx hb d_R_reads_455 rfl (lv_at hl 1 rfl) ?_
                refine kw_zald hx hb hK hP 9 1 (Nat.lt_of_lt_of_le (by decide : 9 < 19) hn) e9 rfl (wh q) (rfl) (hk) (by omega) d_R_reads_456 ?_
                refine lv_if_eq (tgt := 475) hx hb d_R_reads_457 (by decide) (fun h17 => ?_) (fun h17 => ?_)
                · refine lv_lload hx hb d_R_reads_475 (lv_at hl 0 rfl) ?_
                  exact kw_lret hx hb hr hlocks hP hK hS ⟨by rw [kv_R_reads, if_neg h1, if_neg h2, if_neg h6, if_neg h9, if_neg h10, if_pos h11, if_pos h17], rfl⟩ d_R_reads_477
                · refine lv_lload hx hb d_R_reads_460 (lv_at hl 0 rfl) ?_
                  refine lv_iload hx hb d_R_reads_462 (lv_at hl 3 rfl) ?_
                  refine lv_bipush (v := 8) hx hb d_R_reads_464 (by decide) ?_
                  refine lv_idiv hx hb d_R_reads_466 (by decide) ?_
                  refine lv_iconst (v := 1) hx hb d_R_reads_467 (by decide) ?_
                  refine kw_calllx (kw_rS (As := [.int (((nI (fr q)) + (nI t)) / 8), .int 1]) (rest := [.long ((kv_rg (pa (wh q)) (8 * rg q) 0 0) ||| (kv_R_bytes ((8 * (nI (pb (wh q)))) + (((nI (fr q)) + (nI t)) * (nI (wd q)))) (nI (wd q))))]) ⟨hx, hb, hml, hown, hg⟩ ⟨callB_of 2 hg (kg_goodG kg_707) rfl rfl rfl (hg _ kg_7) (hg _ kg_705) (by decide +kernel) ⟨by decide, by decide⟩, hg _ kg_706⟩ (c_R_bytes l  ) hK hP rfl hl.1 rfl (Nat.le_of_ble_eq_true rfl) d_R_reads_468 ⟨Nat.zero_le _, Nat.zero_le _⟩) hA hS (fun H locs hP hS => ?_)
                  refine lv_lor hx hb d_R_reads_471 ?_
                  refine lv_goto (tgt := 477) hx hb d_R_reads_472 (by decide) ?_
                  exact kw_lret hx hb hr hlocks hP hK hS ⟨by rw [kv_R_reads, if_neg h1, if_neg h2, if_neg h6, if_neg h9, if_neg h10, if_pos h11, if_neg h17], rfl⟩ d_R_reads_477
              have loopb : ∀ (kk : Nat) (ee : Nat) (v : Int64) (H : Heap) (locs : List Loc) (ls : Array Slot), ee + kk = 8 * rg q → kv_rg (pa (wh q)) (8 * rg q) 0 0 = kv_rg (pa (wh q)) kk ee v → va_P D kc (kw_w ad cs n) H → va_S (kw_A ad n) s.heap H locs → lv_has ls 11 [(9, .int (nI ee)), (7, .long v), (3, .int (nI (wh q))), (4, .int (nI (wd q))), (5, .int ((nI (fr q)) + (nI t))), (6, .int (nI (po (wh q)))), (0, .ref (ad 0)), (1, .int (nI q)), (2, .int (nI t))] → W p l e (kr 1) s m [.ref (ad 0), .int (nI q), .int (nI t)].toArray below meth c H locs 0 0 (MQ below (va_Ql (fun r9 c9 => r9 = kv_R_reads po pd pa pb pm wh wd rg fr XB q t vq ∧ c9 = cs) (kw_Pre D kc (ktR cI cZ) ad n) (kw_A ad n)) [.ref (ad 0), .int (nI q), .int (nI t)].toArray s 0 0 (kw_A ad n)) (F0 m 321 ls []) := by
                intro kk
                induction kk with
                | zero =>
                  intro ee v H locs ls hik hv hP hS hl
                  refine lv_iload hx hb d_R_reads_321 (lv_at hl 0 rfl) ?_
                  refine lv_bipush (v := 8) hx hb d_R_reads_323 (by decide) ?_
                  refine lv_aload_n hx hb d_R_reads_325 rfl (lv_at hl 6 rfl) ?_
                  refine kw_get hx hb hg in_R hown hK hP 0 (Nat.lt_of_lt_of_le (by decide : 0 < 19) hn) e0 rfl 24 (by decide) (hg _ kg_607) rfl rfl d_R_reads_326 ?_
                  refine lv_iload_n hx hb d_R_reads_329 rfl (lv_at hl 7 rfl) ?_
                  refine kw_iald hx hb hK hP 12 0 (Nat.lt_of_lt_of_le (by decide : 12 < 19) hn) e12 rfl q (rfl) (hq) (by omega) d_R_reads_330 ?_
                  refine lv_imul hx hb d_R_reads_331 ?_
                  refine lv_icmp_ge (tgt := 362) hx hb d_R_reads_332 (by decide) (fun _ => ?_) (fun h18 => absurd (by rw [show (8 : Int32) = nI 8 from rfl, pk_mul]; exact nI_le (by omega) (by omega)) h18)
                  exact KXb _ _ _ (hP) hS (by rw [show kv_rg (pa (wh q)) (8 * rg q) 0 0 = v from hv]; exact lv_sub hl [1, 2, 3, 4, 5, 6, 7, 8] rfl)
                | succ j ihb =>
                  intro ee v H locs ls hik hv hP hS hl
                  refine lv_iload hx hb d_R_reads_321 (lv_at hl 0 rfl) ?_
                  refine lv_bipush (v := 8) hx hb d_R_reads_323 (by decide) ?_
                  refine lv_aload_n hx hb d_R_reads_325 rfl (lv_at hl 6 rfl) ?_
                  refine kw_get hx hb hg in_R hown hK hP 0 (Nat.lt_of_lt_of_le (by decide : 0 < 19) hn) e0 rfl 24 (by decide) (hg _ kg_607) rfl rfl d_R_reads_326 ?_
                  refine lv_iload_n hx hb d_R_reads_329 rfl (lv_at hl 7 rfl) ?_
                  refine kw_iald hx hb hK hP 12 0 (Nat.lt_of_lt_of_le (by decide : 12 < 19) hn) e12 rfl q (rfl) (hq) (by omega) d_R_reads_330 ?_
                  refine lv_imul hx hb d_R_reads_331 ?_
                  refine lv_icmp_ge (tgt := 362) hx hb d_R_reads_332 (by decide) (fun h19 => absurd h19 (by rw [show (8 : Int32) = nI 8 from rfl, pk_mul]; exact nI_ge (by omega) (by omega))) (fun _ => ?_)
                  refine lv_lload hx hb d_R_reads_335 (lv_at hl 1 rfl) ?_
                  refine lv_bipush (v := 8) hx hb d_R_reads_337 (by decide) ?_
                  refine lv_aload_n hx hb d_R_reads_339 rfl (lv_at hl 6 rfl) ?_
                  refine kw_get hx hb hg in_R hown hK hP 0 (Nat.lt_of_lt_of_le (by decide : 0 < 19) hn) e0 rfl 17 (by decide) (hg _ kg_600) rfl rfl d_R_reads_340 ?_
                  refine lv_iload_n hx hb d_R_reads_343 rfl (lv_at hl 2 rfl) ?_
                  refine kw_iald hx hb hK hP 6 0 (Nat.lt_of_lt_of_le (by decide : 6 < 19) hn) e6 rfl (wh q) (rfl) (hk) (by omega) d_R_reads_344 ?_
                  refine lv_imul hx hb d_R_reads_345 ?_
                  refine lv_iload hx hb d_R_reads_346 (lv_at hl 0 rfl) ?_
                  refine lv_iadd hx hb d_R_reads_348 ?_
                  refine lv_iconst (v := 1) hx hb d_R_reads_349 (by decide) ?_
                  refine kw_calllx (kw_rS (As := [.int ((8 * (nI (pa (wh q)))) + (nI ee)), .int 1]) (rest := [.long v]) ⟨hx, hb, hml, hown, hg⟩ ⟨callB_of 2 hg (kg_goodG kg_707) rfl rfl rfl (hg _ kg_7) (hg _ kg_705) (by decide +kernel) ⟨by decide, by decide⟩, hg _ kg_706⟩ (c_R_bytes l  ) hK hP rfl hl.1 rfl (Nat.le_of_ble_eq_true rfl) d_R_reads_350 ⟨Nat.zero_le _, Nat.zero_le _⟩) hA hS (fun H locs hP hS => ?_)
                  refine lv_lor hx hb d_R_reads_353 ?_
                  refine lv_lstore (lv' := [(7, .long (v ||| (kv_R_bytes ((8 * (nI (pa (wh q)))) + (nI ee)) 1))), (9, .int (nI ee)), (3, .int (nI (wh q))), (4, .int (nI (wd q))), (5, .int ((nI (fr q)) + (nI t))), (6, .int (nI (po (wh q)))), (0, .ref (ad 0)), (1, .int (nI q)), (2, .int (nI t))]) hx hb d_R_reads_354 hl (by decide) rfl (fun ls hl => ?_)
                  refine lv_iinc (k := 1) (v := nI (ee + 1)) (lv' := [(9, .int (nI (ee + 1))), (7, .long (v ||| (kv_R_bytes ((8 * (nI (pa (wh q)))) + (nI ee)) 1))), (3, .int (nI (wh q))), (4, .int (nI (wd q))), (5, .int ((nI (fr q)) + (nI t))), (6, .int (nI (po (wh q)))), (0, .ref (ad 0)), (1, .int (nI q)), (2, .int (nI t))]) hx hb d_R_reads_356 hl rfl ((nI_succ ee).symm) (by decide) rfl (fun ls hl => ?_)
                  refine lv_goto (tgt := 321) hx hb d_R_reads_359 (by decide) ?_
                  exact ihb ((ee + 1)) _ _ _ _ (by omega) (hv) (hP) hS (lv_sub hl [0, 1, 2, 3, 4, 5, 6, 7, 8] rfl)
              exact loopb (8 * rg q) 0 _ _ _ _ (by omega) (rfl) (hP) hS (lv_sub hl [0, 1, 5, 4, 3, 2, 6, 7, 8] rfl)
          · refine lv_iload hx hb d_R_reads_249 (lv_at hl 2 rfl) ?_
            refine lv_aload_n hx hb d_R_reads_251 rfl (lv_at hl 5 rfl) ?_
            refine kw_get hx hb hg in_R hown hK hP 0 (Nat.lt_of_lt_of_le (by decide : 0 < 19) hn) e0 rfl 30 (by decide) (hg _ kg_613) rfl rfl d_R_reads_252 ?_
            refine lv_iload_n hx hb d_R_reads_255 rfl (lv_at hl 6 rfl) ?_
            refine kw_iald hx hb hK hP 18 0 (Nat.lt_of_lt_of_le (by decide : 18 < 19) hn) e18 rfl q (rfl) (hq) (by omega) d_R_reads_256 ?_
            refine lv_iadd hx hb d_R_reads_257 ?_
            refine lv_istore (lv' := [(9, .int (((nI (fr q)) + (nI t)) + (XB q))), (7, .long 0), (6, .int (nI (po (wh q)))), (5, .int ((nI (fr q)) + (nI t))), (4, .int (nI (wd q))), (3, .int (nI (wh q))), (0, .ref (ad 0)), (1, .int (nI q)), (2, .int (nI t))]) hx hb d_R_reads_258 hl (by decide) rfl (fun ls hl => ?_)
            refine lv_iload hx hb d_R_reads_260 (lv_at hl 0 rfl) ?_
            refine lv_if_lt (tgt := 305) hx hb d_R_reads_262 (by decide) (fun h20 => ?_) (fun h20 => ?_)
            · refine lv_lconst (v := 0) hx hb d_R_reads_305 (by decide) ?_
              refine lv_lstore (lv' := [(7, .long 0), (9, .int (((nI (fr q)) + (nI t)) + (XB q))), (6, .int (nI (po (wh q)))), (5, .int ((nI (fr q)) + (nI t))), (4, .int (nI (wd q))), (3, .int (nI (wh q))), (0, .ref (ad 0)), (1, .int (nI q)), (2, .int (nI t))]) hx hb d_R_reads_306 hl (by decide) rfl (fun ls hl => ?_)
              refine lv_goto (tgt := 451) hx hb d_R_reads_308 (by decide) ?_
              refine lv_aload_n hx hb d_R_reads_451 rfl (lv_at hl 6 rfl) ?_
              refine kw_get hx hb hg in_R hown hK hP 0 (Nat.lt_of_lt_of_le (by decide : 0 < 19) hn) e0 rfl 20 (by decide) (hg _ kg_603) rfl rfl d_R_reads_452 ?_
              refine lv_iload_n hx hb d_R_reads_455 rfl (lv_at hl 5 rfl) ?_
              refine kw_zald hx hb hK hP 9 1 (Nat.lt_of_lt_of_le (by decide : 9 < 19) hn) e9 rfl (wh q) (rfl) (hk) (by omega) d_R_reads_456 ?_
              refine lv_if_eq (tgt := 475) hx hb d_R_reads_457 (by decide) (fun h21 => ?_) (fun h21 => ?_)
              · refine lv_lload hx hb d_R_reads_475 (lv_at hl 0 rfl) ?_
                exact kw_lret hx hb hr hlocks hP hK hS ⟨by rw [kv_R_reads, if_neg h1, if_neg h2, if_neg h6, if_neg h9, if_pos h10, if_pos h20, if_pos h21], rfl⟩ d_R_reads_477
              · refine lv_lload hx hb d_R_reads_460 (lv_at hl 0 rfl) ?_
                refine lv_iload hx hb d_R_reads_462 (lv_at hl 3 rfl) ?_
                refine lv_bipush (v := 8) hx hb d_R_reads_464 (by decide) ?_
                refine lv_idiv hx hb d_R_reads_466 (by decide) ?_
                refine lv_iconst (v := 1) hx hb d_R_reads_467 (by decide) ?_
                refine kw_calllx (kw_rS (As := [.int (((nI (fr q)) + (nI t)) / 8), .int 1]) (rest := [.long 0]) ⟨hx, hb, hml, hown, hg⟩ ⟨callB_of 2 hg (kg_goodG kg_707) rfl rfl rfl (hg _ kg_7) (hg _ kg_705) (by decide +kernel) ⟨by decide, by decide⟩, hg _ kg_706⟩ (c_R_bytes l  ) hK hP rfl hl.1 rfl (Nat.le_of_ble_eq_true rfl) d_R_reads_468 ⟨Nat.zero_le _, Nat.zero_le _⟩) hA hS (fun H locs hP hS => ?_)
                refine lv_lor hx hb d_R_reads_471 ?_
                refine lv_goto (tgt := 477) hx hb d_R_reads_472 (by decide) ?_
                exact kw_lret hx hb hr hlocks hP hK hS ⟨by rw [kv_R_reads, if_neg h1, if_neg h2, if_neg h6, if_neg h9, if_pos h10, if_pos h20, if_neg h21], rfl⟩ d_R_reads_477
            · refine lv_iload hx hb d_R_reads_265 (lv_at hl 0 rfl) ?_
              refine lv_bipush (v := 8) hx hb d_R_reads_267 (by decide) ?_
              refine lv_aload_n hx hb d_R_reads_269 rfl (lv_at hl 6 rfl) ?_
              refine kw_get hx hb hg in_R hown hK hP 0 (Nat.lt_of_lt_of_le (by decide : 0 < 19) hn) e0 rfl 24 (by decide) (hg _ kg_607) rfl rfl d_R_reads_270 ?_
              refine lv_iload_n hx hb d_R_reads_273 rfl (lv_at hl 7 rfl) ?_
              refine kw_iald hx hb hK hP 12 0 (Nat.lt_of_lt_of_le (by decide : 12 < 19) hn) e12 rfl q (rfl) (hq) (by omega) d_R_reads_274 ?_
              refine lv_imul hx hb d_R_reads_275 ?_
              refine lv_iload hx hb d_R_reads_276 (lv_at hl 4 rfl) ?_
              refine lv_idiv hx hb d_R_reads_278 (nI_ne0 hw0 (by omega)) ?_
              refine lv_icmp_ge (tgt := 305) hx hb d_R_reads_279 (by decide) (fun h22 => ?_) (fun h22 => ?_)
              · refine lv_lconst (v := 0) hx hb d_R_reads_305 (by decide) ?_
                refine lv_lstore (lv' := [(7, .long 0), (9, .int (((nI (fr q)) + (nI t)) + (XB q))), (6, .int (nI (po (wh q)))), (5, .int ((nI (fr q)) + (nI t))), (4, .int (nI (wd q))), (3, .int (nI (wh q))), (0, .ref (ad 0)), (1, .int (nI q)), (2, .int (nI t))]) hx hb d_R_reads_306 hl (by decide) rfl (fun ls hl => ?_)
                refine lv_goto (tgt := 451) hx hb d_R_reads_308 (by decide) ?_
                refine lv_aload_n hx hb d_R_reads_451 rfl (lv_at hl 6 rfl) ?_
                refine kw_get hx hb hg in_R hown hK hP 0 (Nat.lt_of_lt_of_le (by decide : 0 < 19) hn) e0 rfl 20 (by decide) (hg _ kg_603) rfl rfl d_R_reads_452 ?_
                refine lv_iload_n hx hb d_R_reads_455 rfl (lv_at hl 5 rfl) ?_
                refine kw_zald hx hb hK hP 9 1 (Nat.lt_of_lt_of_le (by decide : 9 < 19) hn) e9 rfl (wh q) (rfl) (hk) (by omega) d_R_reads_456 ?_
                refine lv_if_eq (tgt := 475) hx hb d_R_reads_457 (by decide) (fun h23 => ?_) (fun h23 => ?_)
                · refine lv_lload hx hb d_R_reads_475 (lv_at hl 0 rfl) ?_
                  exact kw_lret hx hb hr hlocks hP hK hS ⟨by rw [kv_R_reads, if_neg h1, if_neg h2, if_neg h6, if_neg h9, if_pos h10, if_neg h20, if_pos h22, if_pos h23], rfl⟩ d_R_reads_477
                · refine lv_lload hx hb d_R_reads_460 (lv_at hl 0 rfl) ?_
                  refine lv_iload hx hb d_R_reads_462 (lv_at hl 3 rfl) ?_
                  refine lv_bipush (v := 8) hx hb d_R_reads_464 (by decide) ?_
                  refine lv_idiv hx hb d_R_reads_466 (by decide) ?_
                  refine lv_iconst (v := 1) hx hb d_R_reads_467 (by decide) ?_
                  refine kw_calllx (kw_rS (As := [.int (((nI (fr q)) + (nI t)) / 8), .int 1]) (rest := [.long 0]) ⟨hx, hb, hml, hown, hg⟩ ⟨callB_of 2 hg (kg_goodG kg_707) rfl rfl rfl (hg _ kg_7) (hg _ kg_705) (by decide +kernel) ⟨by decide, by decide⟩, hg _ kg_706⟩ (c_R_bytes l  ) hK hP rfl hl.1 rfl (Nat.le_of_ble_eq_true rfl) d_R_reads_468 ⟨Nat.zero_le _, Nat.zero_le _⟩) hA hS (fun H locs hP hS => ?_)
                  refine lv_lor hx hb d_R_reads_471 ?_
                  refine lv_goto (tgt := 477) hx hb d_R_reads_472 (by decide) ?_
                  exact kw_lret hx hb hr hlocks hP hK hS ⟨by rw [kv_R_reads, if_neg h1, if_neg h2, if_neg h6, if_neg h9, if_pos h10, if_neg h20, if_pos h22, if_neg h23], rfl⟩ d_R_reads_477
              · refine lv_bipush (v := 8) hx hb d_R_reads_282 (by decide) ?_
                refine lv_aload_n hx hb d_R_reads_284 rfl (lv_at hl 6 rfl) ?_
                refine kw_get hx hb hg in_R hown hK hP 0 (Nat.lt_of_lt_of_le (by decide : 0 < 19) hn) e0 rfl 17 (by decide) (hg _ kg_600) rfl rfl d_R_reads_285 ?_
                refine lv_iload_n hx hb d_R_reads_288 rfl (lv_at hl 5 rfl) ?_
                refine kw_iald hx hb hK hP 6 0 (Nat.lt_of_lt_of_le (by decide : 6 < 19) hn) e6 rfl (wh q) (rfl) (hk) (by omega) d_R_reads_289 ?_
                refine lv_imul hx hb d_R_reads_290 ?_
                refine lv_iload hx hb d_R_reads_291 (lv_at hl 0 rfl) ?_
                refine lv_iload hx hb d_R_reads_293 (lv_at hl 4 rfl) ?_
                refine lv_imul hx hb d_R_reads_295 ?_
                refine lv_iadd hx hb d_R_reads_296 ?_
                refine lv_iload hx hb d_R_reads_297 (lv_at hl 4 rfl) ?_
                refine kw_calllx (kw_rS (As := [.int ((8 * (nI (pa (wh q)))) + ((((nI (fr q)) + (nI t)) + (XB q)) * (nI (wd q)))), .int (nI (wd q))]) (rest := []) ⟨hx, hb, hml, hown, hg⟩ ⟨callB_of 2 hg (kg_goodG kg_707) rfl rfl rfl (hg _ kg_7) (hg _ kg_705) (by decide +kernel) ⟨by decide, by decide⟩, hg _ kg_706⟩ (c_R_bytes l  ) hK hP rfl hl.1 rfl (Nat.le_of_ble_eq_true rfl) d_R_reads_299 ⟨Nat.zero_le _, Nat.zero_le _⟩) hA hS (fun H locs hP hS => ?_)
                refine lv_goto (tgt := 306) hx hb d_R_reads_302 (by decide) ?_
                refine lv_lstore (lv' := [(7, .long (kv_R_bytes ((8 * (nI (pa (wh q)))) + ((((nI (fr q)) + (nI t)) + (XB q)) * (nI (wd q)))) (nI (wd q)))), (9, .int (((nI (fr q)) + (nI t)) + (XB q))), (6, .int (nI (po (wh q)))), (5, .int ((nI (fr q)) + (nI t))), (4, .int (nI (wd q))), (3, .int (nI (wh q))), (0, .ref (ad 0)), (1, .int (nI q)), (2, .int (nI t))]) hx hb d_R_reads_306 hl (by decide) rfl (fun ls hl => ?_)
                refine lv_goto (tgt := 451) hx hb d_R_reads_308 (by decide) ?_
                refine lv_aload_n hx hb d_R_reads_451 rfl (lv_at hl 6 rfl) ?_
                refine kw_get hx hb hg in_R hown hK hP 0 (Nat.lt_of_lt_of_le (by decide : 0 < 19) hn) e0 rfl 20 (by decide) (hg _ kg_603) rfl rfl d_R_reads_452 ?_
                refine lv_iload_n hx hb d_R_reads_455 rfl (lv_at hl 5 rfl) ?_
                refine kw_zald hx hb hK hP 9 1 (Nat.lt_of_lt_of_le (by decide : 9 < 19) hn) e9 rfl (wh q) (rfl) (hk) (by omega) d_R_reads_456 ?_
                refine lv_if_eq (tgt := 475) hx hb d_R_reads_457 (by decide) (fun h24 => ?_) (fun h24 => ?_)
                · refine lv_lload hx hb d_R_reads_475 (lv_at hl 0 rfl) ?_
                  exact kw_lret hx hb hr hlocks hP hK hS ⟨by rw [kv_R_reads, if_neg h1, if_neg h2, if_neg h6, if_neg h9, if_pos h10, if_neg h20, if_neg h22, if_pos h24], rfl⟩ d_R_reads_477
                · refine lv_lload hx hb d_R_reads_460 (lv_at hl 0 rfl) ?_
                  refine lv_iload hx hb d_R_reads_462 (lv_at hl 3 rfl) ?_
                  refine lv_bipush (v := 8) hx hb d_R_reads_464 (by decide) ?_
                  refine lv_idiv hx hb d_R_reads_466 (by decide) ?_
                  refine lv_iconst (v := 1) hx hb d_R_reads_467 (by decide) ?_
                  refine kw_calllx (kw_rS (As := [.int (((nI (fr q)) + (nI t)) / 8), .int 1]) (rest := [.long (kv_R_bytes ((8 * (nI (pa (wh q)))) + ((((nI (fr q)) + (nI t)) + (XB q)) * (nI (wd q)))) (nI (wd q)))]) ⟨hx, hb, hml, hown, hg⟩ ⟨callB_of 2 hg (kg_goodG kg_707) rfl rfl rfl (hg _ kg_7) (hg _ kg_705) (by decide +kernel) ⟨by decide, by decide⟩, hg _ kg_706⟩ (c_R_bytes l  ) hK hP rfl hl.1 rfl (Nat.le_of_ble_eq_true rfl) d_R_reads_468 ⟨Nat.zero_le _, Nat.zero_le _⟩) hA hS (fun H locs hP hS => ?_)
                  refine lv_lor hx hb d_R_reads_471 ?_
                  refine lv_goto (tgt := 477) hx hb d_R_reads_472 (by decide) ?_
                  exact kw_lret hx hb hr hlocks hP hK hS ⟨by rw [kv_R_reads, if_neg h1, if_neg h2, if_neg h6, if_neg h9, if_pos h10, if_neg h20, if_neg h22, if_neg h24], rfl⟩ d_R_reads_477
        · refine lv_bipush (v := 8) hx hb d_R_reads_180 (by decide) ?_
          refine lv_aload_n hx hb d_R_reads_182 rfl (lv_at hl 5 rfl) ?_
          refine kw_get hx hb hg in_R hown hK hP 0 (Nat.lt_of_lt_of_le (by decide : 0 < 19) hn) e0 rfl 17 (by decide) (hg _ kg_600) rfl rfl d_R_reads_183 ?_
          refine lv_iload_n hx hb d_R_reads_186 rfl (lv_at hl 4 rfl) ?_
          refine kw_iald hx hb hK hP 6 0 (Nat.lt_of_lt_of_le (by decide : 6 < 19) hn) e6 rfl (wh q) (rfl) (hk) (by omega) d_R_reads_187 ?_
          refine lv_imul hx hb d_R_reads_188 ?_
          refine lv_iload hx hb d_R_reads_189 (lv_at hl 2 rfl) ?_
          refine lv_iload hx hb d_R_reads_191 (lv_at hl 3 rfl) ?_
          refine lv_imul hx hb d_R_reads_193 ?_
          refine lv_iadd hx hb d_R_reads_194 ?_
          refine lv_iload hx hb d_R_reads_195 (lv_at hl 3 rfl) ?_
          refine kw_calllx (kw_rS (As := [.int ((8 * (nI (pa (wh q)))) + (((nI (fr q)) + (nI t)) * (nI (wd q)))), .int (nI (wd q))]) (rest := []) ⟨hx, hb, hml, hown, hg⟩ ⟨callB_of 2 hg (kg_goodG kg_707) rfl rfl rfl (hg _ kg_7) (hg _ kg_705) (by decide +kernel) ⟨by decide, by decide⟩, hg _ kg_706⟩ (c_R_bytes l  ) hK hP rfl hl.1 rfl (Nat.le_of_ble_eq_true rfl) d_R_reads_197 ⟨Nat.zero_le _, Nat.zero_le _⟩) hA hS (fun H locs hP hS => ?_)
          refine lv_lstore (lv' := [(7, .long (kv_R_bytes ((8 * (nI (pa (wh q)))) + (((nI (fr q)) + (nI t)) * (nI (wd q)))) (nI (wd q)))), (6, .int (nI (po (wh q)))), (5, .int ((nI (fr q)) + (nI t))), (4, .int (nI (wd q))), (3, .int (nI (wh q))), (0, .ref (ad 0)), (1, .int (nI q)), (2, .int (nI t))]) hx hb d_R_reads_200 hl (by decide) rfl (fun ls hl => ?_)
          refine lv_iload hx hb d_R_reads_202 (lv_at hl 1 rfl) ?_
          refine lv_bipush (v := 11) hx hb d_R_reads_204 (by decide) ?_
          refine lv_icmp_ne (tgt := 214) hx hb d_R_reads_206 (by decide) (fun _ => ?_) (fun h25 => absurd h25 (by rw [h9] <;> decide))
          refine lv_lload hx hb d_R_reads_214 (lv_at hl 0 rfl) ?_
          refine lv_bipush (v := 8) hx hb d_R_reads_216 (by decide) ?_
          refine lv_aload_n hx hb d_R_reads_218 rfl (lv_at hl 5 rfl) ?_
          refine kw_get hx hb hg in_R hown hK hP 0 (Nat.lt_of_lt_of_le (by decide : 0 < 19) hn) e0 rfl 18 (by decide) (hg _ kg_601) rfl rfl d_R_reads_219 ?_
          refine lv_iload_n hx hb d_R_reads_222 rfl (lv_at hl 4 rfl) ?_
          refine kw_iald hx hb hK hP 7 0 (Nat.lt_of_lt_of_le (by decide : 7 < 19) hn) e7 rfl (wh q) (rfl) (hk) (by omega) d_R_reads_223 ?_
          refine lv_imul hx hb d_R_reads_224 ?_
          refine lv_iload hx hb d_R_reads_225 (lv_at hl 2 rfl) ?_
          refine lv_iload hx hb d_R_reads_227 (lv_at hl 3 rfl) ?_
          refine lv_imul hx hb d_R_reads_229 ?_
          refine lv_iadd hx hb d_R_reads_230 ?_
          refine lv_iload hx hb d_R_reads_231 (lv_at hl 3 rfl) ?_
          refine kw_calllx (kw_rS (As := [.int ((8 * (nI (pb (wh q)))) + (((nI (fr q)) + (nI t)) * (nI (wd q)))), .int (nI (wd q))]) (rest := [.long (kv_R_bytes ((8 * (nI (pa (wh q)))) + (((nI (fr q)) + (nI t)) * (nI (wd q)))) (nI (wd q)))]) ⟨hx, hb, hml, hown, hg⟩ ⟨callB_of 2 hg (kg_goodG kg_707) rfl rfl rfl (hg _ kg_7) (hg _ kg_705) (by decide +kernel) ⟨by decide, by decide⟩, hg _ kg_706⟩ (c_R_bytes l  ) hK hP rfl hl.1 rfl (Nat.le_of_ble_eq_true rfl) d_R_reads_233 ⟨Nat.zero_le _, Nat.zero_le _⟩) hA hS (fun H locs hP hS => ?_)
          refine lv_lor hx hb d_R_reads_236 ?_
          refine lv_lstore (lv' := [(7, .long ((kv_R_bytes ((8 * (nI (pa (wh q)))) + (((nI (fr q)) + (nI t)) * (nI (wd q)))) (nI (wd q))) ||| (kv_R_bytes ((8 * (nI (pb (wh q)))) + (((nI (fr q)) + (nI t)) * (nI (wd q)))) (nI (wd q))))), (6, .int (nI (po (wh q)))), (5, .int ((nI (fr q)) + (nI t))), (4, .int (nI (wd q))), (3, .int (nI (wh q))), (0, .ref (ad 0)), (1, .int (nI q)), (2, .int (nI t))]) hx hb d_R_reads_237 hl (by decide) rfl (fun ls hl => ?_)
          refine lv_goto (tgt := 451) hx hb d_R_reads_239 (by decide) ?_
          refine lv_aload_n hx hb d_R_reads_451 rfl (lv_at hl 5 rfl) ?_
          refine kw_get hx hb hg in_R hown hK hP 0 (Nat.lt_of_lt_of_le (by decide : 0 < 19) hn) e0 rfl 20 (by decide) (hg _ kg_603) rfl rfl d_R_reads_452 ?_
          refine lv_iload_n hx hb d_R_reads_455 rfl (lv_at hl 4 rfl) ?_
          refine kw_zald hx hb hK hP 9 1 (Nat.lt_of_lt_of_le (by decide : 9 < 19) hn) e9 rfl (wh q) (rfl) (hk) (by omega) d_R_reads_456 ?_
          refine lv_if_eq (tgt := 475) hx hb d_R_reads_457 (by decide) (fun h26 => ?_) (fun h26 => ?_)
          · refine lv_lload hx hb d_R_reads_475 (lv_at hl 0 rfl) ?_
            exact kw_lret hx hb hr hlocks hP hK hS ⟨by rw [kv_R_reads, if_neg h1, if_neg h2, if_neg h6, if_pos h9, if_pos h26], rfl⟩ d_R_reads_477
          · refine lv_lload hx hb d_R_reads_460 (lv_at hl 0 rfl) ?_
            refine lv_iload hx hb d_R_reads_462 (lv_at hl 2 rfl) ?_
            refine lv_bipush (v := 8) hx hb d_R_reads_464 (by decide) ?_
            refine lv_idiv hx hb d_R_reads_466 (by decide) ?_
            refine lv_iconst (v := 1) hx hb d_R_reads_467 (by decide) ?_
            refine kw_calllx (kw_rS (As := [.int (((nI (fr q)) + (nI t)) / 8), .int 1]) (rest := [.long ((kv_R_bytes ((8 * (nI (pa (wh q)))) + (((nI (fr q)) + (nI t)) * (nI (wd q)))) (nI (wd q))) ||| (kv_R_bytes ((8 * (nI (pb (wh q)))) + (((nI (fr q)) + (nI t)) * (nI (wd q)))) (nI (wd q))))]) ⟨hx, hb, hml, hown, hg⟩ ⟨callB_of 2 hg (kg_goodG kg_707) rfl rfl rfl (hg _ kg_7) (hg _ kg_705) (by decide +kernel) ⟨by decide, by decide⟩, hg _ kg_706⟩ (c_R_bytes l  ) hK hP rfl hl.1 rfl (Nat.le_of_ble_eq_true rfl) d_R_reads_468 ⟨Nat.zero_le _, Nat.zero_le _⟩) hA hS (fun H locs hP hS => ?_)
            refine lv_lor hx hb d_R_reads_471 ?_
            refine lv_goto (tgt := 477) hx hb d_R_reads_472 (by decide) ?_
            exact kw_lret hx hb hr hlocks hP hK hS ⟨by rw [kv_R_reads, if_neg h1, if_neg h2, if_neg h6, if_pos h9, if_neg h26], rfl⟩ d_R_reads_477
  · have o14 : po (wh q) = 14 := (nI_eq (b := 14) (by omega) (by omega)).mp h1
    have hvl := hvl o14
    refine lv_aload_n hx hb d_R_reads_43 rfl (lv_at hl 5 rfl) ?_
    refine lv_iload_n hx hb d_R_reads_44 rfl (lv_at hl 6 rfl) ?_
    refine kw_callix (kw_rV (As := [.int (nI q)]) (rest := []) (q0 := 0) ⟨hx, hb, hml, hown, hg⟩ ⟨callB_of 1 hg (kg_goodG kg_704) rfl rfl rfl (hg _ kg_7) (hg _ kg_701) (by decide +kernel) ⟨by decide, by decide⟩, hg _ kg_703, hg _ (kg_sel (q := (y_R_vlOf, 31)) (by decide +kernel))⟩ (c_R_vlOf l hn ⟨e0, e1, e2, e3, e4, e5, e6, e7, e8, e9, e10, e11, e12, e13, e14, e15, e16, e17, e18⟩ hq ) hK hP (Nat.lt_of_lt_of_le (by decide : 0 < 19) hn) e0 rfl rfl hl.1 rfl (Nat.le_of_ble_eq_true rfl) d_R_reads_45 ⟨Nat.zero_le _, Nat.zero_le _⟩) hA hS (fun H locs hP hS => ?_)
    refine lv_aload_n hx hb d_R_reads_48 rfl (lv_at hl 5 rfl) ?_
    refine kw_get hx hb hg in_R hown hK hP 0 (Nat.lt_of_lt_of_le (by decide : 0 < 19) hn) e0 rfl 25 (by decide) (hg _ kg_608) rfl rfl d_R_reads_49 ?_
    refine lv_iload_n hx hb d_R_reads_52 rfl (lv_at hl 6 rfl) ?_
    refine kw_iald hx hb hK hP 13 0 (Nat.lt_of_lt_of_le (by decide : 13 < 19) hn) e13 rfl q (rfl) (hq) (by omega) d_R_reads_53 ?_
    refine lv_isub hx hb d_R_reads_54 ?_
    rw [hvq o14, pk_sub (hvf o14)]
    refine lv_istore (lv' := [(9, .int (nI (vq - fr q))), (7, .long 0), (6, .int (nI (po (wh q)))), (5, .int ((nI (fr q)) + (nI t))), (4, .int (nI (wd q))), (3, .int (nI (wh q))), (0, .ref (ad 0)), (1, .int (nI q)), (2, .int (nI t))]) hx hb d_R_reads_55 hl (by decide) rfl (fun ls hl => ?_)
    refine lv_bipush (v := 8) hx hb d_R_reads_57 (by decide) ?_
    refine lv_aload_n hx hb d_R_reads_59 rfl (lv_at hl 6 rfl) ?_
    refine kw_get hx hb hg in_R hown hK hP 0 (Nat.lt_of_lt_of_le (by decide : 0 < 19) hn) e0 rfl 18 (by decide) (hg _ kg_601) rfl rfl d_R_reads_60 ?_
    refine lv_iload_n hx hb d_R_reads_63 rfl (lv_at hl 5 rfl) ?_
    refine kw_iald hx hb hK hP 7 0 (Nat.lt_of_lt_of_le (by decide : 7 < 19) hn) e7 rfl (wh q) (rfl) (hk) (by omega) d_R_reads_64 ?_
    refine lv_imul hx hb d_R_reads_65 ?_
    refine lv_iload hx hb d_R_reads_66 (lv_at hl 4 rfl) ?_
    refine kw_calllx (kw_rS (As := [.int (8 * (nI (pb (wh q)))), .int (nI (wd q))]) (rest := []) ⟨hx, hb, hml, hown, hg⟩ ⟨callB_of 2 hg (kg_goodG kg_707) rfl rfl rfl (hg _ kg_7) (hg _ kg_705) (by decide +kernel) ⟨by decide, by decide⟩, hg _ kg_706⟩ (c_R_bytes l  ) hK hP rfl hl.1 rfl (Nat.le_of_ble_eq_true rfl) d_R_reads_68 ⟨Nat.zero_le _, Nat.zero_le _⟩) hA hS (fun H locs hP hS => ?_)
    refine lv_lstore (lv' := [(7, .long (kv_R_bytes (8 * (nI (pb (wh q)))) (nI (wd q)))), (9, .int (nI (vq - fr q))), (6, .int (nI (po (wh q)))), (5, .int ((nI (fr q)) + (nI t))), (4, .int (nI (wd q))), (3, .int (nI (wh q))), (0, .ref (ad 0)), (1, .int (nI q)), (2, .int (nI t))]) hx hb d_R_reads_71 hl (by decide) rfl (fun ls hl => ?_)
    refine lv_iconst (v := 0) hx hb d_R_reads_73 (by decide) ?_
    refine lv_istore (lv' := [(10, .int 0), (7, .long (kv_R_bytes (8 * (nI (pb (wh q)))) (nI (wd q)))), (9, .int (nI (vq - fr q))), (6, .int (nI (po (wh q)))), (5, .int ((nI (fr q)) + (nI t))), (4, .int (nI (wd q))), (3, .int (nI (wh q))), (0, .ref (ad 0)), (1, .int (nI q)), (2, .int (nI t))]) hx hb d_R_reads_74 hl (by decide) rfl (fun ls hl => ?_)
    have KXa : ∀ (H : Heap) (locs : List Loc) (ls : Array Slot), va_P D kc (kw_w ad cs n) H → va_S (kw_A ad n) s.heap H locs → lv_has ls 11 [(7, .long (kv_rs (pa (wh q)) (wd q) (fr q) (pm (wh q)) (vq - fr q) 0 (kv_R_bytes (8 * nI (pb (wh q))) (nI (wd q))))), (3, .int (nI (wh q))), (4, .int (nI (wd q))), (5, .int ((nI (fr q)) + (nI t))), (6, .int (nI (po (wh q)))), (0, .ref (ad 0)), (1, .int (nI q)), (2, .int (nI t))] → W p l e (kr 1) s m [.ref (ad 0), .int (nI q), .int (nI t)].toArray below meth c H locs 0 0 (MQ below (va_Ql (fun r9 c9 => r9 = kv_R_reads po pd pa pb pm wh wd rg fr XB q t vq ∧ c9 = cs) (kw_Pre D kc (ktR cI cZ) ad n) (kw_A ad n)) [.ref (ad 0), .int (nI q), .int (nI t)].toArray s 0 0 (kw_A ad n)) (F0 m 156 ls []) := by
      intro H locs ls hP hS hl
      refine lv_lload hx hb d_R_reads_156 (lv_at hl 0 rfl) ?_
      exact kw_lret hx hb hr hlocks hP hK hS ⟨by rw [kv_R_reads, if_pos h1], rfl⟩ d_R_reads_158
    have loopa : ∀ (kk : Nat) (ee : Nat) (v : Int64) (H : Heap) (locs : List Loc) (ls : Array Slot), ee + kk = vq - fr q → kv_rs (pa (wh q)) (wd q) (fr q) (pm (wh q)) (vq - fr q) 0 (kv_R_bytes (8 * nI (pb (wh q))) (nI (wd q))) = kv_rs (pa (wh q)) (wd q) (fr q) (pm (wh q)) kk ee v → va_P D kc (kw_w ad cs n) H → va_S (kw_A ad n) s.heap H locs → lv_has ls 11 [(10, .int (nI ee)), (7, .long v), (9, .int (nI (vq - fr q))), (3, .int (nI (wh q))), (4, .int (nI (wd q))), (5, .int ((nI (fr q)) + (nI t))), (6, .int (nI (po (wh q)))), (0, .ref (ad 0)), (1, .int (nI q)), (2, .int (nI t))] → W p l e (kr 1) s m [.ref (ad 0), .int (nI q), .int (nI t)].toArray below meth c H locs 0 0 (MQ below (va_Ql (fun r9 c9 => r9 = kv_R_reads po pd pa pb pm wh wd rg fr XB q t vq ∧ c9 = cs) (kw_Pre D kc (ktR cI cZ) ad n) (kw_A ad n)) [.ref (ad 0), .int (nI q), .int (nI t)].toArray s 0 0 (kw_A ad n)) (F0 m 76 ls []) := by
      intro kk
      induction kk with
      | zero =>
        intro ee v H locs ls hik hv hP hS hl
        refine lv_iload hx hb d_R_reads_76 (lv_at hl 0 rfl) ?_
        refine lv_iload hx hb d_R_reads_78 (lv_at hl 2 rfl) ?_
        refine lv_icmp_ge (tgt := 156) hx hb d_R_reads_80 (by decide) (fun _ => ?_) (fun h27 => absurd (nI_le (by omega) (by omega)) h27)
        exact KXa _ _ _ (hP) hS (by rw [show kv_rs (pa (wh q)) (wd q) (fr q) (pm (wh q)) (vq - fr q) 0 (kv_R_bytes (8 * nI (pb (wh q))) (nI (wd q))) = v from hv]; exact lv_sub hl [1, 3, 4, 5, 6, 7, 8, 9] rfl)
      | succ j iha =>
        intro ee v H locs ls hik hv hP hS hl
        refine lv_iload hx hb d_R_reads_76 (lv_at hl 0 rfl) ?_
        refine lv_iload hx hb d_R_reads_78 (lv_at hl 2 rfl) ?_
        refine lv_icmp_ge (tgt := 156) hx hb d_R_reads_80 (by decide) (fun h28 => absurd h28 (nI_ge (by omega) (by omega))) (fun _ => ?_)
        refine lv_lload hx hb d_R_reads_83 (lv_at hl 1 rfl) ?_
        refine lv_bipush (v := 8) hx hb d_R_reads_85 (by decide) ?_
        refine lv_aload_n hx hb d_R_reads_87 rfl (lv_at hl 7 rfl) ?_
        refine kw_get hx hb hg in_R hown hK hP 0 (Nat.lt_of_lt_of_le (by decide : 0 < 19) hn) e0 rfl 17 (by decide) (hg _ kg_600) rfl rfl d_R_reads_88 ?_
        refine lv_iload_n hx hb d_R_reads_91 rfl (lv_at hl 3 rfl) ?_
        refine kw_iald hx hb hK hP 6 0 (Nat.lt_of_lt_of_le (by decide : 6 < 19) hn) e6 rfl (wh q) (rfl) (hk) (by omega) d_R_reads_92 ?_
        refine lv_imul hx hb d_R_reads_93 ?_
        refine lv_aload_n hx hb d_R_reads_94 rfl (lv_at hl 7 rfl) ?_
        refine kw_get hx hb hg in_R hown hK hP 0 (Nat.lt_of_lt_of_le (by decide : 0 < 19) hn) e0 rfl 25 (by decide) (hg _ kg_608) rfl rfl d_R_reads_95 ?_
        refine lv_iload_n hx hb d_R_reads_98 rfl (lv_at hl 8 rfl) ?_
        refine kw_iald hx hb hK hP 13 0 (Nat.lt_of_lt_of_le (by decide : 13 < 19) hn) e13 rfl q (rfl) (hq) (by omega) d_R_reads_99 ?_
        refine lv_iload hx hb d_R_reads_100 (lv_at hl 0 rfl) ?_
        refine lv_iadd hx hb d_R_reads_102 ?_
        refine lv_iload hx hb d_R_reads_103 (lv_at hl 4 rfl) ?_
        refine lv_imul hx hb d_R_reads_105 ?_
        refine lv_iadd hx hb d_R_reads_106 ?_
        refine lv_iload hx hb d_R_reads_107 (lv_at hl 4 rfl) ?_
        refine kw_calllx (kw_rS (As := [.int ((8 * (nI (pa (wh q)))) + (((nI (fr q)) + (nI ee)) * (nI (wd q)))), .int (nI (wd q))]) (rest := [.long v]) ⟨hx, hb, hml, hown, hg⟩ ⟨callB_of 2 hg (kg_goodG kg_707) rfl rfl rfl (hg _ kg_7) (hg _ kg_705) (by decide +kernel) ⟨by decide, by decide⟩, hg _ kg_706⟩ (c_R_bytes l  ) hK hP rfl hl.1 rfl (Nat.le_of_ble_eq_true rfl) d_R_reads_109 ⟨Nat.zero_le _, Nat.zero_le _⟩) hA hS (fun H locs hP hS => ?_)
        refine lv_lor hx hb d_R_reads_112 ?_
        refine lv_lstore (lv' := [(7, .long (v ||| (kv_R_bytes ((8 * (nI (pa (wh q)))) + (((nI (fr q)) + (nI ee)) * (nI (wd q)))) (nI (wd q))))), (10, .int (nI ee)), (9, .int (nI (vq - fr q))), (3, .int (nI (wh q))), (4, .int (nI (wd q))), (5, .int ((nI (fr q)) + (nI t))), (6, .int (nI (po (wh q)))), (0, .ref (ad 0)), (1, .int (nI q)), (2, .int (nI t))]) hx hb d_R_reads_113 hl (by decide) rfl (fun ls hl => ?_)
        refine lv_aload_n hx hb d_R_reads_115 rfl (lv_at hl 7 rfl) ?_
        refine kw_get hx hb hg in_R hown hK hP 0 (Nat.lt_of_lt_of_le (by decide : 0 < 19) hn) e0 rfl 20 (by decide) (hg _ kg_603) rfl rfl d_R_reads_116 ?_
        refine lv_iload_n hx hb d_R_reads_119 rfl (lv_at hl 3 rfl) ?_
        refine kw_zald hx hb hK hP 9 1 (Nat.lt_of_lt_of_le (by decide : 9 < 19) hn) e9 rfl (wh q) (rfl) (hk) (by omega) d_R_reads_120 ?_
        refine lv_if_eq (tgt := 146) hx hb d_R_reads_121 (by decide) (fun h29 => ?_) (fun h29 => ?_)
        · refine lv_lload hx hb d_R_reads_146 (lv_at hl 0 rfl) ?_
          refine lv_lstore (lv' := [(7, .long (v ||| (kv_R_bytes ((8 * (nI (pa (wh q)))) + (((nI (fr q)) + (nI ee)) * (nI (wd q)))) (nI (wd q))))), (10, .int (nI ee)), (9, .int (nI (vq - fr q))), (3, .int (nI (wh q))), (4, .int (nI (wd q))), (5, .int ((nI (fr q)) + (nI t))), (6, .int (nI (po (wh q)))), (0, .ref (ad 0)), (1, .int (nI q)), (2, .int (nI t))]) hx hb d_R_reads_148 hl (by decide) rfl (fun ls hl => ?_)
          refine lv_iinc (k := 1) (v := nI (ee + 1)) (lv' := [(10, .int (nI (ee + 1))), (7, .long (v ||| (kv_R_bytes ((8 * (nI (pa (wh q)))) + (((nI (fr q)) + (nI ee)) * (nI (wd q)))) (nI (wd q))))), (9, .int (nI (vq - fr q))), (3, .int (nI (wh q))), (4, .int (nI (wd q))), (5, .int ((nI (fr q)) + (nI t))), (6, .int (nI (po (wh q)))), (0, .ref (ad 0)), (1, .int (nI q)), (2, .int (nI t))]) hx hb d_R_reads_150 hl rfl ((nI_succ ee).symm) (by decide) rfl (fun ls hl => ?_)
          refine lv_goto (tgt := 76) hx hb d_R_reads_153 (by decide) ?_
          exact iha ((ee + 1)) _ _ _ _ (by omega) (by rw [hv, kv_rs, if_pos h29]) (hP) hS (lv_sub hl [0, 1, 2, 3, 4, 5, 6, 7, 8, 9] rfl)
        · refine lv_lload hx hb d_R_reads_124 (lv_at hl 0 rfl) ?_
          refine lv_aload_n hx hb d_R_reads_126 rfl (lv_at hl 7 rfl) ?_
          refine kw_get hx hb hg in_R hown hK hP 0 (Nat.lt_of_lt_of_le (by decide : 0 < 19) hn) e0 rfl 25 (by decide) (hg _ kg_608) rfl rfl d_R_reads_127 ?_
          refine lv_iload_n hx hb d_R_reads_130 rfl (lv_at hl 8 rfl) ?_
          refine kw_iald hx hb hK hP 13 0 (Nat.lt_of_lt_of_le (by decide : 13 < 19) hn) e13 rfl q (rfl) (hq) (by omega) d_R_reads_131 ?_
          refine lv_iload hx hb d_R_reads_132 (lv_at hl 1 rfl) ?_
          refine lv_iadd hx hb d_R_reads_134 ?_
          refine lv_bipush (v := 8) hx hb d_R_reads_135 (by decide) ?_
          refine lv_idiv hx hb d_R_reads_137 (by decide) ?_
          refine lv_iconst (v := 1) hx hb d_R_reads_138 (by decide) ?_
          refine kw_calllx (kw_rS (As := [.int (((nI (fr q)) + (nI ee)) / 8), .int 1]) (rest := [.long (v ||| (kv_R_bytes ((8 * (nI (pa (wh q)))) + (((nI (fr q)) + (nI ee)) * (nI (wd q)))) (nI (wd q))))]) ⟨hx, hb, hml, hown, hg⟩ ⟨callB_of 2 hg (kg_goodG kg_707) rfl rfl rfl (hg _ kg_7) (hg _ kg_705) (by decide +kernel) ⟨by decide, by decide⟩, hg _ kg_706⟩ (c_R_bytes l  ) hK hP rfl hl.1 rfl (Nat.le_of_ble_eq_true rfl) d_R_reads_139 ⟨Nat.zero_le _, Nat.zero_le _⟩) hA hS (fun H locs hP hS => ?_)
          refine lv_lor hx hb d_R_reads_142 ?_
          refine lv_goto (tgt := 148) hx hb d_R_reads_143 (by decide) ?_
          refine lv_lstore (lv' := [(7, .long ((v ||| (kv_R_bytes ((8 * (nI (pa (wh q)))) + (((nI (fr q)) + (nI ee)) * (nI (wd q)))) (nI (wd q)))) ||| (kv_R_bytes (((nI (fr q)) + (nI ee)) / 8) 1))), (10, .int (nI ee)), (9, .int (nI (vq - fr q))), (3, .int (nI (wh q))), (4, .int (nI (wd q))), (5, .int ((nI (fr q)) + (nI t))), (6, .int (nI (po (wh q)))), (0, .ref (ad 0)), (1, .int (nI q)), (2, .int (nI t))]) hx hb d_R_reads_148 hl (by decide) rfl (fun ls hl => ?_)
          refine lv_iinc (k := 1) (v := nI (ee + 1)) (lv' := [(10, .int (nI (ee + 1))), (7, .long ((v ||| (kv_R_bytes ((8 * (nI (pa (wh q)))) + (((nI (fr q)) + (nI ee)) * (nI (wd q)))) (nI (wd q)))) ||| (kv_R_bytes (((nI (fr q)) + (nI ee)) / 8) 1))), (9, .int (nI (vq - fr q))), (3, .int (nI (wh q))), (4, .int (nI (wd q))), (5, .int ((nI (fr q)) + (nI t))), (6, .int (nI (po (wh q)))), (0, .ref (ad 0)), (1, .int (nI q)), (2, .int (nI t))]) hx hb d_R_reads_150 hl rfl ((nI_succ ee).symm) (by decide) rfl (fun ls hl => ?_)
          refine lv_goto (tgt := 76) hx hb d_R_reads_153 (by decide) ?_
          exact iha ((ee + 1)) _ _ _ _ (by omega) (by rw [hv, kv_rs, if_neg h29]) (hP) hS (lv_sub hl [0, 1, 2, 3, 4, 5, 6, 7, 8, 9] rfl)
    exact loopa (vq - fr q) 0 _ _ _ _ (by omega) (rfl) (hP) hS (lv_sub hl [0, 1, 2, 6, 5, 4, 3, 7, 8, 9] rfl)
