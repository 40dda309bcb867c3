/-! the machine: its cells -/
/-- the cells of the machine: 0 itself, 1 x, 2 3 registers, 4 5 cells, 6 setting, 7 program, 8 works, 9 + k Work k with rows 13 + k, 17 + k, 21 the instruction that is none, 22 + j the j-th -/
def kM (ad : Nat → Nat) (cI cB cJ cQ cW : ClassId) (cs : Nat → va_E) (la : Nat) (ma : Nat) (qu : Nat) (st : Nat) (nx : Int32) (bo : Nat) (cy : Int32) (sd : Int32) (X : Nat → Int32) (F : Nat → Int32) (G : Nat → Int32) (wp : Nat) (gp : Nat) (ln : Nat) (sa : Nat) (wk : Nat → Nat) (po : Nat → Nat) (pd : Nat → Nat) (pa : Nat → Nat) (pb : Nat → Nat) (pn : Nat → Int32) (pm : Nat → Int32) (ww : Nat → Nat) (gr : Nat → Int32) (mo : Nat → Int32) (xa : Nat → Int32) (xb : Nat → Int32) (fr : Nat → Nat) (wi : Nat → Nat) (nu : Nat → Int32) (tt : Nat → Nat) (dn : Nat → Nat) (db : Nat → Nat) (rF : Nat → Nat → Int64) (wF : Nat → Nat → Int64) : Prop :=
  cs 0 = .inr (4, [.int (nI la), .ref (ad 1), .ref (ad 2), .ref (ad 4), .ref (ad 6), .ref (ad 7), .ref (ad 8), .int (nI ma), .int (nI qu), .int (nI st), .int nx, .int (nI bo), .int cy, .int sd]) ∧ cs 1 = .inl (cI, 8, .inl (X)) ∧ cs 2 = .inr (0, [.ref (ad 3)]) ∧ cs 3 = .inl (cB, 64, .inl (F)) ∧ cs 4 = .inr (0, [.ref (ad 5)]) ∧ cs 5 = .inl (cB, 128, .inl (G)) ∧ cs 6 = .inr (2, [.int (nI wp), .int (nI gp), .int (nI ln), .int (nI sa)]) ∧ cs 7 = .inl (cQ, 40, .inr (.inr (.inr (.inr (fun z8 => if z8 < ma then some (ad (21 + (z8 + 1))) else none))))) ∧ cs 8 = .inl (cW, 4, .inr (.inr (.inr (.inr (fun z8 => if z8 < 4 then some (ad (9 + wk z8)) else none))))) ∧ (∀ k, k < 4 → cs (9 + k) = .inr (3, [.ref (ad 2), .ref (ad 4), .ref (ad (13 + k)), .ref (ad (17 + k)), .int (nI (ww k)), .int (gr k), .int (mo k), .int (xa k), .int (xb k), .int (nI (fr k)), .ref (ad (21 + (wi k))), .int (nu k), .int (nI (tt k)), .int (nI (dn k)), .int (nI (db k))])) ∧ (∀ k, k < 4 → cs (13 + k) = .inl (cJ, 33, .inr (.inl (rF k)))) ∧ (∀ k, k < 4 → cs (17 + k) = .inl (cJ, 33, .inr (.inl (wF k)))) ∧ (∀ i, i ≤ ma → cs (21 + i) = .inr (1, [.int (nI (po i)), .int (nI (pd i)), .int (nI (pa i)), .int (nI (pb i)), .int (pn i), .int (pm i)])) ∧ (∀ i, i < 4 → wk i < 4) ∧ (∀ k, k < 4 → wi k ≤ ma)

theorem kM_q {ma n q : Nat} (hn : 22 + ma ≤ n) (h : q < 22) : q < n := by omega
theorem kM_q9 {ma n k : Nat} (hn : 22 + ma ≤ n) (h : k < 4) : 9 + k < n := by omega
theorem kM_q13 {ma n k : Nat} (hn : 22 + ma ≤ n) (h : k < 4) : 13 + k < n := by omega
theorem kM_q17 {ma n k : Nat} (hn : 22 + ma ≤ n) (h : k < 4) : 17 + k < n := by omega
theorem kM_q21 {ma n i : Nat} (hn : 22 + ma ≤ n) (h : i ≤ ma) : 21 + i < n := by omega
theorem kM_0 {ad : Nat → Nat} {cI cB cJ cQ cW : ClassId} {cs : Nat → va_E} {la : Nat} {ma : Nat} {qu : Nat} {st : Nat} {nx : Int32} {bo : Nat} {cy : Int32} {sd : Int32} {X : Nat → Int32} {F : Nat → Int32} {G : Nat → Int32} {wp : Nat} {gp : Nat} {ln : Nat} {sa : Nat} {wk : Nat → Nat} {po : Nat → Nat} {pd : Nat → Nat} {pa : Nat → Nat} {pb : Nat → Nat} {pn : Nat → Int32} {pm : Nat → Int32} {ww : Nat → Nat} {gr : Nat → Int32} {mo : Nat → Int32} {xa : Nat → Int32} {xb : Nat → Int32} {fr : Nat → Nat} {wi : Nat → Nat} {nu : Nat → Int32} {tt : Nat → Nat} {dn : Nat → Nat} {db : Nat → Nat} {rF : Nat → Nat → Int64} {wF : Nat → Nat → Int64} (h : kM ad cI cB cJ cQ cW cs la ma qu st nx bo cy sd X F G wp gp ln sa wk po pd pa pb pn pm ww gr mo xa xb fr wi nu tt dn db rF wF) : cs 0 = .inr (4, [.int (nI la), .ref (ad 1), .ref (ad 2), .ref (ad 4), .ref (ad 6), .ref (ad 7), .ref (ad 8), .int (nI ma), .int (nI qu), .int (nI st), .int nx, .int (nI bo), .int cy, .int sd]) := h.1
theorem kM_1 {ad : Nat → Nat} {cI cB cJ cQ cW : ClassId} {cs : Nat → va_E} {la : Nat} {ma : Nat} {qu : Nat} {st : Nat} {nx : Int32} {bo : Nat} {cy : Int32} {sd : Int32} {X : Nat → Int32} {F : Nat → Int32} {G : Nat → Int32} {wp : Nat} {gp : Nat} {ln : Nat} {sa : Nat} {wk : Nat → Nat} {po : Nat → Nat} {pd : Nat → Nat} {pa : Nat → Nat} {pb : Nat → Nat} {pn : Nat → Int32} {pm : Nat → Int32} {ww : Nat → Nat} {gr : Nat → Int32} {mo : Nat → Int32} {xa : Nat → Int32} {xb : Nat → Int32} {fr : Nat → Nat} {wi : Nat → Nat} {nu : Nat → Int32} {tt : Nat → Nat} {dn : Nat → Nat} {db : Nat → Nat} {rF : Nat → Nat → Int64} {wF : Nat → Nat → Int64} (h : kM ad cI cB cJ cQ cW cs la ma qu st nx bo cy sd X F G wp gp ln sa wk po pd pa pb pn pm ww gr mo xa xb fr wi nu tt dn db rF wF) : cs 1 = .inl (cI, 8, .inl (X)) := h.2.1
theorem kM_2 {ad : Nat → Nat} {cI cB cJ cQ cW : ClassId} {cs : Nat → va_E} {la : Nat} {ma : Nat} {qu : Nat} {st : Nat} {nx : Int32} {bo : Nat} {cy : Int32} {sd : Int32} {X : Nat → Int32} {F : Nat → Int32} {G : Nat → Int32} {wp : Nat} {gp : Nat} {ln : Nat} {sa : Nat} {wk : Nat → Nat} {po : Nat → Nat} {pd : Nat → Nat} {pa : Nat → Nat} {pb : Nat → Nat} {pn : Nat → Int32} {pm : Nat → Int32} {ww : Nat → Nat} {gr : Nat → Int32} {mo : Nat → Int32} {xa : Nat → Int32} {xb : Nat → Int32} {fr : Nat → Nat} {wi : Nat → Nat} {nu : Nat → Int32} {tt : Nat → Nat} {dn : Nat → Nat} {db : Nat → Nat} {rF : Nat → Nat → Int64} {wF : Nat → Nat → Int64} (h : kM ad cI cB cJ cQ cW cs la ma qu st nx bo cy sd X F G wp gp ln sa wk po pd pa pb pn pm ww gr mo xa xb fr wi nu tt dn db rF wF) : cs 2 = .inr (0, [.ref (ad 3)]) := h.2.2.1
theorem kM_3 {ad : Nat → Nat} {cI cB cJ cQ cW : ClassId} {cs : Nat → va_E} {la : Nat} {ma : Nat} {qu : Nat} {st : Nat} {nx : Int32} {bo : Nat} {cy : Int32} {sd : Int32} {X : Nat → Int32} {F : Nat → Int32} {G : Nat → Int32} {wp : Nat} {gp : Nat} {ln : Nat} {sa : Nat} {wk : Nat → Nat} {po : Nat → Nat} {pd : Nat → Nat} {pa : Nat → Nat} {pb : Nat → Nat} {pn : Nat → Int32} {pm : Nat → Int32} {ww : Nat → Nat} {gr : Nat → Int32} {mo : Nat → Int32} {xa : Nat → Int32} {xb : Nat → Int32} {fr : Nat → Nat} {wi : Nat → Nat} {nu : Nat → Int32} {tt : Nat → Nat} {dn : Nat → Nat} {db : Nat → Nat} {rF : Nat → Nat → Int64} {wF : Nat → Nat → Int64} (h : kM ad cI cB cJ cQ cW cs la ma qu st nx bo cy sd X F G wp gp ln sa wk po pd pa pb pn pm ww gr mo xa xb fr wi nu tt dn db rF wF) : cs 3 = .inl (cB, 64, .inl (F)) := h.2.2.2.1
theorem kM_4 {ad : Nat → Nat} {cI cB cJ cQ cW : ClassId} {cs : Nat → va_E} {la : Nat} {ma : Nat} {qu : Nat} {st : Nat} {nx : Int32} {bo : Nat} {cy : Int32} {sd : Int32} {X : Nat → Int32} {F : Nat → Int32} {G : Nat → Int32} {wp : Nat} {gp : Nat} {ln : Nat} {sa : Nat} {wk : Nat → Nat} {po : Nat → Nat} {pd : Nat → Nat} {pa : Nat → Nat} {pb : Nat → Nat} {pn : Nat → Int32} {pm : Nat → Int32} {ww : Nat → Nat} {gr : Nat → Int32} {mo : Nat → Int32} {xa : Nat → Int32} {xb : Nat → Int32} {fr : Nat → Nat} {wi : Nat → Nat} {nu : Nat → Int32} {tt : Nat → Nat} {dn : Nat → Nat} {db : Nat → Nat} {rF : Nat → Nat → Int64} {wF : Nat → Nat → Int64} (h : kM ad cI cB cJ cQ cW cs la ma qu st nx bo cy sd X F G wp gp ln sa wk po pd pa pb pn pm ww gr mo xa xb fr wi nu tt dn db rF wF) : cs 4 = .inr (0, [.ref (ad 5)]) := h.2.2.2.2.1
theorem kM_5 {ad : Nat → Nat} {cI cB cJ cQ cW : ClassId} {cs : Nat → va_E} {la : Nat} {ma : Nat} {qu : Nat} {st : Nat} {nx : Int32} {bo : Nat} {cy : Int32} {sd : Int32} {X : Nat → Int32} {F : Nat → Int32} {G : Nat → Int32} {wp : Nat} {gp : Nat} {ln : Nat} {sa : Nat} {wk : Nat → Nat} {po : Nat → Nat} {pd : Nat → Nat} {pa : Nat → Nat} {pb : Nat → Nat} {pn : Nat → Int32} {pm : Nat → Int32} {ww : Nat → Nat} {gr : Nat → Int32} {mo : Nat → Int32} {xa : Nat → Int32} {xb : Nat → Int32} {fr : Nat → Nat} {wi : Nat → Nat} {nu : Nat → Int32} {tt : Nat → Nat} {dn : Nat → Nat} {db : Nat → Nat} {rF : Nat → Nat → Int64} {wF : Nat → Nat → Int64} (h : kM ad cI cB cJ cQ cW cs la ma qu st nx bo cy sd X F G wp gp ln sa wk po pd pa pb pn pm ww gr mo xa xb fr wi nu tt dn db rF wF) : cs 5 = .inl (cB, 128, .inl (G)) := h.2.2.2.2.2.1
theorem kM_6 {ad : Nat → Nat} {cI cB cJ cQ cW : ClassId} {cs : Nat → va_E} {la : Nat} {ma : Nat} {qu : Nat} {st : Nat} {nx : Int32} {bo : Nat} {cy : Int32} {sd : Int32} {X : Nat → Int32} {F : Nat → Int32} {G : Nat → Int32} {wp : Nat} {gp : Nat} {ln : Nat} {sa : Nat} {wk : Nat → Nat} {po : Nat → Nat} {pd : Nat → Nat} {pa : Nat → Nat} {pb : Nat → Nat} {pn : Nat → Int32} {pm : Nat → Int32} {ww : Nat → Nat} {gr : Nat → Int32} {mo : Nat → Int32} {xa : Nat → Int32} {xb : Nat → Int32} {fr : Nat → Nat} {wi : Nat → Nat} {nu : Nat → Int32} {tt : Nat → Nat} {dn : Nat → Nat} {db : Nat → Nat} {rF : Nat → Nat → Int64} {wF : Nat → Nat → Int64} (h : kM ad cI cB cJ cQ cW cs la ma qu st nx bo cy sd X F G wp gp ln sa wk po pd pa pb pn pm ww gr mo xa xb fr wi nu tt dn db rF wF) : cs 6 = .inr (2, [.int (nI wp), .int (nI gp), .int (nI ln), .int (nI sa)]) := h.2.2.2.2.2.2.1
theorem kM_7 {ad : Nat → Nat} {cI cB cJ cQ cW : ClassId} {cs : Nat → va_E} {la : Nat} {ma : Nat} {qu : Nat} {st : Nat} {nx : Int32} {bo : Nat} {cy : Int32} {sd : Int32} {X : Nat → Int32} {F : Nat → Int32} {G : Nat → Int32} {wp : Nat} {gp : Nat} {ln : Nat} {sa : Nat} {wk : Nat → Nat} {po : Nat → Nat} {pd : Nat → Nat} {pa : Nat → Nat} {pb : Nat → Nat} {pn : Nat → Int32} {pm : Nat → Int32} {ww : Nat → Nat} {gr : Nat → Int32} {mo : Nat → Int32} {xa : Nat → Int32} {xb : Nat → Int32} {fr : Nat → Nat} {wi : Nat → Nat} {nu : Nat → Int32} {tt : Nat → Nat} {dn : Nat → Nat} {db : Nat → Nat} {rF : Nat → Nat → Int64} {wF : Nat → Nat → Int64} (h : kM ad cI cB cJ cQ cW cs la ma qu st nx bo cy sd X F G wp gp ln sa wk po pd pa pb pn pm ww gr mo xa xb fr wi nu tt dn db rF wF) : cs 7 = .inl (cQ, 40, .inr (.inr (.inr (.inr (fun z8 => if z8 < ma then some (ad (21 + (z8 + 1))) else none))))) := h.2.2.2.2.2.2.2.1
theorem kM_8 {ad : Nat → Nat} {cI cB cJ cQ cW : ClassId} {cs : Nat → va_E} {la : Nat} {ma : Nat} {qu : Nat} {st : Nat} {nx : Int32} {bo : Nat} {cy : Int32} {sd : Int32} {X : Nat → Int32} {F : Nat → Int32} {G : Nat → Int32} {wp : Nat} {gp : Nat} {ln : Nat} {sa : Nat} {wk : Nat → Nat} {po : Nat → Nat} {pd : Nat → Nat} {pa : Nat → Nat} {pb : Nat → Nat} {pn : Nat → Int32} {pm : Nat → Int32} {ww : Nat → Nat} {gr : Nat → Int32} {mo : Nat → Int32} {xa : Nat → Int32} {xb : Nat → Int32} {fr : Nat → Nat} {wi : Nat → Nat} {nu : Nat → Int32} {tt : Nat → Nat} {dn : Nat → Nat} {db : Nat → Nat} {rF : Nat → Nat → Int64} {wF : Nat → Nat → Int64} (h : kM ad cI cB cJ cQ cW cs la ma qu st nx bo cy sd X F G wp gp ln sa wk po pd pa pb pn pm ww gr mo xa xb fr wi nu tt dn db rF wF) : cs 8 = .inl (cW, 4, .inr (.inr (.inr (.inr (fun z8 => if z8 < 4 then some (ad (9 + wk z8)) else none))))) := h.2.2.2.2.2.2.2.2.1
theorem kM_w {ad : Nat → Nat} {cI cB cJ cQ cW : ClassId} {cs : Nat → va_E} {la : Nat} {ma : Nat} {qu : Nat} {st : Nat} {nx : Int32} {bo : Nat} {cy : Int32} {sd : Int32} {X : Nat → Int32} {F : Nat → Int32} {G : Nat → Int32} {wp : Nat} {gp : Nat} {ln : Nat} {sa : Nat} {wk : Nat → Nat} {po : Nat → Nat} {pd : Nat → Nat} {pa : Nat → Nat} {pb : Nat → Nat} {pn : Nat → Int32} {pm : Nat → Int32} {ww : Nat → Nat} {gr : Nat → Int32} {mo : Nat → Int32} {xa : Nat → Int32} {xb : Nat → Int32} {fr : Nat → Nat} {wi : Nat → Nat} {nu : Nat → Int32} {tt : Nat → Nat} {dn : Nat → Nat} {db : Nat → Nat} {rF : Nat → Nat → Int64} {wF : Nat → Nat → Int64} (h : kM ad cI cB cJ cQ cW cs la ma qu st nx bo cy sd X F G wp gp ln sa wk po pd pa pb pn pm ww gr mo xa xb fr wi nu tt dn db rF wF) {k : Nat} (hk : k < 4) : cs (9 + k) = .inr (3, [.ref (ad 2), .ref (ad 4), .ref (ad (13 + k)), .ref (ad (17 + k)), .int (nI (ww k)), .int (gr k), .int (mo k), .int (xa k), .int (xb k), .int (nI (fr k)), .ref (ad (21 + (wi k))), .int (nu k), .int (nI (tt k)), .int (nI (dn k)), .int (nI (db k))]) := h.2.2.2.2.2.2.2.2.2.1 k hk
theorem kM_rf {ad : Nat → Nat} {cI cB cJ cQ cW : ClassId} {cs : Nat → va_E} {la : Nat} {ma : Nat} {qu : Nat} {st : Nat} {nx : Int32} {bo : Nat} {cy : Int32} {sd : Int32} {X : Nat → Int32} {F : Nat → Int32} {G : Nat → Int32} {wp : Nat} {gp : Nat} {ln : Nat} {sa : Nat} {wk : Nat → Nat} {po : Nat → Nat} {pd : Nat → Nat} {pa : Nat → Nat} {pb : Nat → Nat} {pn : Nat → Int32} {pm : Nat → Int32} {ww : Nat → Nat} {gr : Nat → Int32} {mo : Nat → Int32} {xa : Nat → Int32} {xb : Nat → Int32} {fr : Nat → Nat} {wi : Nat → Nat} {nu : Nat → Int32} {tt : Nat → Nat} {dn : Nat → Nat} {db : Nat → Nat} {rF : Nat → Nat → Int64} {wF : Nat → Nat → Int64} (h : kM ad cI cB cJ cQ cW cs la ma qu st nx bo cy sd X F G wp gp ln sa wk po pd pa pb pn pm ww gr mo xa xb fr wi nu tt dn db rF wF) {k : Nat} (hk : k < 4) : cs (13 + k) = .inl (cJ, 33, .inr (.inl (rF k))) := h.2.2.2.2.2.2.2.2.2.2.1 k hk
theorem kM_wf {ad : Nat → Nat} {cI cB cJ cQ cW : ClassId} {cs : Nat → va_E} {la : Nat} {ma : Nat} {qu : Nat} {st : Nat} {nx : Int32} {bo : Nat} {cy : Int32} {sd : Int32} {X : Nat → Int32} {F : Nat → Int32} {G : Nat → Int32} {wp : Nat} {gp : Nat} {ln : Nat} {sa : Nat} {wk : Nat → Nat} {po : Nat → Nat} {pd : Nat → Nat} {pa : Nat → Nat} {pb : Nat → Nat} {pn : Nat → Int32} {pm : Nat → Int32} {ww : Nat → Nat} {gr : Nat → Int32} {mo : Nat → Int32} {xa : Nat → Int32} {xb : Nat → Int32} {fr : Nat → Nat} {wi : Nat → Nat} {nu : Nat → Int32} {tt : Nat → Nat} {dn : Nat → Nat} {db : Nat → Nat} {rF : Nat → Nat → Int64} {wF : Nat → Nat → Int64} (h : kM ad cI cB cJ cQ cW cs la ma qu st nx bo cy sd X F G wp gp ln sa wk po pd pa pb pn pm ww gr mo xa xb fr wi nu tt dn db rF wF) {k : Nat} (hk : k < 4) : cs (17 + k) = .inl (cJ, 33, .inr (.inl (wF k))) := h.2.2.2.2.2.2.2.2.2.2.2.1 k hk
theorem kM_in {ad : Nat → Nat} {cI cB cJ cQ cW : ClassId} {cs : Nat → va_E} {la : Nat} {ma : Nat} {qu : Nat} {st : Nat} {nx : Int32} {bo : Nat} {cy : Int32} {sd : Int32} {X : Nat → Int32} {F : Nat → Int32} {G : Nat → Int32} {wp : Nat} {gp : Nat} {ln : Nat} {sa : Nat} {wk : Nat → Nat} {po : Nat → Nat} {pd : Nat → Nat} {pa : Nat → Nat} {pb : Nat → Nat} {pn : Nat → Int32} {pm : Nat → Int32} {ww : Nat → Nat} {gr : Nat → Int32} {mo : Nat → Int32} {xa : Nat → Int32} {xb : Nat → Int32} {fr : Nat → Nat} {wi : Nat → Nat} {nu : Nat → Int32} {tt : Nat → Nat} {dn : Nat → Nat} {db : Nat → Nat} {rF : Nat → Nat → Int64} {wF : Nat → Nat → Int64} (h : kM ad cI cB cJ cQ cW cs la ma qu st nx bo cy sd X F G wp gp ln sa wk po pd pa pb pn pm ww gr mo xa xb fr wi nu tt dn db rF wF) {i : Nat} (hi : i ≤ ma) : cs (21 + i) = .inr (1, [.int (nI (po i)), .int (nI (pd i)), .int (nI (pa i)), .int (nI (pb i)), .int (pn i), .int (pm i)]) := h.2.2.2.2.2.2.2.2.2.2.2.2.1 i hi
theorem kM_k {ad : Nat → Nat} {cI cB cJ cQ cW : ClassId} {cs : Nat → va_E} {la : Nat} {ma : Nat} {qu : Nat} {st : Nat} {nx : Int32} {bo : Nat} {cy : Int32} {sd : Int32} {X : Nat → Int32} {F : Nat → Int32} {G : Nat → Int32} {wp : Nat} {gp : Nat} {ln : Nat} {sa : Nat} {wk : Nat → Nat} {po : Nat → Nat} {pd : Nat → Nat} {pa : Nat → Nat} {pb : Nat → Nat} {pn : Nat → Int32} {pm : Nat → Int32} {ww : Nat → Nat} {gr : Nat → Int32} {mo : Nat → Int32} {xa : Nat → Int32} {xb : Nat → Int32} {fr : Nat → Nat} {wi : Nat → Nat} {nu : Nat → Int32} {tt : Nat → Nat} {dn : Nat → Nat} {db : Nat → Nat} {rF : Nat → Nat → Int64} {wF : Nat → Nat → Int64} (h : kM ad cI cB cJ cQ cW cs la ma qu st nx bo cy sd X F G wp gp ln sa wk po pd pa pb pn pm ww gr mo xa xb fr wi nu tt dn db rF wF) (i : Nat) (hi : i < 4) : wk i < 4 := h.2.2.2.2.2.2.2.2.2.2.2.2.2.1 i hi
theorem kM_i {ad : Nat → Nat} {cI cB cJ cQ cW : ClassId} {cs : Nat → va_E} {la : Nat} {ma : Nat} {qu : Nat} {st : Nat} {nx : Int32} {bo : Nat} {cy : Int32} {sd : Int32} {X : Nat → Int32} {F : Nat → Int32} {G : Nat → Int32} {wp : Nat} {gp : Nat} {ln : Nat} {sa : Nat} {wk : Nat → Nat} {po : Nat → Nat} {pd : Nat → Nat} {pa : Nat → Nat} {pb : Nat → Nat} {pn : Nat → Int32} {pm : Nat → Int32} {ww : Nat → Nat} {gr : Nat → Int32} {mo : Nat → Int32} {xa : Nat → Int32} {xb : Nat → Int32} {fr : Nat → Nat} {wi : Nat → Nat} {nu : Nat → Int32} {tt : Nat → Nat} {dn : Nat → Nat} {db : Nat → Nat} {rF : Nat → Nat → Int64} {wF : Nat → Nat → Int64} (h : kM ad cI cB cJ cQ cW cs la ma qu st nx bo cy sd X F G wp gp ln sa wk po pd pa pb pn pm ww gr mo xa xb fr wi nu tt dn db rF wF) (k : Nat) (hk : k < 4) : wi k ≤ ma := h.2.2.2.2.2.2.2.2.2.2.2.2.2.2 k hk
theorem kM_wq {ad wk : Nat → Nat} {j k : Nat} (hj : j < 4) : va_up (fun z8 => if z8 < 4 then some (ad (9 + wk z8)) else none) j (some (ad (9 + k))) = fun z8 => if z8 < 4 then some (ad (9 + va_up wk j k z8)) else none := by
  funext i
  by_cases h : i = j
  · subst h; rw [va_up_self, va_up_self, if_pos hj]
  · rw [va_up_ne _ _ h, va_up_ne _ _ h]
theorem kM_u0 {ad : Nat → Nat} {cI cB cJ cQ cW : ClassId} {cs : Nat → va_E} {la : Nat} {ma : Nat} {qu : Nat} {st : Nat} {nx : Int32} {bo : Nat} {cy : Int32} {sd : Int32} {X : Nat → Int32} {F : Nat → Int32} {G : Nat → Int32} {wp : Nat} {gp : Nat} {ln : Nat} {sa : Nat} {wk : Nat → Nat} {po : Nat → Nat} {pd : Nat → Nat} {pa : Nat → Nat} {pb : Nat → Nat} {pn : Nat → Int32} {pm : Nat → Int32} {ww : Nat → Nat} {gr : Nat → Int32} {mo : Nat → Int32} {xa : Nat → Int32} {xb : Nat → Int32} {fr : Nat → Nat} {wi : Nat → Nat} {nu : Nat → Int32} {tt : Nat → Nat} {dn : Nat → Nat} {db : Nat → Nat} {rF : Nat → Nat → Int64} {wF : Nat → Nat → Int64} (h : kM ad cI cB cJ cQ cW cs la ma qu st nx bo cy sd X F G wp gp ln sa wk po pd pa pb pn pm ww gr mo xa xb fr wi nu tt dn db rF wF) {qu1 st1 bo1 : Nat} {nx1 cy1 sd1 : Int32}  : kM ad cI cB cJ cQ cW (va_up cs (0) (.inr (4, [.int (nI la), .ref (ad 1), .ref (ad 2), .ref (ad 4), .ref (ad 6), .ref (ad 7), .ref (ad 8), .int (nI ma), .int (nI qu1), .int (nI st1), .int nx1, .int (nI bo1), .int cy1, .int sd1]))) la ma qu1 st1 nx1 bo1 cy1 sd1 X F G wp gp ln sa wk po pd pa pb pn pm ww gr mo xa xb fr wi nu tt dn db rF wF := by
  obtain ⟨h0, h1, h2, h3, h4, h5, h6, h7, h8, h9, h10, h11, h12, h13, h14⟩ := h
  exact ⟨va_up_self _ _ _,
    (va_up_ne _ _ (by omega)).trans h1,
    (va_up_ne _ _ (by omega)).trans h2,
    (va_up_ne _ _ (by omega)).trans h3,
    (va_up_ne _ _ (by omega)).trans h4,
    (va_up_ne _ _ (by omega)).trans h5,
    (va_up_ne _ _ (by omega)).trans h6,
    (va_up_ne _ _ (by omega)).trans h7,
    (va_up_ne _ _ (by omega)).trans h8,
    fun k9 hk9 => (va_up_ne _ _ (by omega)).trans (h9 k9 hk9),
    fun k9 hk9 => (va_up_ne _ _ (by omega)).trans (h10 k9 hk9),
    fun k9 hk9 => (va_up_ne _ _ (by omega)).trans (h11 k9 hk9),
    fun k9 hk9 => (va_up_ne _ _ (by omega)).trans (h12 k9 hk9),
    h13,
    h14⟩
theorem kM_u1 {ad : Nat → Nat} {cI cB cJ cQ cW : ClassId} {cs : Nat → va_E} {la : Nat} {ma : Nat} {qu : Nat} {st : Nat} {nx : Int32} {bo : Nat} {cy : Int32} {sd : Int32} {X : Nat → Int32} {F : Nat → Int32} {G : Nat → Int32} {wp : Nat} {gp : Nat} {ln : Nat} {sa : Nat} {wk : Nat → Nat} {po : Nat → Nat} {pd : Nat → Nat} {pa : Nat → Nat} {pb : Nat → Nat} {pn : Nat → Int32} {pm : Nat → Int32} {ww : Nat → Nat} {gr : Nat → Int32} {mo : Nat → Int32} {xa : Nat → Int32} {xb : Nat → Int32} {fr : Nat → Nat} {wi : Nat → Nat} {nu : Nat → Int32} {tt : Nat → Nat} {dn : Nat → Nat} {db : Nat → Nat} {rF : Nat → Nat → Int64} {wF : Nat → Nat → Int64} (h : kM ad cI cB cJ cQ cW cs la ma qu st nx bo cy sd X F G wp gp ln sa wk po pd pa pb pn pm ww gr mo xa xb fr wi nu tt dn db rF wF) {X1 : Nat → Int32}  : kM ad cI cB cJ cQ cW (va_up cs (1) (.inl (cI, 8, .inl (X1)))) la ma qu st nx bo cy sd X1 F G wp gp ln sa wk po pd pa pb pn pm ww gr mo xa xb fr wi nu tt dn db rF wF := by
  obtain ⟨h0, h1, h2, h3, h4, h5, h6, h7, h8, h9, h10, h11, h12, h13, h14⟩ := h
  exact ⟨(va_up_ne _ _ (by omega)).trans h0,
    va_up_self _ _ _,
    (va_up_ne _ _ (by omega)).trans h2,
    (va_up_ne _ _ (by omega)).trans h3,
    (va_up_ne _ _ (by omega)).trans h4,
    (va_up_ne _ _ (by omega)).trans h5,
    (va_up_ne _ _ (by omega)).trans h6,
    (va_up_ne _ _ (by omega)).trans h7,
    (va_up_ne _ _ (by omega)).trans h8,
    fun k9 hk9 => (va_up_ne _ _ (by omega)).trans (h9 k9 hk9),
    fun k9 hk9 => (va_up_ne _ _ (by omega)).trans (h10 k9 hk9),
    fun k9 hk9 => (va_up_ne _ _ (by omega)).trans (h11 k9 hk9),
    fun k9 hk9 => (va_up_ne _ _ (by omega)).trans (h12 k9 hk9),
    h13,
    h14⟩
theorem kM_u3 {ad : Nat → Nat} {cI cB cJ cQ cW : ClassId} {cs : Nat → va_E} {la : Nat} {ma : Nat} {qu : Nat} {st : Nat} {nx : Int32} {bo : Nat} {cy : Int32} {sd : Int32} {X : Nat → Int32} {F : Nat → Int32} {G : Nat → Int32} {wp : Nat} {gp : Nat} {ln : Nat} {sa : Nat} {wk : Nat → Nat} {po : Nat → Nat} {pd : Nat → Nat} {pa : Nat → Nat} {pb : Nat → Nat} {pn : Nat → Int32} {pm : Nat → Int32} {ww : Nat → Nat} {gr : Nat → Int32} {mo : Nat → Int32} {xa : Nat → Int32} {xb : Nat → Int32} {fr : Nat → Nat} {wi : Nat → Nat} {nu : Nat → Int32} {tt : Nat → Nat} {dn : Nat → Nat} {db : Nat → Nat} {rF : Nat → Nat → Int64} {wF : Nat → Nat → Int64} (h : kM ad cI cB cJ cQ cW cs la ma qu st nx bo cy sd X F G wp gp ln sa wk po pd pa pb pn pm ww gr mo xa xb fr wi nu tt dn db rF wF) {F1 : Nat → Int32}  : kM ad cI cB cJ cQ cW (va_up cs (3) (.inl (cB, 64, .inl (F1)))) la ma qu st nx bo cy sd X F1 G wp gp ln sa wk po pd pa pb pn pm ww gr mo xa xb fr wi nu tt dn db rF wF := by
  obtain ⟨h0, h1, h2, h3, h4, h5, h6, h7, h8, h9, h10, h11, h12, h13, h14⟩ := h
  exact ⟨(va_up_ne _ _ (by omega)).trans h0,
    (va_up_ne _ _ (by omega)).trans h1,
    (va_up_ne _ _ (by omega)).trans h2,
    va_up_self _ _ _,
    (va_up_ne _ _ (by omega)).trans h4,
    (va_up_ne _ _ (by omega)).trans h5,
    (va_up_ne _ _ (by omega)).trans h6,
    (va_up_ne _ _ (by omega)).trans h7,
    (va_up_ne _ _ (by omega)).trans h8,
    fun k9 hk9 => (va_up_ne _ _ (by omega)).trans (h9 k9 hk9),
    fun k9 hk9 => (va_up_ne _ _ (by omega)).trans (h10 k9 hk9),
    fun k9 hk9 => (va_up_ne _ _ (by omega)).trans (h11 k9 hk9),
    fun k9 hk9 => (va_up_ne _ _ (by omega)).trans (h12 k9 hk9),
    h13,
    h14⟩
theorem kM_u5 {ad : Nat → Nat} {cI cB cJ cQ cW : ClassId} {cs : Nat → va_E} {la : Nat} {ma : Nat} {qu : Nat} {st : Nat} {nx : Int32} {bo : Nat} {cy : Int32} {sd : Int32} {X : Nat → Int32} {F : Nat → Int32} {G : Nat → Int32} {wp : Nat} {gp : Nat} {ln : Nat} {sa : Nat} {wk : Nat → Nat} {po : Nat → Nat} {pd : Nat → Nat} {pa : Nat → Nat} {pb : Nat → Nat} {pn : Nat → Int32} {pm : Nat → Int32} {ww : Nat → Nat} {gr : Nat → Int32} {mo : Nat → Int32} {xa : Nat → Int32} {xb : Nat → Int32} {fr : Nat → Nat} {wi : Nat → Nat} {nu : Nat → Int32} {tt : Nat → Nat} {dn : Nat → Nat} {db : Nat → Nat} {rF : Nat → Nat → Int64} {wF : Nat → Nat → Int64} (h : kM ad cI cB cJ cQ cW cs la ma qu st nx bo cy sd X F G wp gp ln sa wk po pd pa pb pn pm ww gr mo xa xb fr wi nu tt dn db rF wF) {G1 : Nat → Int32}  : kM ad cI cB cJ cQ cW (va_up cs (5) (.inl (cB, 128, .inl (G1)))) la ma qu st nx bo cy sd X F G1 wp gp ln sa wk po pd pa pb pn pm ww gr mo xa xb fr wi nu tt dn db rF wF := by
  obtain ⟨h0, h1, h2, h3, h4, h5, h6, h7, h8, h9, h10, h11, h12, h13, h14⟩ := h
  exact ⟨(va_up_ne _ _ (by omega)).trans h0,
    (va_up_ne _ _ (by omega)).trans h1,
    (va_up_ne _ _ (by omega)).trans h2,
    (va_up_ne _ _ (by omega)).trans h3,
    (va_up_ne _ _ (by omega)).trans h4,
    va_up_self _ _ _,
    (va_up_ne _ _ (by omega)).trans h6,
    (va_up_ne _ _ (by omega)).trans h7,
    (va_up_ne _ _ (by omega)).trans h8,
    fun k9 hk9 => (va_up_ne _ _ (by omega)).trans (h9 k9 hk9),
    fun k9 hk9 => (va_up_ne _ _ (by omega)).trans (h10 k9 hk9),
    fun k9 hk9 => (va_up_ne _ _ (by omega)).trans (h11 k9 hk9),
    fun k9 hk9 => (va_up_ne _ _ (by omega)).trans (h12 k9 hk9),
    h13,
    h14⟩
theorem kM_u6 {ad : Nat → Nat} {cI cB cJ cQ cW : ClassId} {cs : Nat → va_E} {la : Nat} {ma : Nat} {qu : Nat} {st : Nat} {nx : Int32} {bo : Nat} {cy : Int32} {sd : Int32} {X : Nat → Int32} {F : Nat → Int32} {G : Nat → Int32} {wp : Nat} {gp : Nat} {ln : Nat} {sa : Nat} {wk : Nat → Nat} {po : Nat → Nat} {pd : Nat → Nat} {pa : Nat → Nat} {pb : Nat → Nat} {pn : Nat → Int32} {pm : Nat → Int32} {ww : Nat → Nat} {gr : Nat → Int32} {mo : Nat → Int32} {xa : Nat → Int32} {xb : Nat → Int32} {fr : Nat → Nat} {wi : Nat → Nat} {nu : Nat → Int32} {tt : Nat → Nat} {dn : Nat → Nat} {db : Nat → Nat} {rF : Nat → Nat → Int64} {wF : Nat → Nat → Int64} (h : kM ad cI cB cJ cQ cW cs la ma qu st nx bo cy sd X F G wp gp ln sa wk po pd pa pb pn pm ww gr mo xa xb fr wi nu tt dn db rF wF) {wp1 gp1 ln1 sa1 : Nat}  : kM ad cI cB cJ cQ cW (va_up cs (6) (.inr (2, [.int (nI wp1), .int (nI gp1), .int (nI ln1), .int (nI sa1)]))) la ma qu st nx bo cy sd X F G wp1 gp1 ln1 sa1 wk po pd pa pb pn pm ww gr mo xa xb fr wi nu tt dn db rF wF := by
  obtain ⟨h0, h1, h2, h3, h4, h5, h6, h7, h8, h9, h10, h11, h12, h13, h14⟩ := h
  exact ⟨(va_up_ne _ _ (by omega)).trans h0,
    (va_up_ne _ _ (by omega)).trans h1,
    (va_up_ne _ _ (by omega)).trans h2,
    (va_up_ne _ _ (by omega)).trans h3,
    (va_up_ne _ _ (by omega)).trans h4,
    (va_up_ne _ _ (by omega)).trans h5,
    va_up_self _ _ _,
    (va_up_ne _ _ (by omega)).trans h7,
    (va_up_ne _ _ (by omega)).trans h8,
    fun k9 hk9 => (va_up_ne _ _ (by omega)).trans (h9 k9 hk9),
    fun k9 hk9 => (va_up_ne _ _ (by omega)).trans (h10 k9 hk9),
    fun k9 hk9 => (va_up_ne _ _ (by omega)).trans (h11 k9 hk9),
    fun k9 hk9 => (va_up_ne _ _ (by omega)).trans (h12 k9 hk9),
    h13,
    h14⟩
theorem kM_u8 {ad : Nat → Nat} {cI cB cJ cQ cW : ClassId} {cs : Nat → va_E} {la : Nat} {ma : Nat} {qu : Nat} {st : Nat} {nx : Int32} {bo : Nat} {cy : Int32} {sd : Int32} {X : Nat → Int32} {F : Nat → Int32} {G : Nat → Int32} {wp : Nat} {gp : Nat} {ln : Nat} {sa : Nat} {wk : Nat → Nat} {po : Nat → Nat} {pd : Nat → Nat} {pa : Nat → Nat} {pb : Nat → Nat} {pn : Nat → Int32} {pm : Nat → Int32} {ww : Nat → Nat} {gr : Nat → Int32} {mo : Nat → Int32} {xa : Nat → Int32} {xb : Nat → Int32} {fr : Nat → Nat} {wi : Nat → Nat} {nu : Nat → Int32} {tt : Nat → Nat} {dn : Nat → Nat} {db : Nat → Nat} {rF : Nat → Nat → Int64} {wF : Nat → Nat → Int64} (h : kM ad cI cB cJ cQ cW cs la ma qu st nx bo cy sd X F G wp gp ln sa wk po pd pa pb pn pm ww gr mo xa xb fr wi nu tt dn db rF wF) {j k : Nat} (hk : k < 4) (hj : j < 4) : kM ad cI cB cJ cQ cW (va_up cs (8) (.inl (cW, 4, .inr (.inr (.inr (.inr (va_up (fun z8 => if z8 < 4 then some (ad (9 + wk z8)) else none) j (some (ad (9 + k)))))))))) la ma qu st nx bo cy sd X F G wp gp ln sa (va_up wk j k) po pd pa pb pn pm ww gr mo xa xb fr wi nu tt dn db rF wF := by
  obtain ⟨h0, h1, h2, h3, h4, h5, h6, h7, h8, h9, h10, h11, h12, h13, h14⟩ := h
  exact ⟨(va_up_ne _ _ (by omega)).trans h0,
    (va_up_ne _ _ (by omega)).trans h1,
    (va_up_ne _ _ (by omega)).trans h2,
    (va_up_ne _ _ (by omega)).trans h3,
    (va_up_ne _ _ (by omega)).trans h4,
    (va_up_ne _ _ (by omega)).trans h5,
    (va_up_ne _ _ (by omega)).trans h6,
    (va_up_ne _ _ (by omega)).trans h7,
    (va_up_self _ _ _).trans (by rw [kM_wq hj]),
    fun k9 hk9 => (va_up_ne _ _ (by omega)).trans (h9 k9 hk9),
    fun k9 hk9 => (va_up_ne _ _ (by omega)).trans (h10 k9 hk9),
    fun k9 hk9 => (va_up_ne _ _ (by omega)).trans (h11 k9 hk9),
    fun k9 hk9 => (va_up_ne _ _ (by omega)).trans (h12 k9 hk9),
    fun i9 hi9 => by
    by_cases z9 : i9 = j
    · subst z9; rw [va_up_self]; exact hk
    · rw [va_up_ne _ _ z9]; exact h13 i9 hi9,
    h14⟩
theorem kM_udn {ad : Nat → Nat} {cI cB cJ cQ cW : ClassId} {cs : Nat → va_E} {la : Nat} {ma : Nat} {qu : Nat} {st : Nat} {nx : Int32} {bo : Nat} {cy : Int32} {sd : Int32} {X : Nat → Int32} {F : Nat → Int32} {G : Nat → Int32} {wp : Nat} {gp : Nat} {ln : Nat} {sa : Nat} {wk : Nat → Nat} {po : Nat → Nat} {pd : Nat → Nat} {pa : Nat → Nat} {pb : Nat → Nat} {pn : Nat → Int32} {pm : Nat → Int32} {ww : Nat → Nat} {gr : Nat → Int32} {mo : Nat → Int32} {xa : Nat → Int32} {xb : Nat → Int32} {fr : Nat → Nat} {wi : Nat → Nat} {nu : Nat → Int32} {tt : Nat → Nat} {dn : Nat → Nat} {db : Nat → Nat} {rF : Nat → Nat → Int64} {wF : Nat → Nat → Int64} (h : kM ad cI cB cJ cQ cW cs la ma qu st nx bo cy sd X F G wp gp ln sa wk po pd pa pb pn pm ww gr mo xa xb fr wi nu tt dn db rF wF) {k v : Nat} (hk : k < 4) : kM ad cI cB cJ cQ cW (va_up cs (9 + k) (.inr (3, [.ref (ad 2), .ref (ad 4), .ref (ad (13 + k)), .ref (ad (17 + k)), .int (nI (ww k)), .int (gr k), .int (mo k), .int (xa k), .int (xb k), .int (nI (fr k)), .ref (ad (21 + (wi k))), .int (nu k), .int (nI (tt k)), .int (nI v), .int (nI (db k))]))) la ma qu st nx bo cy sd X F G wp gp ln sa wk po pd pa pb pn pm ww gr mo xa xb fr wi nu tt (va_up dn k v) db rF wF := by
  obtain ⟨h0, h1, h2, h3, h4, h5, h6, h7, h8, h9, h10, h11, h12, h13, h14⟩ := h
  exact ⟨(va_up_ne _ _ (by omega)).trans h0,
    (va_up_ne _ _ (by omega)).trans h1,
    (va_up_ne _ _ (by omega)).trans h2,
    (va_up_ne _ _ (by omega)).trans h3,
    (va_up_ne _ _ (by omega)).trans h4,
    (va_up_ne _ _ (by omega)).trans h5,
    (va_up_ne _ _ (by omega)).trans h6,
    (va_up_ne _ _ (by omega)).trans h7,
    (va_up_ne _ _ (by omega)).trans h8,
    fun k9 hk9 => by
    by_cases z9 : k9 = k
    · subst z9; rw [va_up_self]; simp only [va_up_self]
    · rw [va_up_ne _ _ (by omega), h9 k9 hk9]; simp only [va_up_ne _ _ z9],
    fun k9 hk9 => (va_up_ne _ _ (by omega)).trans (h10 k9 hk9),
    fun k9 hk9 => (va_up_ne _ _ (by omega)).trans (h11 k9 hk9),
    fun k9 hk9 => (va_up_ne _ _ (by omega)).trans (h12 k9 hk9),
    h13,
    h14⟩
theorem kM_udb {ad : Nat → Nat} {cI cB cJ cQ cW : ClassId} {cs : Nat → va_E} {la : Nat} {ma : Nat} {qu : Nat} {st : Nat} {nx : Int32} {bo : Nat} {cy : Int32} {sd : Int32} {X : Nat → Int32} {F : Nat → Int32} {G : Nat → Int32} {wp : Nat} {gp : Nat} {ln : Nat} {sa : Nat} {wk : Nat → Nat} {po : Nat → Nat} {pd : Nat → Nat} {pa : Nat → Nat} {pb : Nat → Nat} {pn : Nat → Int32} {pm : Nat → Int32} {ww : Nat → Nat} {gr : Nat → Int32} {mo : Nat → Int32} {xa : Nat → Int32} {xb : Nat → Int32} {fr : Nat → Nat} {wi : Nat → Nat} {nu : Nat → Int32} {tt : Nat → Nat} {dn : Nat → Nat} {db : Nat → Nat} {rF : Nat → Nat → Int64} {wF : Nat → Nat → Int64} (h : kM ad cI cB cJ cQ cW cs la ma qu st nx bo cy sd X F G wp gp ln sa wk po pd pa pb pn pm ww gr mo xa xb fr wi nu tt dn db rF wF) {k v : Nat} (hk : k < 4) : kM ad cI cB cJ cQ cW (va_up cs (9 + k) (.inr (3, [.ref (ad 2), .ref (ad 4), .ref (ad (13 + k)), .ref (ad (17 + k)), .int (nI (ww k)), .int (gr k), .int (mo k), .int (xa k), .int (xb k), .int (nI (fr k)), .ref (ad (21 + (wi k))), .int (nu k), .int (nI (tt k)), .int (nI (dn k)), .int (nI v)]))) la ma qu st nx bo cy sd X F G wp gp ln sa wk po pd pa pb pn pm ww gr mo xa xb fr wi nu tt dn (va_up db k v) rF wF := by
  obtain ⟨h0, h1, h2, h3, h4, h5, h6, h7, h8, h9, h10, h11, h12, h13, h14⟩ := h
  exact ⟨(va_up_ne _ _ (by omega)).trans h0,
    (va_up_ne _ _ (by omega)).trans h1,
    (va_up_ne _ _ (by omega)).trans h2,
    (va_up_ne _ _ (by omega)).trans h3,
    (va_up_ne _ _ (by omega)).trans h4,
    (va_up_ne _ _ (by omega)).trans h5,
    (va_up_ne _ _ (by omega)).trans h6,
    (va_up_ne _ _ (by omega)).trans h7,
    (va_up_ne _ _ (by omega)).trans h8,
    fun k9 hk9 => by
    by_cases z9 : k9 = k
    · subst z9; rw [va_up_self]; simp only [va_up_self]
    · rw [va_up_ne _ _ (by omega), h9 k9 hk9]; simp only [va_up_ne _ _ z9],
    fun k9 hk9 => (va_up_ne _ _ (by omega)).trans (h10 k9 hk9),
    fun k9 hk9 => (va_up_ne _ _ (by omega)).trans (h11 k9 hk9),
    fun k9 hk9 => (va_up_ne _ _ (by omega)).trans (h12 k9 hk9),
    h13,
    h14⟩
theorem kM_utt {ad : Nat → Nat} {cI cB cJ cQ cW : ClassId} {cs : Nat → va_E} {la : Nat} {ma : Nat} {qu : Nat} {st : Nat} {nx : Int32} {bo : Nat} {cy : Int32} {sd : Int32} {X : Nat → Int32} {F : Nat → Int32} {G : Nat → Int32} {wp : Nat} {gp : Nat} {ln : Nat} {sa : Nat} {wk : Nat → Nat} {po : Nat → Nat} {pd : Nat → Nat} {pa : Nat → Nat} {pb : Nat → Nat} {pn : Nat → Int32} {pm : Nat → Int32} {ww : Nat → Nat} {gr : Nat → Int32} {mo : Nat → Int32} {xa : Nat → Int32} {xb : Nat → Int32} {fr : Nat → Nat} {wi : Nat → Nat} {nu : Nat → Int32} {tt : Nat → Nat} {dn : Nat → Nat} {db : Nat → Nat} {rF : Nat → Nat → Int64} {wF : Nat → Nat → Int64} (h : kM ad cI cB cJ cQ cW cs la ma qu st nx bo cy sd X F G wp gp ln sa wk po pd pa pb pn pm ww gr mo xa xb fr wi nu tt dn db rF wF) {k v : Nat} (hk : k < 4) : kM ad cI cB cJ cQ cW (va_up cs (9 + k) (.inr (3, [.ref (ad 2), .ref (ad 4), .ref (ad (13 + k)), .ref (ad (17 + k)), .int (nI (ww k)), .int (gr k), .int (mo k), .int (xa k), .int (xb k), .int (nI (fr k)), .ref (ad (21 + (wi k))), .int (nu k), .int (nI v), .int (nI (dn k)), .int (nI (db k))]))) la ma qu st nx bo cy sd X F G wp gp ln sa wk po pd pa pb pn pm ww gr mo xa xb fr wi nu (va_up tt k v) dn db rF wF := by
  obtain ⟨h0, h1, h2, h3, h4, h5, h6, h7, h8, h9, h10, h11, h12, h13, h14⟩ := h
  exact ⟨(va_up_ne _ _ (by omega)).trans h0,
    (va_up_ne _ _ (by omega)).trans h1,
    (va_up_ne _ _ (by omega)).trans h2,
    (va_up_ne _ _ (by omega)).trans h3,
    (va_up_ne _ _ (by omega)).trans h4,
    (va_up_ne _ _ (by omega)).trans h5,
    (va_up_ne _ _ (by omega)).trans h6,
    (va_up_ne _ _ (by omega)).trans h7,
    (va_up_ne _ _ (by omega)).trans h8,
    fun k9 hk9 => by
    by_cases z9 : k9 = k
    · subst z9; rw [va_up_self]; simp only [va_up_self]
    · rw [va_up_ne _ _ (by omega), h9 k9 hk9]; simp only [va_up_ne _ _ z9],
    fun k9 hk9 => (va_up_ne _ _ (by omega)).trans (h10 k9 hk9),
    fun k9 hk9 => (va_up_ne _ _ (by omega)).trans (h11 k9 hk9),
    fun k9 hk9 => (va_up_ne _ _ (by omega)).trans (h12 k9 hk9),
    h13,
    h14⟩
theorem kM_utake {ad : Nat → Nat} {cI cB cJ cQ cW : ClassId} {cs : Nat → va_E} {la : Nat} {ma : Nat} {qu : Nat} {st : Nat} {nx : Int32} {bo : Nat} {cy : Int32} {sd : Int32} {X : Nat → Int32} {F : Nat → Int32} {G : Nat → Int32} {wp : Nat} {gp : Nat} {ln : Nat} {sa : Nat} {wk : Nat → Nat} {po : Nat → Nat} {pd : Nat → Nat} {pa : Nat → Nat} {pb : Nat → Nat} {pn : Nat → Int32} {pm : Nat → Int32} {ww : Nat → Nat} {gr : Nat → Int32} {mo : Nat → Int32} {xa : Nat → Int32} {xb : Nat → Int32} {fr : Nat → Nat} {wi : Nat → Nat} {nu : Nat → Int32} {tt : Nat → Nat} {dn : Nat → Nat} {db : Nat → Nat} {rF : Nat → Nat → Int64} {wF : Nat → Nat → Int64} (h : kM ad cI cB cJ cQ cW cs la ma qu st nx bo cy sd X F G wp gp ln sa wk po pd pa pb pn pm ww gr mo xa xb fr wi nu tt dn db rF wF) {k : Nat} {ww1 : Nat} {gr1 : Int32} {mo1 : Int32} {xa1 : Int32} {xb1 : Int32} {fr1 : Nat} {wi1 : Nat} {nu1 : Int32} {tt1 : Nat} {dn1 : Nat} (hk : k < 4) (hi : wi1 ≤ ma) : kM ad cI cB cJ cQ cW (va_up cs (9 + k) (.inr (3, [.ref (ad 2), .ref (ad 4), .ref (ad (13 + k)), .ref (ad (17 + k)), .int (nI ww1), .int gr1, .int mo1, .int xa1, .int xb1, .int (nI fr1), .ref (ad (21 + wi1)), .int nu1, .int (nI tt1), .int (nI dn1), .int (nI (db k))]))) la ma qu st nx bo cy sd X F G wp gp ln sa wk po pd pa pb pn pm (va_up ww k ww1) (va_up gr k gr1) (va_up mo k mo1) (va_up xa k xa1) (va_up xb k xb1) (va_up fr k fr1) (va_up wi k wi1) (va_up nu k nu1) (va_up tt k tt1) (va_up dn k dn1) db rF wF := by
  obtain ⟨h0, h1, h2, h3, h4, h5, h6, h7, h8, h9, h10, h11, h12, h13, h14⟩ := h
  exact ⟨(va_up_ne _ _ (by omega)).trans h0,
    (va_up_ne _ _ (by omega)).trans h1,
    (va_up_ne _ _ (by omega)).trans h2,
    (va_up_ne _ _ (by omega)).trans h3,
    (va_up_ne _ _ (by omega)).trans h4,
    (va_up_ne _ _ (by omega)).trans h5,
    (va_up_ne _ _ (by omega)).trans h6,
    (va_up_ne _ _ (by omega)).trans h7,
    (va_up_ne _ _ (by omega)).trans h8,
    fun k9 hk9 => by
    by_cases z9 : k9 = k
    · subst z9; rw [va_up_self]; simp only [va_up_self]
    · rw [va_up_ne _ _ (by omega), h9 k9 hk9]; simp only [va_up_ne _ _ z9],
    fun k9 hk9 => (va_up_ne _ _ (by omega)).trans (h10 k9 hk9),
    fun k9 hk9 => (va_up_ne _ _ (by omega)).trans (h11 k9 hk9),
    fun k9 hk9 => (va_up_ne _ _ (by omega)).trans (h12 k9 hk9),
    h13,
    fun i9 hi9 => by
    by_cases z9 : i9 = k
    · subst z9; rw [va_up_self]; exact hi
    · rw [va_up_ne _ _ z9]; exact h14 i9 hi9⟩
theorem kM_urF {ad : Nat → Nat} {cI cB cJ cQ cW : ClassId} {cs : Nat → va_E} {la : Nat} {ma : Nat} {qu : Nat} {st : Nat} {nx : Int32} {bo : Nat} {cy : Int32} {sd : Int32} {X : Nat → Int32} {F : Nat → Int32} {G : Nat → Int32} {wp : Nat} {gp : Nat} {ln : Nat} {sa : Nat} {wk : Nat → Nat} {po : Nat → Nat} {pd : Nat → Nat} {pa : Nat → Nat} {pb : Nat → Nat} {pn : Nat → Int32} {pm : Nat → Int32} {ww : Nat → Nat} {gr : Nat → Int32} {mo : Nat → Int32} {xa : Nat → Int32} {xb : Nat → Int32} {fr : Nat → Nat} {wi : Nat → Nat} {nu : Nat → Int32} {tt : Nat → Nat} {dn : Nat → Nat} {db : Nat → Nat} {rF : Nat → Nat → Int64} {wF : Nat → Nat → Int64} (h : kM ad cI cB cJ cQ cW cs la ma qu st nx bo cy sd X F G wp gp ln sa wk po pd pa pb pn pm ww gr mo xa xb fr wi nu tt dn db rF wF) {k : Nat} {v : Nat → Int64} (hk : k < 4) : kM ad cI cB cJ cQ cW (va_up cs (13 + k) (.inl (cJ, 33, .inr (.inl (v))))) la ma qu st nx bo cy sd X F G wp gp ln sa wk po pd pa pb pn pm ww gr mo xa xb fr wi nu tt dn db (va_up rF k v) wF := by
  obtain ⟨h0, h1, h2, h3, h4, h5, h6, h7, h8, h9, h10, h11, h12, h13, h14⟩ := h
  exact ⟨(va_up_ne _ _ (by omega)).trans h0,
    (va_up_ne _ _ (by omega)).trans h1,
    (va_up_ne _ _ (by omega)).trans h2,
    (va_up_ne _ _ (by omega)).trans h3,
    (va_up_ne _ _ (by omega)).trans h4,
    (va_up_ne _ _ (by omega)).trans h5,
    (va_up_ne _ _ (by omega)).trans h6,
    (va_up_ne _ _ (by omega)).trans h7,
    (va_up_ne _ _ (by omega)).trans h8,
    fun k9 hk9 => (va_up_ne _ _ (by omega)).trans (h9 k9 hk9),
    fun k9 hk9 => by
    by_cases z9 : k9 = k
    · subst z9; rw [va_up_self]; simp only [va_up_self]
    · rw [va_up_ne _ _ (by omega), h10 k9 hk9]; simp only [va_up_ne _ _ z9],
    fun k9 hk9 => (va_up_ne _ _ (by omega)).trans (h11 k9 hk9),
    fun k9 hk9 => (va_up_ne _ _ (by omega)).trans (h12 k9 hk9),
    h13,
    h14⟩
theorem kM_uwF {ad : Nat → Nat} {cI cB cJ cQ cW : ClassId} {cs : Nat → va_E} {la : Nat} {ma : Nat} {qu : Nat} {st : Nat} {nx : Int32} {bo : Nat} {cy : Int32} {sd : Int32} {X : Nat → Int32} {F : Nat → Int32} {G : Nat → Int32} {wp : Nat} {gp : Nat} {ln : Nat} {sa : Nat} {wk : Nat → Nat} {po : Nat → Nat} {pd : Nat → Nat} {pa : Nat → Nat} {pb : Nat → Nat} {pn : Nat → Int32} {pm : Nat → Int32} {ww : Nat → Nat} {gr : Nat → Int32} {mo : Nat → Int32} {xa : Nat → Int32} {xb : Nat → Int32} {fr : Nat → Nat} {wi : Nat → Nat} {nu : Nat → Int32} {tt : Nat → Nat} {dn : Nat → Nat} {db : Nat → Nat} {rF : Nat → Nat → Int64} {wF : Nat → Nat → Int64} (h : kM ad cI cB cJ cQ cW cs la ma qu st nx bo cy sd X F G wp gp ln sa wk po pd pa pb pn pm ww gr mo xa xb fr wi nu tt dn db rF wF) {k : Nat} {v : Nat → Int64} (hk : k < 4) : kM ad cI cB cJ cQ cW (va_up cs (17 + k) (.inl (cJ, 33, .inr (.inl (v))))) la ma qu st nx bo cy sd X F G wp gp ln sa wk po pd pa pb pn pm ww gr mo xa xb fr wi nu tt dn db rF (va_up wF k v) := by
  obtain ⟨h0, h1, h2, h3, h4, h5, h6, h7, h8, h9, h10, h11, h12, h13, h14⟩ := h
  exact ⟨(va_up_ne _ _ (by omega)).trans h0,
    (va_up_ne _ _ (by omega)).trans h1,
    (va_up_ne _ _ (by omega)).trans h2,
    (va_up_ne _ _ (by omega)).trans h3,
    (va_up_ne _ _ (by omega)).trans h4,
    (va_up_ne _ _ (by omega)).trans h5,
    (va_up_ne _ _ (by omega)).trans h6,
    (va_up_ne _ _ (by omega)).trans h7,
    (va_up_ne _ _ (by omega)).trans h8,
    fun k9 hk9 => (va_up_ne _ _ (by omega)).trans (h9 k9 hk9),
    fun k9 hk9 => (va_up_ne _ _ (by omega)).trans (h10 k9 hk9),
    fun k9 hk9 => by
    by_cases z9 : k9 = k
    · subst z9; rw [va_up_self]; simp only [va_up_self]
    · rw [va_up_ne _ _ (by omega), h11 k9 hk9]; simp only [va_up_ne _ _ z9],
    fun k9 hk9 => (va_up_ne _ _ (by omega)).trans (h12 k9 hk9),
    h13,
    h14⟩
theorem kM_ext {ad : Nat → Nat} {cI cB cJ cQ cW : ClassId} {cs : Nat → va_E} {la : Nat} {ma : Nat} {qu : Nat} {st : Nat} {nx : Int32} {bo : Nat} {cy : Int32} {sd : Int32} {X : Nat → Int32} {F : Nat → Int32} {G : Nat → Int32} {wp : Nat} {gp : Nat} {ln : Nat} {sa : Nat} {wk : Nat → Nat} {po : Nat → Nat} {pd : Nat → Nat} {pa : Nat → Nat} {pb : Nat → Nat} {pn : Nat → Int32} {pm : Nat → Int32} {ww : Nat → Nat} {gr : Nat → Int32} {mo : Nat → Int32} {xa : Nat → Int32} {xb : Nat → Int32} {fr : Nat → Nat} {wi : Nat → Nat} {nu : Nat → Int32} {tt : Nat → Nat} {dn : Nat → Nat} {db : Nat → Nat} {rF : Nat → Nat → Int64} {wF : Nat → Nat → Int64} {ad1 : Nat → Nat} {cs1 : Nat → va_E} (h : kM ad cI cB cJ cQ cW cs la ma qu st nx bo cy sd X F G wp gp ln sa wk po pd pa pb pn pm ww gr mo xa xb fr wi nu tt dn db rF wF) (had : ∀ k, k < 22 + ma → ad1 k = ad k) (hcs : ∀ k, k < 22 + ma → cs1 k = cs k) : kM ad1 cI cB cJ cQ cW cs1 la ma qu st nx bo cy sd X F G wp gp ln sa wk po pd pa pb pn pm ww gr mo xa xb fr wi nu tt dn db rF wF := by
  obtain ⟨h0, h1, h2, h3, h4, h5, h6, h7, h8, h9, h10, h11, h12, h13, h14⟩ := h
  have hf : (fun z8 => if z8 < ma then some (ad (21 + (z8 + 1))) else none) = fun z8 => if z8 < ma then some (ad1 (21 + (z8 + 1))) else none := by
    funext i
    by_cases hi : i < ma
    · rw [if_pos hi, if_pos hi, had _ (by omega)]
    · rw [if_neg hi, if_neg hi]
  have hw : (fun z8 => if z8 < 4 then some (ad (9 + wk z8)) else none) = fun z8 => if z8 < 4 then some (ad1 (9 + wk z8)) else none := by
    funext i
    by_cases hi : i < 4
    · have := h13 i hi
      rw [if_pos hi, if_pos hi, had _ (by omega)]
    · rw [if_neg hi, if_neg hi]
  refine ⟨?_, ?_, ?_, ?_, ?_, ?_, ?_, ?_, ?_, fun k hk => ?_, fun k hk => ?_, fun k hk => ?_, fun i hi => ?_, h13, h14⟩
  · rw [hcs _ (by omega), h0, had 1 (by omega), had 2 (by omega), had 4 (by omega), had 6 (by omega), had 7 (by omega), had 8 (by omega)]
  · rw [hcs _ (by omega), h1]
  · rw [hcs _ (by omega), h2, had 3 (by omega)]
  · rw [hcs _ (by omega), h3]
  · rw [hcs _ (by omega), h4, had 5 (by omega)]
  · rw [hcs _ (by omega), h5]
  · rw [hcs _ (by omega), h6]
  · rw [hcs _ (by omega), h7, hf]
  · rw [hcs _ (by omega), h8, hw]
  · have := h14 k hk
    rw [hcs _ (by omega), h9 k hk, had 2 (by omega), had 4 (by omega), had (13 + k) (by omega), had (17 + k) (by omega), had (21 + wi k) (by omega)]
  · rw [hcs _ (by omega), h10 k hk]
  · rw [hcs _ (by omega), h11 k hk]
  · rw [hcs _ (by omega), h12 i hi]
theorem kM_pq {ad : Nat → Nat} {ma : Nat} : va_up (fun z8 => if z8 < ma then some (ad (21 + (z8 + 1))) else none) ma (some (ad (22 + ma))) = fun z8 => if z8 < ma + 1 then some (ad (21 + (z8 + 1))) else none := by
  funext i
  by_cases h : i = ma
  · subst h
    rw [va_up_self, if_pos (by omega), show 21 + (i + 1) = 22 + i by omega]
  · rw [va_up_ne _ _ h]
    by_cases h1 : i < ma
    · rw [if_pos h1, if_pos (by omega)]
    · rw [if_neg h1, if_neg (by omega)]
theorem kM_put {ad : Nat → Nat} {cI cB cJ cQ cW : ClassId} {cs : Nat → va_E} {la : Nat} {ma : Nat} {qu : Nat} {st : Nat} {nx : Int32} {bo : Nat} {cy : Int32} {sd : Int32} {X : Nat → Int32} {F : Nat → Int32} {G : Nat → Int32} {wp : Nat} {gp : Nat} {ln : Nat} {sa : Nat} {wk : Nat → Nat} {po : Nat → Nat} {pd : Nat → Nat} {pa : Nat → Nat} {pb : Nat → Nat} {pn : Nat → Int32} {pm : Nat → Int32} {ww : Nat → Nat} {gr : Nat → Int32} {mo : Nat → Int32} {xa : Nat → Int32} {xb : Nat → Int32} {fr : Nat → Nat} {wi : Nat → Nat} {nu : Nat → Int32} {tt : Nat → Nat} {dn : Nat → Nat} {db : Nat → Nat} {rF : Nat → Nat → Int64} {wF : Nat → Nat → Int64} {o9 d9 a9 b9 : Nat} {n9 m9 : Int32} (h : kM ad cI cB cJ cQ cW cs la ma qu st nx bo cy sd X F G wp gp ln sa wk po pd pa pb pn pm ww gr mo xa xb fr wi nu tt dn db rF wF) (hi : cs (22 + ma) = .inr (1, [.int (nI o9), .int (nI d9), .int (nI a9), .int (nI b9), .int n9, .int m9])) : kM ad cI cB cJ cQ cW (va_up (va_up cs 7 (.inl (cQ, 40, .inr (.inr (.inr (.inr (va_up (fun z8 => if z8 < ma then some (ad (21 + (z8 + 1))) else none) ma (some (ad (22 + ma)))))))))) 0 (.inr (4, [.int (nI la), .ref (ad 1), .ref (ad 2), .ref (ad 4), .ref (ad 6), .ref (ad 7), .ref (ad 8), .int (nI (ma + 1)), .int (nI qu), .int (nI st), .int nx, .int (nI bo), .int cy, .int sd]))) la (ma + 1) qu st nx bo cy sd X F G wp gp ln sa wk (va_up po (ma + 1) o9) (va_up pd (ma + 1) d9) (va_up pa (ma + 1) a9) (va_up pb (ma + 1) b9) (va_up pn (ma + 1) n9) (va_up pm (ma + 1) m9) ww gr mo xa xb fr wi nu tt dn db rF wF := by
  obtain ⟨h0, h1, h2, h3, h4, h5, h6, h7, h8, h9, h10, h11, h12, h13, h14⟩ := h
  refine ⟨va_up_self _ _ _, ?_, ?_, ?_, ?_, ?_, ?_, ?_, ?_, fun k hk => ?_, fun k hk => ?_, fun k hk => ?_, fun i hi9 => ?_, h13, fun k hk => Nat.le_trans (h14 k hk) (Nat.le_succ _)⟩
  · rw [va_up_ne _ _ (by omega), va_up_ne _ _ (by omega), h1]
  · rw [va_up_ne _ _ (by omega), va_up_ne _ _ (by omega), h2]
  · rw [va_up_ne _ _ (by omega), va_up_ne _ _ (by omega), h3]
  · rw [va_up_ne _ _ (by omega), va_up_ne _ _ (by omega), h4]
  · rw [va_up_ne _ _ (by omega), va_up_ne _ _ (by omega), h5]
  · rw [va_up_ne _ _ (by omega), va_up_ne _ _ (by omega), h6]
  · rw [va_up_ne _ _ (by omega), va_up_self, kM_pq]
  · rw [va_up_ne _ _ (by omega), va_up_ne _ _ (by omega), h8]
  · rw [va_up_ne _ _ (by omega), va_up_ne _ _ (by omega), h9 k hk]
  · rw [va_up_ne _ _ (by omega), va_up_ne _ _ (by omega), h10 k hk]
  · rw [va_up_ne _ _ (by omega), va_up_ne _ _ (by omega), h11 k hk]
  · rw [va_up_ne _ _ (by omega), va_up_ne _ _ (by omega)]
    by_cases h : i = ma + 1
    · subst h
      simp only [va_up_self]
      rw [show 21 + (ma + 1) = 22 + ma by omega]
      exact hi
    · rw [h12 i (by omega)]
      simp only [va_up_ne _ _ h]
theorem kw_wid {w : Nat} (h : w ≤ 2) : kv_S_width (nI w) = nI (2 ^ w) := by
  have h1 : w = 0 ∨ w = 1 ∨ w = 2 := by omega
  rcases h1 with rfl | rfl | rfl <;> decide
theorem kn_p2 {w : Nat} (h : w ≤ 2) : 2 ^ w ≤ 4 := by
  have h1 : w = 0 ∨ w = 1 ∨ w = 2 := by omega
  rcases h1 with rfl | rfl | rfl <;> decide
theorem kw_rg4 {x : Int32} (h1 : ¬ x < 0) (h2 : x < 4) : x = nI x.toNatClampNeg ∧ x.toNatClampNeg < 4 := by
  obtain ⟨j, hj, rfl⟩ := nI_of h1
  have h3 : nI j < nI 4 := h2
  rw [nI_ltI hj (by decide)] at h3
  rw [nI_clamp hj]
  exact ⟨rfl, h3⟩
theorem kw_rgm {x : Int32} {ma : Nat} (h1 : ¬ x < 0) (h2 : ¬ nI ma ≤ x) (h3 : ma ≤ 40) : x = nI x.toNatClampNeg ∧ x.toNatClampNeg < ma := by
  obtain ⟨j, hj, rfl⟩ := nI_of h1
  rw [nI_leI (by omega) hj] at h2
  rw [nI_clamp hj]
  exact ⟨rfl, by omega⟩
theorem kw_rg40 {x : Int32} {ma : Nat} (h1 : ¬ x < 0) (h2 : ¬ nI ma ≤ x) (h3 : ma ≤ 40) : ¬ 40 ≤ x := by
  obtain ⟨h4, h5⟩ := kw_rgm h1 h2 h3
  intro h
  rw [h4] at h
  exact absurd ((nI_leI (a := 40) (by decide) (by omega)).mp h) (by omega)
theorem kw_qu4 {q : Nat} (h : ¬ 4 ≤ nI q) (h1 : q ≤ 4) : q < 4 := by
  rcases Nat.lt_or_ge q 4 with h2 | h2
  · exact h2
  · exact absurd ((nI_leI (a := 4) (by decide) (by omega)).mpr h2) h
theorem kn_reg {d : Nat} (h : d < 8) : kv_M_isRegister (nI d) = 1 := by
  have h1 : d = 0 ∨ d = 1 ∨ d = 2 ∨ d = 3 ∨ d = 4 ∨ d = 5 ∨ d = 6 ∨ d = 7 := by omega
  rcases h1 with rfl | rfl | rfl | rfl | rfl | rfl | rfl | rfl <;> decide
/-- a number between 0 and m -/
def kn_len (m y : Int32) : Nat := (if 0 < (if y < m then y else m) then (if y < m then y else m) else 0).toNatClampNeg
theorem kn_len_eq (m y : Int32) : (if 0 < (if y < m then y else m) then (if y < m then y else m) else 0) = nI (kn_len m y) := by
  unfold kn_len
  have h : ¬ (if 0 < (if y < m then y else m) then (if y < m then y else m) else 0) < 0 := by
    generalize (if y < m then y else m) = z
    by_cases h1 : 0 < z
    · rw [if_pos h1]; exact fun h2 => Int32.lt_irrefl (Int32.lt_trans h1 h2)
    · rw [if_neg h1]; decide
  obtain ⟨j, hj, h2⟩ := nI_of h
  rw [h2, nI_clamp hj]
theorem kn_cw : ∀ c, c ≤ 10 → nI c - nI c / 4 * 4 = nI (c % 4) := by decide +kernel
theorem kn_cg : ∀ c, c ≤ 10 → nI c / 4 = nI (c / 4) := by decide +kernel
/-- a code -/
def kn_code (x : Int32) : Prop := ∃ c, c ≤ 10 ∧ x = nI c
theorem kn_codeW {x : Int32} (h : kn_code x) : x - x / 4 * 4 = nI (x.toNatClampNeg % 4) := by
  obtain ⟨c, h1, rfl⟩ := h
  rw [nI_clamp (by omega)]; exact kn_cw c h1
theorem kn_codeG {x : Int32} (h : kn_code x) : x / 4 = nI (x.toNatClampNeg / 4) := by
  obtain ⟨c, h1, rfl⟩ := h
  rw [nI_clamp (by omega)]; exact kn_cg c h1
theorem kn_fb {w : Nat} {xa xb op rb mk : Int32} {f : Nat → Int32} {x : Int32} : ∀ k i, kv_fb w xa xb op rb mk f x k i = -1 ∨ ∃ j, i ≤ j ∧ j < i + k ∧ kv_fb w xa xb op rb mk f x k i = nI j := by
  intro k
  induction k with
  | zero => intro i; exact Or.inl rfl
  | succ k ih =>
    intro i
    have hr : kv_fb w xa xb op rb mk f x k (i + 1) = -1 ∨ ∃ j, i ≤ j ∧ j < i + (k + 1) ∧ kv_fb w xa xb op rb mk f x k (i + 1) = nI j := by
      rcases ih (i + 1) with h | ⟨j, h1, h2, h3⟩
      · exact Or.inl h
      · exact Or.inr ⟨j, by omega, by omega, h3⟩
    have hi : nI i = -1 ∨ ∃ j, i ≤ j ∧ j < i + (k + 1) ∧ nI i = nI j := Or.inr ⟨i, by omega, by omega, rfl⟩
    rw [kv_fb]
    split
    · split
      · exact hr
      · exact hi
    · split
      · exact hr
      · split
        · exact hr
        · exact hi
/-- the first element that may not be reached, at the hand-out -/
def kv_M_bad (wp sa ln : Nat) (xa xb op rb mk : Int32) (F : Nat → Int32) (bo : Nat) : Int32 := if kv_I_unit op = 2 then kv_K_firstBad (2 ^ wp) sa ln xa xb op rb mk F (nI bo) else -1
theorem kn_bad {wp sa ln bo : Nat} {xa xb op rb mk bad : Int32} {F : Nat → Int32} (hb : kv_M_bad wp sa ln xa xb op rb mk F bo = bad) (hsl : sa ≤ ln) (hln : ln < 2 ^ 30) (h : ¬ bad = -1) : bad = nI bad.toNatClampNeg ∧ sa ≤ bad.toNatClampNeg ∧ bad.toNatClampNeg < ln := by
  have h0 : kv_K_firstBad (2 ^ wp) sa ln xa xb op rb mk F (nI bo) = bad := by
    unfold kv_M_bad at hb
    by_cases h1 : kv_I_unit op = 2
    · rw [if_pos h1] at hb; exact hb
    · rw [if_neg h1] at hb; exact absurd hb.symm h
  unfold kv_K_firstBad at h0
  rcases kn_fb (w := 2 ^ wp) (xa := xa) (xb := xb) (op := op) (rb := rb) (mk := mk) (f := F) (x := nI bo) (ln - sa) sa with h2 | ⟨j, h2, h3, h4⟩
  · exact absurd (h0.symm.trans h2) h
  · rw [h4] at h0
    subst h0
    rw [nI_clamp (by omega)]
    exact ⟨rfl, by omega, by omega⟩
