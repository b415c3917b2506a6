/-! ===== the office in memory: each cell by what it is (kind, worker or number, pay or year) ===== -/
def cRk (cs : Nat → ClassId) (AD : Nat × Nat × Nat → Nat) (nb : Nat) (tn : Nat → Nat) (FF : Nat → Nat → Int64) (GF : Nat → Nat → Int32) (tt : Nat → Int32) (nd : Nat) (de : Nat → Int32) (so : Nat → Int32) (si : Nat → Int64) (ca : Nat → Int64) (bs : Nat → Int64) (nw : Nat) (tw : Nat → Nat) (pw : Nat → Int32) (mw : Nat → Int32) (rl : Nat → Int64) (cw : Nat → Int64) (xw : Nat → Int64) (ew : Nat → Int32) (hd : Nat → Nat) (al : Nat → Nat) (se : Nat → Int64) (bo : Nat → Nat → Int32) (rb : Nat → Nat → Int32) (pe : Nat → Nat → Int32) (me : Nat → Nat → Int32) (re : Nat → Nat → Int64) (cr : Nat → Nat → Int64) (xt : Nat → Nat → Int64) (en : Nat → Nat → Int32) (tx : Nat → Nat → Nat) (V : Nat → Nat → Nat → Int64) (P : Nat → Nat → Nat → Int64) (ST : Nat → Nat → Nat → Int64) (brt : Int32) (ny : Nat) (wd : Int32) (ag : Int64) (us : Int32) (ai : Int64) (ab : Int64) (AP : Nat → Int64) (c k i : Nat) : Option va_E :=
  if c = 0 then (if k = 0 ∧ i = 0 then some (.inr (6, [.ref (AD (1, 0, 0)), .ref (AD (2, 0, 0)), .ref (AD (3, 0, 0)), .ref (AD (4, 0, 0)), .int (nI nb), .int (nI nd), .int (nI nw), .int brt, .int (nI ny), .int wd])) else none) else if c = 1 then (if k = 0 ∧ i = 0 then some (eR cs 5 6 (fun k => if k < nb then some (AD (10, k, 0)) else none)) else none) else if c = 2 then (if k = 0 ∧ i = 0 then some (eR cs 3 8 (fun k => if k < nd then some (AD (20, k, 0)) else none)) else none) else if c = 3 then (if k = 0 ∧ i = 0 then some (eR cs 6 10 (fun k => if k < nw then some (AD (30, k, 0)) else none)) else none) else if c = 4 then (if k = 0 ∧ i = 0 then some (.inr (0, [.ref (AD (5, 0, 0)), .long ag, .int us, .long ai, .long ab])) else none) else if c = 5 then (if k = 0 ∧ i = 0 then some (eJ cs 8 AP) else none) else if c = 10 then (if i = 0 ∧ k < nb then some (.inr (3, [.ref (AD (11, k, 0)), .ref (AD (12, k, 0)), .int (nI (tn k)), .int (tt k)])) else none) else if c = 11 then (if i = 0 ∧ k < nb then some (eJ cs 12 (FF k)) else none) else if c = 12 then (if i = 0 ∧ k < nb then some (eI cs 12 (GF k)) else none) else if c = 20 then (if i = 0 ∧ k < nd then some (.inr (1, [.int (de k), .int (so k), .long (si k), .long (ca k), .long (bs k)])) else none) else if c = 30 then (if i = 0 ∧ k < nw then some (.inr (5, [.ref (AD (31, k, 0)), .ref (AD (32, k, 0)), .ref (AD (33, k, 0)), .int (nI (hd k)), .long (se k)])) else none) else if c = 31 then (if i = 0 ∧ k < nw then some (.inr (4, [.ref (AD (10, (tw k), 0)), .int (pw k), .int (mw k), .long (rl k), .long (cw k), .long (xw k), .int (ew k)])) else none) else if c = 32 then (if i = 0 ∧ k < nw then some (eR cs 4 60 (fun i => if i < al k then some (AD (40, k, i)) else none)) else none) else if c = 33 then (if i = 0 ∧ k < nw then some (eR cs 7 6 (fun y => if y < 6 then some (AD (43, k, y)) else none)) else none) else if c = 40 then (if k < nw ∧ i < al k then some (zPayE (AD (41, k, i)) (AD (42, k, i)) (bo k i) (rb k i) (V k i)) else none) else if c = 41 then (if k < nw ∧ i < al k then some (.inr (4, [.ref (AD (10, (tx k i), 0)), .int (pe k i), .int (me k i), .long (re k i), .long (cr k i), .long (xt k i), .int (en k i)])) else none) else if c = 42 then (if k < nw ∧ i < al k then some (eJ cs 8 (P k i)) else none) else if c = 43 then (if k < nw ∧ i < 6 then some (eJ cs 11 (ST k i)) else none) else none
def cR (cs : Nat → ClassId) (AD : Nat × Nat × Nat → Nat) (nb : Nat) (tn : Nat → Nat) (FF : Nat → Nat → Int64) (GF : Nat → Nat → Int32) (tt : Nat → Int32) (nd : Nat) (de : Nat → Int32) (so : Nat → Int32) (si : Nat → Int64) (ca : Nat → Int64) (bs : Nat → Int64) (nw : Nat) (tw : Nat → Nat) (pw : Nat → Int32) (mw : Nat → Int32) (rl : Nat → Int64) (cw : Nat → Int64) (xw : Nat → Int64) (ew : Nat → Int32) (hd : Nat → Nat) (al : Nat → Nat) (se : Nat → Int64) (bo : Nat → Nat → Int32) (rb : Nat → Nat → Int32) (pe : Nat → Nat → Int32) (me : Nat → Nat → Int32) (re : Nat → Nat → Int64) (cr : Nat → Nat → Int64) (xt : Nat → Nat → Int64) (en : Nat → Nat → Int32) (tx : Nat → Nat → Nat) (V : Nat → Nat → Nat → Int64) (P : Nat → Nat → Nat → Int64) (ST : Nat → Nat → Nat → Int64) (brt : Int32) (ny : Nat) (wd : Int32) (ag : Int64) (us : Int32) (ai : Int64) (ab : Int64) (AP : Nat → Int64) (r : Nat × Nat × Nat) : Option va_E := cRk cs AD nb tn FF GF tt nd de so si ca bs nw tw pw mw rl cw xw ew hd al se bo rb pe me re cr xt en tx V P ST brt ny wd ag us ai ab AP r.1 r.2.1 r.2.2
theorem cR_0 {cs : Nat → ClassId} {AD : Nat × Nat × Nat → Nat} {nb : Nat} {tn : Nat → Nat} {FF : Nat → Nat → Int64} {GF : Nat → Nat → Int32} {tt : Nat → Int32} {nd : Nat} {de : Nat → Int32} {so : Nat → Int32} {si : Nat → Int64} {ca : Nat → Int64} {bs : Nat → Int64} {nw : Nat} {tw : Nat → Nat} {pw : Nat → Int32} {mw : Nat → Int32} {rl : Nat → Int64} {cw : Nat → Int64} {xw : Nat → Int64} {ew : Nat → Int32} {hd : Nat → Nat} {al : Nat → Nat} {se : Nat → Int64} {bo : Nat → Nat → Int32} {rb : Nat → Nat → Int32} {pe : Nat → Nat → Int32} {me : Nat → Nat → Int32} {re : Nat → Nat → Int64} {cr : Nat → Nat → Int64} {xt : Nat → Nat → Int64} {en : Nat → Nat → Int32} {tx : Nat → Nat → Nat} {V : Nat → Nat → Nat → Int64} {P : Nat → Nat → Nat → Int64} {ST : Nat → Nat → Nat → Int64} {brt : Int32} {ny : Nat} {wd : Int32} {ag : Int64} {us : Int32} {ai : Int64} {ab : Int64} {AP : Nat → Int64} : cR cs AD nb tn FF GF tt nd de so si ca bs nw tw pw mw rl cw xw ew hd al se bo rb pe me re cr xt en tx V P ST brt ny wd ag us ai ab AP (0, 0, 0) = some (.inr (6, [.ref (AD (1, 0, 0)), .ref (AD (2, 0, 0)), .ref (AD (3, 0, 0)), .ref (AD (4, 0, 0)), .int (nI nb), .int (nI nd), .int (nI nw), .int brt, .int (nI ny), .int wd])) := by
  show cRk cs AD nb tn FF GF tt nd de so si ca bs nw tw pw mw rl cw xw ew hd al se bo rb pe me re cr xt en tx V P ST brt ny wd ag us ai ab AP 0 0 0 = _
  unfold cRk
  rw [if_pos rfl, if_pos ⟨rfl, rfl⟩]
theorem cR_1 {cs : Nat → ClassId} {AD : Nat × Nat × Nat → Nat} {nb : Nat} {tn : Nat → Nat} {FF : Nat → Nat → Int64} {GF : Nat → Nat → Int32} {tt : Nat → Int32} {nd : Nat} {de : Nat → Int32} {so : Nat → Int32} {si : Nat → Int64} {ca : Nat → Int64} {bs : Nat → Int64} {nw : Nat} {tw : Nat → Nat} {pw : Nat → Int32} {mw : Nat → Int32} {rl : Nat → Int64} {cw : Nat → Int64} {xw : Nat → Int64} {ew : Nat → Int32} {hd : Nat → Nat} {al : Nat → Nat} {se : Nat → Int64} {bo : Nat → Nat → Int32} {rb : Nat → Nat → Int32} {pe : Nat → Nat → Int32} {me : Nat → Nat → Int32} {re : Nat → Nat → Int64} {cr : Nat → Nat → Int64} {xt : Nat → Nat → Int64} {en : Nat → Nat → Int32} {tx : Nat → Nat → Nat} {V : Nat → Nat → Nat → Int64} {P : Nat → Nat → Nat → Int64} {ST : Nat → Nat → Nat → Int64} {brt : Int32} {ny : Nat} {wd : Int32} {ag : Int64} {us : Int32} {ai : Int64} {ab : Int64} {AP : Nat → Int64} : cR cs AD nb tn FF GF tt nd de so si ca bs nw tw pw mw rl cw xw ew hd al se bo rb pe me re cr xt en tx V P ST brt ny wd ag us ai ab AP (1, 0, 0) = some (eR cs 5 6 (fun k => if k < nb then some (AD (10, k, 0)) else none)) := by
  show cRk cs AD nb tn FF GF tt nd de so si ca bs nw tw pw mw rl cw xw ew hd al se bo rb pe me re cr xt en tx V P ST brt ny wd ag us ai ab AP 1 0 0 = _
  unfold cRk
  rw [if_neg (by decide), if_pos rfl, if_pos ⟨rfl, rfl⟩]
theorem cR_2 {cs : Nat → ClassId} {AD : Nat × Nat × Nat → Nat} {nb : Nat} {tn : Nat → Nat} {FF : Nat → Nat → Int64} {GF : Nat → Nat → Int32} {tt : Nat → Int32} {nd : Nat} {de : Nat → Int32} {so : Nat → Int32} {si : Nat → Int64} {ca : Nat → Int64} {bs : Nat → Int64} {nw : Nat} {tw : Nat → Nat} {pw : Nat → Int32} {mw : Nat → Int32} {rl : Nat → Int64} {cw : Nat → Int64} {xw : Nat → Int64} {ew : Nat → Int32} {hd : Nat → Nat} {al : Nat → Nat} {se : Nat → Int64} {bo : Nat → Nat → Int32} {rb : Nat → Nat → Int32} {pe : Nat → Nat → Int32} {me : Nat → Nat → Int32} {re : Nat → Nat → Int64} {cr : Nat → Nat → Int64} {xt : Nat → Nat → Int64} {en : Nat → Nat → Int32} {tx : Nat → Nat → Nat} {V : Nat → Nat → Nat → Int64} {P : Nat → Nat → Nat → Int64} {ST : Nat → Nat → Nat → Int64} {brt : Int32} {ny : Nat} {wd : Int32} {ag : Int64} {us : Int32} {ai : Int64} {ab : Int64} {AP : Nat → Int64} : cR cs AD nb tn FF GF tt nd de so si ca bs nw tw pw mw rl cw xw ew hd al se bo rb pe me re cr xt en tx V P ST brt ny wd ag us ai ab AP (2, 0, 0) = some (eR cs 3 8 (fun k => if k < nd then some (AD (20, k, 0)) else none)) := by
  show cRk cs AD nb tn FF GF tt nd de so si ca bs nw tw pw mw rl cw xw ew hd al se bo rb pe me re cr xt en tx V P ST brt ny wd ag us ai ab AP 2 0 0 = _
  unfold cRk
  rw [if_neg (by decide), if_neg (by decide), if_pos rfl, if_pos ⟨rfl, rfl⟩]
theorem cR_3 {cs : Nat → ClassId} {AD : Nat × Nat × Nat → Nat} {nb : Nat} {tn : Nat → Nat} {FF : Nat → Nat → Int64} {GF : Nat → Nat → Int32} {tt : Nat → Int32} {nd : Nat} {de : Nat → Int32} {so : Nat → Int32} {si : Nat → Int64} {ca : Nat → Int64} {bs : Nat → Int64} {nw : Nat} {tw : Nat → Nat} {pw : Nat → Int32} {mw : Nat → Int32} {rl : Nat → Int64} {cw : Nat → Int64} {xw : Nat → Int64} {ew : Nat → Int32} {hd : Nat → Nat} {al : Nat → Nat} {se : Nat → Int64} {bo : Nat → Nat → Int32} {rb : Nat → Nat → Int32} {pe : Nat → Nat → Int32} {me : Nat → Nat → Int32} {re : Nat → Nat → Int64} {cr : Nat → Nat → Int64} {xt : Nat → Nat → Int64} {en : Nat → Nat → Int32} {tx : Nat → Nat → Nat} {V : Nat → Nat → Nat → Int64} {P : Nat → Nat → Nat → Int64} {ST : Nat → Nat → Nat → Int64} {brt : Int32} {ny : Nat} {wd : Int32} {ag : Int64} {us : Int32} {ai : Int64} {ab : Int64} {AP : Nat → Int64} : cR cs AD nb tn FF GF tt nd de so si ca bs nw tw pw mw rl cw xw ew hd al se bo rb pe me re cr xt en tx V P ST brt ny wd ag us ai ab AP (3, 0, 0) = some (eR cs 6 10 (fun k => if k < nw then some (AD (30, k, 0)) else none)) := by
  show cRk cs AD nb tn FF GF tt nd de so si ca bs nw tw pw mw rl cw xw ew hd al se bo rb pe me re cr xt en tx V P ST brt ny wd ag us ai ab AP 3 0 0 = _
  unfold cRk
  rw [if_neg (by decide), if_neg (by decide), if_neg (by decide), if_pos rfl, if_pos ⟨rfl, rfl⟩]
theorem cR_4 {cs : Nat → ClassId} {AD : Nat × Nat × Nat → Nat} {nb : Nat} {tn : Nat → Nat} {FF : Nat → Nat → Int64} {GF : Nat → Nat → Int32} {tt : Nat → Int32} {nd : Nat} {de : Nat → Int32} {so : Nat → Int32} {si : Nat → Int64} {ca : Nat → Int64} {bs : Nat → Int64} {nw : Nat} {tw : Nat → Nat} {pw : Nat → Int32} {mw : Nat → Int32} {rl : Nat → Int64} {cw : Nat → Int64} {xw : Nat → Int64} {ew : Nat → Int32} {hd : Nat → Nat} {al : Nat → Nat} {se : Nat → Int64} {bo : Nat → Nat → Int32} {rb : Nat → Nat → Int32} {pe : Nat → Nat → Int32} {me : Nat → Nat → Int32} {re : Nat → Nat → Int64} {cr : Nat → Nat → Int64} {xt : Nat → Nat → Int64} {en : Nat → Nat → Int32} {tx : Nat → Nat → Nat} {V : Nat → Nat → Nat → Int64} {P : Nat → Nat → Nat → Int64} {ST : Nat → Nat → Nat → Int64} {brt : Int32} {ny : Nat} {wd : Int32} {ag : Int64} {us : Int32} {ai : Int64} {ab : Int64} {AP : Nat → Int64} : cR cs AD nb tn FF GF tt nd de so si ca bs nw tw pw mw rl cw xw ew hd al se bo rb pe me re cr xt en tx V P ST brt ny wd ag us ai ab AP (4, 0, 0) = some (.inr (0, [.ref (AD (5, 0, 0)), .long ag, .int us, .long ai, .long ab])) := by
  show cRk cs AD nb tn FF GF tt nd de so si ca bs nw tw pw mw rl cw xw ew hd al se bo rb pe me re cr xt en tx V P ST brt ny wd ag us ai ab AP 4 0 0 = _
  unfold cRk
  rw [if_neg (by decide), if_neg (by decide), if_neg (by decide), if_neg (by decide), if_pos rfl, if_pos ⟨rfl, rfl⟩]
theorem cR_5 {cs : Nat → ClassId} {AD : Nat × Nat × Nat → Nat} {nb : Nat} {tn : Nat → Nat} {FF : Nat → Nat → Int64} {GF : Nat → Nat → Int32} {tt : Nat → Int32} {nd : Nat} {de : Nat → Int32} {so : Nat → Int32} {si : Nat → Int64} {ca : Nat → Int64} {bs : Nat → Int64} {nw : Nat} {tw : Nat → Nat} {pw : Nat → Int32} {mw : Nat → Int32} {rl : Nat → Int64} {cw : Nat → Int64} {xw : Nat → Int64} {ew : Nat → Int32} {hd : Nat → Nat} {al : Nat → Nat} {se : Nat → Int64} {bo : Nat → Nat → Int32} {rb : Nat → Nat → Int32} {pe : Nat → Nat → Int32} {me : Nat → Nat → Int32} {re : Nat → Nat → Int64} {cr : Nat → Nat → Int64} {xt : Nat → Nat → Int64} {en : Nat → Nat → Int32} {tx : Nat → Nat → Nat} {V : Nat → Nat → Nat → Int64} {P : Nat → Nat → Nat → Int64} {ST : Nat → Nat → Nat → Int64} {brt : Int32} {ny : Nat} {wd : Int32} {ag : Int64} {us : Int32} {ai : Int64} {ab : Int64} {AP : Nat → Int64} : cR cs AD nb tn FF GF tt nd de so si ca bs nw tw pw mw rl cw xw ew hd al se bo rb pe me re cr xt en tx V P ST brt ny wd ag us ai ab AP (5, 0, 0) = some (eJ cs 8 AP) := by
  show cRk cs AD nb tn FF GF tt nd de so si ca bs nw tw pw mw rl cw xw ew hd al se bo rb pe me re cr xt en tx V P ST brt ny wd ag us ai ab AP 5 0 0 = _
  unfold cRk
  rw [if_neg (by decide), if_neg (by decide), if_neg (by decide), if_neg (by decide), if_neg (by decide), if_pos rfl, if_pos ⟨rfl, rfl⟩]
theorem cR_10 {cs : Nat → ClassId} {AD : Nat × Nat × Nat → Nat} {nb : Nat} {tn : Nat → Nat} {FF : Nat → Nat → Int64} {GF : Nat → Nat → Int32} {tt : Nat → Int32} {nd : Nat} {de : Nat → Int32} {so : Nat → Int32} {si : Nat → Int64} {ca : Nat → Int64} {bs : Nat → Int64} {nw : Nat} {tw : Nat → Nat} {pw : Nat → Int32} {mw : Nat → Int32} {rl : Nat → Int64} {cw : Nat → Int64} {xw : Nat → Int64} {ew : Nat → Int32} {hd : Nat → Nat} {al : Nat → Nat} {se : Nat → Int64} {bo : Nat → Nat → Int32} {rb : Nat → Nat → Int32} {pe : Nat → Nat → Int32} {me : Nat → Nat → Int32} {re : Nat → Nat → Int64} {cr : Nat → Nat → Int64} {xt : Nat → Nat → Int64} {en : Nat → Nat → Int32} {tx : Nat → Nat → Nat} {V : Nat → Nat → Nat → Int64} {P : Nat → Nat → Nat → Int64} {ST : Nat → Nat → Nat → Int64} {brt : Int32} {ny : Nat} {wd : Int32} {ag : Int64} {us : Int32} {ai : Int64} {ab : Int64} {AP : Nat → Int64} {k : Nat} (h : k < nb) : cR cs AD nb tn FF GF tt nd de so si ca bs nw tw pw mw rl cw xw ew hd al se bo rb pe me re cr xt en tx V P ST brt ny wd ag us ai ab AP (10, k, 0) = some (.inr (3, [.ref (AD (11, k, 0)), .ref (AD (12, k, 0)), .int (nI (tn k)), .int (tt k)])) := by
  show cRk cs AD nb tn FF GF tt nd de so si ca bs nw tw pw mw rl cw xw ew hd al se bo rb pe me re cr xt en tx V P ST brt ny wd ag us ai ab AP 10 k 0 = _
  unfold cRk
  rw [if_neg (by decide), if_neg (by decide), if_neg (by decide), if_neg (by decide), if_neg (by decide), if_neg (by decide), if_pos rfl, if_pos ⟨rfl, h⟩]
theorem cR_11 {cs : Nat → ClassId} {AD : Nat × Nat × Nat → Nat} {nb : Nat} {tn : Nat → Nat} {FF : Nat → Nat → Int64} {GF : Nat → Nat → Int32} {tt : Nat → Int32} {nd : Nat} {de : Nat → Int32} {so : Nat → Int32} {si : Nat → Int64} {ca : Nat → Int64} {bs : Nat → Int64} {nw : Nat} {tw : Nat → Nat} {pw : Nat → Int32} {mw : Nat → Int32} {rl : Nat → Int64} {cw : Nat → Int64} {xw : Nat → Int64} {ew : Nat → Int32} {hd : Nat → Nat} {al : Nat → Nat} {se : Nat → Int64} {bo : Nat → Nat → Int32} {rb : Nat → Nat → Int32} {pe : Nat → Nat → Int32} {me : Nat → Nat → Int32} {re : Nat → Nat → Int64} {cr : Nat → Nat → Int64} {xt : Nat → Nat → Int64} {en : Nat → Nat → Int32} {tx : Nat → Nat → Nat} {V : Nat → Nat → Nat → Int64} {P : Nat → Nat → Nat → Int64} {ST : Nat → Nat → Nat → Int64} {brt : Int32} {ny : Nat} {wd : Int32} {ag : Int64} {us : Int32} {ai : Int64} {ab : Int64} {AP : Nat → Int64} {k : Nat} (h : k < nb) : cR cs AD nb tn FF GF tt nd de so si ca bs nw tw pw mw rl cw xw ew hd al se bo rb pe me re cr xt en tx V P ST brt ny wd ag us ai ab AP (11, k, 0) = some (eJ cs 12 (FF k)) := by
  show cRk cs AD nb tn FF GF tt nd de so si ca bs nw tw pw mw rl cw xw ew hd al se bo rb pe me re cr xt en tx V P ST brt ny wd ag us ai ab AP 11 k 0 = _
  unfold cRk
  rw [if_neg (by decide), if_neg (by decide), if_neg (by decide), if_neg (by decide), if_neg (by decide), if_neg (by decide), if_neg (by decide), if_pos rfl, if_pos ⟨rfl, h⟩]
theorem cR_12 {cs : Nat → ClassId} {AD : Nat × Nat × Nat → Nat} {nb : Nat} {tn : Nat → Nat} {FF : Nat → Nat → Int64} {GF : Nat → Nat → Int32} {tt : Nat → Int32} {nd : Nat} {de : Nat → Int32} {so : Nat → Int32} {si : Nat → Int64} {ca : Nat → Int64} {bs : Nat → Int64} {nw : Nat} {tw : Nat → Nat} {pw : Nat → Int32} {mw : Nat → Int32} {rl : Nat → Int64} {cw : Nat → Int64} {xw : Nat → Int64} {ew : Nat → Int32} {hd : Nat → Nat} {al : Nat → Nat} {se : Nat → Int64} {bo : Nat → Nat → Int32} {rb : Nat → Nat → Int32} {pe : Nat → Nat → Int32} {me : Nat → Nat → Int32} {re : Nat → Nat → Int64} {cr : Nat → Nat → Int64} {xt : Nat → Nat → Int64} {en : Nat → Nat → Int32} {tx : Nat → Nat → Nat} {V : Nat → Nat → Nat → Int64} {P : Nat → Nat → Nat → Int64} {ST : Nat → Nat → Nat → Int64} {brt : Int32} {ny : Nat} {wd : Int32} {ag : Int64} {us : Int32} {ai : Int64} {ab : Int64} {AP : Nat → Int64} {k : Nat} (h : k < nb) : cR cs AD nb tn FF GF tt nd de so si ca bs nw tw pw mw rl cw xw ew hd al se bo rb pe me re cr xt en tx V P ST brt ny wd ag us ai ab AP (12, k, 0) = some (eI cs 12 (GF k)) := by
  show cRk cs AD nb tn FF GF tt nd de so si ca bs nw tw pw mw rl cw xw ew hd al se bo rb pe me re cr xt en tx V P ST brt ny wd ag us ai ab AP 12 k 0 = _
  unfold cRk
  rw [if_neg (by decide), if_neg (by decide), if_neg (by decide), if_neg (by decide), if_neg (by decide), if_neg (by decide), if_neg (by decide), if_neg (by decide), if_pos rfl, if_pos ⟨rfl, h⟩]
theorem cR_20 {cs : Nat → ClassId} {AD : Nat × Nat × Nat → Nat} {nb : Nat} {tn : Nat → Nat} {FF : Nat → Nat → Int64} {GF : Nat → Nat → Int32} {tt : Nat → Int32} {nd : Nat} {de : Nat → Int32} {so : Nat → Int32} {si : Nat → Int64} {ca : Nat → Int64} {bs : Nat → Int64} {nw : Nat} {tw : Nat → Nat} {pw : Nat → Int32} {mw : Nat → Int32} {rl : Nat → Int64} {cw : Nat → Int64} {xw : Nat → Int64} {ew : Nat → Int32} {hd : Nat → Nat} {al : Nat → Nat} {se : Nat → Int64} {bo : Nat → Nat → Int32} {rb : Nat → Nat → Int32} {pe : Nat → Nat → Int32} {me : Nat → Nat → Int32} {re : Nat → Nat → Int64} {cr : Nat → Nat → Int64} {xt : Nat → Nat → Int64} {en : Nat → Nat → Int32} {tx : Nat → Nat → Nat} {V : Nat → Nat → Nat → Int64} {P : Nat → Nat → Nat → Int64} {ST : Nat → Nat → Nat → Int64} {brt : Int32} {ny : Nat} {wd : Int32} {ag : Int64} {us : Int32} {ai : Int64} {ab : Int64} {AP : Nat → Int64} {k : Nat} (h : k < nd) : cR cs AD nb tn FF GF tt nd de so si ca bs nw tw pw mw rl cw xw ew hd al se bo rb pe me re cr xt en tx V P ST brt ny wd ag us ai ab AP (20, k, 0) = some (.inr (1, [.int (de k), .int (so k), .long (si k), .long (ca k), .long (bs k)])) := by
  show cRk cs AD nb tn FF GF tt nd de so si ca bs nw tw pw mw rl cw xw ew hd al se bo rb pe me re cr xt en tx V P ST brt ny wd ag us ai ab AP 20 k 0 = _
  unfold cRk
  rw [if_neg (by decide), if_neg (by decide), if_neg (by decide), if_neg (by decide), if_neg (by decide), if_neg (by decide), if_neg (by decide), if_neg (by decide), if_neg (by decide), if_pos rfl, if_pos ⟨rfl, h⟩]
theorem cR_30 {cs : Nat → ClassId} {AD : Nat × Nat × Nat → Nat} {nb : Nat} {tn : Nat → Nat} {FF : Nat → Nat → Int64} {GF : Nat → Nat → Int32} {tt : Nat → Int32} {nd : Nat} {de : Nat → Int32} {so : Nat → Int32} {si : Nat → Int64} {ca : Nat → Int64} {bs : Nat → Int64} {nw : Nat} {tw : Nat → Nat} {pw : Nat → Int32} {mw : Nat → Int32} {rl : Nat → Int64} {cw : Nat → Int64} {xw : Nat → Int64} {ew : Nat → Int32} {hd : Nat → Nat} {al : Nat → Nat} {se : Nat → Int64} {bo : Nat → Nat → Int32} {rb : Nat → Nat → Int32} {pe : Nat → Nat → Int32} {me : Nat → Nat → Int32} {re : Nat → Nat → Int64} {cr : Nat → Nat → Int64} {xt : Nat → Nat → Int64} {en : Nat → Nat → Int32} {tx : Nat → Nat → Nat} {V : Nat → Nat → Nat → Int64} {P : Nat → Nat → Nat → Int64} {ST : Nat → Nat → Nat → Int64} {brt : Int32} {ny : Nat} {wd : Int32} {ag : Int64} {us : Int32} {ai : Int64} {ab : Int64} {AP : Nat → Int64} {k : Nat} (h : k < nw) : cR cs AD nb tn FF GF tt nd de so si ca bs nw tw pw mw rl cw xw ew hd al se bo rb pe me re cr xt en tx V P ST brt ny wd ag us ai ab AP (30, k, 0) = some (.inr (5, [.ref (AD (31, k, 0)), .ref (AD (32, k, 0)), .ref (AD (33, k, 0)), .int (nI (hd k)), .long (se k)])) := by
  show cRk cs AD nb tn FF GF tt nd de so si ca bs nw tw pw mw rl cw xw ew hd al se bo rb pe me re cr xt en tx V P ST brt ny wd ag us ai ab AP 30 k 0 = _
  unfold cRk
  rw [if_neg (by decide), if_neg (by decide), if_neg (by decide), if_neg (by decide), if_neg (by decide), if_neg (by decide), if_neg (by decide), if_neg (by decide), if_neg (by decide), if_neg (by decide), if_pos rfl, if_pos ⟨rfl, h⟩]
theorem cR_31 {cs : Nat → ClassId} {AD : Nat × Nat × Nat → Nat} {nb : Nat} {tn : Nat → Nat} {FF : Nat → Nat → Int64} {GF : Nat → Nat → Int32} {tt : Nat → Int32} {nd : Nat} {de : Nat → Int32} {so : Nat → Int32} {si : Nat → Int64} {ca : Nat → Int64} {bs : Nat → Int64} {nw : Nat} {tw : Nat → Nat} {pw : Nat → Int32} {mw : Nat → Int32} {rl : Nat → Int64} {cw : Nat → Int64} {xw : Nat → Int64} {ew : Nat → Int32} {hd : Nat → Nat} {al : Nat → Nat} {se : Nat → Int64} {bo : Nat → Nat → Int32} {rb : Nat → Nat → Int32} {pe : Nat → Nat → Int32} {me : Nat → Nat → Int32} {re : Nat → Nat → Int64} {cr : Nat → Nat → Int64} {xt : Nat → Nat → Int64} {en : Nat → Nat → Int32} {tx : Nat → Nat → Nat} {V : Nat → Nat → Nat → Int64} {P : Nat → Nat → Nat → Int64} {ST : Nat → Nat → Nat → Int64} {brt : Int32} {ny : Nat} {wd : Int32} {ag : Int64} {us : Int32} {ai : Int64} {ab : Int64} {AP : Nat → Int64} {k : Nat} (h : k < nw) : cR cs AD nb tn FF GF tt nd de so si ca bs nw tw pw mw rl cw xw ew hd al se bo rb pe me re cr xt en tx V P ST brt ny wd ag us ai ab AP (31, k, 0) = some (.inr (4, [.ref (AD (10, (tw k), 0)), .int (pw k), .int (mw k), .long (rl k), .long (cw k), .long (xw k), .int (ew k)])) := by
  show cRk cs AD nb tn FF GF tt nd de so si ca bs nw tw pw mw rl cw xw ew hd al se bo rb pe me re cr xt en tx V P ST brt ny wd ag us ai ab AP 31 k 0 = _
  unfold cRk
  rw [if_neg (by decide), if_neg (by decide), if_neg (by decide), if_neg (by decide), if_neg (by decide), if_neg (by decide), if_neg (by decide), if_neg (by decide), if_neg (by decide), if_neg (by decide), if_neg (by decide), if_pos rfl, if_pos ⟨rfl, h⟩]
theorem cR_32 {cs : Nat → ClassId} {AD : Nat × Nat × Nat → Nat} {nb : Nat} {tn : Nat → Nat} {FF : Nat → Nat → Int64} {GF : Nat → Nat → Int32} {tt : Nat → Int32} {nd : Nat} {de : Nat → Int32} {so : Nat → Int32} {si : Nat → Int64} {ca : Nat → Int64} {bs : Nat → Int64} {nw : Nat} {tw : Nat → Nat} {pw : Nat → Int32} {mw : Nat → Int32} {rl : Nat → Int64} {cw : Nat → Int64} {xw : Nat → Int64} {ew : Nat → Int32} {hd : Nat → Nat} {al : Nat → Nat} {se : Nat → Int64} {bo : Nat → Nat → Int32} {rb : Nat → Nat → Int32} {pe : Nat → Nat → Int32} {me : Nat → Nat → Int32} {re : Nat → Nat → Int64} {cr : Nat → Nat → Int64} {xt : Nat → Nat → Int64} {en : Nat → Nat → Int32} {tx : Nat → Nat → Nat} {V : Nat → Nat → Nat → Int64} {P : Nat → Nat → Nat → Int64} {ST : Nat → Nat → Nat → Int64} {brt : Int32} {ny : Nat} {wd : Int32} {ag : Int64} {us : Int32} {ai : Int64} {ab : Int64} {AP : Nat → Int64} {k : Nat} (h : k < nw) : cR cs AD nb tn FF GF tt nd de so si ca bs nw tw pw mw rl cw xw ew hd al se bo rb pe me re cr xt en tx V P ST brt ny wd ag us ai ab AP (32, k, 0) = some (eR cs 4 60 (fun i => if i < al k then some (AD (40, k, i)) else none)) := by
  show cRk cs AD nb tn FF GF tt nd de so si ca bs nw tw pw mw rl cw xw ew hd al se bo rb pe me re cr xt en tx V P ST brt ny wd ag us ai ab AP 32 k 0 = _
  unfold cRk
  rw [if_neg (by decide), if_neg (by decide), if_neg (by decide), if_neg (by decide), if_neg (by decide), if_neg (by decide), if_neg (by decide), if_neg (by decide), if_neg (by decide), if_neg (by decide), if_neg (by decide), if_neg (by decide), if_pos rfl, if_pos ⟨rfl, h⟩]
theorem cR_33 {cs : Nat → ClassId} {AD : Nat × Nat × Nat → Nat} {nb : Nat} {tn : Nat → Nat} {FF : Nat → Nat → Int64} {GF : Nat → Nat → Int32} {tt : Nat → Int32} {nd : Nat} {de : Nat → Int32} {so : Nat → Int32} {si : Nat → Int64} {ca : Nat → Int64} {bs : Nat → Int64} {nw : Nat} {tw : Nat → Nat} {pw : Nat → Int32} {mw : Nat → Int32} {rl : Nat → Int64} {cw : Nat → Int64} {xw : Nat → Int64} {ew : Nat → Int32} {hd : Nat → Nat} {al : Nat → Nat} {se : Nat → Int64} {bo : Nat → Nat → Int32} {rb : Nat → Nat → Int32} {pe : Nat → Nat → Int32} {me : Nat → Nat → Int32} {re : Nat → Nat → Int64} {cr : Nat → Nat → Int64} {xt : Nat → Nat → Int64} {en : Nat → Nat → Int32} {tx : Nat → Nat → Nat} {V : Nat → Nat → Nat → Int64} {P : Nat → Nat → Nat → Int64} {ST : Nat → Nat → Nat → Int64} {brt : Int32} {ny : Nat} {wd : Int32} {ag : Int64} {us : Int32} {ai : Int64} {ab : Int64} {AP : Nat → Int64} {k : Nat} (h : k < nw) : cR cs AD nb tn FF GF tt nd de so si ca bs nw tw pw mw rl cw xw ew hd al se bo rb pe me re cr xt en tx V P ST brt ny wd ag us ai ab AP (33, k, 0) = some (eR cs 7 6 (fun y => if y < 6 then some (AD (43, k, y)) else none)) := by
  show cRk cs AD nb tn FF GF tt nd de so si ca bs nw tw pw mw rl cw xw ew hd al se bo rb pe me re cr xt en tx V P ST brt ny wd ag us ai ab AP 33 k 0 = _
  unfold cRk
  rw [if_neg (by decide), if_neg (by decide), if_neg (by decide), if_neg (by decide), if_neg (by decide), if_neg (by decide), if_neg (by decide), if_neg (by decide), if_neg (by decide), if_neg (by decide), if_neg (by decide), if_neg (by decide), if_neg (by decide), if_pos rfl, if_pos ⟨rfl, h⟩]
theorem cR_40 {cs : Nat → ClassId} {AD : Nat × Nat × Nat → Nat} {nb : Nat} {tn : Nat → Nat} {FF : Nat → Nat → Int64} {GF : Nat → Nat → Int32} {tt : Nat → Int32} {nd : Nat} {de : Nat → Int32} {so : Nat → Int32} {si : Nat → Int64} {ca : Nat → Int64} {bs : Nat → Int64} {nw : Nat} {tw : Nat → Nat} {pw : Nat → Int32} {mw : Nat → Int32} {rl : Nat → Int64} {cw : Nat → Int64} {xw : Nat → Int64} {ew : Nat → Int32} {hd : Nat → Nat} {al : Nat → Nat} {se : Nat → Int64} {bo : Nat → Nat → Int32} {rb : Nat → Nat → Int32} {pe : Nat → Nat → Int32} {me : Nat → Nat → Int32} {re : Nat → Nat → Int64} {cr : Nat → Nat → Int64} {xt : Nat → Nat → Int64} {en : Nat → Nat → Int32} {tx : Nat → Nat → Nat} {V : Nat → Nat → Nat → Int64} {P : Nat → Nat → Nat → Int64} {ST : Nat → Nat → Nat → Int64} {brt : Int32} {ny : Nat} {wd : Int32} {ag : Int64} {us : Int32} {ai : Int64} {ab : Int64} {AP : Nat → Int64} {k i : Nat} (h : k < nw) (h2 : i < al k) : cR cs AD nb tn FF GF tt nd de so si ca bs nw tw pw mw rl cw xw ew hd al se bo rb pe me re cr xt en tx V P ST brt ny wd ag us ai ab AP (40, k, i) = some (zPayE (AD (41, k, i)) (AD (42, k, i)) (bo k i) (rb k i) (V k i)) := by
  show cRk cs AD nb tn FF GF tt nd de so si ca bs nw tw pw mw rl cw xw ew hd al se bo rb pe me re cr xt en tx V P ST brt ny wd ag us ai ab AP 40 k i = _
  unfold cRk
  rw [if_neg (by decide), if_neg (by decide), if_neg (by decide), if_neg (by decide), if_neg (by decide), if_neg (by decide), if_neg (by decide), if_neg (by decide), if_neg (by decide), if_neg (by decide), if_neg (by decide), if_neg (by decide), if_neg (by decide), if_neg (by decide), if_pos rfl, if_pos ⟨h, h2⟩]
theorem cR_41 {cs : Nat → ClassId} {AD : Nat × Nat × Nat → Nat} {nb : Nat} {tn : Nat → Nat} {FF : Nat → Nat → Int64} {GF : Nat → Nat → Int32} {tt : Nat → Int32} {nd : Nat} {de : Nat → Int32} {so : Nat → Int32} {si : Nat → Int64} {ca : Nat → Int64} {bs : Nat → Int64} {nw : Nat} {tw : Nat → Nat} {pw : Nat → Int32} {mw : Nat → Int32} {rl : Nat → Int64} {cw : Nat → Int64} {xw : Nat → Int64} {ew : Nat → Int32} {hd : Nat → Nat} {al : Nat → Nat} {se : Nat → Int64} {bo : Nat → Nat → Int32} {rb : Nat → Nat → Int32} {pe : Nat → Nat → Int32} {me : Nat → Nat → Int32} {re : Nat → Nat → Int64} {cr : Nat → Nat → Int64} {xt : Nat → Nat → Int64} {en : Nat → Nat → Int32} {tx : Nat → Nat → Nat} {V : Nat → Nat → Nat → Int64} {P : Nat → Nat → Nat → Int64} {ST : Nat → Nat → Nat → Int64} {brt : Int32} {ny : Nat} {wd : Int32} {ag : Int64} {us : Int32} {ai : Int64} {ab : Int64} {AP : Nat → Int64} {k i : Nat} (h : k < nw) (h2 : i < al k) : cR cs AD nb tn FF GF tt nd de so si ca bs nw tw pw mw rl cw xw ew hd al se bo rb pe me re cr xt en tx V P ST brt ny wd ag us ai ab AP (41, k, i) = some (.inr (4, [.ref (AD (10, (tx k i), 0)), .int (pe k i), .int (me k i), .long (re k i), .long (cr k i), .long (xt k i), .int (en k i)])) := by
  show cRk cs AD nb tn FF GF tt nd de so si ca bs nw tw pw mw rl cw xw ew hd al se bo rb pe me re cr xt en tx V P ST brt ny wd ag us ai ab AP 41 k i = _
  unfold cRk
  rw [if_neg (by decide), if_neg (by decide), if_neg (by decide), if_neg (by decide), if_neg (by decide), if_neg (by decide), if_neg (by decide), if_neg (by decide), if_neg (by decide), if_neg (by decide), if_neg (by decide), if_neg (by decide), if_neg (by decide), if_neg (by decide), if_neg (by decide), if_pos rfl, if_pos ⟨h, h2⟩]
theorem cR_42 {cs : Nat → ClassId} {AD : Nat × Nat × Nat → Nat} {nb : Nat} {tn : Nat → Nat} {FF : Nat → Nat → Int64} {GF : Nat → Nat → Int32} {tt : Nat → Int32} {nd : Nat} {de : Nat → Int32} {so : Nat → Int32} {si : Nat → Int64} {ca : Nat → Int64} {bs : Nat → Int64} {nw : Nat} {tw : Nat → Nat} {pw : Nat → Int32} {mw : Nat → Int32} {rl : Nat → Int64} {cw : Nat → Int64} {xw : Nat → Int64} {ew : Nat → Int32} {hd : Nat → Nat} {al : Nat → Nat} {se : Nat → Int64} {bo : Nat → Nat → Int32} {rb : Nat → Nat → Int32} {pe : Nat → Nat → Int32} {me : Nat → Nat → Int32} {re : Nat → Nat → Int64} {cr : Nat → Nat → Int64} {xt : Nat → Nat → Int64} {en : Nat → Nat → Int32} {tx : Nat → Nat → Nat} {V : Nat → Nat → Nat → Int64} {P : Nat → Nat → Nat → Int64} {ST : Nat → Nat → Nat → Int64} {brt : Int32} {ny : Nat} {wd : Int32} {ag : Int64} {us : Int32} {ai : Int64} {ab : Int64} {AP : Nat → Int64} {k i : Nat} (h : k < nw) (h2 : i < al k) : cR cs AD nb tn FF GF tt nd de so si ca bs nw tw pw mw rl cw xw ew hd al se bo rb pe me re cr xt en tx V P ST brt ny wd ag us ai ab AP (42, k, i) = some (eJ cs 8 (P k i)) := by
  show cRk cs AD nb tn FF GF tt nd de so si ca bs nw tw pw mw rl cw xw ew hd al se bo rb pe me re cr xt en tx V P ST brt ny wd ag us ai ab AP 42 k i = _
  unfold cRk
  rw [if_neg (by decide), if_neg (by decide), if_neg (by decide), if_neg (by decide), if_neg (by decide), if_neg (by decide), if_neg (by decide), if_neg (by decide), if_neg (by decide), if_neg (by decide), if_neg (by decide), if_neg (by decide), if_neg (by decide), if_neg (by decide), if_neg (by decide), if_neg (by decide), if_pos rfl, if_pos ⟨h, h2⟩]
theorem cR_43 {cs : Nat → ClassId} {AD : Nat × Nat × Nat → Nat} {nb : Nat} {tn : Nat → Nat} {FF : Nat → Nat → Int64} {GF : Nat → Nat → Int32} {tt : Nat → Int32} {nd : Nat} {de : Nat → Int32} {so : Nat → Int32} {si : Nat → Int64} {ca : Nat → Int64} {bs : Nat → Int64} {nw : Nat} {tw : Nat → Nat} {pw : Nat → Int32} {mw : Nat → Int32} {rl : Nat → Int64} {cw : Nat → Int64} {xw : Nat → Int64} {ew : Nat → Int32} {hd : Nat → Nat} {al : Nat → Nat} {se : Nat → Int64} {bo : Nat → Nat → Int32} {rb : Nat → Nat → Int32} {pe : Nat → Nat → Int32} {me : Nat → Nat → Int32} {re : Nat → Nat → Int64} {cr : Nat → Nat → Int64} {xt : Nat → Nat → Int64} {en : Nat → Nat → Int32} {tx : Nat → Nat → Nat} {V : Nat → Nat → Nat → Int64} {P : Nat → Nat → Nat → Int64} {ST : Nat → Nat → Nat → Int64} {brt : Int32} {ny : Nat} {wd : Int32} {ag : Int64} {us : Int32} {ai : Int64} {ab : Int64} {AP : Nat → Int64} {k i : Nat} (h : k < nw) (h2 : i < 6) : cR cs AD nb tn FF GF tt nd de so si ca bs nw tw pw mw rl cw xw ew hd al se bo rb pe me re cr xt en tx V P ST brt ny wd ag us ai ab AP (43, k, i) = some (eJ cs 11 (ST k i)) := by
  show cRk cs AD nb tn FF GF tt nd de so si ca bs nw tw pw mw rl cw xw ew hd al se bo rb pe me re cr xt en tx V P ST brt ny wd ag us ai ab AP 43 k i = _
  unfold cRk
  rw [if_neg (by decide), if_neg (by decide), if_neg (by decide), if_neg (by decide), if_neg (by decide), if_neg (by decide), if_neg (by decide), if_neg (by decide), if_neg (by decide), if_neg (by decide), if_neg (by decide), if_neg (by decide), if_neg (by decide), if_neg (by decide), if_neg (by decide), if_neg (by decide), if_neg (by decide), if_pos rfl, if_pos ⟨h, h2⟩]
theorem cR_cases {cs : Nat → ClassId} {AD : Nat × Nat × Nat → Nat} {nb : Nat} {tn : Nat → Nat} {FF : Nat → Nat → Int64} {GF : Nat → Nat → Int32} {tt : Nat → Int32} {nd : Nat} {de : Nat → Int32} {so : Nat → Int32} {si : Nat → Int64} {ca : Nat → Int64} {bs : Nat → Int64} {nw : Nat} {tw : Nat → Nat} {pw : Nat → Int32} {mw : Nat → Int32} {rl : Nat → Int64} {cw : Nat → Int64} {xw : Nat → Int64} {ew : Nat → Int32} {hd : Nat → Nat} {al : Nat → Nat} {se : Nat → Int64} {bo : Nat → Nat → Int32} {rb : Nat → Nat → Int32} {pe : Nat → Nat → Int32} {me : Nat → Nat → Int32} {re : Nat → Nat → Int64} {cr : Nat → Nat → Int64} {xt : Nat → Nat → Int64} {en : Nat → Nat → Int32} {tx : Nat → Nat → Nat} {V : Nat → Nat → Nat → Int64} {P : Nat → Nat → Nat → Int64} {ST : Nat → Nat → Nat → Int64} {brt : Int32} {ny : Nat} {wd : Int32} {ag : Int64} {us : Int32} {ai : Int64} {ab : Int64} {AP : Nat → Int64} {Q : Nat × Nat × Nat → va_E → Prop} (h0 : Q (0, 0, 0) (.inr (6, [.ref (AD (1, 0, 0)), .ref (AD (2, 0, 0)), .ref (AD (3, 0, 0)), .ref (AD (4, 0, 0)), .int (nI nb), .int (nI nd), .int (nI nw), .int brt, .int (nI ny), .int wd]))) (h1 : Q (1, 0, 0) (eR cs 5 6 (fun k => if k < nb then some (AD (10, k, 0)) else none))) (h2 : Q (2, 0, 0) (eR cs 3 8 (fun k => if k < nd then some (AD (20, k, 0)) else none))) (h3 : Q (3, 0, 0) (eR cs 6 10 (fun k => if k < nw then some (AD (30, k, 0)) else none))) (h4 : Q (4, 0, 0) (.inr (0, [.ref (AD (5, 0, 0)), .long ag, .int us, .long ai, .long ab]))) (h5 : Q (5, 0, 0) (eJ cs 8 AP)) (h10 : ∀ (k : Nat), k < nb → Q (10, k, 0) (.inr (3, [.ref (AD (11, k, 0)), .ref (AD (12, k, 0)), .int (nI (tn k)), .int (tt k)]))) (h11 : ∀ (k : Nat), k < nb → Q (11, k, 0) (eJ cs 12 (FF k))) (h12 : ∀ (k : Nat), k < nb → Q (12, k, 0) (eI cs 12 (GF k))) (h20 : ∀ (k : Nat), k < nd → Q (20, k, 0) (.inr (1, [.int (de k), .int (so k), .long (si k), .long (ca k), .long (bs k)]))) (h30 : ∀ (k : Nat), k < nw → Q (30, k, 0) (.inr (5, [.ref (AD (31, k, 0)), .ref (AD (32, k, 0)), .ref (AD (33, k, 0)), .int (nI (hd k)), .long (se k)]))) (h31 : ∀ (k : Nat), k < nw → Q (31, k, 0) (.inr (4, [.ref (AD (10, (tw k), 0)), .int (pw k), .int (mw k), .long (rl k), .long (cw k), .long (xw k), .int (ew k)]))) (h32 : ∀ (k : Nat), k < nw → Q (32, k, 0) (eR cs 4 60 (fun i => if i < al k then some (AD (40, k, i)) else none))) (h33 : ∀ (k : Nat), k < nw → Q (33, k, 0) (eR cs 7 6 (fun y => if y < 6 then some (AD (43, k, y)) else none))) (h40 : ∀ (k i : Nat), k < nw → i < al k → Q (40, k, i) (zPayE (AD (41, k, i)) (AD (42, k, i)) (bo k i) (rb k i) (V k i))) (h41 : ∀ (k i : Nat), k < nw → i < al k → Q (41, k, i) (.inr (4, [.ref (AD (10, (tx k i), 0)), .int (pe k i), .int (me k i), .long (re k i), .long (cr k i), .long (xt k i), .int (en k i)]))) (h42 : ∀ (k i : Nat), k < nw → i < al k → Q (42, k, i) (eJ cs 8 (P k i))) (h43 : ∀ (k i : Nat), k < nw → i < 6 → Q (43, k, i) (eJ cs 11 (ST k i))) : ∀ (r : Nat × Nat × Nat) (e : va_E), cR cs AD nb tn FF GF tt nd de so si ca bs nw tw pw mw rl cw xw ew hd al se bo rb pe me re cr xt en tx V P ST brt ny wd ag us ai ab AP r = some e → Q r e := by
  rintro ⟨c, k, i⟩ e h9
  have h : cRk cs AD nb tn FF GF tt nd de so si ca bs nw tw pw mw rl cw xw ew hd al se bo rb pe me re cr xt en tx V P ST brt ny wd ag us ai ab AP c k i = some e := h9
  clear h9
  unfold cRk at h
  by_cases d0 : c = 0
  · subst d0
    rw [if_pos rfl] at h
    by_cases q : k = 0 ∧ i = 0
    · rw [if_pos q] at h
      obtain ⟨q1, q2⟩ := q
      have q1 : k = 0 := q1
      have q2 : i = 0 := q2
      subst q1
      subst q2
      cases h
      exact h0
    · rw [if_neg q] at h
      cases h
  rw [if_neg d0] at h
  by_cases d1 : c = 1
  · subst d1
    rw [if_pos rfl] at h
    by_cases q : k = 0 ∧ i = 0
    · rw [if_pos q] at h
      obtain ⟨q1, q2⟩ := q
      have q1 : k = 0 := q1
      have q2 : i = 0 := q2
      subst q1
      subst q2
      cases h
      exact h1
    · rw [if_neg q] at h
      cases h
  rw [if_neg d1] at h
  by_cases d2 : c = 2
  · subst d2
    rw [if_pos rfl] at h
    by_cases q : k = 0 ∧ i = 0
    · rw [if_pos q] at h
      obtain ⟨q1, q2⟩ := q
      have q1 : k = 0 := q1
      have q2 : i = 0 := q2
      subst q1
      subst q2
      cases h
      exact h2
    · rw [if_neg q] at h
      cases h
  rw [if_neg d2] at h
  by_cases d3 : c = 3
  · subst d3
    rw [if_pos rfl] at h
    by_cases q : k = 0 ∧ i = 0
    · rw [if_pos q] at h
      obtain ⟨q1, q2⟩ := q
      have q1 : k = 0 := q1
      have q2 : i = 0 := q2
      subst q1
      subst q2
      cases h
      exact h3
    · rw [if_neg q] at h
      cases h
  rw [if_neg d3] at h
  by_cases d4 : c = 4
  · subst d4
    rw [if_pos rfl] at h
    by_cases q : k = 0 ∧ i = 0
    · rw [if_pos q] at h
      obtain ⟨q1, q2⟩ := q
      have q1 : k = 0 := q1
      have q2 : i = 0 := q2
      subst q1
      subst q2
      cases h
      exact h4
    · rw [if_neg q] at h
      cases h
  rw [if_neg d4] at h
  by_cases d5 : c = 5
  · subst d5
    rw [if_pos rfl] at h
    by_cases q : k = 0 ∧ i = 0
    · rw [if_pos q] at h
      obtain ⟨q1, q2⟩ := q
      have q1 : k = 0 := q1
      have q2 : i = 0 := q2
      subst q1
      subst q2
      cases h
      exact h5
    · rw [if_neg q] at h
      cases h
  rw [if_neg d5] at h
  by_cases d10 : c = 10
  · subst d10
    rw [if_pos rfl] at h
    by_cases q : i = 0 ∧ k < nb
    · rw [if_pos q] at h
      obtain ⟨q1, q2⟩ := q
      have q1 : i = 0 := q1
      subst q1
      cases h
      exact h10 k q2
    · rw [if_neg q] at h
      cases h
  rw [if_neg d10] at h
  by_cases d11 : c = 11
  · subst d11
    rw [if_pos rfl] at h
    by_cases q : i = 0 ∧ k < nb
    · rw [if_pos q] at h
      obtain ⟨q1, q2⟩ := q
      have q1 : i = 0 := q1
      subst q1
      cases h
      exact h11 k q2
    · rw [if_neg q] at h
      cases h
  rw [if_neg d11] at h
  by_cases d12 : c = 12
  · subst d12
    rw [if_pos rfl] at h
    by_cases q : i = 0 ∧ k < nb
    · rw [if_pos q] at h
      obtain ⟨q1, q2⟩ := q
      have q1 : i = 0 := q1
      subst q1
      cases h
      exact h12 k q2
    · rw [if_neg q] at h
      cases h
  rw [if_neg d12] at h
  by_cases d20 : c = 20
  · subst d20
    rw [if_pos rfl] at h
    by_cases q : i = 0 ∧ k < nd
    · rw [if_pos q] at h
      obtain ⟨q1, q2⟩ := q
      have q1 : i = 0 := q1
      subst q1
      cases h
      exact h20 k q2
    · rw [if_neg q] at h
      cases h
  rw [if_neg d20] at h
  by_cases d30 : c = 30
  · subst d30
    rw [if_pos rfl] at h
    by_cases q : i = 0 ∧ k < nw
    · rw [if_pos q] at h
      obtain ⟨q1, q2⟩ := q
      have q1 : i = 0 := q1
      subst q1
      cases h
      exact h30 k q2
    · rw [if_neg q] at h
      cases h
  rw [if_neg d30] at h
  by_cases d31 : c = 31
  · subst d31
    rw [if_pos rfl] at h
    by_cases q : i = 0 ∧ k < nw
    · rw [if_pos q] at h
      obtain ⟨q1, q2⟩ := q
      have q1 : i = 0 := q1
      subst q1
      cases h
      exact h31 k q2
    · rw [if_neg q] at h
      cases h
  rw [if_neg d31] at h
  by_cases d32 : c = 32
  · subst d32
    rw [if_pos rfl] at h
    by_cases q : i = 0 ∧ k < nw
    · rw [if_pos q] at h
      obtain ⟨q1, q2⟩ := q
      have q1 : i = 0 := q1
      subst q1
      cases h
      exact h32 k q2
    · rw [if_neg q] at h
      cases h
  rw [if_neg d32] at h
  by_cases d33 : c = 33
  · subst d33
    rw [if_pos rfl] at h
    by_cases q : i = 0 ∧ k < nw
    · rw [if_pos q] at h
      obtain ⟨q1, q2⟩ := q
      have q1 : i = 0 := q1
      subst q1
      cases h
      exact h33 k q2
    · rw [if_neg q] at h
      cases h
  rw [if_neg d33] at h
  by_cases d40 : c = 40
  · subst d40
    rw [if_pos rfl] at h
    by_cases q : k < nw ∧ i < al k
    · rw [if_pos q] at h
      obtain ⟨q1, q2⟩ := q
      cases h
      exact h40 k i q1 q2
    · rw [if_neg q] at h
      cases h
  rw [if_neg d40] at h
  by_cases d41 : c = 41
  · subst d41
    rw [if_pos rfl] at h
    by_cases q : k < nw ∧ i < al k
    · rw [if_pos q] at h
      obtain ⟨q1, q2⟩ := q
      cases h
      exact h41 k i q1 q2
    · rw [if_neg q] at h
      cases h
  rw [if_neg d41] at h
  by_cases d42 : c = 42
  · subst d42
    rw [if_pos rfl] at h
    by_cases q : k < nw ∧ i < al k
    · rw [if_pos q] at h
      obtain ⟨q1, q2⟩ := q
      cases h
      exact h42 k i q1 q2
    · rw [if_neg q] at h
      cases h
  rw [if_neg d42] at h
  by_cases d43 : c = 43
  · subst d43
    rw [if_pos rfl] at h
    by_cases q : k < nw ∧ i < 6
    · rw [if_pos q] at h
      obtain ⟨q1, q2⟩ := q
      cases h
      exact h43 k i q1 q2
    · rw [if_neg q] at h
      cases h
  rw [if_neg d43] at h
  cases h
def zRep (w : zw) (AD : Nat × Nat × Nat → Nat) (R : Nat × Nat × Nat → Option va_E) : Prop := (∀ (r : Nat × Nat × Nat) (e : va_E), R r = some e → w (AD r) = some e) ∧ ∀ (r r' : Nat × Nat × Nat) (e e' : va_E), R r = some e → R r' = some e' → AD r = AD r' → r = r'
theorem zRep.gen {w w2 : zw} {AD : Nat × Nat × Nat → Nat} {R R' : Nat × Nat × Nat → Option va_E} (h : zRep w AD R) (h1 : ∀ (r : Nat × Nat × Nat) (e : va_E), R' r = some e → w2 (AD r) = some e ∧ ∃ e0, R r = some e0) : zRep w2 AD R' := ⟨fun r e q => (h1 r e q).1, fun r r' e e' q q' k => by
  obtain ⟨e0, a0⟩ := (h1 r e q).2
  obtain ⟨e1, a1⟩ := (h1 r' e' q').2
  exact h.2 r r' e0 e1 a0 a1 k⟩
theorem zRep.put {w w2 : zw} {AD : Nat × Nat × Nat → Nat} {R R' : Nat × Nat × Nat → Option va_E} (Lr : List ((Nat × Nat × Nat) × va_E)) (h : zRep w AD R) (hx : zEx w w2 (Lr.map (fun q => (AD q.1, q.2)))) (hL : ∀ q ∈ Lr, ∃ e0, R q.1 = some e0) (h1 : ∀ (r : Nat × Nat × Nat) (e : va_E), R' r = some e → (r, e) ∈ Lr ∨ (R r = some e ∧ ∀ q ∈ Lr, r ≠ q.1)) : zRep w2 AD R' := by
  refine h.gen (fun r e q => ?_)
  rcases h1 r e q with k | ⟨k1, k2⟩
  · exact ⟨hx.1 (AD r, e) (List.mem_map.mpr ⟨(r, e), k, rfl⟩), hL (r, e) k⟩
  · refine ⟨hx.old (h.1 r e k1) (fun z hz => ?_), e, k1⟩
    obtain ⟨y, hy, rfl⟩ := List.mem_map.mp hz
    obtain ⟨e0, he0⟩ := hL y hy
    exact fun z => k2 y hy (h.2 r y.1 e e0 k1 he0 z)
def r_up {α : Type} (f : Nat × Nat × Nat → α) (r : Nat × Nat × Nat) (v : α) : Nat × Nat × Nat → α := fun x => if x = r then v else f x
theorem r_up_self {α : Type} (f : Nat × Nat × Nat → α) (r : Nat × Nat × Nat) (v : α) : r_up f r v r = v := if_pos rfl
theorem r_up_ne {α : Type} (f : Nat × Nat × Nat → α) {r x : Nat × Nat × Nat} (v : α) (h : x ≠ r) : r_up f r v x = f x := if_neg h
theorem zRep.add {w : zw} {AD : Nat × Nat × Nat → Nat} {R : Nat × Nat × Nat → Option va_E} (h : zRep w AD R) {r0 : Nat × Nat × Nat} {a0 : Nat} {e0 : va_E} (hn : w a0 = none) (hr : R r0 = none) : zRep (va_up w a0 (some e0)) (r_up AD r0 a0) (r_up R r0 (some e0)) := by
  have hne : ∀ (r : Nat × Nat × Nat) (e : va_E), R r = some e → r ≠ r0 := fun r e q k => by
    rw [k, hr] at q
    cases q
  have hna : ∀ (r : Nat × Nat × Nat) (e : va_E), R r = some e → AD r ≠ a0 := fun r e q k => by
    have z := h.1 r e q
    rw [k, hn] at z
    cases z
  have hc : ∀ (r : Nat × Nat × Nat) (e : va_E), r_up R r0 (some e0) r = some e → (r = r0 ∧ e = e0) ∨ (r ≠ r0 ∧ R r = some e) := fun r e q => by
    by_cases k : r = r0
    · rw [k, r_up_self] at q
      cases q
      exact Or.inl ⟨k, rfl⟩
    · rw [r_up_ne _ _ k] at q
      exact Or.inr ⟨k, q⟩
  refine ⟨fun r e q => ?_, fun r r' e e' q q' k => ?_⟩
  · rcases hc r e q with ⟨rfl, rfl⟩ | ⟨k1, k2⟩
    · rw [r_up_self, va_up_self]
    · rw [r_up_ne _ _ k1, va_up_ne _ _ (hna r e k2)]
      exact h.1 r e k2
  · rcases hc r e q with ⟨rfl, rfl⟩ | ⟨k1, k2⟩
    · rcases hc r' e' q' with ⟨rfl, rfl⟩ | ⟨k3, k4⟩
      · rfl
      · rw [r_up_self, r_up_ne _ _ k3] at k
        exact absurd k.symm (hna r' e' k4)
    · rcases hc r' e' q' with ⟨rfl, rfl⟩ | ⟨k3, k4⟩
      · rw [r_up_self, r_up_ne _ _ k1] at k
        exact absurd k (hna r e k2)
      · rw [r_up_ne _ _ k1, r_up_ne _ _ k3] at k
        exact h.2 r r' e e' k2 k4 k
theorem zEx.pre {w w2 : zw} {L : List (Nat × va_E)} {a0 : Nat} {e0 e1 : va_E} (h : zEx w w2 L) (hm : (a0, e1) ∈ L) : zEx (va_up w a0 (some e0)) w2 L := ⟨h.1, fun a ha => by
  rw [va_up_ne _ _ (ha _ hm)]
  exact h.2 a ha⟩
