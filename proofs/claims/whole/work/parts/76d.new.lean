/-! ===== table, stage, deduction ===== -/
theorem cR_agree {cs : Nat → ClassId} {AD AE : Nat × Nat × Nat → Nat} {nb : Nat} {tn : Nat → Nat} {FF : Nat → Nat → Int64} {GF : Nat → Nat → Int32} {tt : Nat → Int32} {nd : Nat} {de : Nat → Int32} {so : Nat → Int32} {si : Nat → Int64} {ca : Nat → Int64} {bs : Nat → Int64} {nw : Nat} {tw : Nat → Nat} {pw : Nat → Int32} {mw : Nat → Int32} {rl : Nat → Int64} {cw : Nat → Int64} {xw : Nat → Int64} {ew : Nat → Int32} {hd : Nat → Nat} {al : Nat → Nat} {se : Nat → Int64} {bo : Nat → Nat → Int32} {rb : Nat → Nat → Int32} {pe : Nat → Nat → Int32} {me : Nat → Nat → Int32} {re : Nat → Nat → Int64} {cr : Nat → Nat → Int64} {xt : Nat → Nat → Int64} {en : Nat → Nat → Int32} {tx : Nat → Nat → Nat} {V : Nat → Nat → Nat → Int64} {P : Nat → Nat → Nat → Int64} {ST : Nat → Nat → Nat → Int64} {brt : Int32} {ny : Nat} {wd : Int32} {ag : Int64} {us : Int32} {ai : Int64} {ab : Int64} {AP : Nat → Int64} (hp : zPure nb tn FF GF tt nd de so si ca bs nw tw pw mw rl cw xw ew hd al se bo rb pe me re cr xt en tx V P ST brt ny wd) (ha : ∀ (r : Nat × Nat × Nat) (e : va_E), cR cs AD nb tn FF GF tt nd de so si ca bs nw tw pw mw rl cw xw ew hd al se bo rb pe me re cr xt en tx V P ST brt ny wd ag us ai ab AP r = some e → AE r = AD r) : ∀ (r : Nat × Nat × Nat) (e : va_E), cR cs AD nb tn FF GF tt nd de so si ca bs nw tw pw mw rl cw xw ew hd al se bo rb pe me re cr xt en tx V P ST brt ny wd ag us ai ab AP r = some e → cR cs AE nb tn FF GF tt nd de so si ca bs nw tw pw mw rl cw xw ew hd al se bo rb pe me re cr xt en tx V P ST brt ny wd ag us ai ab AP r = some e := by
  have a0 : AE (0, 0, 0) = AD (0, 0, 0) := ha _ _ cR_0
  have a1 : AE (1, 0, 0) = AD (1, 0, 0) := ha _ _ cR_1
  have a2 : AE (2, 0, 0) = AD (2, 0, 0) := ha _ _ cR_2
  have a3 : AE (3, 0, 0) = AD (3, 0, 0) := ha _ _ cR_3
  have a4 : AE (4, 0, 0) = AD (4, 0, 0) := ha _ _ cR_4
  have a5 : AE (5, 0, 0) = AD (5, 0, 0) := ha _ _ cR_5
  have a10 : ∀ k : Nat, k < nb → AE (10, k, 0) = AD (10, k, 0) := fun k hk => ha _ _ (cR_10 hk)
  have a11 : ∀ k : Nat, k < nb → AE (11, k, 0) = AD (11, k, 0) := fun k hk => ha _ _ (cR_11 hk)
  have a12 : ∀ k : Nat, k < nb → AE (12, k, 0) = AD (12, k, 0) := fun k hk => ha _ _ (cR_12 hk)
  have a20 : ∀ k : Nat, k < nd → AE (20, k, 0) = AD (20, k, 0) := fun k hk => ha _ _ (cR_20 hk)
  have a30 : ∀ k : Nat, k < nw → AE (30, k, 0) = AD (30, k, 0) := fun k hk => ha _ _ (cR_30 hk)
  have a31 : ∀ k : Nat, k < nw → AE (31, k, 0) = AD (31, k, 0) := fun k hk => ha _ _ (cR_31 hk)
  have a32 : ∀ k : Nat, k < nw → AE (32, k, 0) = AD (32, k, 0) := fun k hk => ha _ _ (cR_32 hk)
  have a33 : ∀ k : Nat, k < nw → AE (33, k, 0) = AD (33, k, 0) := fun k hk => ha _ _ (cR_33 hk)
  have a40 : ∀ k i : Nat, k < nw → i < al k → AE (40, k, i) = AD (40, k, i) := fun k i hk hi => ha _ _ (cR_40 hk hi)
  have a41 : ∀ k i : Nat, k < nw → i < al k → AE (41, k, i) = AD (41, k, i) := fun k i hk hi => ha _ _ (cR_41 hk hi)
  have a42 : ∀ k i : Nat, k < nw → i < al k → AE (42, k, i) = AD (42, k, i) := fun k i hk hi => ha _ _ (cR_42 hk hi)
  have a43 : ∀ k i : Nat, k < nw → i < 6 → AE (43, k, i) = AD (43, k, i) := fun k i hk hi => ha _ _ (cR_43 hk hi)
  refine cR_cases ?_ ?_ ?_ ?_ ?_ ?_ ?_ ?_ ?_ ?_ ?_ ?_ ?_ ?_ ?_ ?_ ?_ ?_
  · rw [← a1, ← a2, ← a3, ← a4]
    exact cR_0
  · have e : (fun x => if x < nb then some (AE (10, x, 0)) else none) = (fun x => if x < nb then some (AD (10, x, 0)) else none) := by
      funext x
      by_cases q : x < nb
      · rw [if_pos q, if_pos q, a10 x q]
      · rw [if_neg q, if_neg q]
    rw [← e]
    exact cR_1
  · have e : (fun x => if x < nd then some (AE (20, x, 0)) else none) = (fun x => if x < nd then some (AD (20, x, 0)) else none) := by
      funext x
      by_cases q : x < nd
      · rw [if_pos q, if_pos q, a20 x q]
      · rw [if_neg q, if_neg q]
    rw [← e]
    exact cR_2
  · have e : (fun x => if x < nw then some (AE (30, x, 0)) else none) = (fun x => if x < nw then some (AD (30, x, 0)) else none) := by
      funext x
      by_cases q : x < nw
      · rw [if_pos q, if_pos q, a30 x q]
      · rw [if_neg q, if_neg q]
    rw [← e]
    exact cR_3
  · rw [← a5]
    exact cR_4
  · exact cR_5
  · intro k hk
    rw [← a11 k hk, ← a12 k hk]
    exact cR_10 hk
  · exact fun k hk => cR_11 hk
  · exact fun k hk => cR_12 hk
  · exact fun k hk => cR_20 hk
  · intro k hk
    rw [← a31 k hk, ← a32 k hk, ← a33 k hk]
    exact cR_30 hk
  · intro k hk
    rw [← a10 (tw k) (hp.2.2.2.2.2.2.2.1 k hk).1]
    exact cR_31 hk
  · intro k hk
    have e : (fun x => if x < al k then some (AE (40, k, x)) else none) = (fun x => if x < al k then some (AD (40, k, x)) else none) := by
      funext x
      by_cases q : x < al k
      · rw [if_pos q, if_pos q, a40 k x hk q]
      · rw [if_neg q, if_neg q]
    rw [← e]
    exact cR_32 hk
  · intro k hk
    have e : (fun x => if x < 6 then some (AE (43, k, x)) else none) = (fun x => if x < 6 then some (AD (43, k, x)) else none) := by
      funext x
      by_cases q : x < 6
      · rw [if_pos q, if_pos q, a43 k x hk q]
      · rw [if_neg q, if_neg q]
    rw [← e]
    exact cR_33 hk
  · intro k i hk hi
    rw [← a41 k i hk hi, ← a42 k i hk hi]
    exact cR_40 hk hi
  · intro k i hk hi
    rw [← a10 (tx k i) ((hp.2.2.2.2.2.2.2.1 k hk).2.2.2.2.2.2.2.2.2.1 i hi).1]
    exact cR_41 hk hi
  · exact fun k i hk hi => cR_42 hk hi
  · exact fun k i hk hi => cR_43 hk hi
theorem zRep.re {cs : Nat → ClassId} {AD AE : Nat × Nat × Nat → Nat} {nb : Nat} {tn : Nat → Nat} {FF : Nat → Nat → Int64} {GF : Nat → Nat → Int32} {tt : Nat → Int32} {nd : Nat} {de : Nat → Int32} {so : Nat → Int32} {si : Nat → Int64} {ca : Nat → Int64} {bs : Nat → Int64} {nw : Nat} {tw : Nat → Nat} {pw : Nat → Int32} {mw : Nat → Int32} {rl : Nat → Int64} {cw : Nat → Int64} {xw : Nat → Int64} {ew : Nat → Int32} {hd : Nat → Nat} {al : Nat → Nat} {se : Nat → Int64} {bo : Nat → Nat → Int32} {rb : Nat → Nat → Int32} {pe : Nat → Nat → Int32} {me : Nat → Nat → Int32} {re : Nat → Nat → Int64} {cr : Nat → Nat → Int64} {xt : Nat → Nat → Int64} {en : Nat → Nat → Int32} {tx : Nat → Nat → Nat} {V : Nat → Nat → Nat → Int64} {P : Nat → Nat → Nat → Int64} {ST : Nat → Nat → Nat → Int64} {brt : Int32} {ny : Nat} {wd : Int32} {ag : Int64} {us : Int32} {ai : Int64} {ab : Int64} {AP : Nat → Int64} {w : zw} (h : zRep w AD (cR cs AD nb tn FF GF tt nd de so si ca bs nw tw pw mw rl cw xw ew hd al se bo rb pe me re cr xt en tx V P ST brt ny wd ag us ai ab AP)) (hp : zPure nb tn FF GF tt nd de so si ca bs nw tw pw mw rl cw xw ew hd al se bo rb pe me re cr xt en tx V P ST brt ny wd) (ha : ∀ (r : Nat × Nat × Nat) (e : va_E), cR cs AD nb tn FF GF tt nd de so si ca bs nw tw pw mw rl cw xw ew hd al se bo rb pe me re cr xt en tx V P ST brt ny wd ag us ai ab AP r = some e → AE r = AD r) : zRep w AE (cR cs AE nb tn FF GF tt nd de so si ca bs nw tw pw mw rl cw xw ew hd al se bo rb pe me re cr xt en tx V P ST brt ny wd ag us ai ab AP) := by
  have hb : ∀ (r : Nat × Nat × Nat) (e : va_E), cR cs AE nb tn FF GF tt nd de so si ca bs nw tw pw mw rl cw xw ew hd al se bo rb pe me re cr xt en tx V P ST brt ny wd ag us ai ab AP r = some e → ∃ e0, cR cs AD nb tn FF GF tt nd de so si ca bs nw tw pw mw rl cw xw ew hd al se bo rb pe me re cr xt en tx V P ST brt ny wd ag us ai ab AP r = some e0 := by
    refine cR_cases ?_ ?_ ?_ ?_ ?_ ?_ ?_ ?_ ?_ ?_ ?_ ?_ ?_ ?_ ?_ ?_ ?_ ?_
    · exact ⟨_, cR_0⟩
    · exact ⟨_, cR_1⟩
    · exact ⟨_, cR_2⟩
    · exact ⟨_, cR_3⟩
    · exact ⟨_, cR_4⟩
    · exact ⟨_, cR_5⟩
    · exact fun k hk => ⟨_, cR_10 hk⟩
    · exact fun k hk => ⟨_, cR_11 hk⟩
    · exact fun k hk => ⟨_, cR_12 hk⟩
    · exact fun k hk => ⟨_, cR_20 hk⟩
    · exact fun k hk => ⟨_, cR_30 hk⟩
    · exact fun k hk => ⟨_, cR_31 hk⟩
    · exact fun k hk => ⟨_, cR_32 hk⟩
    · exact fun k hk => ⟨_, cR_33 hk⟩
    · exact fun k i hk hi => ⟨_, cR_40 hk hi⟩
    · exact fun k i hk hi => ⟨_, cR_41 hk hi⟩
    · exact fun k i hk hi => ⟨_, cR_42 hk hi⟩
    · exact fun k i hk hi => ⟨_, cR_43 hk hi⟩
  have hc := cR_agree (AE := AE) hp ha
  refine ⟨fun r e q => ?_, fun r r' e e' q q' k => ?_⟩
  · obtain ⟨e0, q0⟩ := hb r e q
    have q1 := hc r e0 q0
    rw [q] at q1
    cases q1
    rw [ha r e q0]
    exact h.1 r e q0
  · obtain ⟨e0, q0⟩ := hb r e q
    obtain ⟨e1, q1⟩ := hb r' e' q'
    rw [ha r e0 q0, ha r' e1 q1] at k
    exact h.2 r r' e0 e1 q0 q1 k
theorem zRep.new {w : zw} {AD : Nat × Nat × Nat → Nat} {R : Nat × Nat × Nat → Option va_E} (h : zRep w AD R) (r0 : Nat × Nat × Nat) (e0 : va_E) (hn : w (AD r0) = none) (hr : R r0 = none) : zRep (va_up w (AD r0) (some e0)) AD (r_up R r0 (some e0)) := by
  have q := h.add (r0 := r0) (a0 := AD r0) (e0 := e0) hn hr
  have e : r_up AD r0 (AD r0) = AD := by
    funext x
    by_cases c : x = r0
    · rw [c, r_up_self]
    · rw [r_up_ne _ _ c]
  rw [e] at q
  exact q
theorem cN_10 {cs : Nat → ClassId} {AD : Nat × Nat × Nat → Nat} {nb : Nat} {tn : Nat → Nat} {FF : Nat → Nat → Int64} {GF : Nat → Nat → Int32} {tt : Nat → Int32} {nd : Nat} {de : Nat → Int32} {so : Nat → Int32} {si : Nat → Int64} {ca : Nat → Int64} {bs : Nat → Int64} {nw : Nat} {tw : Nat → Nat} {pw : Nat → Int32} {mw : Nat → Int32} {rl : Nat → Int64} {cw : Nat → Int64} {xw : Nat → Int64} {ew : Nat → Int32} {hd : Nat → Nat} {al : Nat → Nat} {se : Nat → Int64} {bo : Nat → Nat → Int32} {rb : Nat → Nat → Int32} {pe : Nat → Nat → Int32} {me : Nat → Nat → Int32} {re : Nat → Nat → Int64} {cr : Nat → Nat → Int64} {xt : Nat → Nat → Int64} {en : Nat → Nat → Int32} {tx : Nat → Nat → Nat} {V : Nat → Nat → Nat → Int64} {P : Nat → Nat → Nat → Int64} {ST : Nat → Nat → Nat → Int64} {brt : Int32} {ny : Nat} {wd : Int32} {ag : Int64} {us : Int32} {ai : Int64} {ab : Int64} {AP : Nat → Int64} {k : Nat} (h : ¬ (k < nb)) : cR cs AD nb tn FF GF tt nd de so si ca bs nw tw pw mw rl cw xw ew hd al se bo rb pe me re cr xt en tx V P ST brt ny wd ag us ai ab AP (10, k, 0) = none := by
  show cRk cs AD nb tn FF GF tt nd de so si ca bs nw tw pw mw rl cw xw ew hd al se bo rb pe me re cr xt en tx V P ST brt ny wd ag us ai ab AP 10 k 0 = _
  unfold cRk
  rw [if_neg (by decide), if_neg (by decide), if_neg (by decide), if_neg (by decide), if_neg (by decide), if_neg (by decide), if_pos rfl, if_neg (fun q => h q.2)]
theorem cN_11 {cs : Nat → ClassId} {AD : Nat × Nat × Nat → Nat} {nb : Nat} {tn : Nat → Nat} {FF : Nat → Nat → Int64} {GF : Nat → Nat → Int32} {tt : Nat → Int32} {nd : Nat} {de : Nat → Int32} {so : Nat → Int32} {si : Nat → Int64} {ca : Nat → Int64} {bs : Nat → Int64} {nw : Nat} {tw : Nat → Nat} {pw : Nat → Int32} {mw : Nat → Int32} {rl : Nat → Int64} {cw : Nat → Int64} {xw : Nat → Int64} {ew : Nat → Int32} {hd : Nat → Nat} {al : Nat → Nat} {se : Nat → Int64} {bo : Nat → Nat → Int32} {rb : Nat → Nat → Int32} {pe : Nat → Nat → Int32} {me : Nat → Nat → Int32} {re : Nat → Nat → Int64} {cr : Nat → Nat → Int64} {xt : Nat → Nat → Int64} {en : Nat → Nat → Int32} {tx : Nat → Nat → Nat} {V : Nat → Nat → Nat → Int64} {P : Nat → Nat → Nat → Int64} {ST : Nat → Nat → Nat → Int64} {brt : Int32} {ny : Nat} {wd : Int32} {ag : Int64} {us : Int32} {ai : Int64} {ab : Int64} {AP : Nat → Int64} {k : Nat} (h : ¬ (k < nb)) : cR cs AD nb tn FF GF tt nd de so si ca bs nw tw pw mw rl cw xw ew hd al se bo rb pe me re cr xt en tx V P ST brt ny wd ag us ai ab AP (11, k, 0) = none := by
  show cRk cs AD nb tn FF GF tt nd de so si ca bs nw tw pw mw rl cw xw ew hd al se bo rb pe me re cr xt en tx V P ST brt ny wd ag us ai ab AP 11 k 0 = _
  unfold cRk
  rw [if_neg (by decide), if_neg (by decide), if_neg (by decide), if_neg (by decide), if_neg (by decide), if_neg (by decide), if_neg (by decide), if_pos rfl, if_neg (fun q => h q.2)]
theorem cN_12 {cs : Nat → ClassId} {AD : Nat × Nat × Nat → Nat} {nb : Nat} {tn : Nat → Nat} {FF : Nat → Nat → Int64} {GF : Nat → Nat → Int32} {tt : Nat → Int32} {nd : Nat} {de : Nat → Int32} {so : Nat → Int32} {si : Nat → Int64} {ca : Nat → Int64} {bs : Nat → Int64} {nw : Nat} {tw : Nat → Nat} {pw : Nat → Int32} {mw : Nat → Int32} {rl : Nat → Int64} {cw : Nat → Int64} {xw : Nat → Int64} {ew : Nat → Int32} {hd : Nat → Nat} {al : Nat → Nat} {se : Nat → Int64} {bo : Nat → Nat → Int32} {rb : Nat → Nat → Int32} {pe : Nat → Nat → Int32} {me : Nat → Nat → Int32} {re : Nat → Nat → Int64} {cr : Nat → Nat → Int64} {xt : Nat → Nat → Int64} {en : Nat → Nat → Int32} {tx : Nat → Nat → Nat} {V : Nat → Nat → Nat → Int64} {P : Nat → Nat → Nat → Int64} {ST : Nat → Nat → Nat → Int64} {brt : Int32} {ny : Nat} {wd : Int32} {ag : Int64} {us : Int32} {ai : Int64} {ab : Int64} {AP : Nat → Int64} {k : Nat} (h : ¬ (k < nb)) : cR cs AD nb tn FF GF tt nd de so si ca bs nw tw pw mw rl cw xw ew hd al se bo rb pe me re cr xt en tx V P ST brt ny wd ag us ai ab AP (12, k, 0) = none := by
  show cRk cs AD nb tn FF GF tt nd de so si ca bs nw tw pw mw rl cw xw ew hd al se bo rb pe me re cr xt en tx V P ST brt ny wd ag us ai ab AP 12 k 0 = _
  unfold cRk
  rw [if_neg (by decide), if_neg (by decide), if_neg (by decide), if_neg (by decide), if_neg (by decide), if_neg (by decide), if_neg (by decide), if_neg (by decide), if_pos rfl, if_neg (fun q => h q.2)]
theorem cN_20 {cs : Nat → ClassId} {AD : Nat × Nat × Nat → Nat} {nb : Nat} {tn : Nat → Nat} {FF : Nat → Nat → Int64} {GF : Nat → Nat → Int32} {tt : Nat → Int32} {nd : Nat} {de : Nat → Int32} {so : Nat → Int32} {si : Nat → Int64} {ca : Nat → Int64} {bs : Nat → Int64} {nw : Nat} {tw : Nat → Nat} {pw : Nat → Int32} {mw : Nat → Int32} {rl : Nat → Int64} {cw : Nat → Int64} {xw : Nat → Int64} {ew : Nat → Int32} {hd : Nat → Nat} {al : Nat → Nat} {se : Nat → Int64} {bo : Nat → Nat → Int32} {rb : Nat → Nat → Int32} {pe : Nat → Nat → Int32} {me : Nat → Nat → Int32} {re : Nat → Nat → Int64} {cr : Nat → Nat → Int64} {xt : Nat → Nat → Int64} {en : Nat → Nat → Int32} {tx : Nat → Nat → Nat} {V : Nat → Nat → Nat → Int64} {P : Nat → Nat → Nat → Int64} {ST : Nat → Nat → Nat → Int64} {brt : Int32} {ny : Nat} {wd : Int32} {ag : Int64} {us : Int32} {ai : Int64} {ab : Int64} {AP : Nat → Int64} {k : Nat} (h : ¬ (k < nd)) : cR cs AD nb tn FF GF tt nd de so si ca bs nw tw pw mw rl cw xw ew hd al se bo rb pe me re cr xt en tx V P ST brt ny wd ag us ai ab AP (20, k, 0) = none := by
  show cRk cs AD nb tn FF GF tt nd de so si ca bs nw tw pw mw rl cw xw ew hd al se bo rb pe me re cr xt en tx V P ST brt ny wd ag us ai ab AP 20 k 0 = _
  unfold cRk
  rw [if_neg (by decide), if_neg (by decide), if_neg (by decide), if_neg (by decide), if_neg (by decide), if_neg (by decide), if_neg (by decide), if_neg (by decide), if_neg (by decide), if_pos rfl, if_neg (fun q => h q.2)]
theorem cN_30 {cs : Nat → ClassId} {AD : Nat × Nat × Nat → Nat} {nb : Nat} {tn : Nat → Nat} {FF : Nat → Nat → Int64} {GF : Nat → Nat → Int32} {tt : Nat → Int32} {nd : Nat} {de : Nat → Int32} {so : Nat → Int32} {si : Nat → Int64} {ca : Nat → Int64} {bs : Nat → Int64} {nw : Nat} {tw : Nat → Nat} {pw : Nat → Int32} {mw : Nat → Int32} {rl : Nat → Int64} {cw : Nat → Int64} {xw : Nat → Int64} {ew : Nat → Int32} {hd : Nat → Nat} {al : Nat → Nat} {se : Nat → Int64} {bo : Nat → Nat → Int32} {rb : Nat → Nat → Int32} {pe : Nat → Nat → Int32} {me : Nat → Nat → Int32} {re : Nat → Nat → Int64} {cr : Nat → Nat → Int64} {xt : Nat → Nat → Int64} {en : Nat → Nat → Int32} {tx : Nat → Nat → Nat} {V : Nat → Nat → Nat → Int64} {P : Nat → Nat → Nat → Int64} {ST : Nat → Nat → Nat → Int64} {brt : Int32} {ny : Nat} {wd : Int32} {ag : Int64} {us : Int32} {ai : Int64} {ab : Int64} {AP : Nat → Int64} {k : Nat} (h : ¬ (k < nw)) : cR cs AD nb tn FF GF tt nd de so si ca bs nw tw pw mw rl cw xw ew hd al se bo rb pe me re cr xt en tx V P ST brt ny wd ag us ai ab AP (30, k, 0) = none := by
  show cRk cs AD nb tn FF GF tt nd de so si ca bs nw tw pw mw rl cw xw ew hd al se bo rb pe me re cr xt en tx V P ST brt ny wd ag us ai ab AP 30 k 0 = _
  unfold cRk
  rw [if_neg (by decide), if_neg (by decide), if_neg (by decide), if_neg (by decide), if_neg (by decide), if_neg (by decide), if_neg (by decide), if_neg (by decide), if_neg (by decide), if_neg (by decide), if_pos rfl, if_neg (fun q => h q.2)]
theorem cN_31 {cs : Nat → ClassId} {AD : Nat × Nat × Nat → Nat} {nb : Nat} {tn : Nat → Nat} {FF : Nat → Nat → Int64} {GF : Nat → Nat → Int32} {tt : Nat → Int32} {nd : Nat} {de : Nat → Int32} {so : Nat → Int32} {si : Nat → Int64} {ca : Nat → Int64} {bs : Nat → Int64} {nw : Nat} {tw : Nat → Nat} {pw : Nat → Int32} {mw : Nat → Int32} {rl : Nat → Int64} {cw : Nat → Int64} {xw : Nat → Int64} {ew : Nat → Int32} {hd : Nat → Nat} {al : Nat → Nat} {se : Nat → Int64} {bo : Nat → Nat → Int32} {rb : Nat → Nat → Int32} {pe : Nat → Nat → Int32} {me : Nat → Nat → Int32} {re : Nat → Nat → Int64} {cr : Nat → Nat → Int64} {xt : Nat → Nat → Int64} {en : Nat → Nat → Int32} {tx : Nat → Nat → Nat} {V : Nat → Nat → Nat → Int64} {P : Nat → Nat → Nat → Int64} {ST : Nat → Nat → Nat → Int64} {brt : Int32} {ny : Nat} {wd : Int32} {ag : Int64} {us : Int32} {ai : Int64} {ab : Int64} {AP : Nat → Int64} {k : Nat} (h : ¬ (k < nw)) : cR cs AD nb tn FF GF tt nd de so si ca bs nw tw pw mw rl cw xw ew hd al se bo rb pe me re cr xt en tx V P ST brt ny wd ag us ai ab AP (31, k, 0) = none := by
  show cRk cs AD nb tn FF GF tt nd de so si ca bs nw tw pw mw rl cw xw ew hd al se bo rb pe me re cr xt en tx V P ST brt ny wd ag us ai ab AP 31 k 0 = _
  unfold cRk
  rw [if_neg (by decide), if_neg (by decide), if_neg (by decide), if_neg (by decide), if_neg (by decide), if_neg (by decide), if_neg (by decide), if_neg (by decide), if_neg (by decide), if_neg (by decide), if_neg (by decide), if_pos rfl, if_neg (fun q => h q.2)]
theorem cN_32 {cs : Nat → ClassId} {AD : Nat × Nat × Nat → Nat} {nb : Nat} {tn : Nat → Nat} {FF : Nat → Nat → Int64} {GF : Nat → Nat → Int32} {tt : Nat → Int32} {nd : Nat} {de : Nat → Int32} {so : Nat → Int32} {si : Nat → Int64} {ca : Nat → Int64} {bs : Nat → Int64} {nw : Nat} {tw : Nat → Nat} {pw : Nat → Int32} {mw : Nat → Int32} {rl : Nat → Int64} {cw : Nat → Int64} {xw : Nat → Int64} {ew : Nat → Int32} {hd : Nat → Nat} {al : Nat → Nat} {se : Nat → Int64} {bo : Nat → Nat → Int32} {rb : Nat → Nat → Int32} {pe : Nat → Nat → Int32} {me : Nat → Nat → Int32} {re : Nat → Nat → Int64} {cr : Nat → Nat → Int64} {xt : Nat → Nat → Int64} {en : Nat → Nat → Int32} {tx : Nat → Nat → Nat} {V : Nat → Nat → Nat → Int64} {P : Nat → Nat → Nat → Int64} {ST : Nat → Nat → Nat → Int64} {brt : Int32} {ny : Nat} {wd : Int32} {ag : Int64} {us : Int32} {ai : Int64} {ab : Int64} {AP : Nat → Int64} {k : Nat} (h : ¬ (k < nw)) : cR cs AD nb tn FF GF tt nd de so si ca bs nw tw pw mw rl cw xw ew hd al se bo rb pe me re cr xt en tx V P ST brt ny wd ag us ai ab AP (32, k, 0) = none := by
  show cRk cs AD nb tn FF GF tt nd de so si ca bs nw tw pw mw rl cw xw ew hd al se bo rb pe me re cr xt en tx V P ST brt ny wd ag us ai ab AP 32 k 0 = _
  unfold cRk
  rw [if_neg (by decide), if_neg (by decide), if_neg (by decide), if_neg (by decide), if_neg (by decide), if_neg (by decide), if_neg (by decide), if_neg (by decide), if_neg (by decide), if_neg (by decide), if_neg (by decide), if_neg (by decide), if_pos rfl, if_neg (fun q => h q.2)]
theorem cN_33 {cs : Nat → ClassId} {AD : Nat × Nat × Nat → Nat} {nb : Nat} {tn : Nat → Nat} {FF : Nat → Nat → Int64} {GF : Nat → Nat → Int32} {tt : Nat → Int32} {nd : Nat} {de : Nat → Int32} {so : Nat → Int32} {si : Nat → Int64} {ca : Nat → Int64} {bs : Nat → Int64} {nw : Nat} {tw : Nat → Nat} {pw : Nat → Int32} {mw : Nat → Int32} {rl : Nat → Int64} {cw : Nat → Int64} {xw : Nat → Int64} {ew : Nat → Int32} {hd : Nat → Nat} {al : Nat → Nat} {se : Nat → Int64} {bo : Nat → Nat → Int32} {rb : Nat → Nat → Int32} {pe : Nat → Nat → Int32} {me : Nat → Nat → Int32} {re : Nat → Nat → Int64} {cr : Nat → Nat → Int64} {xt : Nat → Nat → Int64} {en : Nat → Nat → Int32} {tx : Nat → Nat → Nat} {V : Nat → Nat → Nat → Int64} {P : Nat → Nat → Nat → Int64} {ST : Nat → Nat → Nat → Int64} {brt : Int32} {ny : Nat} {wd : Int32} {ag : Int64} {us : Int32} {ai : Int64} {ab : Int64} {AP : Nat → Int64} {k : Nat} (h : ¬ (k < nw)) : cR cs AD nb tn FF GF tt nd de so si ca bs nw tw pw mw rl cw xw ew hd al se bo rb pe me re cr xt en tx V P ST brt ny wd ag us ai ab AP (33, k, 0) = none := by
  show cRk cs AD nb tn FF GF tt nd de so si ca bs nw tw pw mw rl cw xw ew hd al se bo rb pe me re cr xt en tx V P ST brt ny wd ag us ai ab AP 33 k 0 = _
  unfold cRk
  rw [if_neg (by decide), if_neg (by decide), if_neg (by decide), if_neg (by decide), if_neg (by decide), if_neg (by decide), if_neg (by decide), if_neg (by decide), if_neg (by decide), if_neg (by decide), if_neg (by decide), if_neg (by decide), if_neg (by decide), if_pos rfl, if_neg (fun q => h q.2)]
theorem cN_40 {cs : Nat → ClassId} {AD : Nat × Nat × Nat → Nat} {nb : Nat} {tn : Nat → Nat} {FF : Nat → Nat → Int64} {GF : Nat → Nat → Int32} {tt : Nat → Int32} {nd : Nat} {de : Nat → Int32} {so : Nat → Int32} {si : Nat → Int64} {ca : Nat → Int64} {bs : Nat → Int64} {nw : Nat} {tw : Nat → Nat} {pw : Nat → Int32} {mw : Nat → Int32} {rl : Nat → Int64} {cw : Nat → Int64} {xw : Nat → Int64} {ew : Nat → Int32} {hd : Nat → Nat} {al : Nat → Nat} {se : Nat → Int64} {bo : Nat → Nat → Int32} {rb : Nat → Nat → Int32} {pe : Nat → Nat → Int32} {me : Nat → Nat → Int32} {re : Nat → Nat → Int64} {cr : Nat → Nat → Int64} {xt : Nat → Nat → Int64} {en : Nat → Nat → Int32} {tx : Nat → Nat → Nat} {V : Nat → Nat → Nat → Int64} {P : Nat → Nat → Nat → Int64} {ST : Nat → Nat → Nat → Int64} {brt : Int32} {ny : Nat} {wd : Int32} {ag : Int64} {us : Int32} {ai : Int64} {ab : Int64} {AP : Nat → Int64} {k i : Nat} (h : ¬ (k < nw ∧ i < al k)) : cR cs AD nb tn FF GF tt nd de so si ca bs nw tw pw mw rl cw xw ew hd al se bo rb pe me re cr xt en tx V P ST brt ny wd ag us ai ab AP (40, k, i) = none := by
  show cRk cs AD nb tn FF GF tt nd de so si ca bs nw tw pw mw rl cw xw ew hd al se bo rb pe me re cr xt en tx V P ST brt ny wd ag us ai ab AP 40 k i = _
  unfold cRk
  rw [if_neg (by decide), if_neg (by decide), if_neg (by decide), if_neg (by decide), if_neg (by decide), if_neg (by decide), if_neg (by decide), if_neg (by decide), if_neg (by decide), if_neg (by decide), if_neg (by decide), if_neg (by decide), if_neg (by decide), if_neg (by decide), if_pos rfl, if_neg (fun q => h q)]
theorem cN_41 {cs : Nat → ClassId} {AD : Nat × Nat × Nat → Nat} {nb : Nat} {tn : Nat → Nat} {FF : Nat → Nat → Int64} {GF : Nat → Nat → Int32} {tt : Nat → Int32} {nd : Nat} {de : Nat → Int32} {so : Nat → Int32} {si : Nat → Int64} {ca : Nat → Int64} {bs : Nat → Int64} {nw : Nat} {tw : Nat → Nat} {pw : Nat → Int32} {mw : Nat → Int32} {rl : Nat → Int64} {cw : Nat → Int64} {xw : Nat → Int64} {ew : Nat → Int32} {hd : Nat → Nat} {al : Nat → Nat} {se : Nat → Int64} {bo : Nat → Nat → Int32} {rb : Nat → Nat → Int32} {pe : Nat → Nat → Int32} {me : Nat → Nat → Int32} {re : Nat → Nat → Int64} {cr : Nat → Nat → Int64} {xt : Nat → Nat → Int64} {en : Nat → Nat → Int32} {tx : Nat → Nat → Nat} {V : Nat → Nat → Nat → Int64} {P : Nat → Nat → Nat → Int64} {ST : Nat → Nat → Nat → Int64} {brt : Int32} {ny : Nat} {wd : Int32} {ag : Int64} {us : Int32} {ai : Int64} {ab : Int64} {AP : Nat → Int64} {k i : Nat} (h : ¬ (k < nw ∧ i < al k)) : cR cs AD nb tn FF GF tt nd de so si ca bs nw tw pw mw rl cw xw ew hd al se bo rb pe me re cr xt en tx V P ST brt ny wd ag us ai ab AP (41, k, i) = none := by
  show cRk cs AD nb tn FF GF tt nd de so si ca bs nw tw pw mw rl cw xw ew hd al se bo rb pe me re cr xt en tx V P ST brt ny wd ag us ai ab AP 41 k i = _
  unfold cRk
  rw [if_neg (by decide), if_neg (by decide), if_neg (by decide), if_neg (by decide), if_neg (by decide), if_neg (by decide), if_neg (by decide), if_neg (by decide), if_neg (by decide), if_neg (by decide), if_neg (by decide), if_neg (by decide), if_neg (by decide), if_neg (by decide), if_neg (by decide), if_pos rfl, if_neg (fun q => h q)]
theorem cN_42 {cs : Nat → ClassId} {AD : Nat × Nat × Nat → Nat} {nb : Nat} {tn : Nat → Nat} {FF : Nat → Nat → Int64} {GF : Nat → Nat → Int32} {tt : Nat → Int32} {nd : Nat} {de : Nat → Int32} {so : Nat → Int32} {si : Nat → Int64} {ca : Nat → Int64} {bs : Nat → Int64} {nw : Nat} {tw : Nat → Nat} {pw : Nat → Int32} {mw : Nat → Int32} {rl : Nat → Int64} {cw : Nat → Int64} {xw : Nat → Int64} {ew : Nat → Int32} {hd : Nat → Nat} {al : Nat → Nat} {se : Nat → Int64} {bo : Nat → Nat → Int32} {rb : Nat → Nat → Int32} {pe : Nat → Nat → Int32} {me : Nat → Nat → Int32} {re : Nat → Nat → Int64} {cr : Nat → Nat → Int64} {xt : Nat → Nat → Int64} {en : Nat → Nat → Int32} {tx : Nat → Nat → Nat} {V : Nat → Nat → Nat → Int64} {P : Nat → Nat → Nat → Int64} {ST : Nat → Nat → Nat → Int64} {brt : Int32} {ny : Nat} {wd : Int32} {ag : Int64} {us : Int32} {ai : Int64} {ab : Int64} {AP : Nat → Int64} {k i : Nat} (h : ¬ (k < nw ∧ i < al k)) : cR cs AD nb tn FF GF tt nd de so si ca bs nw tw pw mw rl cw xw ew hd al se bo rb pe me re cr xt en tx V P ST brt ny wd ag us ai ab AP (42, k, i) = none := by
  show cRk cs AD nb tn FF GF tt nd de so si ca bs nw tw pw mw rl cw xw ew hd al se bo rb pe me re cr xt en tx V P ST brt ny wd ag us ai ab AP 42 k i = _
  unfold cRk
  rw [if_neg (by decide), if_neg (by decide), if_neg (by decide), if_neg (by decide), if_neg (by decide), if_neg (by decide), if_neg (by decide), if_neg (by decide), if_neg (by decide), if_neg (by decide), if_neg (by decide), if_neg (by decide), if_neg (by decide), if_neg (by decide), if_neg (by decide), if_neg (by decide), if_pos rfl, if_neg (fun q => h q)]
theorem cN_43 {cs : Nat → ClassId} {AD : Nat × Nat × Nat → Nat} {nb : Nat} {tn : Nat → Nat} {FF : Nat → Nat → Int64} {GF : Nat → Nat → Int32} {tt : Nat → Int32} {nd : Nat} {de : Nat → Int32} {so : Nat → Int32} {si : Nat → Int64} {ca : Nat → Int64} {bs : Nat → Int64} {nw : Nat} {tw : Nat → Nat} {pw : Nat → Int32} {mw : Nat → Int32} {rl : Nat → Int64} {cw : Nat → Int64} {xw : Nat → Int64} {ew : Nat → Int32} {hd : Nat → Nat} {al : Nat → Nat} {se : Nat → Int64} {bo : Nat → Nat → Int32} {rb : Nat → Nat → Int32} {pe : Nat → Nat → Int32} {me : Nat → Nat → Int32} {re : Nat → Nat → Int64} {cr : Nat → Nat → Int64} {xt : Nat → Nat → Int64} {en : Nat → Nat → Int32} {tx : Nat → Nat → Nat} {V : Nat → Nat → Nat → Int64} {P : Nat → Nat → Nat → Int64} {ST : Nat → Nat → Nat → Int64} {brt : Int32} {ny : Nat} {wd : Int32} {ag : Int64} {us : Int32} {ai : Int64} {ab : Int64} {AP : Nat → Int64} {k i : Nat} (h : ¬ (k < nw ∧ i < 6)) : cR cs AD nb tn FF GF tt nd de so si ca bs nw tw pw mw rl cw xw ew hd al se bo rb pe me re cr xt en tx V P ST brt ny wd ag us ai ab AP (43, k, i) = none := by
  show cRk cs AD nb tn FF GF tt nd de so si ca bs nw tw pw mw rl cw xw ew hd al se bo rb pe me re cr xt en tx V P ST brt ny wd ag us ai ab AP 43 k i = _
  unfold cRk
  rw [if_neg (by decide), if_neg (by decide), if_neg (by decide), if_neg (by decide), if_neg (by decide), if_neg (by decide), if_neg (by decide), if_neg (by decide), if_neg (by decide), if_neg (by decide), if_neg (by decide), if_neg (by decide), if_neg (by decide), if_neg (by decide), if_neg (by decide), if_neg (by decide), if_neg (by decide), if_pos rfl, if_neg (fun q => h q)]

set_option maxHeartbeats 4000000 in
theorem zOp_table (l : Launch) (D : va_G) (cs : Nat → ClassId) (hlst : l.stackTraces = false) {xo mm : Nat} {uc um : zw} (h : zInv cs xo mm uc um)  : zBoth (fun z : Int32 => some (.int z)) (fun z : Int32 => some (.int z)) (fun z : Int32 => z.toInt64) (fun z : Int32 => z.toInt64) l D cs yX6_table wsX6_table yX7_table wsX7_table xo mm uc um [] ["java/lang/UnsupportedOperationException"] := by
  obtain ⟨AD, ad, J, K, th, nb, tn, FF, GF, tt, nd, de, so, si, ca, bs, nw, tw, pw, mw, rl, cw, xw, ew, hd, al, se, bo, rb, pe, me, re, cr, xt, en, tx, V, P, ST, brt, ny, wd, ag, us, ai, ab, AP, hR, rfl, hm, hinj, hM, hr, hp⟩ := h
  have hW := hR.wks hp
  have hf := hR.1 _ _ cR_0
  have htr := hR.1 _ _ cR_1
  have hdr := hR.1 _ _ cR_2
  have hwr := hR.1 _ _ cR_3
  have ha := hR.1 _ _ cR_4
  have hapc := hR.1 _ _ cR_5
  have hT : zArrN 6 _ (fun k => AD (10, k, 0)) nb := zArrIf hp.1
  have hD : zArrN 8 _ (fun k => AD (20, k, 0)) nd := zArrIf hp.2.1
  have hWn : zArrN 10 _ (fun k => AD (30, k, 0)) nw := zArrIf hp.2.2.1
  have hDs := hR.deds hp
  have hTb := hR.tabs hp
  by_cases hn : nb < 6
  · refine Or.inl ⟨1, 3, 28, 3, fun z u2 => z = nI nb ∧ ∃ tb fl ra : Nat, uc tb = none ∧ uc fl = none ∧ uc ra = none ∧ fl ≠ ra ∧ zEx uc u2 [(AD (0, 0, 0), (.inr (6, [.ref (AD (1, 0, 0)), .ref (AD (2, 0, 0)), .ref (AD (3, 0, 0)), .ref (AD (4, 0, 0)), .int (nI (nb + 1)), .int (nI nd), .int (nI nw), .int brt, .int (nI ny), .int wd]))), (AD (1, 0, 0), eR cs 5 6 (va_up (fun k => if k < nb then some (AD (10, k, 0)) else none) nb (some tb))), (tb, .inr (3, [.ref fl, .ref ra, .int 0, .int 0])), (fl, eJ cs 12 (fun _ => 0)), (ra, eI cs 12 (fun _ => 0))], fun b m2 => b = nI nb ∧ zMQ cs um m2 ad mm (mo ad 0 (nI (nb + 1)) (nI nd) (nI nw) brt (nI ny) wd) J K, by decide, by decide, by decide, by decide, fun sz => ((c_X6_table l D cs uc sz _ _ _ _ _ _ _ _ _ _ _ _ hn hf htr)).to (fun r w2 q => (by obtain ⟨tb, fl, ra, q0, q⟩ := q; exact ⟨_, q0, rfl, tb, fl, ra, q⟩)), fun sz => ((c_X7_table l D cs um sz _ _ _ _ _ _ _ _ _ _ _ hinj hM hn hm)).to (fun r w2 q => ⟨_, q.1, rfl, q.2⟩), ?_⟩
    rintro z u2 b m2 ⟨rfl, tb, fl, ra, g1, g2, g3, g4, hx⟩ ⟨rfl, hq⟩
    have h1 : u2 tb = some (.inr (3, [.ref fl, .ref ra, .int 0, .int 0])) := hx.at 2 rfl
    have h2 : u2 fl = some (eJ cs 12 (fun _ => 0)) := hx.at 3 rfl
    have h3 : u2 ra = some (eI cs 12 (fun _ => 0)) := hx.at 4 rfl
    obtain ⟨AE, hAE⟩ : ∃ z, z = (r_up (r_up (r_up AD (10, nb, 0) tb) (11, nb, 0) fl) (12, nb, 0) ra) := ⟨_, rfl⟩
    have n0 : AE (10, nb, 0) = tb := by rw [hAE, r_up_ne _ _ (fun z => absurd (show (10 : Nat) = 12 from congrArg Prod.fst z) (by decide)), r_up_ne _ _ (fun z => absurd (show (10 : Nat) = 11 from congrArg Prod.fst z) (by decide)), r_up_self]
    have n1 : AE (11, nb, 0) = fl := by rw [hAE, r_up_ne _ _ (fun z => absurd (show (11 : Nat) = 12 from congrArg Prod.fst z) (by decide)), r_up_self]
    have n2 : AE (12, nb, 0) = ra := by rw [hAE, r_up_self]
    have hag : ∀ (r : Nat × Nat × Nat) (e : va_E), cR cs AD nb tn FF GF tt nd de so si ca bs nw tw pw mw rl cw xw ew hd al se bo rb pe me re cr xt en tx V P ST brt ny wd ag us ai ab AP r = some e → AE r = AD r := fun r e q => by
      rw [hAE, r_up_ne _ _ (fun z => by rw [z, cN_12 (k := nb) (by omega)] at q; cases q), r_up_ne _ _ (fun z => by rw [z, cN_11 (k := nb) (by omega)] at q; cases q), r_up_ne _ _ (fun z => by rw [z, cN_10 (k := nb) (by omega)] at q; cases q)]
    have hR0 := hR.re (AE := AE) hp hag
    have hf0 := cR_agree (AE := AE) hp hag
    have hR1 := hR0.new (10, nb, 0) (.inr (0, [])) (by rw [n0]; exact g1) (by rw [cN_10 (k := nb) (by omega)])
    have hR2 := hR1.new (11, nb, 0) (.inr (0, [])) (by rw [n1, va_up_ne _ _ (by rw [n0]; exact (zne h2 h1 (by intro q9; cases q9)))]; exact g2) (by rw [r_up_ne _ _ (fun z => absurd (show (11 : Nat) = 10 from congrArg Prod.fst z) (by decide)), cN_11 (k := nb) (by omega)])
    have hR3 := hR2.new (12, nb, 0) (.inr (0, [])) (by rw [n2, va_up_ne _ _ (by rw [n1]; exact (Ne.symm g4)), va_up_ne _ _ (by rw [n0]; exact (zne h3 h1 (by intro q9; cases q9)))]; exact g3) (by rw [r_up_ne _ _ (fun z => absurd (show (12 : Nat) = 11 from congrArg Prod.fst z) (by decide)), r_up_ne _ _ (fun z => absurd (show (12 : Nat) = 10 from congrArg Prod.fst z) (by decide)), cN_12 (k := nb) (by omega)])
    have hold : ∀ (r : Nat × Nat × Nat) (e : va_E), cR cs AE nb tn FF GF tt nd de so si ca bs nw tw pw mw rl cw xw ew hd al se bo rb pe me re cr xt en tx V P ST brt ny wd ag us ai ab AP r = some e → (r_up (r_up (r_up (cR cs AE nb tn FF GF tt nd de so si ca bs nw tw pw mw rl cw xw ew hd al se bo rb pe me re cr xt en tx V P ST brt ny wd ag us ai ab AP) (10, nb, 0) (some (.inr (0, [])))) (11, nb, 0) (some (.inr (0, [])))) (12, nb, 0) (some (.inr (0, [])))) r = some e := fun r e q => by
      rw [r_up_ne _ _ (fun z => by rw [z, cN_12 (k := nb) (by omega)] at q; cases q), r_up_ne _ _ (fun z => by rw [z, cN_11 (k := nb) (by omega)] at q; cases q), r_up_ne _ _ (fun z => by rw [z, cN_10 (k := nb) (by omega)] at q; cases q)]
      exact q
    have w0 : (r_up (r_up (r_up (cR cs AE nb tn FF GF tt nd de so si ca bs nw tw pw mw rl cw xw ew hd al se bo rb pe me re cr xt en tx V P ST brt ny wd ag us ai ab AP) (10, nb, 0) (some (.inr (0, [])))) (11, nb, 0) (some (.inr (0, [])))) (12, nb, 0) (some (.inr (0, [])))) (10, nb, 0) = some (.inr (0, [])) := by rw [r_up_ne _ _ (fun z => absurd (show (10 : Nat) = 12 from congrArg Prod.fst z) (by decide)), r_up_ne _ _ (fun z => absurd (show (10 : Nat) = 11 from congrArg Prod.fst z) (by decide)), r_up_self]
    have w1 : (r_up (r_up (r_up (cR cs AE nb tn FF GF tt nd de so si ca bs nw tw pw mw rl cw xw ew hd al se bo rb pe me re cr xt en tx V P ST brt ny wd ag us ai ab AP) (10, nb, 0) (some (.inr (0, [])))) (11, nb, 0) (some (.inr (0, [])))) (12, nb, 0) (some (.inr (0, [])))) (11, nb, 0) = some (.inr (0, [])) := by rw [r_up_ne _ _ (fun z => absurd (show (11 : Nat) = 12 from congrArg Prod.fst z) (by decide)), r_up_self]
    have w2 : (r_up (r_up (r_up (cR cs AE nb tn FF GF tt nd de so si ca bs nw tw pw mw rl cw xw ew hd al se bo rb pe me re cr xt en tx V P ST brt ny wd ag us ai ab AP) (10, nb, 0) (some (.inr (0, [])))) (11, nb, 0) (some (.inr (0, [])))) (12, nb, 0) (some (.inr (0, [])))) (12, nb, 0) = some (.inr (0, [])) := by rw [r_up_self]
    have ef : (fun k => if k < nb + 1 then some (AE (10, k, 0)) else none) = va_up (fun k => if k < nb then some (AD (10, k, 0)) else none) nb (some (AE (10, nb, 0))) := by
      funext x
      by_cases q : x = nb
      · rw [q, va_up_self, if_pos (by omega)]
      · rw [va_up_ne _ _ q]
        by_cases q2 : x < nb
        · rw [if_pos q2, if_pos (by omega), hag _ _ (cR_10 q2)]
        · rw [if_neg q2, if_neg (by omega)]
    have hx2 : zEx uc u2 [(AE (0, 0, 0), (.inr (6, [.ref (AE (1, 0, 0)), .ref (AE (2, 0, 0)), .ref (AE (3, 0, 0)), .ref (AE (4, 0, 0)), .int (nI (nb + 1)), .int (nI nd), .int (nI nw), .int brt, .int (nI ny), .int wd]))), (AE (1, 0, 0), (eR cs 5 6 (va_up (fun k => if k < nb then some (AD (10, k, 0)) else none) nb (some (AE (10, nb, 0)))))), (AE (10, nb, 0), (.inr (3, [.ref (AE (11, nb, 0)), .ref (AE (12, nb, 0)), .int 0, .int 0]))), (AE (11, nb, 0), (eJ cs 12 (fun _ => 0))), (AE (12, nb, 0), (eI cs 12 (fun _ => 0)))] := by
      rw [hag _ _ cR_0, hag _ _ cR_1, hag _ _ cR_2, hag _ _ cR_3, hag _ _ cR_4, n0, n1, n2]
      exact hx
    have hx3 := ((hx2.pre (e0 := .inr (0, [])) (List.mem_of_getElem? (i := 2) rfl)).pre (e0 := .inr (0, [])) (List.mem_of_getElem? (i := 3) rfl)).pre (e0 := .inr (0, [])) (List.mem_of_getElem? (i := 4) rfl)
    have hR2 : zRep u2 AE (cR cs AE (nb + 1) (va_up tn nb 0) (va_up FF nb (fun _ => 0)) (va_up GF nb (fun _ => 0)) (va_up tt nb 0) nd de so si ca bs nw tw pw mw rl cw xw ew hd al se bo rb pe me re cr xt en tx V P ST brt ny wd ag us ai ab AP) := by
      refine hR3.put [((0, 0, 0), (.inr (6, [.ref (AE (1, 0, 0)), .ref (AE (2, 0, 0)), .ref (AE (3, 0, 0)), .ref (AE (4, 0, 0)), .int (nI (nb + 1)), .int (nI nd), .int (nI nw), .int brt, .int (nI ny), .int wd]))), ((1, 0, 0), (eR cs 5 6 (va_up (fun k => if k < nb then some (AD (10, k, 0)) else none) nb (some (AE (10, nb, 0)))))), ((10, nb, 0), (.inr (3, [.ref (AE (11, nb, 0)), .ref (AE (12, nb, 0)), .int 0, .int 0]))), ((11, nb, 0), (eJ cs 12 (fun _ => 0))), ((12, nb, 0), (eI cs 12 (fun _ => 0)))] hx3 (zall1 ⟨_, hold _ _ cR_0⟩ (zall1 ⟨_, hold _ _ cR_1⟩ (zall1 ⟨_, w0⟩ (zall1 ⟨_, w1⟩ (zall1 ⟨_, w2⟩ zall0))))) (cR_cases ?_ ?_ ?_ ?_ ?_ ?_ ?_ ?_ ?_ ?_ ?_ ?_ ?_ ?_ ?_ ?_ ?_ ?_)
      · exact Or.inl (List.mem_of_getElem? (i := 0) rfl)
      · rw [ef]
        exact Or.inl (List.mem_of_getElem? (i := 1) rfl)
      · exact Or.inr ⟨hold _ _ cR_2, (zall1 (fun z => absurd (show (2 : Nat) = 0 from congrArg Prod.fst z) (by decide)) (zall1 (fun z => absurd (show (2 : Nat) = 1 from congrArg Prod.fst z) (by decide)) (zall1 (fun z => absurd (show (2 : Nat) = 10 from congrArg Prod.fst z) (by decide)) (zall1 (fun z => absurd (show (2 : Nat) = 11 from congrArg Prod.fst z) (by decide)) (zall1 (fun z => absurd (show (2 : Nat) = 12 from congrArg Prod.fst z) (by decide)) zall0)))))⟩
      · exact Or.inr ⟨hold _ _ cR_3, (zall1 (fun z => absurd (show (3 : Nat) = 0 from congrArg Prod.fst z) (by decide)) (zall1 (fun z => absurd (show (3 : Nat) = 1 from congrArg Prod.fst z) (by decide)) (zall1 (fun z => absurd (show (3 : Nat) = 10 from congrArg Prod.fst z) (by decide)) (zall1 (fun z => absurd (show (3 : Nat) = 11 from congrArg Prod.fst z) (by decide)) (zall1 (fun z => absurd (show (3 : Nat) = 12 from congrArg Prod.fst z) (by decide)) zall0)))))⟩
      · exact Or.inr ⟨hold _ _ cR_4, (zall1 (fun z => absurd (show (4 : Nat) = 0 from congrArg Prod.fst z) (by decide)) (zall1 (fun z => absurd (show (4 : Nat) = 1 from congrArg Prod.fst z) (by decide)) (zall1 (fun z => absurd (show (4 : Nat) = 10 from congrArg Prod.fst z) (by decide)) (zall1 (fun z => absurd (show (4 : Nat) = 11 from congrArg Prod.fst z) (by decide)) (zall1 (fun z => absurd (show (4 : Nat) = 12 from congrArg Prod.fst z) (by decide)) zall0)))))⟩
      · exact Or.inr ⟨hold _ _ cR_5, (zall1 (fun z => absurd (show (5 : Nat) = 0 from congrArg Prod.fst z) (by decide)) (zall1 (fun z => absurd (show (5 : Nat) = 1 from congrArg Prod.fst z) (by decide)) (zall1 (fun z => absurd (show (5 : Nat) = 10 from congrArg Prod.fst z) (by decide)) (zall1 (fun z => absurd (show (5 : Nat) = 11 from congrArg Prod.fst z) (by decide)) (zall1 (fun z => absurd (show (5 : Nat) = 12 from congrArg Prod.fst z) (by decide)) zall0)))))⟩
      · intro j hj
        by_cases q : j = nb
        · subst q
          refine Or.inl ?_
          rw [va_up_self, va_up_self]
          exact List.mem_of_getElem? (i := 2) rfl
        · refine Or.inr ⟨?_, (zall1 (fun z => absurd (show (10 : Nat) = 0 from congrArg Prod.fst z) (by decide)) (zall1 (fun z => absurd (show (10 : Nat) = 1 from congrArg Prod.fst z) (by decide)) (zall1 (fun z => q (congrArg (fun r : Nat × Nat × Nat => r.2.1) z)) (zall1 (fun z => absurd (show (10 : Nat) = 11 from congrArg Prod.fst z) (by decide)) (zall1 (fun z => absurd (show (10 : Nat) = 12 from congrArg Prod.fst z) (by decide)) zall0)))))⟩
          rw [va_up_ne _ _ q, va_up_ne _ _ q]
          exact hold _ _ (cR_10 (by omega))
      · intro j hj
        by_cases q : j = nb
        · subst q
          refine Or.inl ?_
          rw [va_up_self]
          exact List.mem_of_getElem? (i := 3) rfl
        · refine Or.inr ⟨?_, (zall1 (fun z => absurd (show (11 : Nat) = 0 from congrArg Prod.fst z) (by decide)) (zall1 (fun z => absurd (show (11 : Nat) = 1 from congrArg Prod.fst z) (by decide)) (zall1 (fun z => absurd (show (11 : Nat) = 10 from congrArg Prod.fst z) (by decide)) (zall1 (fun z => q (congrArg (fun r : Nat × Nat × Nat => r.2.1) z)) (zall1 (fun z => absurd (show (11 : Nat) = 12 from congrArg Prod.fst z) (by decide)) zall0)))))⟩
          rw [va_up_ne _ _ q]
          exact hold _ _ (cR_11 (by omega))
      · intro j hj
        by_cases q : j = nb
        · subst q
          refine Or.inl ?_
          rw [va_up_self]
          exact List.mem_of_getElem? (i := 4) rfl
        · refine Or.inr ⟨?_, (zall1 (fun z => absurd (show (12 : Nat) = 0 from congrArg Prod.fst z) (by decide)) (zall1 (fun z => absurd (show (12 : Nat) = 1 from congrArg Prod.fst z) (by decide)) (zall1 (fun z => absurd (show (12 : Nat) = 10 from congrArg Prod.fst z) (by decide)) (zall1 (fun z => absurd (show (12 : Nat) = 11 from congrArg Prod.fst z) (by decide)) (zall1 (fun z => q (congrArg (fun r : Nat × Nat × Nat => r.2.1) z)) zall0)))))⟩
          rw [va_up_ne _ _ q]
          exact hold _ _ (cR_12 (by omega))
      · exact fun k hk => Or.inr ⟨hold _ _ (cR_20 hk), (zall1 (fun z => absurd (show (20 : Nat) = 0 from congrArg Prod.fst z) (by decide)) (zall1 (fun z => absurd (show (20 : Nat) = 1 from congrArg Prod.fst z) (by decide)) (zall1 (fun z => absurd (show (20 : Nat) = 10 from congrArg Prod.fst z) (by decide)) (zall1 (fun z => absurd (show (20 : Nat) = 11 from congrArg Prod.fst z) (by decide)) (zall1 (fun z => absurd (show (20 : Nat) = 12 from congrArg Prod.fst z) (by decide)) zall0)))))⟩
      · exact fun k hk => Or.inr ⟨hold _ _ (cR_30 hk), (zall1 (fun z => absurd (show (30 : Nat) = 0 from congrArg Prod.fst z) (by decide)) (zall1 (fun z => absurd (show (30 : Nat) = 1 from congrArg Prod.fst z) (by decide)) (zall1 (fun z => absurd (show (30 : Nat) = 10 from congrArg Prod.fst z) (by decide)) (zall1 (fun z => absurd (show (30 : Nat) = 11 from congrArg Prod.fst z) (by decide)) (zall1 (fun z => absurd (show (30 : Nat) = 12 from congrArg Prod.fst z) (by decide)) zall0)))))⟩
      · exact fun k hk => Or.inr ⟨hold _ _ (cR_31 hk), (zall1 (fun z => absurd (show (31 : Nat) = 0 from congrArg Prod.fst z) (by decide)) (zall1 (fun z => absurd (show (31 : Nat) = 1 from congrArg Prod.fst z) (by decide)) (zall1 (fun z => absurd (show (31 : Nat) = 10 from congrArg Prod.fst z) (by decide)) (zall1 (fun z => absurd (show (31 : Nat) = 11 from congrArg Prod.fst z) (by decide)) (zall1 (fun z => absurd (show (31 : Nat) = 12 from congrArg Prod.fst z) (by decide)) zall0)))))⟩
      · exact fun k hk => Or.inr ⟨hold _ _ (cR_32 hk), (zall1 (fun z => absurd (show (32 : Nat) = 0 from congrArg Prod.fst z) (by decide)) (zall1 (fun z => absurd (show (32 : Nat) = 1 from congrArg Prod.fst z) (by decide)) (zall1 (fun z => absurd (show (32 : Nat) = 10 from congrArg Prod.fst z) (by decide)) (zall1 (fun z => absurd (show (32 : Nat) = 11 from congrArg Prod.fst z) (by decide)) (zall1 (fun z => absurd (show (32 : Nat) = 12 from congrArg Prod.fst z) (by decide)) zall0)))))⟩
      · exact fun k hk => Or.inr ⟨hold _ _ (cR_33 hk), (zall1 (fun z => absurd (show (33 : Nat) = 0 from congrArg Prod.fst z) (by decide)) (zall1 (fun z => absurd (show (33 : Nat) = 1 from congrArg Prod.fst z) (by decide)) (zall1 (fun z => absurd (show (33 : Nat) = 10 from congrArg Prod.fst z) (by decide)) (zall1 (fun z => absurd (show (33 : Nat) = 11 from congrArg Prod.fst z) (by decide)) (zall1 (fun z => absurd (show (33 : Nat) = 12 from congrArg Prod.fst z) (by decide)) zall0)))))⟩
      · exact fun k i hk hi => Or.inr ⟨hold _ _ (cR_40 hk hi), (zall1 (fun z => absurd (show (40 : Nat) = 0 from congrArg Prod.fst z) (by decide)) (zall1 (fun z => absurd (show (40 : Nat) = 1 from congrArg Prod.fst z) (by decide)) (zall1 (fun z => absurd (show (40 : Nat) = 10 from congrArg Prod.fst z) (by decide)) (zall1 (fun z => absurd (show (40 : Nat) = 11 from congrArg Prod.fst z) (by decide)) (zall1 (fun z => absurd (show (40 : Nat) = 12 from congrArg Prod.fst z) (by decide)) zall0)))))⟩
      · exact fun k i hk hi => Or.inr ⟨hold _ _ (cR_41 hk hi), (zall1 (fun z => absurd (show (41 : Nat) = 0 from congrArg Prod.fst z) (by decide)) (zall1 (fun z => absurd (show (41 : Nat) = 1 from congrArg Prod.fst z) (by decide)) (zall1 (fun z => absurd (show (41 : Nat) = 10 from congrArg Prod.fst z) (by decide)) (zall1 (fun z => absurd (show (41 : Nat) = 11 from congrArg Prod.fst z) (by decide)) (zall1 (fun z => absurd (show (41 : Nat) = 12 from congrArg Prod.fst z) (by decide)) zall0)))))⟩
      · exact fun k i hk hi => Or.inr ⟨hold _ _ (cR_42 hk hi), (zall1 (fun z => absurd (show (42 : Nat) = 0 from congrArg Prod.fst z) (by decide)) (zall1 (fun z => absurd (show (42 : Nat) = 1 from congrArg Prod.fst z) (by decide)) (zall1 (fun z => absurd (show (42 : Nat) = 10 from congrArg Prod.fst z) (by decide)) (zall1 (fun z => absurd (show (42 : Nat) = 11 from congrArg Prod.fst z) (by decide)) (zall1 (fun z => absurd (show (42 : Nat) = 12 from congrArg Prod.fst z) (by decide)) zall0)))))⟩
      · exact fun k i hk hi => Or.inr ⟨hold _ _ (cR_43 hk hi), (zall1 (fun z => absurd (show (43 : Nat) = 0 from congrArg Prod.fst z) (by decide)) (zall1 (fun z => absurd (show (43 : Nat) = 1 from congrArg Prod.fst z) (by decide)) (zall1 (fun z => absurd (show (43 : Nat) = 10 from congrArg Prod.fst z) (by decide)) (zall1 (fun z => absurd (show (43 : Nat) = 11 from congrArg Prod.fst z) (by decide)) (zall1 (fun z => absurd (show (43 : Nat) = 12 from congrArg Prod.fst z) (by decide)) zall0)))))⟩
    have hr2 : mRel J K (nb + 1) (va_up tn nb 0) (va_up FF nb (fun _ => 0)) (va_up GF nb (fun _ => 0)) (va_up tt nb 0) nd de so si ca bs nw tw pw mw rl cw xw ew hd al se bo rb pe me re cr xt en tx V P ST brt ny wd := by
      refine ⟨⟨(by omega), (fun j hj => by
        by_cases c : j = nb
        · subst c
          rw [va_up_self]
          exact ⟨(hr.2.2.2.2.2.1 j (by omega) hn).1, Nat.zero_le _, fun x hx9 => absurd hx9 (by omega)⟩
        · rw [va_up_ne _ _ c, va_up_ne _ _ c, va_up_ne _ _ c]
          exact hr.1.2 j (by omega))⟩, hr.2.1, (fun j hj x hx9 => ⟨(hr.2.2.1 j hj x hx9).1, (hr.2.2.1 j hj x hx9).2.1, (hr.2.2.1 j hj x hx9).2.2.1, (hr.2.2.1 j hj x hx9).2.2.2.1, (hr.2.2.1 j hj x hx9).2.2.2.2.1, (hr.2.2.1 j hj x hx9).2.2.2.2.2.1, (hr.2.2.1 j hj x hx9).2.2.2.2.2.2.1, (hr.2.2.1 j hj x hx9).2.2.2.2.2.2.2.1, (hr.2.2.1 j hj x hx9).2.2.2.2.2.2.2.2.1, (hr.2.2.1 j hj x hx9).2.2.2.2.2.2.2.2.2.1, Nat.lt_succ_of_lt ((hr.2.2.1 j hj x hx9).2.2.2.2.2.2.2.2.2.2).1, ((hr.2.2.1 j hj x hx9).2.2.2.2.2.2.2.2.2.2).2⟩), hr.2.2.2.1, (fun j hj => by
        by_cases c : j = nb
        · subst c
          rw [va_up_self]
          exact (hr.2.2.2.2.2.1 j (by omega) hn).2
        · rw [va_up_ne _ _ c]
          exact hr.2.2.2.2.1 j (by omega)), (fun j h1 h2 => hr.2.2.2.2.2.1 j (by omega) h2), hr.2.2.2.2.2.2.1, hr.2.2.2.2.2.2.2.1, hr.2.2.2.2.2.2.2.2⟩
    have hp2 : zPure (nb + 1) (va_up tn nb 0) (va_up FF nb (fun _ => 0)) (va_up GF nb (fun _ => 0)) (va_up tt nb 0) nd de so si ca bs nw tw pw mw rl cw xw ew hd al se bo rb pe me re cr xt en tx V P ST brt ny wd := by
      refine ⟨(by omega), hp.2.1, hp.2.2.1, hp.2.2.2.1, hp.2.2.2.2.1, (fun j hj => by
        by_cases c : j = nb
        · subst c
          rw [va_up_self, va_up_self]
          exact ⟨Nat.zero_le _, ⟨fun x hx9 => absurd hx9 (by omega), fun x hx9 => absurd hx9 (by omega)⟩, Or.inl (va_up_self _ _ _)⟩
        · rw [va_up_ne _ _ c, va_up_ne _ _ c, va_up_ne _ _ c, va_up_ne _ _ c]
          exact hp.2.2.2.2.2.1 j (by omega)), hp.2.2.2.2.2.2.1, ?_, hp.2.2.2.2.2.2.2.2⟩
      intro j hj
      have q := hp.2.2.2.2.2.2.2.1 j hj
      refine ⟨?_, ?_, q.2.2.1, q.2.2.2.1, q.2.2.2.2.1, q.2.2.2.2.2.1, q.2.2.2.2.2.2.1, q.2.2.2.2.2.2.2.1, q.2.2.2.2.2.2.2.2.1, ?_, ?_⟩
      · exact Nat.lt_succ_of_lt q.1
      · rw [va_up_ne _ _ (by omega)]
        exact q.2.1
      · intro x hx9
        have z := q.2.2.2.2.2.2.2.2.2.1 x hx9
        exact ⟨Nat.lt_succ_of_lt z.1, by rw [va_up_ne _ _ (by omega)]; exact z.2.1, z.2.2⟩
      · intro x hx9
        have z := (q.2.2.2.2.2.2.2.2.2.1 x (Nat.lt_of_lt_of_le hx9 q.2.2.2.2.2.2.2.1)).1
        exact (q.2.2.2.2.2.2.2.2.2.2 x hx9).congr (fun _ _ => ⟨rfl, rfl, rfl⟩) rfl rfl rfl rfl rfl rfl rfl rfl rfl rfl (va_up_ne _ _ (by omega)) (va_up_ne _ _ (by omega)) (va_up_ne _ _ (by omega))
    exact ⟨rfl, ⟨_, _, _, _, _, _, _, hq.1⟩, zInv.mk hR2 (hag _ _ cR_0) hq.1 hinj hq.2.1 hr2 hp2⟩
  · have e6 : nb = 6 := by have := hp.1; omega
    subst e6
    refine Or.inr ⟨0, _, 1, 1, 6, 3, fun _ m2 => zMQ cs um m2 ad mm (mo ad 1 (nI 6) (nI nd) (nI nw) brt (nI ny) wd) J K, by decide, by decide, by decide, by decide, rfl, fun sz => (t1_X6_table l D cs uc sz _ _ _ _ _ _ _ _ _ _ _ hlst hf htr), fun sz => ((t1_X7_table l D cs um sz _ _ _ _ _ _ _ _ _ _ hinj hM hm)).to (fun r w2 q => ⟨_, q.1, q.2⟩), ?_⟩
    rintro b m2 hq
    exact ⟨⟨_, _, _, _, _, _, _, hq.1⟩, zInv.m hR hinj hr hp hq mOut.refl⟩

theorem zFl_more {F : Nat → Int64} {G : Nat → Int32} {n : Nat} {floor : Int64} {rate : Int32} (h : zFl F G n) (hr : zUpTo rate.toInt64 1000000 = 1) (hm : zMay F n floor = 1) : zFl (vp_updL F n floor) (upd G n rate) (n + 1) := by
  have b := zUpTo_1 hr
  rw [Int32.toInt_toInt64, zT6] at b
  have q := zMay_1 hm
  have f0 : 0 ≤ floor.toInt ∧ floor.toInt ≤ 1000000000000 := by
    have q1 := q.1
    rw [Int64.lt_iff_toInt_lt, zT12] at q1
    refine ⟨?_, by omega⟩
    by_cases c : n = 0
    · rw [q.2.1 c, zT0]
      exact Int.le_refl 0
    · have q2 := q.2.2 c
      have a := h.1 (n - 1) (by omega)
      rw [Int64.le_iff_toInt_le] at q2
      omega
  refine ⟨fun i hi => ?_, fun i hi => ?_⟩
  · by_cases c : i = n
    · subst c
      rw [vpL_self, up_self]
      exact ⟨f0.1, f0.2, b.1, b.2⟩
    · rw [vpL_ne _ _ c, up_ne _ _ c]
      exact h.1 i (by omega)
  · by_cases c : i + 1 = n
    · rw [← c, vpL_self, vpL_ne _ _ (by omega)]
      have q2 := q.2.2 (by omega)
      rw [← c, Nat.add_sub_cancel, Int64.le_iff_toInt_le] at q2
      omega
    · rw [vpL_ne _ _ (by omega), vpL_ne _ _ c]
      exact h.2 i (by omega)
set_option maxHeartbeats 4000000 in
theorem zOp_stage (l : Launch) (D : va_G) (cs : Nat → ClassId) (hlst : l.stackTraces = false) {xo mm : Nat} {uc um : zw} (h : zInv cs xo mm uc um) (x : Int32) (floor : Int64) (rate : Int32) : zBoth (fun z : Int32 => some (.int z)) (fun z : Int32 => some (.int z)) (fun z : Int32 => z.toInt64) (fun z : Int32 => z.toInt64) l D cs yX6_stage wsX6_stage yX7_stage wsX7_stage xo mm uc um [.int x, .long floor, .int rate] ["java/lang/IndexOutOfBoundsException", "java/lang/IllegalArgumentException", "java/lang/IllegalStateException", "java/lang/UnsupportedOperationException"] := by
  obtain ⟨AD, ad, J, K, th, nb, tn, FF, GF, tt, nd, de, so, si, ca, bs, nw, tw, pw, mw, rl, cw, xw, ew, hd, al, se, bo, rb, pe, me, re, cr, xt, en, tx, V, P, ST, brt, ny, wd, ag, us, ai, ab, AP, hR, rfl, hm, hinj, hM, hr, hp⟩ := h
  have hW := hR.wks hp
  have hf := hR.1 _ _ cR_0
  have htr := hR.1 _ _ cR_1
  have hdr := hR.1 _ _ cR_2
  have hwr := hR.1 _ _ cR_3
  have ha := hR.1 _ _ cR_4
  have hapc := hR.1 _ _ cR_5
  have hT : zArrN 6 _ (fun k => AD (10, k, 0)) nb := zArrIf hp.1
  have hD : zArrN 8 _ (fun k => AD (20, k, 0)) nd := zArrIf hp.2.1
  have hWn : zArrN 10 _ (fun k => AD (30, k, 0)) nw := zArrIf hp.2.2.1
  have hDs := hR.deds hp
  have hTb := hR.tabs hp
  rcases zIdx x nb with ⟨k, hk, rfl⟩ | hx9
  · have ht := hp.2.2.2.2.2.1 k hk
    have hb := hr.1.2 k hk
    have e4 := hr.2.2.2.2.1 k hk
    by_cases hrt : zUpTo rate.toInt64 1000000 = 1
    · by_cases hmay : zMay (FF k) (tn k) floor = 1
      · by_cases htk : tt k = 0
        · by_cases h12 : tn k = 12
          · refine Or.inr ⟨3, _, 2, 1, 6, 3, fun _ m2 => zMQ cs um m2 ad mm (mo ad 4 (nI nb) (nI nd) (nI nw) brt (nI ny) wd) J K, by decide, by decide, by decide, by decide, rfl, fun sz => (t5_X6_stage l D cs uc sz _ _ _ _ _ _ _ _ _ _ _ _ _ _ _ _ _ _ _ _ _ _ _ hlst hT hk ht.1 hrt hmay htk h12 hf htr ((hR.1 _ _ (cR_10 hk))) ((hR.1 _ _ (cR_11 hk))) ((hR.1 _ _ (cR_12 hk)))), fun sz => ((t4_X7_stage l D cs um sz _ _ _ _ _ _ _ _ _ _ _ _ _ _ _ _ hinj hM hp.1 hk hb.1 hb.2.1 (fun i hi => (hb.2.2 i hi).1) hrt hmay ((by rw [e4]; exact htk)) h12 hm)).to (fun r w2 q => ⟨_, q.1, q.2⟩), ?_⟩
            rintro b m2 hq
            exact ⟨⟨_, _, _, _, _, _, _, hq.1⟩, zInv.m hR hinj hr hp hq mOut.refl⟩
          · refine Or.inl ⟨2, 0, 0, 3, fun z u2 => z = nI (tn k + 1) ∧ zEx uc u2 [(AD (10, k, 0), (.inr (3, [.ref (AD (11, k, 0)), .ref (AD (12, k, 0)), .int (nI (tn k + 1)), .int (tt k)]))), (AD (11, k, 0), (eJ cs 12 (vp_updL (FF k) (tn k) floor))), (AD (12, k, 0), (eI cs 12 (upd (GF k) (tn k) rate)))], fun b m2 => b = nI (tn k + 1) ∧ zMQ cs um m2 ad mm (mo ad 0 (nI nb) (nI nd) (nI nw) brt (nI ny) wd) (va_up J 1 (vp_updL (J 1) (12 * k + tn k) floor)) (va_up (va_up K 2 (upd (K 2) (12 * k + tn k) rate)) 3 (upd (K 3) k (nI (tn k + 1)))), by decide, by decide, by decide, by decide, fun sz => ((c_X6_stage l D cs uc sz _ _ _ _ _ _ _ _ _ _ _ _ _ _ _ _ _ _ _ _ _ _ _ hT hk ht.1 hrt hmay htk ((by have := ht.1; omega)) hf htr ((hR.1 _ _ (cR_10 hk))) ((hR.1 _ _ (cR_11 hk))) ((hR.1 _ _ (cR_12 hk))))).to (fun r w2 q => ⟨_, q.1, rfl, q.2⟩), fun sz => ((c_X7_stage l D cs um sz _ _ _ _ _ _ _ _ _ _ _ _ _ _ _ _ hinj hM hp.1 hk hb.1 hb.2.1 (fun i hi => (hb.2.2 i hi).1) hrt hmay ((by rw [e4]; exact htk)) h12 hm)).to (fun r w2 q => ⟨_, q.1, rfl, q.2⟩), ?_⟩
            rintro z u2 b m2 ⟨rfl, hx⟩ ⟨rfl, hq⟩
            have hR2 : zRep u2 AD (cR cs AD nb (va_up tn k (tn k + 1)) (va_up FF k (vp_updL (FF k) (tn k) floor)) (va_up GF k (upd (GF k) (tn k) rate)) tt nd de so si ca bs nw tw pw mw rl cw xw ew hd al se bo rb pe me re cr xt en tx V P ST brt ny wd ag us ai ab AP) := by
              refine hR.put [((10, k, 0), (.inr (3, [.ref (AD (11, k, 0)), .ref (AD (12, k, 0)), .int (nI (tn k + 1)), .int (tt k)]))), ((11, k, 0), (eJ cs 12 (vp_updL (FF k) (tn k) floor))), ((12, k, 0), (eI cs 12 (upd (GF k) (tn k) rate)))] hx (zall1 ⟨_, cR_10 hk⟩ (zall1 ⟨_, cR_11 hk⟩ (zall1 ⟨_, cR_12 hk⟩ zall0))) (cR_cases ?_ ?_ ?_ ?_ ?_ ?_ ?_ ?_ ?_ ?_ ?_ ?_ ?_ ?_ ?_ ?_ ?_ ?_)
              · exact Or.inr ⟨cR_0, (zall1 (fun z => absurd (show (0 : Nat) = 10 from congrArg Prod.fst z) (by decide)) (zall1 (fun z => absurd (show (0 : Nat) = 11 from congrArg Prod.fst z) (by decide)) (zall1 (fun z => absurd (show (0 : Nat) = 12 from congrArg Prod.fst z) (by decide)) zall0)))⟩
              · exact Or.inr ⟨cR_1, (zall1 (fun z => absurd (show (1 : Nat) = 10 from congrArg Prod.fst z) (by decide)) (zall1 (fun z => absurd (show (1 : Nat) = 11 from congrArg Prod.fst z) (by decide)) (zall1 (fun z => absurd (show (1 : Nat) = 12 from congrArg Prod.fst z) (by decide)) zall0)))⟩
              · exact Or.inr ⟨cR_2, (zall1 (fun z => absurd (show (2 : Nat) = 10 from congrArg Prod.fst z) (by decide)) (zall1 (fun z => absurd (show (2 : Nat) = 11 from congrArg Prod.fst z) (by decide)) (zall1 (fun z => absurd (show (2 : Nat) = 12 from congrArg Prod.fst z) (by decide)) zall0)))⟩
              · exact Or.inr ⟨cR_3, (zall1 (fun z => absurd (show (3 : Nat) = 10 from congrArg Prod.fst z) (by decide)) (zall1 (fun z => absurd (show (3 : Nat) = 11 from congrArg Prod.fst z) (by decide)) (zall1 (fun z => absurd (show (3 : Nat) = 12 from congrArg Prod.fst z) (by decide)) zall0)))⟩
              · exact Or.inr ⟨cR_4, (zall1 (fun z => absurd (show (4 : Nat) = 10 from congrArg Prod.fst z) (by decide)) (zall1 (fun z => absurd (show (4 : Nat) = 11 from congrArg Prod.fst z) (by decide)) (zall1 (fun z => absurd (show (4 : Nat) = 12 from congrArg Prod.fst z) (by decide)) zall0)))⟩
              · exact Or.inr ⟨cR_5, (zall1 (fun z => absurd (show (5 : Nat) = 10 from congrArg Prod.fst z) (by decide)) (zall1 (fun z => absurd (show (5 : Nat) = 11 from congrArg Prod.fst z) (by decide)) (zall1 (fun z => absurd (show (5 : Nat) = 12 from congrArg Prod.fst z) (by decide)) zall0)))⟩
              · intro j hj
                by_cases q : j = k
                · subst q
                  refine Or.inl ?_
                  rw [va_up_self]
                  exact List.mem_of_getElem? (i := 0) rfl
                · refine Or.inr ⟨?_, (zall1 (fun z => q (congrArg (fun r : Nat × Nat × Nat => r.2.1) z)) (zall1 (fun z => absurd (show (10 : Nat) = 11 from congrArg Prod.fst z) (by decide)) (zall1 (fun z => absurd (show (10 : Nat) = 12 from congrArg Prod.fst z) (by decide)) zall0)))⟩
                  rw [va_up_ne _ _ q]
                  exact cR_10 hj
              · intro j hj
                by_cases q : j = k
                · subst q
                  refine Or.inl ?_
                  rw [va_up_self]
                  exact List.mem_of_getElem? (i := 1) rfl
                · refine Or.inr ⟨?_, (zall1 (fun z => absurd (show (11 : Nat) = 10 from congrArg Prod.fst z) (by decide)) (zall1 (fun z => q (congrArg (fun r : Nat × Nat × Nat => r.2.1) z)) (zall1 (fun z => absurd (show (11 : Nat) = 12 from congrArg Prod.fst z) (by decide)) zall0)))⟩
                  rw [va_up_ne _ _ q]
                  exact cR_11 hj
              · intro j hj
                by_cases q : j = k
                · subst q
                  refine Or.inl ?_
                  rw [va_up_self]
                  exact List.mem_of_getElem? (i := 2) rfl
                · refine Or.inr ⟨?_, (zall1 (fun z => absurd (show (12 : Nat) = 10 from congrArg Prod.fst z) (by decide)) (zall1 (fun z => absurd (show (12 : Nat) = 11 from congrArg Prod.fst z) (by decide)) (zall1 (fun z => q (congrArg (fun r : Nat × Nat × Nat => r.2.1) z)) zall0)))⟩
                  rw [va_up_ne _ _ q]
                  exact cR_12 hj
              · exact fun k hk => Or.inr ⟨cR_20 hk, (zall1 (fun z => absurd (show (20 : Nat) = 10 from congrArg Prod.fst z) (by decide)) (zall1 (fun z => absurd (show (20 : Nat) = 11 from congrArg Prod.fst z) (by decide)) (zall1 (fun z => absurd (show (20 : Nat) = 12 from congrArg Prod.fst z) (by decide)) zall0)))⟩
              · exact fun k hk => Or.inr ⟨cR_30 hk, (zall1 (fun z => absurd (show (30 : Nat) = 10 from congrArg Prod.fst z) (by decide)) (zall1 (fun z => absurd (show (30 : Nat) = 11 from congrArg Prod.fst z) (by decide)) (zall1 (fun z => absurd (show (30 : Nat) = 12 from congrArg Prod.fst z) (by decide)) zall0)))⟩
              · exact fun k hk => Or.inr ⟨cR_31 hk, (zall1 (fun z => absurd (show (31 : Nat) = 10 from congrArg Prod.fst z) (by decide)) (zall1 (fun z => absurd (show (31 : Nat) = 11 from congrArg Prod.fst z) (by decide)) (zall1 (fun z => absurd (show (31 : Nat) = 12 from congrArg Prod.fst z) (by decide)) zall0)))⟩
              · exact fun k hk => Or.inr ⟨cR_32 hk, (zall1 (fun z => absurd (show (32 : Nat) = 10 from congrArg Prod.fst z) (by decide)) (zall1 (fun z => absurd (show (32 : Nat) = 11 from congrArg Prod.fst z) (by decide)) (zall1 (fun z => absurd (show (32 : Nat) = 12 from congrArg Prod.fst z) (by decide)) zall0)))⟩
              · exact fun k hk => Or.inr ⟨cR_33 hk, (zall1 (fun z => absurd (show (33 : Nat) = 10 from congrArg Prod.fst z) (by decide)) (zall1 (fun z => absurd (show (33 : Nat) = 11 from congrArg Prod.fst z) (by decide)) (zall1 (fun z => absurd (show (33 : Nat) = 12 from congrArg Prod.fst z) (by decide)) zall0)))⟩
              · exact fun k i hk hi => Or.inr ⟨cR_40 hk hi, (zall1 (fun z => absurd (show (40 : Nat) = 10 from congrArg Prod.fst z) (by decide)) (zall1 (fun z => absurd (show (40 : Nat) = 11 from congrArg Prod.fst z) (by decide)) (zall1 (fun z => absurd (show (40 : Nat) = 12 from congrArg Prod.fst z) (by decide)) zall0)))⟩
              · exact fun k i hk hi => Or.inr ⟨cR_41 hk hi, (zall1 (fun z => absurd (show (41 : Nat) = 10 from congrArg Prod.fst z) (by decide)) (zall1 (fun z => absurd (show (41 : Nat) = 11 from congrArg Prod.fst z) (by decide)) (zall1 (fun z => absurd (show (41 : Nat) = 12 from congrArg Prod.fst z) (by decide)) zall0)))⟩
              · exact fun k i hk hi => Or.inr ⟨cR_42 hk hi, (zall1 (fun z => absurd (show (42 : Nat) = 10 from congrArg Prod.fst z) (by decide)) (zall1 (fun z => absurd (show (42 : Nat) = 11 from congrArg Prod.fst z) (by decide)) (zall1 (fun z => absurd (show (42 : Nat) = 12 from congrArg Prod.fst z) (by decide)) zall0)))⟩
              · exact fun k i hk hi => Or.inr ⟨cR_43 hk hi, (zall1 (fun z => absurd (show (43 : Nat) = 10 from congrArg Prod.fst z) (by decide)) (zall1 (fun z => absurd (show (43 : Nat) = 11 from congrArg Prod.fst z) (by decide)) (zall1 (fun z => absurd (show (43 : Nat) = 12 from congrArg Prod.fst z) (by decide)) zall0)))⟩
            have hu : ∀ j : Nat, tt j = 1 → j ≠ k := fun j hj e => by rw [e, htk] at hj; exact absurd hj (by decide)
            have hr2 : mRel (va_up J 1 (vp_updL (J 1) (12 * k + tn k) floor)) (va_up (va_up K 2 (upd (K 2) (12 * k + tn k) rate)) 3 (upd (K 3) k (nI (tn k + 1)))) nb (va_up tn k (tn k + 1)) (va_up FF k (vp_updL (FF k) (tn k) floor)) (va_up GF k (upd (GF k) (tn k) rate)) tt nd de so si ca bs nw tw pw mw rl cw xw ew hd al se bo rb pe me re cr xt en tx V P ST brt ny wd := by
              refine ⟨⟨hr.1.1, (fun j hj => by
                have q := hr.1.2 j hj
                by_cases c : j = k
                · subst c
                  rw [show va_up tn j (tn j + 1) j = tn j + 1 from va_up_self _ _ _, show va_up FF j (vp_updL (FF j) (tn j) floor) j = vp_updL (FF j) (tn j) floor from va_up_self _ _ _, show va_up GF j (upd (GF j) (tn j) rate) j = upd (GF j) (tn j) rate from va_up_self _ _ _]
                  refine ⟨up_self _ _ _, by omega, fun x hx9 => ?_⟩
                  show vp_updL (J 1) (12 * j + tn j) floor (12 * j + x) = vp_updL (FF j) (tn j) floor x ∧ upd (K 2) (12 * j + tn j) rate (12 * j + x) = upd (GF j) (tn j) rate x
                  by_cases c2 : x = tn j
                  · subst c2
                    rw [vpL_self, vpL_self, up_self, up_self]
                    exact ⟨rfl, rfl⟩
                  · rw [vpL_ne _ _ (by omega), vpL_ne _ _ c2, up_ne _ _ (by omega), up_ne _ _ c2]
                    exact q.2.2 x (by omega)
                · rw [va_up_ne _ _ c, va_up_ne _ _ c, va_up_ne _ _ c]
                  refine ⟨(up_ne _ _ c).trans q.1, q.2.1, fun x hx9 => ?_⟩
                  show vp_updL (J 1) (12 * k + tn k) floor (12 * j + x) = FF j x ∧ upd (K 2) (12 * k + tn k) rate (12 * j + x) = GF j x
                  rw [vpL_ne _ _ (by have := ht.1; have := q.2.1; omega), up_ne _ _ (by have := ht.1; have := q.2.1; omega)]
                  exact q.2.2 x hx9)⟩, hr.2.1, hr.2.2.1, hr.2.2.2.1, hr.2.2.2.2.1, (fun j h1 h2 => ⟨(up_ne _ _ (by omega)).trans (hr.2.2.2.2.2.1 j h1 h2).1, (hr.2.2.2.2.2.1 j h1 h2).2⟩), hr.2.2.2.2.2.2.1, hr.2.2.2.2.2.2.2.1, hr.2.2.2.2.2.2.2.2⟩
            have hp2 : zPure nb (va_up tn k (tn k + 1)) (va_up FF k (vp_updL (FF k) (tn k) floor)) (va_up GF k (upd (GF k) (tn k) rate)) tt nd de so si ca bs nw tw pw mw rl cw xw ew hd al se bo rb pe me re cr xt en tx V P ST brt ny wd := by
              refine ⟨hp.1, hp.2.1, hp.2.2.1, hp.2.2.2.1, hp.2.2.2.2.1, (fun j hj => by
                by_cases c : j = k
                · subst c
                  rw [va_up_self, va_up_self, va_up_self]
                  exact ⟨by omega, zFl_more ht.2.1 hrt hmay, ht.2.2⟩
                · rw [va_up_ne _ _ c, va_up_ne _ _ c, va_up_ne _ _ c]
                  exact hp.2.2.2.2.2.1 j hj), hp.2.2.2.2.2.2.1, ?_, hp.2.2.2.2.2.2.2.2⟩
              intro j hj
              have q := hp.2.2.2.2.2.2.2.1 j hj
              refine ⟨q.1, q.2.1, q.2.2.1, q.2.2.2.1, q.2.2.2.2.1, q.2.2.2.2.2.1, q.2.2.2.2.2.2.1, q.2.2.2.2.2.2.2.1, q.2.2.2.2.2.2.2.2.1, q.2.2.2.2.2.2.2.2.2.1, ?_⟩
              intro x hx9
              have z := (q.2.2.2.2.2.2.2.2.2.1 x (Nat.lt_of_lt_of_le hx9 q.2.2.2.2.2.2.2.1)).2.1
              exact (q.2.2.2.2.2.2.2.2.2.2 x hx9).congr (fun _ _ => ⟨rfl, rfl, rfl⟩) rfl rfl rfl rfl rfl rfl rfl rfl rfl rfl (va_up_ne _ _ (hu _ z)) (va_up_ne _ _ (hu _ z)) (va_up_ne _ _ (hu _ z))
            exact ⟨rfl, ⟨_, _, _, _, _, _, _, hq.1⟩, zInv.mk hR2 rfl hq.1 hinj hq.2.1 hr2 hp2⟩
        · refine Or.inr ⟨2, _, 2, 1, 6, 3, fun _ m2 => zMQ cs um m2 ad mm (mo ad 3 (nI nb) (nI nd) (nI nw) brt (nI ny) wd) J K, by decide, by decide, by decide, by decide, rfl, fun sz => (t4_X6_stage l D cs uc sz _ _ _ _ _ _ _ _ _ _ _ _ _ _ _ _ _ _ _ _ _ _ _ hlst hT hk ht.1 hrt hmay htk hf htr ((hR.1 _ _ (cR_10 hk))) ((hR.1 _ _ (cR_11 hk))) ((hR.1 _ _ (cR_12 hk)))), fun sz => ((t3_X7_stage l D cs um sz _ _ _ _ _ _ _ _ _ _ _ _ _ _ _ _ hinj hM hp.1 hk hb.1 hb.2.1 (fun i hi => (hb.2.2 i hi).1) hrt hmay ((by rw [e4]; exact ht.2.2.resolve_left htk)) hm)).to (fun r w2 q => ⟨_, q.1, q.2⟩), ?_⟩
          rintro b m2 hq
          exact ⟨⟨_, _, _, _, _, _, _, hq.1⟩, zInv.m hR hinj hr hp hq mOut.refl⟩
      · have hmay0 : zMay (FF k) (tn k) floor = 0 := (zB_01 _).resolve_right hmay
        refine Or.inr ⟨1, _, 2, 1, 6, 3, fun _ m2 => zMQ cs um m2 ad mm (mo ad 2 (nI nb) (nI nd) (nI nw) brt (nI ny) wd) J K, by decide, by decide, by decide, by decide, rfl, fun sz => (t3_X6_stage l D cs uc sz _ _ _ _ _ _ _ _ _ _ _ _ _ _ _ _ _ _ _ _ _ _ _ hlst hT hk ht.1 hrt hmay0 hf htr ((hR.1 _ _ (cR_10 hk))) ((hR.1 _ _ (cR_11 hk))) ((hR.1 _ _ (cR_12 hk)))), fun sz => ((t2_X7_stage l D cs um sz _ _ _ _ _ _ _ _ _ _ _ _ _ _ _ _ hinj hM hp.1 hk hb.1 hb.2.1 (fun i hi => (hb.2.2 i hi).1) (fun q => hmay q.2) hm)).to (fun r w2 q => ⟨_, q.1, q.2⟩), ?_⟩
        rintro b m2 hq
        exact ⟨⟨_, _, _, _, _, _, _, hq.1⟩, zInv.m hR hinj hr hp hq mOut.refl⟩
    · have hrt0 : zUpTo rate.toInt64 1000000 = 0 := (zUpTo_01 _ _).resolve_right hrt
      refine Or.inr ⟨1, _, 2, 1, 6, 3, fun _ m2 => zMQ cs um m2 ad mm (mo ad 2 (nI nb) (nI nd) (nI nw) brt (nI ny) wd) J K, by decide, by decide, by decide, by decide, rfl, fun sz => (t2_X6_stage l D cs uc sz _ _ _ _ _ _ _ _ _ _ _ _ _ _ _ _ _ _ _ _ _ _ _ hlst hT hk ht.1 hrt0 hf htr ((hR.1 _ _ (cR_10 hk))) ((hR.1 _ _ (cR_11 hk))) ((hR.1 _ _ (cR_12 hk)))), fun sz => ((t2_X7_stage l D cs um sz _ _ _ _ _ _ _ _ _ _ _ _ _ _ _ _ hinj hM hp.1 hk hb.1 hb.2.1 (fun i hi => (hb.2.2 i hi).1) (fun q => hrt q.1) hm)).to (fun r w2 q => ⟨_, q.1, q.2⟩), ?_⟩
      rintro b m2 hq
      exact ⟨⟨_, _, _, _, _, _, _, hq.1⟩, zInv.m hR hinj hr hp hq mOut.refl⟩
  · refine Or.inr ⟨0, _, 2, 1, 6, 3, fun _ m2 => zMQ cs um m2 ad mm (mo ad 1 (nI nb) (nI nd) (nI nw) brt (nI ny) wd) J K, by decide, by decide, by decide, by decide, rfl, fun sz => (t1_X6_stage l D cs uc sz _ _ _ _ _ _ _ _ _ _ _ _ _ _ _ _ _ hlst hT hx9 hf htr), fun sz => ((t1_X7_stage l D cs um sz _ _ _ _ _ _ _ _ _ _ _ _ _ _ hinj hM hp.1 hx9 hm)).to (fun r w2 q => ⟨_, q.1, q.2⟩), ?_⟩
    rintro b m2 hq
    exact ⟨⟨_, _, _, _, _, _, _, hq.1⟩, zInv.m hR hinj hr hp hq mOut.refl⟩

set_option maxHeartbeats 4000000 in
theorem zOp_deduction (l : Launch) (D : va_G) (cs : Nat → ClassId) (hlst : l.stackTraces = false) {xo mm : Nat} {uc um : zw} (h : zInv cs xo mm uc um) (dea sort : Int32) (size cap base : Int64) (hdea : dea = 0 ∨ dea = 1) : zBoth (fun z : Int32 => some (.int z)) (fun z : Int32 => some (.int z)) (fun z : Int32 => z.toInt64) (fun z : Int32 => z.toInt64) l D cs yX6_deduction wsX6_deduction yX7_deduction wsX7_deduction xo mm uc um [.int dea, .int sort, .long size, .long cap, .long base] ["java/lang/IllegalArgumentException", "java/lang/UnsupportedOperationException"] := by
  obtain ⟨AD, ad, J, K, th, nb, tn, FF, GF, tt, nd, de, so, si, ca, bs, nw, tw, pw, mw, rl, cw, xw, ew, hd, al, se, bo, rb, pe, me, re, cr, xt, en, tx, V, P, ST, brt, ny, wd, ag, us, ai, ab, AP, hR, rfl, hm, hinj, hM, hr, hp⟩ := h
  have hW := hR.wks hp
  have hf := hR.1 _ _ cR_0
  have htr := hR.1 _ _ cR_1
  have hdr := hR.1 _ _ cR_2
  have hwr := hR.1 _ _ cR_3
  have ha := hR.1 _ _ cR_4
  have hapc := hR.1 _ _ cR_5
  have hT : zArrN 6 _ (fun k => AD (10, k, 0)) nb := zArrIf hp.1
  have hD : zArrN 8 _ (fun k => AD (20, k, 0)) nd := zArrIf hp.2.1
  have hWn : zArrN 10 _ (fun k => AD (30, k, 0)) nw := zArrIf hp.2.2.1
  have hDs := hR.deds hp
  have hTb := hR.tabs hp
  by_cases hg : zSizeB sort size = 1 ∧ (cap = -1 ∨ zUpTo cap 1000000000000 = 1) ∧ zUpTo base 1000000000000 = 1
  · by_cases hn : nd < 8
    · refine Or.inl ⟨3, 1, 5, 3, fun z u2 => z = nI nd ∧ ∃ dd : Nat, uc dd = none ∧ zEx uc u2 [(AD (0, 0, 0), (.inr (6, [.ref (AD (1, 0, 0)), .ref (AD (2, 0, 0)), .ref (AD (3, 0, 0)), .ref (AD (4, 0, 0)), .int (nI nb), .int (nI (nd + 1)), .int (nI nw), .int brt, .int (nI ny), .int wd]))), (AD (2, 0, 0), eR cs 3 8 (va_up (fun k => if k < nd then some (AD (20, k, 0)) else none) nd (some dd))), (dd, .inr (1, [.int dea, .int sort, .long size, .long cap, .long base]))], fun b m2 => b = nI nd ∧ zMQ cs um m2 ad mm (mo ad 0 (nI nb) (nI (nd + 1)) (nI nw) brt (nI ny) wd) (va_up (va_up (va_up J 8 (vp_updL (J 8) nd size)) 9 (vp_updL (J 9) nd cap)) 10 (vp_updL (J 10) nd base)) (va_up (va_up K 6 (upd (K 6) nd dea)) 7 (upd (K 7) nd sort)), by decide, by decide, by decide, by decide, fun sz => ((c_X6_deduction l D cs uc sz _ _ _ _ _ _ _ _ _ _ _ _ _ _ _ _ _ hdea hn hg.2.1 hg.1 hg.2.2 hf hdr)).to (fun r w2 q => (by obtain ⟨dd, q0, q⟩ := q; exact ⟨_, q0, rfl, dd, q⟩)), fun sz => ((c_X7_deduction l D cs um sz _ _ _ _ _ _ _ _ _ _ _ _ _ _ _ _ hinj hM hp.2.1 hg ((by omega)) hdea hm)).to (fun r w2 q => ⟨_, q.1, rfl, q.2⟩), ?_⟩
      rintro z u2 b m2 ⟨rfl, dd, g1, hx⟩ ⟨rfl, hq⟩
      obtain ⟨AE, hAE⟩ : ∃ z, z = (r_up AD (20, nd, 0) dd) := ⟨_, rfl⟩
      have n0 : AE (20, nd, 0) = dd := by rw [hAE, r_up_self]
      have hag : ∀ (r : Nat × Nat × Nat) (e : va_E), cR cs AD nb tn FF GF tt nd de so si ca bs nw tw pw mw rl cw xw ew hd al se bo rb pe me re cr xt en tx V P ST brt ny wd ag us ai ab AP r = some e → AE r = AD r := fun r e q => by
        rw [hAE, r_up_ne _ _ (fun z => by rw [z, cN_20 (k := nd) (by omega)] at q; cases q)]
      have hR0 := hR.re (AE := AE) hp hag
      have hf0 := cR_agree (AE := AE) hp hag
      have hR1 := hR0.new (20, nd, 0) (.inr (0, [])) (by rw [n0]; exact g1) (by rw [cN_20 (k := nd) (by omega)])
      have hold : ∀ (r : Nat × Nat × Nat) (e : va_E), cR cs AE nb tn FF GF tt nd de so si ca bs nw tw pw mw rl cw xw ew hd al se bo rb pe me re cr xt en tx V P ST brt ny wd ag us ai ab AP r = some e → (r_up (cR cs AE nb tn FF GF tt nd de so si ca bs nw tw pw mw rl cw xw ew hd al se bo rb pe me re cr xt en tx V P ST brt ny wd ag us ai ab AP) (20, nd, 0) (some (.inr (0, [])))) r = some e := fun r e q => by
        rw [r_up_ne _ _ (fun z => by rw [z, cN_20 (k := nd) (by omega)] at q; cases q)]
        exact q
      have w0 : (r_up (cR cs AE nb tn FF GF tt nd de so si ca bs nw tw pw mw rl cw xw ew hd al se bo rb pe me re cr xt en tx V P ST brt ny wd ag us ai ab AP) (20, nd, 0) (some (.inr (0, [])))) (20, nd, 0) = some (.inr (0, [])) := by rw [r_up_self]
      have ef : (fun k => if k < nd + 1 then some (AE (20, k, 0)) else none) = va_up (fun k => if k < nd then some (AD (20, k, 0)) else none) nd (some (AE (20, nd, 0))) := by
        funext x
        by_cases q : x = nd
        · rw [q, va_up_self, if_pos (by omega)]
        · rw [va_up_ne _ _ q]
          by_cases q2 : x < nd
          · rw [if_pos q2, if_pos (by omega), hag _ _ (cR_20 q2)]
          · rw [if_neg q2, if_neg (by omega)]
      have hx2 : zEx uc u2 [(AE (0, 0, 0), (.inr (6, [.ref (AE (1, 0, 0)), .ref (AE (2, 0, 0)), .ref (AE (3, 0, 0)), .ref (AE (4, 0, 0)), .int (nI nb), .int (nI (nd + 1)), .int (nI nw), .int brt, .int (nI ny), .int wd]))), (AE (2, 0, 0), (eR cs 3 8 (va_up (fun k => if k < nd then some (AD (20, k, 0)) else none) nd (some (AE (20, nd, 0)))))), (AE (20, nd, 0), (.inr (1, [.int dea, .int sort, .long size, .long cap, .long base])))] := by
        rw [hag _ _ cR_0, hag _ _ cR_1, hag _ _ cR_2, hag _ _ cR_3, hag _ _ cR_4, n0]
        exact hx
      have hx3 := hx2.pre (e0 := .inr (0, [])) (List.mem_of_getElem? (i := 2) rfl)
      have hR2 : zRep u2 AE (cR cs AE nb tn FF GF tt (nd + 1) (va_up de nd dea) (va_up so nd sort) (va_up si nd size) (va_up ca nd cap) (va_up bs nd base) nw tw pw mw rl cw xw ew hd al se bo rb pe me re cr xt en tx V P ST brt ny wd ag us ai ab AP) := by
        refine hR1.put [((0, 0, 0), (.inr (6, [.ref (AE (1, 0, 0)), .ref (AE (2, 0, 0)), .ref (AE (3, 0, 0)), .ref (AE (4, 0, 0)), .int (nI nb), .int (nI (nd + 1)), .int (nI nw), .int brt, .int (nI ny), .int wd]))), ((2, 0, 0), (eR cs 3 8 (va_up (fun k => if k < nd then some (AD (20, k, 0)) else none) nd (some (AE (20, nd, 0)))))), ((20, nd, 0), (.inr (1, [.int dea, .int sort, .long size, .long cap, .long base])))] hx3 (zall1 ⟨_, hold _ _ cR_0⟩ (zall1 ⟨_, hold _ _ cR_2⟩ (zall1 ⟨_, w0⟩ zall0))) (cR_cases ?_ ?_ ?_ ?_ ?_ ?_ ?_ ?_ ?_ ?_ ?_ ?_ ?_ ?_ ?_ ?_ ?_ ?_)
        · exact Or.inl (List.mem_of_getElem? (i := 0) rfl)
        · exact Or.inr ⟨hold _ _ cR_1, (zall1 (fun z => absurd (show (1 : Nat) = 0 from congrArg Prod.fst z) (by decide)) (zall1 (fun z => absurd (show (1 : Nat) = 2 from congrArg Prod.fst z) (by decide)) (zall1 (fun z => absurd (show (1 : Nat) = 20 from congrArg Prod.fst z) (by decide)) zall0)))⟩
        · rw [ef]
          exact Or.inl (List.mem_of_getElem? (i := 1) rfl)
        · exact Or.inr ⟨hold _ _ cR_3, (zall1 (fun z => absurd (show (3 : Nat) = 0 from congrArg Prod.fst z) (by decide)) (zall1 (fun z => absurd (show (3 : Nat) = 2 from congrArg Prod.fst z) (by decide)) (zall1 (fun z => absurd (show (3 : Nat) = 20 from congrArg Prod.fst z) (by decide)) zall0)))⟩
        · exact Or.inr ⟨hold _ _ cR_4, (zall1 (fun z => absurd (show (4 : Nat) = 0 from congrArg Prod.fst z) (by decide)) (zall1 (fun z => absurd (show (4 : Nat) = 2 from congrArg Prod.fst z) (by decide)) (zall1 (fun z => absurd (show (4 : Nat) = 20 from congrArg Prod.fst z) (by decide)) zall0)))⟩
        · exact Or.inr ⟨hold _ _ cR_5, (zall1 (fun z => absurd (show (5 : Nat) = 0 from congrArg Prod.fst z) (by decide)) (zall1 (fun z => absurd (show (5 : Nat) = 2 from congrArg Prod.fst z) (by decide)) (zall1 (fun z => absurd (show (5 : Nat) = 20 from congrArg Prod.fst z) (by decide)) zall0)))⟩
        · exact fun k hk => Or.inr ⟨hold _ _ (cR_10 hk), (zall1 (fun z => absurd (show (10 : Nat) = 0 from congrArg Prod.fst z) (by decide)) (zall1 (fun z => absurd (show (10 : Nat) = 2 from congrArg Prod.fst z) (by decide)) (zall1 (fun z => absurd (show (10 : Nat) = 20 from congrArg Prod.fst z) (by decide)) zall0)))⟩
        · exact fun k hk => Or.inr ⟨hold _ _ (cR_11 hk), (zall1 (fun z => absurd (show (11 : Nat) = 0 from congrArg Prod.fst z) (by decide)) (zall1 (fun z => absurd (show (11 : Nat) = 2 from congrArg Prod.fst z) (by decide)) (zall1 (fun z => absurd (show (11 : Nat) = 20 from congrArg Prod.fst z) (by decide)) zall0)))⟩
        · exact fun k hk => Or.inr ⟨hold _ _ (cR_12 hk), (zall1 (fun z => absurd (show (12 : Nat) = 0 from congrArg Prod.fst z) (by decide)) (zall1 (fun z => absurd (show (12 : Nat) = 2 from congrArg Prod.fst z) (by decide)) (zall1 (fun z => absurd (show (12 : Nat) = 20 from congrArg Prod.fst z) (by decide)) zall0)))⟩
        · intro j hj
          by_cases q : j = nd
          · subst q
            refine Or.inl ?_
            rw [va_up_self, va_up_self, va_up_self, va_up_self, va_up_self]
            exact List.mem_of_getElem? (i := 2) rfl
          · refine Or.inr ⟨?_, (zall1 (fun z => absurd (show (20 : Nat) = 0 from congrArg Prod.fst z) (by decide)) (zall1 (fun z => absurd (show (20 : Nat) = 2 from congrArg Prod.fst z) (by decide)) (zall1 (fun z => q (congrArg (fun r : Nat × Nat × Nat => r.2.1) z)) zall0)))⟩
            rw [va_up_ne _ _ q, va_up_ne _ _ q, va_up_ne _ _ q, va_up_ne _ _ q, va_up_ne _ _ q]
            exact hold _ _ (cR_20 (by omega))
        · exact fun k hk => Or.inr ⟨hold _ _ (cR_30 hk), (zall1 (fun z => absurd (show (30 : Nat) = 0 from congrArg Prod.fst z) (by decide)) (zall1 (fun z => absurd (show (30 : Nat) = 2 from congrArg Prod.fst z) (by decide)) (zall1 (fun z => absurd (show (30 : Nat) = 20 from congrArg Prod.fst z) (by decide)) zall0)))⟩
        · exact fun k hk => Or.inr ⟨hold _ _ (cR_31 hk), (zall1 (fun z => absurd (show (31 : Nat) = 0 from congrArg Prod.fst z) (by decide)) (zall1 (fun z => absurd (show (31 : Nat) = 2 from congrArg Prod.fst z) (by decide)) (zall1 (fun z => absurd (show (31 : Nat) = 20 from congrArg Prod.fst z) (by decide)) zall0)))⟩
        · exact fun k hk => Or.inr ⟨hold _ _ (cR_32 hk), (zall1 (fun z => absurd (show (32 : Nat) = 0 from congrArg Prod.fst z) (by decide)) (zall1 (fun z => absurd (show (32 : Nat) = 2 from congrArg Prod.fst z) (by decide)) (zall1 (fun z => absurd (show (32 : Nat) = 20 from congrArg Prod.fst z) (by decide)) zall0)))⟩
        · exact fun k hk => Or.inr ⟨hold _ _ (cR_33 hk), (zall1 (fun z => absurd (show (33 : Nat) = 0 from congrArg Prod.fst z) (by decide)) (zall1 (fun z => absurd (show (33 : Nat) = 2 from congrArg Prod.fst z) (by decide)) (zall1 (fun z => absurd (show (33 : Nat) = 20 from congrArg Prod.fst z) (by decide)) zall0)))⟩
        · exact fun k i hk hi => Or.inr ⟨hold _ _ (cR_40 hk hi), (zall1 (fun z => absurd (show (40 : Nat) = 0 from congrArg Prod.fst z) (by decide)) (zall1 (fun z => absurd (show (40 : Nat) = 2 from congrArg Prod.fst z) (by decide)) (zall1 (fun z => absurd (show (40 : Nat) = 20 from congrArg Prod.fst z) (by decide)) zall0)))⟩
        · exact fun k i hk hi => Or.inr ⟨hold _ _ (cR_41 hk hi), (zall1 (fun z => absurd (show (41 : Nat) = 0 from congrArg Prod.fst z) (by decide)) (zall1 (fun z => absurd (show (41 : Nat) = 2 from congrArg Prod.fst z) (by decide)) (zall1 (fun z => absurd (show (41 : Nat) = 20 from congrArg Prod.fst z) (by decide)) zall0)))⟩
        · exact fun k i hk hi => Or.inr ⟨hold _ _ (cR_42 hk hi), (zall1 (fun z => absurd (show (42 : Nat) = 0 from congrArg Prod.fst z) (by decide)) (zall1 (fun z => absurd (show (42 : Nat) = 2 from congrArg Prod.fst z) (by decide)) (zall1 (fun z => absurd (show (42 : Nat) = 20 from congrArg Prod.fst z) (by decide)) zall0)))⟩
        · exact fun k i hk hi => Or.inr ⟨hold _ _ (cR_43 hk hi), (zall1 (fun z => absurd (show (43 : Nat) = 0 from congrArg Prod.fst z) (by decide)) (zall1 (fun z => absurd (show (43 : Nat) = 2 from congrArg Prod.fst z) (by decide)) (zall1 (fun z => absurd (show (43 : Nat) = 20 from congrArg Prod.fst z) (by decide)) zall0)))⟩
      have hr2 : mRel (va_up (va_up (va_up J 8 (vp_updL (J 8) nd size)) 9 (vp_updL (J 9) nd cap)) 10 (vp_updL (J 10) nd base)) (va_up (va_up K 6 (upd (K 6) nd dea)) 7 (upd (K 7) nd sort)) nb tn FF GF tt (nd + 1) (va_up de nd dea) (va_up so nd sort) (va_up si nd size) (va_up ca nd cap) (va_up bs nd base) nw tw pw mw rl cw xw ew hd al se bo rb pe me re cr xt en tx V P ST brt ny wd := by
        refine ⟨hr.1, ⟨(by omega), (fun j hj => by
          show upd (K 6) nd dea j = _ ∧ upd (K 7) nd sort j = _ ∧ vp_updL (J 8) nd size j = _ ∧ vp_updL (J 9) nd cap j = _ ∧ vp_updL (J 10) nd base j = _
          by_cases c : j = nd
          · subst c
            rw [up_self, up_self, vpL_self, vpL_self, vpL_self, va_up_self, va_up_self, va_up_self, va_up_self, va_up_self]
            exact ⟨rfl, rfl, rfl, rfl, rfl⟩
          · rw [up_ne _ _ c, up_ne _ _ c, vpL_ne _ _ c, vpL_ne _ _ c, vpL_ne _ _ c, va_up_ne _ _ c, va_up_ne _ _ c, va_up_ne _ _ c, va_up_ne _ _ c, va_up_ne _ _ c]
            exact hr.2.1.2 j (by omega))⟩, hr.2.2.1, hr.2.2.2.1, hr.2.2.2.2.1, hr.2.2.2.2.2.1, hr.2.2.2.2.2.2.1, hr.2.2.2.2.2.2.2.1, hr.2.2.2.2.2.2.2.2⟩
      have hp2 : zPure nb tn FF GF tt (nd + 1) (va_up de nd dea) (va_up so nd sort) (va_up si nd size) (va_up ca nd cap) (va_up bs nd base) nw tw pw mw rl cw xw ew hd al se bo rb pe me re cr xt en tx V P ST brt ny wd := by
        refine ⟨hp.1, (by omega), hp.2.2.1, hp.2.2.2.1, hp.2.2.2.2.1, hp.2.2.2.2.2.1, (fun j hj => by
          by_cases c : j = nd
          · subst c
            rw [va_up_self, va_up_self, va_up_self, va_up_self, va_up_self]
            exact ⟨hg, hdea⟩
          · rw [va_up_ne _ _ c, va_up_ne _ _ c, va_up_ne _ _ c, va_up_ne _ _ c, va_up_ne _ _ c]
            exact hp.2.2.2.2.2.2.1 j (by omega)), ?_, hp.2.2.2.2.2.2.2.2⟩
        intro j hj
        have q := hp.2.2.2.2.2.2.2.1 j hj
        refine ⟨q.1, q.2.1, q.2.2.1, q.2.2.2.1, q.2.2.2.2.1, q.2.2.2.2.2.1, ?_, q.2.2.2.2.2.2.2.1, q.2.2.2.2.2.2.2.2.1, ?_, ?_⟩
        · exact fun d h1 h2 => q.2.2.2.2.2.2.1 d (by omega) h2
        · intro x hx9
          have z := q.2.2.2.2.2.2.2.2.2.1 x hx9
          exact ⟨z.1, z.2.1, z.2.2.1, z.2.2.2.1, z.2.2.2.2.1, z.2.2.2.2.2.1, z.2.2.2.2.2.2.1, z.2.2.2.2.2.2.2.1, z.2.2.2.2.2.2.2.2.1, fun d h1 h2 => z.2.2.2.2.2.2.2.2.2 d (by omega) h2⟩
        · intro x hx9
          have z := (q.2.2.2.2.2.2.2.2.2.1 x (Nat.lt_of_lt_of_le hx9 q.2.2.2.2.2.2.2.1)).2.2.2.2.2.2.2.2.2 nd (Nat.le_refl _) hn
          exact (q.2.2.2.2.2.2.2.2.2.2 x hx9).more rfl (decide_eq_false (fun w => w z.1)) (fun y hy => ⟨va_up_ne _ _ hy, va_up_ne _ _ hy, va_up_ne _ _ hy, va_up_ne _ _ hy, va_up_ne _ _ hy⟩)
      exact ⟨rfl, ⟨_, _, _, _, _, _, _, hq.1⟩, zInv.mk hR2 (hag _ _ cR_0) hq.1 hinj hq.2.1 hr2 hp2⟩
    · have e8 : nd = 8 := by have := hp.2.1; omega
      subst e8
      refine Or.inr ⟨1, _, 3, 1, 6, 3, fun _ m2 => zMQ cs um m2 ad mm (mo ad 2 (nI nb) (nI 8) (nI nw) brt (nI ny) wd) J K, by decide, by decide, by decide, by decide, rfl, fun sz => (t2_X6_deduction l D cs uc sz _ _ _ _ _ _ _ _ _ _ _ _ _ _ _ _ hlst hg.2.1 hg.1 hg.2.2 hf hdr), fun sz => ((t2_X7_deduction l D cs um sz _ _ _ _ _ _ _ _ _ _ _ _ _ _ _ _ hinj hM hp.2.1 hg rfl hm)).to (fun r w2 q => ⟨_, q.1, q.2⟩), ?_⟩
      rintro b m2 hq
      exact ⟨⟨_, _, _, _, _, _, _, hq.1⟩, zInv.m hR hinj hr hp hq mOut.refl⟩
  · refine Or.inr ⟨0, _, 3, 1, 6, 3, fun _ m2 => zMQ cs um m2 ad mm (mo ad 1 (nI nb) (nI nd) (nI nw) brt (nI ny) wd) J K, by decide, by decide, by decide, by decide, rfl, fun sz => (t1_X6_deduction l D cs uc sz _ _ _ _ _ _ _ _ _ _ _ _ _ _ _ _ _ hlst hg hf hdr), fun sz => ((t1_X7_deduction l D cs um sz _ _ _ _ _ _ _ _ _ _ _ _ _ _ _ _ hinj hM hp.2.1 hg hm)).to (fun r w2 q => ⟨_, q.1, q.2⟩), ?_⟩
    rintro b m2 hq
    exact ⟨⟨_, _, _, _, _, _, _, hq.1⟩, zInv.m hR hinj hr hp hq mOut.refl⟩

