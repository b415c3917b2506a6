/-! ===== what tells, and changes nothing: both tell one thing ===== -/
theorem zInv.m {cs : Nat → ClassId} {AD : Nat × Nat × Nat → Nat} {ad : Nat → Nat} {J : Nat → Nat → Int64} {K : Nat → Nat → Int32} {th : Int32} {nb : Nat} {tn : Nat → Nat} {FF : Nat → Nat → Int64} {GF : Nat → Nat → Int32} {tt : Nat → Int32} {nd : Nat} {de : Nat → Int32} {so : Nat → Int32} {si : Nat → Int64} {ca : Nat → Int64} {bs : Nat → Int64} {nw : Nat} {tw : Nat → Nat} {pw : Nat → Int32} {mw : Nat → Int32} {rl : Nat → Int64} {cw : Nat → Int64} {xw : Nat → Int64} {ew : Nat → Int32} {hd : Nat → Nat} {al : Nat → Nat} {se : Nat → Int64} {bo : Nat → Nat → Int32} {rb : Nat → Nat → Int32} {pe : Nat → Nat → Int32} {me : Nat → Nat → Int32} {re : Nat → Nat → Int64} {cr : Nat → Nat → Int64} {xt : Nat → Nat → Int64} {en : Nat → Nat → Int32} {tx : Nat → Nat → Nat} {V : Nat → Nat → Nat → Int64} {P : Nat → Nat → Nat → Int64} {ST : Nat → Nat → Nat → Int64} {brt : Int32} {ny : Nat} {wd : Int32} {ag : Int64} {us : Int32} {ai : Int64} {ab : Int64} {AP : Nat → Int64} {mm : Nat} {uc um m2 : zw} {J' : Nat → Nat → Int64} (hR : zRep uc AD (cR cs AD nb tn FF GF tt nd de so si ca bs nw tw pw mw rl cw xw ew hd al se bo rb pe me re cr xt en tx V P ST brt ny wd ag us ai ab AP)) (hinj : ∀ i j : Nat, i ≠ j → ad i ≠ ad j) (hr : mRel J K nb tn FF GF tt nd de so si ca bs nw tw pw mw rl cw xw ew hd al se bo rb pe me re cr xt en tx V P ST brt ny wd) (hp : zPure nb tn FF GF tt nd de so si ca bs nw tw pw mw rl cw xw ew hd al se bo rb pe me re cr xt en tx V P ST brt ny wd) (hq : zMQ cs um m2 ad mm (mo ad th (nI nb) (nI nd) (nI nw) brt (nI ny) wd) J' K) (ho : mOut J J') : zInv cs (AD (0, 0, 0)) mm uc m2 := ⟨AD, ad, J', K, th, nb, tn, FF, GF, tt, nd, de, so, si, ca, bs, nw, tw, pw, mw, rl, cw, xw, ew, hd, al, se, bo, rb, pe, me, re, cr, xt, en, tx, V, P, ST, brt, ny, wd, ag, us, ai, ab, AP, hR, rfl, hq.1, hinj, hq.2.1, hr.out ho, hp⟩
theorem zLine_2 {b : Int32} {v : Nat → Int64} : zLine 2 b v = v 2 := by
  unfold zLine zTell
  rw [if_neg (by decide), if_neg (by decide), if_pos rfl]
theorem zM.to {l : Launch} {D : va_G} {cs : Nat → ClassId} {y : MethodName} {ws : List Cond} {d mc ms : Nat} {u : zw} {sz : Nat} {av : List Value} {post post2 : Option Value → zw → Prop} (h : zM l D cs y ws d mc ms u sz av post) (hp : ∀ (r : Option Value) (w2 : zw), post r w2 → post2 r w2) : zM l D cs y ws d mc ms u sz av post2 := zM.imp (v := fun _ => none) h hp
set_option maxHeartbeats 4000000 in
theorem zOp_sum (l : Launch) (D : va_G) (cs : Nat → ClassId) (hlst : l.stackTraces = false) {xo mm : Nat} {uc um : zw} (h : zInv cs xo mm uc um) (x what : Int32) : zBoth (fun z : Int64 => some (.long z)) (fun z : Int64 => some (.long z)) (fun z : Int64 => z) (fun z : Int64 => z) l D cs yX6_sum wsX6_sum yX7_sum wsX7_sum xo mm uc um [.int x, .int what] ["java/lang/IndexOutOfBoundsException", "java/lang/IllegalArgumentException"] := by
  obtain ⟨AD, ad, J, K, th, nb, tn, FF, GF, tt, nd, de, so, si, ca, bs, nw, tw, pw, mw, rl, cw, xw, ew, hd, al, se, bo, rb, pe, me, re, cr, xt, en, tx, V, P, ST, brt, ny, wd, ag, us, ai, ab, AP, hR, rfl, hm, hinj, hM, hr, hp⟩ := h
  have hW := hR.wks hp
  have hf := hR.1 _ _ cR_0
  have htr := hR.1 _ _ cR_1
  have hdr := hR.1 _ _ cR_2
  have hwr := hR.1 _ _ cR_3
  have ha := hR.1 _ _ cR_4
  have hapc := hR.1 _ _ cR_5
  have hT : zArrN 6 _ (fun k => AD (10, k, 0)) nb := zArrIf hp.1
  have hD : zArrN 8 _ (fun k => AD (20, k, 0)) nd := zArrIf hp.2.1
  have hWn : zArrN 10 _ (fun k => AD (30, k, 0)) nw := zArrIf hp.2.2.1
  have hDs := hR.deds hp
  have hTb := hR.tabs hp
  rcases zIdx x nw with ⟨k, hk, rfl⟩ | hx9
  · by_cases hwh : zUpTo (what.toInt64) 10 = 1
    · have e20 := (hr.2.2.2.2.2.2.1 k hk).2.2.2.2.2.2.2
      refine Or.inl ⟨3, 0, 0, 9, fun z u2 => z = zTotal (bo k) (V k) (hd k) (se k) what ∧ u2 = uc, fun b m2 => b = zTotal (bo k) (V k) (hd k) (J 20 k) what ∧ ∃ J' : Nat → Nat → Int64, mOut J J' ∧ zMQ cs um m2 ad mm (mo ad 0 (nI nb) (nI nd) (nI nw) brt (nI ny) wd) J' K, by decide, by decide, by decide, by decide, fun sz => ((c_X6_sum l D cs uc sz _ _ _ _ _ _ _ _ _ _ _ _ _ _ _ _ _ _ _ _ _ _ _ _ _ _ _ _ _ hW hk hwh hf hwr)).to (fun r w2 q => ⟨_, q.1, rfl, q.2⟩), fun sz => ((c_X7_sum l D cs um sz _ _ _ _ _ _ _ _ _ _ _ _ _ _ _ _ _ _ _ _ _ _ _ _ _ _ _ _ _ _ _ _ _ _ hinj hM ((zInv.wr hr hp hk).1) hp.2.2.1 hk hwh hm)).to (fun r w2 q => ⟨_, q.1, rfl, q.2⟩), ?_⟩
      rintro z u2 b m2 ⟨rfl, rfl⟩ ⟨rfl, J', ho, hq⟩
      exact ⟨by rw [e20], ⟨_, _, _, _, _, _, _, hq.1⟩, zInv.m hR hinj hr hp hq ho⟩
    · have hwh : zUpTo (what.toInt64) 10 = 0 := (zUpTo_01 _ _).resolve_right hwh
      refine Or.inr ⟨1, _, 3, 1, 6, 3, fun _ m2 => zMQ cs um m2 ad mm (mo ad 2 (nI nb) (nI nd) (nI nw) brt (nI ny) wd) J K, by decide, by decide, by decide, by decide, rfl, fun sz => (t2_X6_sum l D cs uc sz _ _ _ _ _ _ _ _ _ _ _ _ _ _ _ _ _ _ _ _ _ _ _ _ _ _ _ _ _ hlst hW hk hwh hf hwr), fun sz => ((t2_X7_sum l D cs um sz _ _ _ _ _ _ _ _ _ _ _ _ _ hinj hM hp.2.2.1 hk hwh hm)).to (fun r w2 q => ⟨_, q.1, q.2⟩), ?_⟩
      rintro b m2 hq
      exact ⟨⟨_, _, _, _, _, _, _, hq.1⟩, zInv.m hR hinj hr hp hq mOut.refl⟩
  · refine Or.inr ⟨0, _, 3, 1, 6, 3, fun _ m2 => zMQ cs um m2 ad mm (mo ad 1 (nI nb) (nI nd) (nI nw) brt (nI ny) wd) J K, by decide, by decide, by decide, by decide, rfl, fun sz => (t1_X6_sum l D cs uc sz _ _ _ _ _ _ _ _ _ _ _ _ _ _ _ _ _ _ _ _ _ _ _ _ _ _ _ _ _ hlst hW hx9 hf hwr), fun sz => ((t1_X7_sum l D cs um sz _ _ _ _ _ _ _ _ _ _ _ _ _ hinj hM hp.2.2.1 hx9 hm)).to (fun r w2 q => ⟨_, q.1, q.2⟩), ?_⟩
    rintro b m2 hq
    exact ⟨⟨_, _, _, _, _, _, _, hq.1⟩, zInv.m hR hinj hr hp hq mOut.refl⟩

set_option maxHeartbeats 4000000 in
theorem zOp_deducted (l : Launch) (D : va_G) (cs : Nat → ClassId) (hlst : l.stackTraces = false) {xo mm : Nat} {uc um : zw} (h : zInv cs xo mm uc um) (x y : Int32) : zBoth (fun z : Int64 => some (.long z)) (fun z : Int64 => some (.long z)) (fun z : Int64 => z) (fun z : Int64 => z) l D cs yX6_deducted wsX6_deducted yX7_deducted wsX7_deducted xo mm uc um [.int x, .int y] ["java/lang/IndexOutOfBoundsException"] := by
  obtain ⟨AD, ad, J, K, th, nb, tn, FF, GF, tt, nd, de, so, si, ca, bs, nw, tw, pw, mw, rl, cw, xw, ew, hd, al, se, bo, rb, pe, me, re, cr, xt, en, tx, V, P, ST, brt, ny, wd, ag, us, ai, ab, AP, hR, rfl, hm, hinj, hM, hr, hp⟩ := h
  have hW := hR.wks hp
  have hf := hR.1 _ _ cR_0
  have htr := hR.1 _ _ cR_1
  have hdr := hR.1 _ _ cR_2
  have hwr := hR.1 _ _ cR_3
  have ha := hR.1 _ _ cR_4
  have hapc := hR.1 _ _ cR_5
  have hT : zArrN 6 _ (fun k => AD (10, k, 0)) nb := zArrIf hp.1
  have hD : zArrN 8 _ (fun k => AD (20, k, 0)) nd := zArrIf hp.2.1
  have hWn : zArrN 10 _ (fun k => AD (30, k, 0)) nw := zArrIf hp.2.2.1
  have hDs := hR.deds hp
  have hTb := hR.tabs hp
  rcases zIdx x nw with ⟨k, hk, rfl⟩ | hx9
  · rcases zIdx y nd with ⟨j, hj, rfl⟩ | hy9
    · refine Or.inl ⟨3, 0, 0, 7, fun z u2 => z = zSum (fun i => P k i j) (hd k) ∧ u2 = uc, fun b m2 => b = zSum (fun i => P k i j) (hd k) ∧ ∃ J' : Nat → Nat → Int64, mOut J J' ∧ zMQ cs um m2 ad mm (mo ad 0 (nI nb) (nI nd) (nI nw) brt (nI ny) wd) J' K, by decide, by decide, by decide, by decide, fun sz => ((c_X6_deducted l D cs uc sz _ _ _ _ _ _ _ _ _ _ _ _ _ _ _ _ _ _ _ _ _ _ _ _ _ _ _ _ _ _ _ _ hW hD hk hj hf hwr hdr)).to (fun r w2 q => ⟨_, q.1, rfl, q.2⟩), fun sz => ((c_X7_deducted l D cs um sz _ _ _ _ _ _ _ _ _ _ _ _ _ _ _ _ _ _ _ _ _ _ _ _ _ _ _ _ _ _ _ _ _ _ hinj hM ((zInv.wr hr hp hk).1) hp.2.2.1 hk hj hm)).to (fun r w2 q => ⟨_, q.1, rfl, q.2⟩), ?_⟩
      rintro z u2 b m2 ⟨rfl, rfl⟩ ⟨rfl, J', ho, hq⟩
      exact ⟨rfl, ⟨_, _, _, _, _, _, _, hq.1⟩, zInv.m hR hinj hr hp hq ho⟩
    · refine Or.inr ⟨0, _, 3, 1, 6, 3, fun _ m2 => zMQ cs um m2 ad mm (mo ad 1 (nI nb) (nI nd) (nI nw) brt (nI ny) wd) J K, by decide, by decide, by decide, by decide, rfl, fun sz => (t2_X6_deducted l D cs uc sz _ _ _ _ _ _ _ _ _ _ _ _ _ _ _ _ _ _ _ _ _ _ _ _ _ _ _ _ _ _ _ _ hlst hW hD hk hy9 hf hwr hdr), fun sz => ((t2_X7_deducted l D cs um sz _ _ _ _ _ _ _ _ _ _ _ _ _ hinj hM hp.2.2.1 hk hp.2.1 hy9 hm)).to (fun r w2 q => ⟨_, q.1, q.2⟩), ?_⟩
      rintro b m2 hq
      exact ⟨⟨_, _, _, _, _, _, _, hq.1⟩, zInv.m hR hinj hr hp hq mOut.refl⟩
  · refine Or.inr ⟨0, _, 3, 1, 6, 3, fun _ m2 => zMQ cs um m2 ad mm (mo ad 1 (nI nb) (nI nd) (nI nw) brt (nI ny) wd) J K, by decide, by decide, by decide, by decide, rfl, fun sz => (t1_X6_deducted l D cs uc sz _ _ _ _ _ _ _ _ _ _ _ _ _ _ _ _ _ _ _ _ _ _ _ _ _ _ _ _ _ hlst hW hx9 hf hwr), fun sz => ((t1_X7_deducted l D cs um sz _ _ _ _ _ _ _ _ _ _ _ _ _ hinj hM hp.2.2.1 hx9 hm)).to (fun r w2 q => ⟨_, q.1, q.2⟩), ?_⟩
    rintro b m2 hq
    exact ⟨⟨_, _, _, _, _, _, _, hq.1⟩, zInv.m hR hinj hr hp hq mOut.refl⟩

set_option maxHeartbeats 4000000 in
theorem zOp_line (l : Launch) (D : va_G) (cs : Nat → ClassId) (hlst : l.stackTraces = false) {xo mm : Nat} {uc um : zw} (h : zInv cs xo mm uc um) (x y what : Int32) : zBoth (fun z : Int64 => some (.long z)) (fun z : Int64 => some (.long z)) (fun z : Int64 => z) (fun z : Int64 => z) l D cs yX6_line wsX6_line yX7_line wsX7_line xo mm uc um [.int x, .int y, .int what] ["java/lang/IndexOutOfBoundsException", "java/util/NoSuchElementException", "java/lang/IllegalArgumentException"] := by
  obtain ⟨AD, ad, J, K, th, nb, tn, FF, GF, tt, nd, de, so, si, ca, bs, nw, tw, pw, mw, rl, cw, xw, ew, hd, al, se, bo, rb, pe, me, re, cr, xt, en, tx, V, P, ST, brt, ny, wd, ag, us, ai, ab, AP, hR, rfl, hm, hinj, hM, hr, hp⟩ := h
  have hW := hR.wks hp
  have hf := hR.1 _ _ cR_0
  have htr := hR.1 _ _ cR_1
  have hdr := hR.1 _ _ cR_2
  have hwr := hR.1 _ _ cR_3
  have ha := hR.1 _ _ cR_4
  have hapc := hR.1 _ _ cR_5
  have hT : zArrN 6 _ (fun k => AD (10, k, 0)) nb := zArrIf hp.1
  have hD : zArrN 8 _ (fun k => AD (20, k, 0)) nd := zArrIf hp.2.1
  have hWn : zArrN 10 _ (fun k => AD (30, k, 0)) nw := zArrIf hp.2.2.1
  have hDs := hR.deds hp
  have hTb := hR.tabs hp
  rcases zIdx x nw with ⟨k, hk, rfl⟩ | hx9
  · rcases zIdx y (hd k) with ⟨i, hi, rfl⟩ | hy9
    · by_cases hwh : zUpTo (what.toInt64) 8 = 1
      · refine Or.inl ⟨2, 0, 0, 7, fun z u2 => z = zLine what (bo k i) (V k i) ∧ u2 = uc, fun b m2 => b = zLine what (bo k i) (V k i) ∧ ∃ J' : Nat → Nat → Int64, mOut J J' ∧ zMQ cs um m2 ad mm (mo ad 0 (nI nb) (nI nd) (nI nw) brt (nI ny) wd) J' K, by decide, by decide, by decide, by decide, fun sz => ((c_X6_line l D cs uc sz _ _ _ _ _ _ _ _ _ _ _ _ _ _ _ _ _ _ _ _ _ _ _ _ _ _ _ _ _ _ hW hk hi hwh hf hwr)).to (fun r w2 q => ⟨_, q.1, rfl, q.2⟩), fun sz => ((c_X7_line l D cs um sz _ _ _ _ _ _ _ _ _ _ _ _ _ _ _ _ _ _ _ _ _ _ _ _ _ _ _ _ _ _ _ _ _ _ _ hinj hM ((zInv.wr hr hp hk).1) hp.2.2.1 hk hi hwh hm)).to (fun r w2 q => ⟨_, q.1, rfl, q.2⟩), ?_⟩
        rintro z u2 b m2 ⟨rfl, rfl⟩ ⟨rfl, J', ho, hq⟩
        exact ⟨rfl, ⟨_, _, _, _, _, _, _, hq.1⟩, zInv.m hR hinj hr hp hq ho⟩
      · have hwh : zUpTo (what.toInt64) 8 = 0 := (zUpTo_01 _ _).resolve_right hwh
        refine Or.inr ⟨2, _, 2, 1, 6, 3, fun _ m2 => zMQ cs um m2 ad mm (mo ad 3 (nI nb) (nI nd) (nI nw) brt (nI ny) wd) J K, by decide, by decide, by decide, by decide, rfl, fun sz => (t3_X6_line l D cs uc sz _ _ _ _ _ _ _ _ _ _ _ _ _ _ _ _ _ _ _ _ _ _ _ _ _ _ _ _ _ _ hlst hW hk hi hwh hf hwr), fun sz => ((t3_X7_line l D cs um sz _ _ _ _ _ _ _ _ _ _ _ _ _ _ _ hinj hM hp.2.2.1 hk ((hr.2.2.2.1 k hk).1) ((Nat.le_trans (hp.2.2.2.2.2.2.2.1 k hk).2.2.2.2.2.2.2.1 (hp.2.2.2.2.2.2.2.1 k hk).2.2.2.2.2.2.2.2.1)) hi hwh hm)).to (fun r w2 q => ⟨_, q.1, q.2⟩), ?_⟩
        rintro b m2 hq
        exact ⟨⟨_, _, _, _, _, _, _, hq.1⟩, zInv.m hR hinj hr hp hq mOut.refl⟩
    · refine Or.inr ⟨1, _, 2, 1, 6, 3, fun _ m2 => zMQ cs um m2 ad mm (mo ad 2 (nI nb) (nI nd) (nI nw) brt (nI ny) wd) J K, by decide, by decide, by decide, by decide, rfl, fun sz => (t2_X6_line l D cs uc sz _ _ _ _ _ _ _ _ _ _ _ _ _ _ _ _ _ _ _ _ _ _ _ _ _ _ _ _ _ _ hlst hW hk hy9 hf hwr), fun sz => ((t2_X7_line l D cs um sz _ _ _ _ _ _ _ _ _ _ _ _ _ _ _ hinj hM hp.2.2.1 hk ((hr.2.2.2.1 k hk).1) ((Nat.le_trans (hp.2.2.2.2.2.2.2.1 k hk).2.2.2.2.2.2.2.1 (hp.2.2.2.2.2.2.2.1 k hk).2.2.2.2.2.2.2.2.1)) hy9 hm)).to (fun r w2 q => ⟨_, q.1, q.2⟩), ?_⟩
      rintro b m2 hq
      exact ⟨⟨_, _, _, _, _, _, _, hq.1⟩, zInv.m hR hinj hr hp hq mOut.refl⟩
  · refine Or.inr ⟨0, _, 2, 1, 6, 3, fun _ m2 => zMQ cs um m2 ad mm (mo ad 1 (nI nb) (nI nd) (nI nw) brt (nI ny) wd) J K, by decide, by decide, by decide, by decide, rfl, fun sz => (t1_X6_line l D cs uc sz _ _ _ _ _ _ _ _ _ _ _ _ _ _ _ _ _ _ _ _ _ _ _ _ _ _ _ _ _ _ hlst hW hx9 hf hwr), fun sz => ((t1_X7_line l D cs um sz _ _ _ _ _ _ _ _ _ _ _ _ _ _ hinj hM hp.2.2.1 hx9 hm)).to (fun r w2 q => ⟨_, q.1, q.2⟩), ?_⟩
    rintro b m2 hq
    exact ⟨⟨_, _, _, _, _, _, _, hq.1⟩, zInv.m hR hinj hr hp hq mOut.refl⟩

set_option maxHeartbeats 4000000 in
theorem zOp_part (l : Launch) (D : va_G) (cs : Nat → ClassId) (hlst : l.stackTraces = false) {xo mm : Nat} {uc um : zw} (h : zInv cs xo mm uc um) (x y z : Int32) : zBoth (fun z : Int64 => some (.long z)) (fun z : Int64 => some (.long z)) (fun z : Int64 => z) (fun z : Int64 => z) l D cs yX6_part wsX6_part yX7_part wsX7_part xo mm uc um [.int x, .int y, .int z] ["java/lang/IndexOutOfBoundsException", "java/util/NoSuchElementException"] := by
  obtain ⟨AD, ad, J, K, th, nb, tn, FF, GF, tt, nd, de, so, si, ca, bs, nw, tw, pw, mw, rl, cw, xw, ew, hd, al, se, bo, rb, pe, me, re, cr, xt, en, tx, V, P, ST, brt, ny, wd, ag, us, ai, ab, AP, hR, rfl, hm, hinj, hM, hr, hp⟩ := h
  have hW := hR.wks hp
  have hf := hR.1 _ _ cR_0
  have htr := hR.1 _ _ cR_1
  have hdr := hR.1 _ _ cR_2
  have hwr := hR.1 _ _ cR_3
  have ha := hR.1 _ _ cR_4
  have hapc := hR.1 _ _ cR_5
  have hT : zArrN 6 _ (fun k => AD (10, k, 0)) nb := zArrIf hp.1
  have hD : zArrN 8 _ (fun k => AD (20, k, 0)) nd := zArrIf hp.2.1
  have hWn : zArrN 10 _ (fun k => AD (30, k, 0)) nw := zArrIf hp.2.2.1
  have hDs := hR.deds hp
  have hTb := hR.tabs hp
  rcases zIdx x nw with ⟨k, hk, rfl⟩ | hx9
  · rcases zIdx z nd with ⟨j, hj, rfl⟩ | hy9
    · rcases zIdx y (hd k) with ⟨i, hi, rfl⟩ | hi9
      · refine Or.inl ⟨2, 0, 0, 7, fun z u2 => z = P k i j ∧ u2 = uc, fun b m2 => b = P k i j ∧ ∃ J' : Nat → Nat → Int64, mOut J J' ∧ zMQ cs um m2 ad mm (mo ad 0 (nI nb) (nI nd) (nI nw) brt (nI ny) wd) J' K, by decide, by decide, by decide, by decide, fun sz => ((c_X6_part l D cs uc sz _ _ _ _ _ _ _ _ _ _ _ _ _ _ _ _ _ _ _ _ _ _ _ _ _ _ _ _ _ _ _ _ _ hW hD hk hi hj hf hwr hdr)).to (fun r w2 q => ⟨_, q.1, rfl, q.2⟩), fun sz => ((c_X7_part l D cs um sz _ _ _ _ _ _ _ _ _ _ _ _ _ _ _ _ _ _ _ _ _ _ _ _ _ _ _ _ _ _ _ _ _ _ _ hinj hM ((zInv.wr hr hp hk).1) hp.2.2.1 hk hi hj hm)).to (fun r w2 q => ⟨_, q.1, rfl, q.2⟩), ?_⟩
        rintro z u2 b m2 ⟨rfl, rfl⟩ ⟨rfl, J', ho, hq⟩
        exact ⟨rfl, ⟨_, _, _, _, _, _, _, hq.1⟩, zInv.m hR hinj hr hp hq ho⟩
      · refine Or.inr ⟨1, _, 2, 1, 6, 3, fun _ m2 => zMQ cs um m2 ad mm (mo ad 2 (nI nb) (nI nd) (nI nw) brt (nI ny) wd) J K, by decide, by decide, by decide, by decide, rfl, fun sz => (t3_X6_part l D cs uc sz _ _ _ _ _ _ _ _ _ _ _ _ _ _ _ _ _ _ _ _ _ _ _ _ _ _ _ _ _ _ _ _ _ hlst hW hD hk hi9 hj hf hwr hdr), fun sz => ((t3_X7_part l D cs um sz _ _ _ _ _ _ _ _ _ _ _ _ _ _ _ hinj hM hp.2.2.1 hk hp.2.1 hj ((hr.2.2.2.1 k hk).1) ((Nat.le_trans (hp.2.2.2.2.2.2.2.1 k hk).2.2.2.2.2.2.2.1 (hp.2.2.2.2.2.2.2.1 k hk).2.2.2.2.2.2.2.2.1)) hi9 hm)).to (fun r w2 q => ⟨_, q.1, q.2⟩), ?_⟩
        rintro b m2 hq
        exact ⟨⟨_, _, _, _, _, _, _, hq.1⟩, zInv.m hR hinj hr hp hq mOut.refl⟩
    · refine Or.inr ⟨0, _, 2, 1, 6, 3, fun _ m2 => zMQ cs um m2 ad mm (mo ad 1 (nI nb) (nI nd) (nI nw) brt (nI ny) wd) J K, by decide, by decide, by decide, by decide, rfl, fun sz => (t2_X6_part l D cs uc sz _ _ _ _ _ _ _ _ _ _ _ _ _ _ _ _ _ _ _ _ _ _ _ _ _ _ _ _ _ _ _ _ _ hlst hW hD hk hy9 hf hwr hdr), fun sz => ((t2_X7_part l D cs um sz _ _ _ _ _ _ _ _ _ _ _ _ _ _ hinj hM hp.2.2.1 hk hp.2.1 hy9 hm)).to (fun r w2 q => ⟨_, q.1, q.2⟩), ?_⟩
      rintro b m2 hq
      exact ⟨⟨_, _, _, _, _, _, _, hq.1⟩, zInv.m hR hinj hr hp hq mOut.refl⟩
  · refine Or.inr ⟨0, _, 2, 1, 6, 3, fun _ m2 => zMQ cs um m2 ad mm (mo ad 1 (nI nb) (nI nd) (nI nw) brt (nI ny) wd) J K, by decide, by decide, by decide, by decide, rfl, fun sz => (t1_X6_part l D cs uc sz _ _ _ _ _ _ _ _ _ _ _ _ _ _ _ _ _ _ _ _ _ _ _ _ _ _ _ _ _ _ hlst hW hx9 hf hwr), fun sz => ((t1_X7_part l D cs um sz _ _ _ _ _ _ _ _ _ _ _ _ _ _ hinj hM hp.2.2.1 hx9 hm)).to (fun r w2 q => ⟨_, q.1, q.2⟩), ?_⟩
    rintro b m2 hq
    exact ⟨⟨_, _, _, _, _, _, _, hq.1⟩, zInv.m hR hinj hr hp hq mOut.refl⟩

set_option maxHeartbeats 4000000 in
theorem zOp_duty (l : Launch) (D : va_G) (cs : Nat → ClassId) (hlst : l.stackTraces = false) {xo mm : Nat} {uc um : zw} (h : zInv cs xo mm uc um) (x : Int32) : zBoth (fun z : Int64 => some (.long z)) (fun z : Int64 => some (.long z)) (fun z : Int64 => z) (fun z : Int64 => z) l D cs yX6_duty wsX6_duty yX7_duty wsX7_duty xo mm uc um [.int x] ["java/lang/IndexOutOfBoundsException"] := by
  obtain ⟨AD, ad, J, K, th, nb, tn, FF, GF, tt, nd, de, so, si, ca, bs, nw, tw, pw, mw, rl, cw, xw, ew, hd, al, se, bo, rb, pe, me, re, cr, xt, en, tx, V, P, ST, brt, ny, wd, ag, us, ai, ab, AP, hR, rfl, hm, hinj, hM, hr, hp⟩ := h
  have hW := hR.wks hp
  have hf := hR.1 _ _ cR_0
  have htr := hR.1 _ _ cR_1
  have hdr := hR.1 _ _ cR_2
  have hwr := hR.1 _ _ cR_3
  have ha := hR.1 _ _ cR_4
  have hapc := hR.1 _ _ cR_5
  have hT : zArrN 6 _ (fun k => AD (10, k, 0)) nb := zArrIf hp.1
  have hD : zArrN 8 _ (fun k => AD (20, k, 0)) nd := zArrIf hp.2.1
  have hWn : zArrN 10 _ (fun k => AD (30, k, 0)) nw := zArrIf hp.2.2.1
  have hDs := hR.deds hp
  have hTb := hR.tabs hp
  rcases zIdx x nw with ⟨k, hk, rfl⟩ | hx9
  · have hb := zInv.wr hr hp hk
    have hw := hp.2.2.2.2.2.2.2.1 k hk
    have e6 := (hr.2.2.2.2.2.2.1 k hk)
    have ht := hp.2.2.2.2.2.1 (tw k) hw.1
    have hb2 := zSum_b (f := fun i => zLine 2 (bo k i) (V k i)) (Nat.le_trans (hp.2.2.2.2.2.2.2.1 k hk).2.2.2.2.2.2.2.1 (hp.2.2.2.2.2.2.2.1 k hk).2.2.2.2.2.2.2.2.1) (fun i hi => by show 0 ≤ (zLine 2 (bo k i) (V k i)).toInt ∧ (zLine 2 (bo k i) (V k i)).toInt ≤ _; rw [zLine_2]; exact (hb.2.1 i hi).1)
    have e := (mDuty_eq (F := FF (tw k)) (G := GF (tw k)) (n := tn (tw k)) (re := rl k) (cr := cw k) (y := zTot (bo k) (V k) (hd k) 2) ht.2.1 hw.2.2.2.1 hw.2.2.2.2.1 hb2.1 (Int.le_trans hb2.2 (by have := Nat.le_trans (hp.2.2.2.2.2.2.2.1 k hk).2.2.2.2.2.2.2.1 (hp.2.2.2.2.2.2.2.1 k hk).2.2.2.2.2.2.2.2.1; omega))).1
    refine Or.inl ⟨4, 0, 0, 10, fun z u2 => z = zDuty (FF (tw k)) (GF (tw k)) (tn (tw k)) (rl k) (cw k) (zTot (bo k) (V k) (hd k) 2) ∧ u2 = uc, fun b m2 => b = mDuty (FF (tw k)) (GF (tw k)) (tn (tw k)) (J 16 k) (J 17 k) (zTot (bo k) (V k) (hd k) 2) ∧ ∃ J' : Nat → Nat → Int64, mOut J J' ∧ zMQ cs um m2 ad mm (mo ad 0 (nI nb) (nI nd) (nI nw) brt (nI ny) wd) J' K, by decide, by decide, by decide, by decide, fun sz => ((c_X6_duty l D cs uc sz _ _ _ _ _ _ _ _ _ _ _ _ _ _ _ _ _ _ _ _ _ _ _ _ _ _ _ _ _ _ _ _ _ _ _ _ _ _ _ _ _ hW hk ht.1 hf hwr ((hR.1 _ _ (cR_31 hk))) ((hR.1 _ _ (cR_10 hw.1))) ((hR.1 _ _ (cR_11 hw.1))) ((hR.1 _ _ (cR_12 hw.1))))).to (fun r w2 q => ⟨_, q.1, rfl, q.2⟩), fun sz => ((c_X7_duty l D cs um sz _ _ _ _ _ _ _ _ _ _ _ _ _ _ _ _ _ _ _ _ _ _ _ _ _ _ _ _ _ _ _ _ _ _ hinj hM ((zInv.wr hr hp hk).1) hp.2.2.1 hk e6.1 hw.1 hm)).to (fun r w2 q => ⟨_, q.1, rfl, q.2⟩), ?_⟩
    rintro z u2 b m2 ⟨rfl, rfl⟩ ⟨rfl, J', ho, hq⟩
    exact ⟨by rw [e6.2.2.2.2.1, e6.2.2.2.2.2.1, e], ⟨_, _, _, _, _, _, _, hq.1⟩, zInv.m hR hinj hr hp hq ho⟩
  · refine Or.inr ⟨0, _, 4, 1, 6, 3, fun _ m2 => zMQ cs um m2 ad mm (mo ad 1 (nI nb) (nI nd) (nI nw) brt (nI ny) wd) J K, by decide, by decide, by decide, by decide, rfl, fun sz => (t1_X6_duty l D cs uc sz _ _ _ _ _ _ _ _ _ _ _ _ _ _ _ _ _ _ _ _ _ _ _ _ _ _ _ _ hlst hW hx9 hf hwr), fun sz => ((t1_X7_duty l D cs um sz _ _ _ _ _ _ _ _ _ _ _ _ hinj hM hp.2.2.1 hx9 hm)).to (fun r w2 q => ⟨_, q.1, q.2⟩), ?_⟩
    rintro b m2 hq
    exact ⟨⟨_, _, _, _, _, _, _, hq.1⟩, zInv.m hR hinj hr hp hq mOut.refl⟩

set_option maxHeartbeats 4000000 in
theorem zOp_tax (l : Launch) (D : va_G) (cs : Nat → ClassId) (hlst : l.stackTraces = false) {xo mm : Nat} {uc um : zw} (h : zInv cs xo mm uc um) (x : Int32) (amount : Int64) : zBoth (fun z : Int64 => some (.long z)) (fun z : Int64 => some (.long z)) (fun z : Int64 => z) (fun z : Int64 => z) l D cs yX6_tax wsX6_tax yX7_tax wsX7_tax xo mm uc um [.int x, .long amount] ["java/lang/IndexOutOfBoundsException", "java/lang/IllegalArgumentException"] := by
  obtain ⟨AD, ad, J, K, th, nb, tn, FF, GF, tt, nd, de, so, si, ca, bs, nw, tw, pw, mw, rl, cw, xw, ew, hd, al, se, bo, rb, pe, me, re, cr, xt, en, tx, V, P, ST, brt, ny, wd, ag, us, ai, ab, AP, hR, rfl, hm, hinj, hM, hr, hp⟩ := h
  have hW := hR.wks hp
  have hf := hR.1 _ _ cR_0
  have htr := hR.1 _ _ cR_1
  have hdr := hR.1 _ _ cR_2
  have hwr := hR.1 _ _ cR_3
  have ha := hR.1 _ _ cR_4
  have hapc := hR.1 _ _ cR_5
  have hT : zArrN 6 _ (fun k => AD (10, k, 0)) nb := zArrIf hp.1
  have hD : zArrN 8 _ (fun k => AD (20, k, 0)) nd := zArrIf hp.2.1
  have hWn : zArrN 10 _ (fun k => AD (30, k, 0)) nw := zArrIf hp.2.2.1
  have hDs := hR.deds hp
  have hTb := hR.tabs hp
  rcases zIdx x nb with ⟨k, hk, rfl⟩ | hx9
  · by_cases hg : zUpTo (amount) 1000000000000 = 1
    · have ht := hp.2.2.2.2.2.1 k hk
      have hu := zUpTo_1 hg
      rw [zT12] at hu
      have e := (mTax_eq (F := FF k) (G := GF k) (n := tn k) (x := amount) ht.2.1 hu.1 (Int.le_trans hu.2 (by decide))).1
      have hb := hr.1.2 k hk
      refine Or.inl ⟨2, 0, 0, 3, fun z u2 => z = zTax (FF k) (GF k) (tn k) amount ∧ u2 = uc, fun b m2 => b = mTax (FF k) (GF k) (tn k) amount ∧ zMQ cs um m2 ad mm (mo ad 0 (nI nb) (nI nd) (nI nw) brt (nI ny) wd) J K, by decide, by decide, by decide, by decide, fun sz => ((c_X6_tax l D cs uc sz _ _ _ _ _ _ _ _ _ _ _ _ _ _ _ _ _ _ _ _ _ _ hT hk ht.1 hg hf htr ((hR.1 _ _ (cR_10 hk))) ((hR.1 _ _ (cR_11 hk))) ((hR.1 _ _ (cR_12 hk))))).to (fun r w2 q => ⟨_, q.1, rfl, q.2⟩), fun sz => ((c_X7_tax l D cs um sz _ _ _ _ _ _ _ _ _ _ _ _ _ _ _ _ hinj hM hp.1 hk hb.1 hb.2.1 hb.2.2 hg hm)).to (fun r w2 q => ⟨_, q.1, rfl, q.2⟩), ?_⟩
      rintro z u2 b m2 ⟨rfl, rfl⟩ ⟨rfl, hq⟩
      exact ⟨e.symm, ⟨_, _, _, _, _, _, _, hq.1⟩, zInv.m hR hinj hr hp hq mOut.refl⟩
    · have hg : zUpTo (amount) 1000000000000 = 0 := (zUpTo_01 _ _).resolve_right hg
      refine Or.inr ⟨1, _, 2, 1, 6, 3, fun _ m2 => zMQ cs um m2 ad mm (mo ad 2 (nI nb) (nI nd) (nI nw) brt (nI ny) wd) J K, by decide, by decide, by decide, by decide, rfl, fun sz => (t2_X6_tax l D cs uc sz _ _ _ _ _ _ _ _ _ _ _ _ _ _ _ _ hlst hT hk hg hf htr), fun sz => ((t2_X7_tax l D cs um sz _ _ _ _ _ _ _ _ _ _ _ _ _ hinj hM hp.1 hk hg hm)).to (fun r w2 q => ⟨_, q.1, q.2⟩), ?_⟩
      rintro b m2 hq
      exact ⟨⟨_, _, _, _, _, _, _, hq.1⟩, zInv.m hR hinj hr hp hq mOut.refl⟩
  · refine Or.inr ⟨0, _, 2, 1, 6, 3, fun _ m2 => zMQ cs um m2 ad mm (mo ad 1 (nI nb) (nI nd) (nI nw) brt (nI ny) wd) J K, by decide, by decide, by decide, by decide, rfl, fun sz => (t1_X6_tax l D cs uc sz _ _ _ _ _ _ _ _ _ _ _ _ _ _ _ _ hlst hT hx9 hf htr), fun sz => ((t1_X7_tax l D cs um sz _ _ _ _ _ _ _ _ _ _ _ _ _ hinj hM hp.1 hx9 hm)).to (fun r w2 q => ⟨_, q.1, q.2⟩), ?_⟩
    rintro b m2 hq
    exact ⟨⟨_, _, _, _, _, _, _, hq.1⟩, zInv.m hR hinj hr hp hq mOut.refl⟩

theorem zTo10 {x : Int32} (h : zUpTo x.toInt64 10 = 1) : ∃ q : Nat, q < 11 ∧ x = nI q := by
  have b := zUpTo_1 h
  rw [Int32.toInt_toInt64, show (10 : Int64).toInt = 10 from rfl] at b
  refine ⟨x.toInt.toNat, by omega, Int32.toInt_inj.mp ?_⟩
  rw [nI_toInt (by omega)]
  omega
set_option maxHeartbeats 4000000 in
theorem zOp_statement (l : Launch) (D : va_G) (cs : Nat → ClassId) (hlst : l.stackTraces = false) {xo mm : Nat} {uc um : zw} (h : zInv cs xo mm uc um) (x y what : Int32) : zBoth (fun z : Int64 => some (.long z)) (fun z : Int64 => some (.long z)) (fun z : Int64 => z) (fun z : Int64 => z) l D cs yX6_statement wsX6_statement yX7_statement wsX7_statement xo mm uc um [.int x, .int y, .int what] ["java/lang/IndexOutOfBoundsException", "java/util/NoSuchElementException", "java/lang/IllegalArgumentException"] := by
  obtain ⟨AD, ad, J, K, th, nb, tn, FF, GF, tt, nd, de, so, si, ca, bs, nw, tw, pw, mw, rl, cw, xw, ew, hd, al, se, bo, rb, pe, me, re, cr, xt, en, tx, V, P, ST, brt, ny, wd, ag, us, ai, ab, AP, hR, rfl, hm, hinj, hM, hr, hp⟩ := h
  have hW := hR.wks hp
  have hf := hR.1 _ _ cR_0
  have htr := hR.1 _ _ cR_1
  have hdr := hR.1 _ _ cR_2
  have hwr := hR.1 _ _ cR_3
  have ha := hR.1 _ _ cR_4
  have hapc := hR.1 _ _ cR_5
  have hT : zArrN 6 _ (fun k => AD (10, k, 0)) nb := zArrIf hp.1
  have hD : zArrN 8 _ (fun k => AD (20, k, 0)) nd := zArrIf hp.2.1
  have hWn : zArrN 10 _ (fun k => AD (30, k, 0)) nw := zArrIf hp.2.2.1
  have hDs := hR.deds hp
  have hTb := hR.tabs hp
  rcases zIdx x nw with ⟨k, hk, rfl⟩ | hx9
  · rcases zIdx y ny with ⟨y, hy, rfl⟩ | hy9
    · by_cases hwh : zUpTo (what.toInt64) 10 = 1
      · obtain ⟨q, hq9, rfl⟩ := zTo10 hwh
        have e36 := hr.2.2.2.2.2.2.2.2 k y q (Nat.lt_of_lt_of_le hk hp.2.2.1) (Nat.lt_of_lt_of_le hy hp.2.2.2.1) hq9
        refine Or.inl ⟨2, 0, 0, 3, fun z u2 => z = ST k y q ∧ u2 = uc, fun b m2 => b = J 36 (11 * (10 * y + k) + q) ∧ zMQ cs um m2 ad mm (mo ad 0 (nI nb) (nI nd) (nI nw) brt (nI ny) wd) J K, by decide, by decide, by decide, by decide, fun sz => ((c_X6_statement l D cs uc sz _ _ _ _ _ _ _ _ _ _ _ _ _ _ _ _ _ _ _ _ _ _ _ _ _ _ _ _ _ _ _ _ _ hW hk hy hp.2.2.2.1 hq9 (if_pos (Nat.lt_of_lt_of_le hy hp.2.2.2.1)) hwh hf hwr ((hR.1 _ _ (cR_33 hk))) ((hR.1 _ _ (cR_43 hk (Nat.lt_of_lt_of_le hy hp.2.2.2.1)))))).to (fun r w2 q => ⟨_, q.1, rfl, q.2⟩), fun sz => ((c_X7_statement l D cs um sz _ _ _ _ _ _ _ _ _ _ _ _ _ _ hinj hM hp.2.2.1 hk hp.2.2.2.1 hy hq9 hwh hm)).to (fun r w2 q => ⟨_, q.1, rfl, q.2⟩), ?_⟩
        rintro z u2 b m2 ⟨rfl, rfl⟩ ⟨rfl, hq⟩
        exact ⟨e36.symm, ⟨_, _, _, _, _, _, _, hq.1⟩, zInv.m hR hinj hr hp hq mOut.refl⟩
      · have hwh : zUpTo (what.toInt64) 10 = 0 := (zUpTo_01 _ _).resolve_right hwh
        refine Or.inr ⟨2, _, 2, 1, 6, 3, fun _ m2 => zMQ cs um m2 ad mm (mo ad 3 (nI nb) (nI nd) (nI nw) brt (nI ny) wd) J K, by decide, by decide, by decide, by decide, rfl, fun sz => (t3_X6_statement l D cs uc sz _ _ _ _ _ _ _ _ _ _ _ _ _ _ _ _ _ _ _ _ _ _ _ _ _ _ _ _ _ _ hlst hW hk hy hp.2.2.2.1 hwh hf hwr), fun sz => ((t3_X7_statement l D cs um sz _ _ _ _ _ _ _ _ _ _ _ _ _ _ hinj hM hp.2.2.1 hk hp.2.2.2.1 hy hwh hm)).to (fun r w2 q => ⟨_, q.1, q.2⟩), ?_⟩
        rintro b m2 hq
        exact ⟨⟨_, _, _, _, _, _, _, hq.1⟩, zInv.m hR hinj hr hp hq mOut.refl⟩
    · refine Or.inr ⟨1, _, 2, 1, 6, 3, fun _ m2 => zMQ cs um m2 ad mm (mo ad 2 (nI nb) (nI nd) (nI nw) brt (nI ny) wd) J K, by decide, by decide, by decide, by decide, rfl, fun sz => (t2_X6_statement l D cs uc sz _ _ _ _ _ _ _ _ _ _ _ _ _ _ _ _ _ _ _ _ _ _ _ _ _ _ _ _ _ _ hlst hW hk hp.2.2.2.1 hy9 hf hwr), fun sz => ((t2_X7_statement l D cs um sz _ _ _ _ _ _ _ _ _ _ _ _ _ _ hinj hM hp.2.2.1 hk hp.2.2.2.1 hy9 hm)).to (fun r w2 q => ⟨_, q.1, q.2⟩), ?_⟩
      rintro b m2 hq
      exact ⟨⟨_, _, _, _, _, _, _, hq.1⟩, zInv.m hR hinj hr hp hq mOut.refl⟩
  · refine Or.inr ⟨0, _, 2, 1, 6, 3, fun _ m2 => zMQ cs um m2 ad mm (mo ad 1 (nI nb) (nI nd) (nI nw) brt (nI ny) wd) J K, by decide, by decide, by decide, by decide, rfl, fun sz => (t1_X6_statement l D cs uc sz _ _ _ _ _ _ _ _ _ _ _ _ _ _ _ _ _ _ _ _ _ _ _ _ _ _ _ _ _ _ hlst hW hx9 hf hwr), fun sz => ((t1_X7_statement l D cs um sz _ _ _ _ _ _ _ _ _ _ _ _ _ _ hinj hM hp.2.2.1 hx9 hm)).to (fun r w2 q => ⟨_, q.1, q.2⟩), ?_⟩
    rintro b m2 hq
    exact ⟨⟨_, _, _, _, _, _, _, hq.1⟩, zInv.m hR hinj hr hp hq mOut.refl⟩

set_option maxHeartbeats 4000000 in
theorem zOp_office (l : Launch) (D : va_G) (cs : Nat → ClassId) (hlst : l.stackTraces = false) {xo mm : Nat} {uc um : zw} (h : zInv cs xo mm uc um) (what : Int32) : zBoth (fun z : Int64 => some (.long z)) (fun z : Int64 => some (.long z)) (fun z : Int64 => z) (fun z : Int64 => z) l D cs yX6_office wsX6_office yX7_office wsX7_office xo mm uc um [.int what] ["java/lang/IllegalArgumentException"] := by
  obtain ⟨AD, ad, J, K, th, nb, tn, FF, GF, tt, nd, de, so, si, ca, bs, nw, tw, pw, mw, rl, cw, xw, ew, hd, al, se, bo, rb, pe, me, re, cr, xt, en, tx, V, P, ST, brt, ny, wd, ag, us, ai, ab, AP, hR, rfl, hm, hinj, hM, hr, hp⟩ := h
  have hW := hR.wks hp
  have hf := hR.1 _ _ cR_0
  have htr := hR.1 _ _ cR_1
  have hdr := hR.1 _ _ cR_2
  have hwr := hR.1 _ _ cR_3
  have ha := hR.1 _ _ cR_4
  have hapc := hR.1 _ _ cR_5
  have hT : zArrN 6 _ (fun k => AD (10, k, 0)) nb := zArrIf hp.1
  have hD : zArrN 8 _ (fun k => AD (20, k, 0)) nd := zArrIf hp.2.1
  have hWn : zArrN 10 _ (fun k => AD (30, k, 0)) nw := zArrIf hp.2.2.1
  have hDs := hR.deds hp
  have hTb := hR.tabs hp
  by_cases hwh : zUpTo (what.toInt64) 10 = 1
  · have e : zSum (fun k => zTotal (bo k) (V k) (hd k) (se k) what) nw = zSum (fun k => zTotal (bo k) (V k) (hd k) (J 20 k) what) nw := zSum_congr (fun k hk => by rw [(hr.2.2.2.2.2.2.1 k hk).2.2.2.2.2.2.2])
    refine Or.inl ⟨4, 0, 0, 9, fun z u2 => z = zSum (fun k => zTotal (bo k) (V k) (hd k) (se k) what) nw ∧ u2 = uc, fun b m2 => b = zSum (fun k => zTotal (bo k) (V k) (hd k) (J 20 k) what) nw ∧ ∃ J' : Nat → Nat → Int64, mOut J J' ∧ zMQ cs um m2 ad mm (mo ad 0 (nI nb) (nI nd) (nI nw) brt (nI ny) wd) J' K, by decide, by decide, by decide, by decide, fun sz => ((c_X6_office l D cs uc sz _ _ _ _ _ _ _ _ _ _ _ _ _ _ _ _ _ _ _ _ _ _ _ _ _ _ _ _ hW hwh hf hwr)).to (fun r w2 q => ⟨_, q.1, rfl, q.2⟩), fun sz => ((c_X7_office l D cs um sz _ _ _ _ _ _ _ _ _ _ _ _ _ _ _ _ _ _ _ _ _ _ _ _ _ _ _ _ _ _ _ _ _ hinj hM (fun k hk => (zInv.wr hr hp hk).1) hp.2.2.1 hwh hm)).to (fun r w2 q => ⟨_, q.1, rfl, q.2⟩), ?_⟩
    rintro z u2 b m2 ⟨rfl, rfl⟩ ⟨rfl, J', ho, hq⟩
    exact ⟨e, ⟨_, _, _, _, _, _, _, hq.1⟩, zInv.m hR hinj hr hp hq ho⟩
  · have hwh : zUpTo (what.toInt64) 10 = 0 := (zUpTo_01 _ _).resolve_right hwh
    refine Or.inr ⟨0, _, 4, 1, 6, 3, fun _ m2 => zMQ cs um m2 ad mm (mo ad 1 (nI nb) (nI nd) (nI nw) brt (nI ny) wd) J K, by decide, by decide, by decide, by decide, rfl, fun sz => (t1_X6_office l D cs uc sz _ _ _ _ _ _ _ _ _ _ _ _ _ _ _ _ _ _ _ _ _ _ _ _ _ _ _ _ hlst hW hwh hf hwr), fun sz => ((t1_X7_office l D cs um sz _ _ _ _ _ _ _ _ _ _ _ _ hinj hM hwh hm)).to (fun r w2 q => ⟨_, q.1, q.2⟩), ?_⟩
    rintro b m2 hq
    exact ⟨⟨_, _, _, _, _, _, _, hq.1⟩, zInv.m hR hinj hr hp hq mOut.refl⟩

