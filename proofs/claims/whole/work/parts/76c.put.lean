/-! ===== bonus, settle, enrol, change ===== -/
theorem zInv.mk {cs : Nat → ClassId} {AD : Nat × Nat × Nat → Nat} {ad : Nat → Nat} {J : Nat → Nat → Int64} {K : Nat → Nat → Int32} {th : Int32} {nb : Nat} {tn : Nat → Nat} {FF : Nat → Nat → Int64} {GF : Nat → Nat → Int32} {tt : Nat → Int32} {nd : Nat} {de : Nat → Int32} {so : Nat → Int32} {si : Nat → Int64} {ca : Nat → Int64} {bs : Nat → Int64} {nw : Nat} {tw : Nat → Nat} {pw : Nat → Int32} {mw : Nat → Int32} {rl : Nat → Int64} {cw : Nat → Int64} {xw : Nat → Int64} {ew : Nat → Int32} {hd : Nat → Nat} {al : Nat → Nat} {se : Nat → Int64} {bo : Nat → Nat → Int32} {rb : Nat → Nat → Int32} {pe : Nat → Nat → Int32} {me : Nat → Nat → Int32} {re : Nat → Nat → Int64} {cr : Nat → Nat → Int64} {xt : Nat → Nat → Int64} {en : Nat → Nat → Int32} {tx : Nat → Nat → Nat} {V : Nat → Nat → Nat → Int64} {P : Nat → Nat → Nat → Int64} {ST : Nat → Nat → Nat → Int64} {brt : Int32} {ny : Nat} {wd : Int32} {ag : Int64} {us : Int32} {ai : Int64} {ab : Int64} {AP : Nat → Int64} {xo mm : Nat} {uc um : zw} (hR : zRep uc AD (cR cs AD nb tn FF GF tt nd de so si ca bs nw tw pw mw rl cw xw ew hd al se bo rb pe me re cr xt en tx V P ST brt ny wd ag us ai ab AP)) (hx : AD (0, 0, 0) = xo) (hm : um mm = some (mo ad th (nI nb) (nI nd) (nI nw) brt (nI ny) wd)) (hinj : ∀ i j : Nat, i ≠ j → ad i ≠ ad j) (hM : zMA cs um ad J K) (hr : mRel J K nb tn FF GF tt nd de so si ca bs nw tw pw mw rl cw xw ew hd al se bo rb pe me re cr xt en tx V P ST brt ny wd) (hp : zPure nb tn FF GF tt nd de so si ca bs nw tw pw mw rl cw xw ew hd al se bo rb pe me re cr xt en tx V P ST brt ny wd) : zInv cs xo mm uc um := ⟨AD, ad, J, K, th, nb, tn, FF, GF, tt, nd, de, so, si, ca, bs, nw, tw, pw, mw, rl, cw, xw, ew, hd, al, se, bo, rb, pe, me, re, cr, xt, en, tx, V, P, ST, brt, ny, wd, ag, us, ai, ab, AP, hR, hx, hm, hinj, hM, hr, hp⟩
set_option maxHeartbeats 4000000 in
theorem zOp_bonus (l : Launch) (D : va_G) (cs : Nat → ClassId) (hlst : l.stackTraces = false) {xo mm : Nat} {uc um : zw} (h : zInv cs xo mm uc um) (rate : Int32) : zBoth (fun _ : Unit => none) (fun _ : Unit => none) (fun _ : Unit => 0) (fun _ : Unit => 0) l D cs yX6_bonus wsX6_bonus yX7_bonus wsX7_bonus xo mm uc um [.int rate] ["java/lang/IllegalArgumentException"] := by
  obtain ⟨AD, ad, J, K, th, nb, tn, FF, GF, tt, nd, de, so, si, ca, bs, nw, tw, pw, mw, rl, cw, xw, ew, hd, al, se, bo, rb, pe, me, re, cr, xt, en, tx, V, P, ST, brt, ny, wd, ag, us, ai, ab, AP, hR, rfl, hm, hinj, hM, hr, hp⟩ := h
  have hW := hR.wks hp
  have hf := hR.1 _ _ cR_0
  have htr := hR.1 _ _ cR_1
  have hdr := hR.1 _ _ cR_2
  have hwr := hR.1 _ _ cR_3
  have ha := hR.1 _ _ cR_4
  have hapc := hR.1 _ _ cR_5
  have hT : zArrN 6 _ (fun k => AD (10, k, 0)) nb := zArrIf hp.1
  have hD : zArrN 8 _ (fun k => AD (20, k, 0)) nd := zArrIf hp.2.1
  have hWn : zArrN 10 _ (fun k => AD (30, k, 0)) nw := zArrIf hp.2.2.1
  have hDs := hR.deds hp
  have hTb := hR.tabs hp
  by_cases hg : zUpTo (rate.toInt64) 1000000 = 1
  · refine Or.inl ⟨2, 0, 0, 3, fun _ u2 => zEx uc u2 [(AD (0, 0, 0), (.inr (6, [.ref (AD (1, 0, 0)), .ref (AD (2, 0, 0)), .ref (AD (3, 0, 0)), .ref (AD (4, 0, 0)), .int (nI nb), .int (nI nd), .int (nI nw), .int (rate), .int (nI ny), .int wd])))], fun _ m2 => zMQ cs um m2 ad mm (mo ad 0 (nI nb) (nI nd) (nI nw) rate (nI ny) wd) J K, by decide, by decide, by decide, by decide, fun sz => ((c_X6_bonus l D cs uc sz _ _ _ _ _ _ _ _ _ _ _ rate hg hf)).to (fun r w2 q => ⟨(), q.1, q.2⟩), fun sz => ((c_X7_bonus l D cs um sz _ _ _ _ _ _ _ _ _ _ _ rate hinj hM hg hm)).to (fun r w2 q => ⟨(), q.1, q.2⟩), ?_⟩
    rintro z u2 b m2 hx hq
    have hR2 : zRep u2 AD (cR cs AD nb tn FF GF tt nd de so si ca bs nw tw pw mw rl cw xw ew hd al se bo rb pe me re cr xt en tx V P ST (rate) ny wd ag us ai ab AP) := by
      refine hR.put [((0, 0, 0), (.inr (6, [.ref (AD (1, 0, 0)), .ref (AD (2, 0, 0)), .ref (AD (3, 0, 0)), .ref (AD (4, 0, 0)), .int (nI nb), .int (nI nd), .int (nI nw), .int (rate), .int (nI ny), .int wd])))] hx (zall1 ⟨_, cR_0⟩ zall0) (cR_cases ?_ ?_ ?_ ?_ ?_ ?_ ?_ ?_ ?_ ?_ ?_ ?_ ?_ ?_ ?_ ?_ ?_ ?_)
      · exact Or.inl (List.mem_of_getElem? (i := 0) rfl)
      · exact Or.inr ⟨cR_1, (zall1 (fun z => absurd (show (1 : Nat) = 0 from congrArg Prod.fst z) (by decide)) zall0)⟩
      · exact Or.inr ⟨cR_2, (zall1 (fun z => absurd (show (2 : Nat) = 0 from congrArg Prod.fst z) (by decide)) zall0)⟩
      · exact Or.inr ⟨cR_3, (zall1 (fun z => absurd (show (3 : Nat) = 0 from congrArg Prod.fst z) (by decide)) zall0)⟩
      · exact Or.inr ⟨cR_4, (zall1 (fun z => absurd (show (4 : Nat) = 0 from congrArg Prod.fst z) (by decide)) zall0)⟩
      · exact Or.inr ⟨cR_5, (zall1 (fun z => absurd (show (5 : Nat) = 0 from congrArg Prod.fst z) (by decide)) zall0)⟩
      · exact fun k hk => Or.inr ⟨cR_10 hk, (zall1 (fun z => absurd (show (10 : Nat) = 0 from congrArg Prod.fst z) (by decide)) zall0)⟩
      · exact fun k hk => Or.inr ⟨cR_11 hk, (zall1 (fun z => absurd (show (11 : Nat) = 0 from congrArg Prod.fst z) (by decide)) zall0)⟩
      · exact fun k hk => Or.inr ⟨cR_12 hk, (zall1 (fun z => absurd (show (12 : Nat) = 0 from congrArg Prod.fst z) (by decide)) zall0)⟩
      · exact fun k hk => Or.inr ⟨cR_20 hk, (zall1 (fun z => absurd (show (20 : Nat) = 0 from congrArg Prod.fst z) (by decide)) zall0)⟩
      · exact fun k hk => Or.inr ⟨cR_30 hk, (zall1 (fun z => absurd (show (30 : Nat) = 0 from congrArg Prod.fst z) (by decide)) zall0)⟩
      · exact fun k hk => Or.inr ⟨cR_31 hk, (zall1 (fun z => absurd (show (31 : Nat) = 0 from congrArg Prod.fst z) (by decide)) zall0)⟩
      · exact fun k hk => Or.inr ⟨cR_32 hk, (zall1 (fun z => absurd (show (32 : Nat) = 0 from congrArg Prod.fst z) (by decide)) zall0)⟩
      · exact fun k hk => Or.inr ⟨cR_33 hk, (zall1 (fun z => absurd (show (33 : Nat) = 0 from congrArg Prod.fst z) (by decide)) zall0)⟩
      · exact fun k i hk hi => Or.inr ⟨cR_40 hk hi, (zall1 (fun z => absurd (show (40 : Nat) = 0 from congrArg Prod.fst z) (by decide)) zall0)⟩
      · exact fun k i hk hi => Or.inr ⟨cR_41 hk hi, (zall1 (fun z => absurd (show (41 : Nat) = 0 from congrArg Prod.fst z) (by decide)) zall0)⟩
      · exact fun k i hk hi => Or.inr ⟨cR_42 hk hi, (zall1 (fun z => absurd (show (42 : Nat) = 0 from congrArg Prod.fst z) (by decide)) zall0)⟩
      · exact fun k i hk hi => Or.inr ⟨cR_43 hk hi, (zall1 (fun z => absurd (show (43 : Nat) = 0 from congrArg Prod.fst z) (by decide)) zall0)⟩
    have hb := zUpTo_1 hg
    rw [Int32.toInt_toInt64, zT6] at hb
    have hp2 : zPure nb tn FF GF tt nd de so si ca bs nw tw pw mw rl cw xw ew hd al se bo rb pe me re cr xt en tx V P ST (rate) ny wd := by
      refine ⟨hp.1, hp.2.1, hp.2.2.1, hp.2.2.2.1, hb, hp.2.2.2.2.2.1, hp.2.2.2.2.2.2.1, hp.2.2.2.2.2.2.2.1, hp.2.2.2.2.2.2.2.2⟩
    exact ⟨rfl, ⟨_, _, _, _, _, _, _, hq.1⟩, zInv.mk hR2 rfl hq.1 hinj hq.2.1 hr hp2⟩
  · have hg : zUpTo (rate.toInt64) 1000000 = 0 := (zUpTo_01 _ _).resolve_right hg
    refine Or.inr ⟨0, _, 2, 1, 6, 3, fun _ m2 => zMQ cs um m2 ad mm (mo ad 1 (nI nb) (nI nd) (nI nw) brt (nI ny) wd) J K, by decide, by decide, by decide, by decide, rfl, fun sz => (t1_X6_bonus l D cs uc sz _ _ _ _ _ _ _ _ _ _ _ _ hlst hg hf), fun sz => ((t1_X7_bonus l D cs um sz _ _ _ _ _ _ _ _ _ _ _ _ hinj hM hg hm)).to (fun r w2 q => ⟨(), q.1, q.2⟩), ?_⟩
    rintro b m2 hq
    exact ⟨⟨_, _, _, _, _, _, _, hq.1⟩, zInv.m hR hinj hr hp hq mOut.refl⟩

set_option maxHeartbeats 4000000 in
theorem zOp_settle (l : Launch) (D : va_G) (cs : Nat → ClassId) (hlst : l.stackTraces = false) {xo mm : Nat} {uc um : zw} (h : zInv cs xo mm uc um) (x : Int32) : zBoth (fun z : Int64 => some (.long z)) (fun z : Int64 => some (.long z)) (fun z : Int64 => z) (fun z : Int64 => z) l D cs yX6_settle wsX6_settle yX7_settle wsX7_settle xo mm uc um [.int x] ["java/lang/IndexOutOfBoundsException"] := by
  obtain ⟨AD, ad, J, K, th, nb, tn, FF, GF, tt, nd, de, so, si, ca, bs, nw, tw, pw, mw, rl, cw, xw, ew, hd, al, se, bo, rb, pe, me, re, cr, xt, en, tx, V, P, ST, brt, ny, wd, ag, us, ai, ab, AP, hR, rfl, hm, hinj, hM, hr, hp⟩ := h
  have hW := hR.wks hp
  have hf := hR.1 _ _ cR_0
  have htr := hR.1 _ _ cR_1
  have hdr := hR.1 _ _ cR_2
  have hwr := hR.1 _ _ cR_3
  have ha := hR.1 _ _ cR_4
  have hapc := hR.1 _ _ cR_5
  have hT : zArrN 6 _ (fun k => AD (10, k, 0)) nb := zArrIf hp.1
  have hD : zArrN 8 _ (fun k => AD (20, k, 0)) nd := zArrIf hp.2.1
  have hWn : zArrN 10 _ (fun k => AD (30, k, 0)) nw := zArrIf hp.2.2.1
  have hDs := hR.deds hp
  have hTb := hR.tabs hp
  rcases zIdx x nw with ⟨k, hk, rfl⟩ | hx9
  · have e20 := (hr.2.2.2.2.2.2.1 k hk).2.2.2.2.2.2.2
    refine Or.inl ⟨3, 0, 0, 9, fun z u2 => z = zTotal (bo k) (V k) (hd k) (se k) 10 ∧ zEx uc u2 [(AD (30, k, 0), (.inr (5, [.ref (AD (31, k, 0)), .ref (AD (32, k, 0)), .ref (AD (33, k, 0)), .int (nI (hd k)), .long (se k + zTotal (bo k) (V k) (hd k) (se k) 10)])))], fun b m2 => b = zTotal (bo k) (V k) (hd k) (J 20 k) 10 ∧ ∃ J' : Nat → Nat → Int64, mOut J J' ∧ zMQ cs um m2 ad mm (mo ad 0 (nI nb) (nI nd) (nI nw) brt (nI ny) wd) (va_up J' 20 (vp_updL (J' 20) k (J' 20 k + zTotal (bo k) (V k) (hd k) (J 20 k) 10))) K, by decide, by decide, by decide, by decide, fun sz => ((c_X6_settle l D cs uc sz _ _ _ _ _ _ _ _ _ _ _ _ _ _ _ _ _ _ _ _ _ _ _ _ _ _ _ _ hW hk hf hwr)).to (fun r w2 q => ⟨_, q.1, rfl, q.2⟩), fun sz => ((c_X7_settle l D cs um sz _ _ _ _ _ _ _ _ _ _ _ _ _ _ _ _ _ _ _ _ _ _ _ _ _ _ _ _ _ _ _ _ _ hinj hM ((zInv.wr hr hp hk).1) hp.2.2.1 hk hm)).to (fun r w2 q => ⟨_, q.1, rfl, q.2⟩), ?_⟩
    rintro z u2 b m2 ⟨rfl, hx⟩ ⟨rfl, J', ho, hq⟩
    have hR2 : zRep u2 AD (cR cs AD nb tn FF GF tt nd de so si ca bs nw tw pw mw rl cw xw ew hd al (va_up se k (se k + zTotal (bo k) (V k) (hd k) (se k) 10)) bo rb pe me re cr xt en tx V P ST brt ny wd ag us ai ab AP) := by
      refine hR.put [((30, k, 0), (.inr (5, [.ref (AD (31, k, 0)), .ref (AD (32, k, 0)), .ref (AD (33, k, 0)), .int (nI (hd k)), .long (se k + zTotal (bo k) (V k) (hd k) (se k) 10)])))] hx (zall1 ⟨_, cR_30 hk⟩ zall0) (cR_cases ?_ ?_ ?_ ?_ ?_ ?_ ?_ ?_ ?_ ?_ ?_ ?_ ?_ ?_ ?_ ?_ ?_ ?_)
      · exact Or.inr ⟨cR_0, (zall1 (fun z => absurd (show (0 : Nat) = 30 from congrArg Prod.fst z) (by decide)) zall0)⟩
      · exact Or.inr ⟨cR_1, (zall1 (fun z => absurd (show (1 : Nat) = 30 from congrArg Prod.fst z) (by decide)) zall0)⟩
      · exact Or.inr ⟨cR_2, (zall1 (fun z => absurd (show (2 : Nat) = 30 from congrArg Prod.fst z) (by decide)) zall0)⟩
      · exact Or.inr ⟨cR_3, (zall1 (fun z => absurd (show (3 : Nat) = 30 from congrArg Prod.fst z) (by decide)) zall0)⟩
      · exact Or.inr ⟨cR_4, (zall1 (fun z => absurd (show (4 : Nat) = 30 from congrArg Prod.fst z) (by decide)) zall0)⟩
      · exact Or.inr ⟨cR_5, (zall1 (fun z => absurd (show (5 : Nat) = 30 from congrArg Prod.fst z) (by decide)) zall0)⟩
      · exact fun k hk => Or.inr ⟨cR_10 hk, (zall1 (fun z => absurd (show (10 : Nat) = 30 from congrArg Prod.fst z) (by decide)) zall0)⟩
      · exact fun k hk => Or.inr ⟨cR_11 hk, (zall1 (fun z => absurd (show (11 : Nat) = 30 from congrArg Prod.fst z) (by decide)) zall0)⟩
      · exact fun k hk => Or.inr ⟨cR_12 hk, (zall1 (fun z => absurd (show (12 : Nat) = 30 from congrArg Prod.fst z) (by decide)) zall0)⟩
      · exact fun k hk => Or.inr ⟨cR_20 hk, (zall1 (fun z => absurd (show (20 : Nat) = 30 from congrArg Prod.fst z) (by decide)) zall0)⟩
      · intro j hj
        by_cases q : j = k
        · subst q
          refine Or.inl ?_
          rw [va_up_self]
          exact List.mem_of_getElem? (i := 0) rfl
        · refine Or.inr ⟨?_, (zall1 (fun z => q (congrArg (fun r : Nat × Nat × Nat => r.2.1) z)) zall0)⟩
          rw [va_up_ne _ _ q]
          exact cR_30 hj
      · exact fun k hk => Or.inr ⟨cR_31 hk, (zall1 (fun z => absurd (show (31 : Nat) = 30 from congrArg Prod.fst z) (by decide)) zall0)⟩
      · exact fun k hk => Or.inr ⟨cR_32 hk, (zall1 (fun z => absurd (show (32 : Nat) = 30 from congrArg Prod.fst z) (by decide)) zall0)⟩
      · exact fun k hk => Or.inr ⟨cR_33 hk, (zall1 (fun z => absurd (show (33 : Nat) = 30 from congrArg Prod.fst z) (by decide)) zall0)⟩
      · exact fun k i hk hi => Or.inr ⟨cR_40 hk hi, (zall1 (fun z => absurd (show (40 : Nat) = 30 from congrArg Prod.fst z) (by decide)) zall0)⟩
      · exact fun k i hk hi => Or.inr ⟨cR_41 hk hi, (zall1 (fun z => absurd (show (41 : Nat) = 30 from congrArg Prod.fst z) (by decide)) zall0)⟩
      · exact fun k i hk hi => Or.inr ⟨cR_42 hk hi, (zall1 (fun z => absurd (show (42 : Nat) = 30 from congrArg Prod.fst z) (by decide)) zall0)⟩
      · exact fun k i hk hi => Or.inr ⟨cR_43 hk hi, (zall1 (fun z => absurd (show (43 : Nat) = 30 from congrArg Prod.fst z) (by decide)) zall0)⟩
    have hr1 := hr.out ho
    have e20' : J' 20 = J 20 := ho 20 (by decide)
    have hr2 : mRel (va_up J' 20 (vp_updL (J' 20) k (J' 20 k + zTotal (bo k) (V k) (hd k) (J 20 k) 10))) K nb tn FF GF tt nd de so si ca bs nw tw pw mw rl cw xw ew hd al (va_up se k (se k + zTotal (bo k) (V k) (hd k) (se k) 10)) bo rb pe me re cr xt en tx V P ST brt ny wd := by
      refine ⟨hr1.1, hr1.2.1, hr1.2.2.1, hr1.2.2.2.1, hr1.2.2.2.2.1, hr1.2.2.2.2.2.1, ?_, ?_, hr1.2.2.2.2.2.2.2.2⟩
      · intro j hj
        have q := hr1.2.2.2.2.2.2.1 j hj
        refine ⟨q.1, q.2.1, q.2.2.1, q.2.2.2.1, q.2.2.2.2.1, q.2.2.2.2.2.1, q.2.2.2.2.2.2.1, ?_⟩
        show vp_updL (J' 20) k _ j = va_up se k _ j
        by_cases c : j = k
        · subst c
          rw [vpL_self, va_up_self, e20', e20]
        · rw [vpL_ne _ _ c, va_up_ne _ _ c]
          exact q.2.2.2.2.2.2.2
      · intro j h1 h2
        have q := hr1.2.2.2.2.2.2.2.1 j h1 h2
        refine ⟨q.1, q.2.1, q.2.2.1, q.2.2.2.1, q.2.2.2.2.1, ?_⟩
        show vp_updL (J' 20) k _ j = 0
        rw [vpL_ne _ _ (by omega)]
        exact q.2.2.2.2.2
    exact ⟨by rw [e20], ⟨_, _, _, _, _, _, _, hq.1⟩, zInv.mk hR2 rfl hq.1 hinj hq.2.1 hr2 hp⟩
  · refine Or.inr ⟨0, _, 3, 1, 6, 3, fun _ m2 => zMQ cs um m2 ad mm (mo ad 1 (nI nb) (nI nd) (nI nw) brt (nI ny) wd) J K, by decide, by decide, by decide, by decide, rfl, fun sz => (t1_X6_settle l D cs uc sz _ _ _ _ _ _ _ _ _ _ _ _ _ _ _ _ _ _ _ _ _ _ _ _ _ _ _ _ hlst hW hx9 hf hwr), fun sz => ((t1_X7_settle l D cs um sz _ _ _ _ _ _ _ _ _ _ _ _ hinj hM hp.2.2.1 hx9 hm)).to (fun r w2 q => ⟨_, q.1, q.2⟩), ?_⟩
    rintro b m2 hq
    exact ⟨⟨_, _, _, _, _, _, _, hq.1⟩, zInv.m hR hinj hr hp hq mOut.refl⟩

set_option maxHeartbeats 4000000 in
theorem zOp_enrol (l : Launch) (D : va_G) (cs : Nat → ClassId) (hlst : l.stackTraces = false) {xo mm : Nat} {uc um : zw} (h : zInv cs xo mm uc um) (x y on : Int32) : zBoth (fun z : Int32 => some (.int z)) (fun z : Int32 => some (.int z)) (fun z : Int32 => if z = 0 then 0 else 1) (fun z : Int32 => if z = 0 then 0 else 1) l D cs yX6_enrol wsX6_enrol yX7_enrol wsX7_enrol xo mm uc um [.int x, .int y, .int on] ["java/lang/IndexOutOfBoundsException"] := by
  obtain ⟨AD, ad, J, K, th, nb, tn, FF, GF, tt, nd, de, so, si, ca, bs, nw, tw, pw, mw, rl, cw, xw, ew, hd, al, se, bo, rb, pe, me, re, cr, xt, en, tx, V, P, ST, brt, ny, wd, ag, us, ai, ab, AP, hR, rfl, hm, hinj, hM, hr, hp⟩ := h
  have hW := hR.wks hp
  have hf := hR.1 _ _ cR_0
  have htr := hR.1 _ _ cR_1
  have hdr := hR.1 _ _ cR_2
  have hwr := hR.1 _ _ cR_3
  have ha := hR.1 _ _ cR_4
  have hapc := hR.1 _ _ cR_5
  have hT : zArrN 6 _ (fun k => AD (10, k, 0)) nb := zArrIf hp.1
  have hD : zArrN 8 _ (fun k => AD (20, k, 0)) nd := zArrIf hp.2.1
  have hWn : zArrN 10 _ (fun k => AD (30, k, 0)) nw := zArrIf hp.2.2.1
  have hDs := hR.deds hp
  have hTb := hR.tabs hp
  rcases zIdx x nw with ⟨k, hk, rfl⟩ | hx9
  · rcases zIdx y nd with ⟨d, hd9, rfl⟩ | hy9
    · have e15 := (hr.2.2.2.2.2.2.1 k hk).2.2.2.1
      by_cases hon : zHas (ew k) (nI d) = on
      · refine Or.inl ⟨1, 0, 0, 3, fun z u2 => z = (0 : Int32) ∧ u2 = uc, fun b m2 => b = (0 : Int32) ∧ zMQ cs um m2 ad mm (mo ad 0 (nI nb) (nI nd) (nI nw) brt (nI ny) wd) J K, by decide, by decide, by decide, by decide, fun sz => ((c_X6_enrol_same l D cs uc sz _ _ _ _ _ _ _ _ _ _ _ _ _ _ _ _ _ _ _ _ _ _ _ _ _ _ _ _ _ _ _ _ ((some (AD (10, tw k, 0)))) _ _ _ _ _ _ _ hW hD hk hd9 hon hf hwr hdr ((hR.1 _ _ (cR_31 hk))))).to (fun r w2 q => ⟨_, q.1, rfl, q.2⟩), fun sz => ((c1_X7_enrol l D cs um sz _ _ _ _ _ _ _ _ _ _ _ _ _ _ hinj hM hp.2.2.1 hk hp.2.1 hd9 ((by rw [e15]; exact hon)) hm)).to (fun r w2 q => ⟨_, q.1, rfl, q.2⟩), ?_⟩
        rintro z u2 b m2 ⟨rfl, rfl⟩ ⟨rfl, hq⟩
        exact ⟨rfl, ⟨_, _, _, _, _, _, _, hq.1⟩, zInv.m hR hinj hr hp hq mOut.refl⟩
      · refine Or.inl ⟨1, 0, 0, 3, fun z u2 => z = (1 : Int32) ∧ zEx uc u2 [(AD (31, k, 0), (.inr (4, [.ref (AD (10, (tw k), 0)), .int (pw k), .int (mw k), .long (rl k), .long (cw k), .long (xw k), .int (ew k ^^^ (1 <<< (nI d &&& 31)))])))], fun b m2 => b = (1 : Int32) ∧ zMQ cs um m2 ad mm (mo ad 0 (nI nb) (nI nd) (nI nw) brt (nI ny) wd) J (va_up K 15 (upd (K 15) k (K 15 k ^^^ (1 <<< (nI d &&& 31))))), by decide, by decide, by decide, by decide, fun sz => ((c_X6_enrol_other l D cs uc sz _ _ _ _ _ _ _ _ _ _ _ _ _ _ _ _ _ _ _ _ _ _ _ _ _ _ _ _ _ _ _ _ ((some (AD (10, tw k, 0)))) _ _ _ _ _ _ _ hW hD hk hd9 hon hf hwr hdr ((hR.1 _ _ (cR_31 hk))))).to (fun r w2 q => ⟨_, q.1, rfl, q.2⟩), fun sz => ((c2_X7_enrol l D cs um sz _ _ _ _ _ _ _ _ _ _ _ _ _ _ hinj hM hp.2.2.1 hk hp.2.1 hd9 ((by rw [e15]; exact hon)) hm)).to (fun r w2 q => ⟨_, q.1, rfl, q.2⟩), ?_⟩
        rintro z u2 b m2 ⟨rfl, hx⟩ ⟨rfl, hq⟩
        have hR2 : zRep u2 AD (cR cs AD nb tn FF GF tt nd de so si ca bs nw tw pw mw rl cw xw (va_up ew k (ew k ^^^ (1 <<< (nI d &&& 31)))) hd al se bo rb pe me re cr xt en tx V P ST brt ny wd ag us ai ab AP) := by
          refine hR.put [((31, k, 0), (.inr (4, [.ref (AD (10, (tw k), 0)), .int (pw k), .int (mw k), .long (rl k), .long (cw k), .long (xw k), .int (ew k ^^^ (1 <<< (nI d &&& 31)))])))] hx (zall1 ⟨_, cR_31 hk⟩ zall0) (cR_cases ?_ ?_ ?_ ?_ ?_ ?_ ?_ ?_ ?_ ?_ ?_ ?_ ?_ ?_ ?_ ?_ ?_ ?_)
          · exact Or.inr ⟨cR_0, (zall1 (fun z => absurd (show (0 : Nat) = 31 from congrArg Prod.fst z) (by decide)) zall0)⟩
          · exact Or.inr ⟨cR_1, (zall1 (fun z => absurd (show (1 : Nat) = 31 from congrArg Prod.fst z) (by decide)) zall0)⟩
          · exact Or.inr ⟨cR_2, (zall1 (fun z => absurd (show (2 : Nat) = 31 from congrArg Prod.fst z) (by decide)) zall0)⟩
          · exact Or.inr ⟨cR_3, (zall1 (fun z => absurd (show (3 : Nat) = 31 from congrArg Prod.fst z) (by decide)) zall0)⟩
          · exact Or.inr ⟨cR_4, (zall1 (fun z => absurd (show (4 : Nat) = 31 from congrArg Prod.fst z) (by decide)) zall0)⟩
          · exact Or.inr ⟨cR_5, (zall1 (fun z => absurd (show (5 : Nat) = 31 from congrArg Prod.fst z) (by decide)) zall0)⟩
          · exact fun k hk => Or.inr ⟨cR_10 hk, (zall1 (fun z => absurd (show (10 : Nat) = 31 from congrArg Prod.fst z) (by decide)) zall0)⟩
          · exact fun k hk => Or.inr ⟨cR_11 hk, (zall1 (fun z => absurd (show (11 : Nat) = 31 from congrArg Prod.fst z) (by decide)) zall0)⟩
          · exact fun k hk => Or.inr ⟨cR_12 hk, (zall1 (fun z => absurd (show (12 : Nat) = 31 from congrArg Prod.fst z) (by decide)) zall0)⟩
          · exact fun k hk => Or.inr ⟨cR_20 hk, (zall1 (fun z => absurd (show (20 : Nat) = 31 from congrArg Prod.fst z) (by decide)) zall0)⟩
          · exact fun k hk => Or.inr ⟨cR_30 hk, (zall1 (fun z => absurd (show (30 : Nat) = 31 from congrArg Prod.fst z) (by decide)) zall0)⟩
          · intro j hj
            by_cases q : j = k
            · subst q
              refine Or.inl ?_
              rw [va_up_self]
              exact List.mem_of_getElem? (i := 0) rfl
            · refine Or.inr ⟨?_, (zall1 (fun z => q (congrArg (fun r : Nat × Nat × Nat => r.2.1) z)) zall0)⟩
              rw [va_up_ne _ _ q]
              exact cR_31 hj
          · exact fun k hk => Or.inr ⟨cR_32 hk, (zall1 (fun z => absurd (show (32 : Nat) = 31 from congrArg Prod.fst z) (by decide)) zall0)⟩
          · exact fun k hk => Or.inr ⟨cR_33 hk, (zall1 (fun z => absurd (show (33 : Nat) = 31 from congrArg Prod.fst z) (by decide)) zall0)⟩
          · exact fun k i hk hi => Or.inr ⟨cR_40 hk hi, (zall1 (fun z => absurd (show (40 : Nat) = 31 from congrArg Prod.fst z) (by decide)) zall0)⟩
          · exact fun k i hk hi => Or.inr ⟨cR_41 hk hi, (zall1 (fun z => absurd (show (41 : Nat) = 31 from congrArg Prod.fst z) (by decide)) zall0)⟩
          · exact fun k i hk hi => Or.inr ⟨cR_42 hk hi, (zall1 (fun z => absurd (show (42 : Nat) = 31 from congrArg Prod.fst z) (by decide)) zall0)⟩
          · exact fun k i hk hi => Or.inr ⟨cR_43 hk hi, (zall1 (fun z => absurd (show (43 : Nat) = 31 from congrArg Prod.fst z) (by decide)) zall0)⟩
        have hr2 : mRel J (va_up K 15 (upd (K 15) k (K 15 k ^^^ (1 <<< (nI d &&& 31))))) nb tn FF GF tt nd de so si ca bs nw tw pw mw rl cw xw (va_up ew k (ew k ^^^ (1 <<< (nI d &&& 31)))) hd al se bo rb pe me re cr xt en tx V P ST brt ny wd := by
          refine ⟨hr.1, hr.2.1, hr.2.2.1, hr.2.2.2.1, hr.2.2.2.2.1, hr.2.2.2.2.2.1, ?_, ?_, hr.2.2.2.2.2.2.2.2⟩
          · intro j hj
            have q := hr.2.2.2.2.2.2.1 j hj
            refine ⟨q.1, q.2.1, q.2.2.1, ?_, q.2.2.2.2.1, q.2.2.2.2.2.1, q.2.2.2.2.2.2.1, q.2.2.2.2.2.2.2⟩
            show upd (K 15) k _ j = va_up ew k _ j
            by_cases c : j = k
            · subst c
              rw [up_self, va_up_self, e15]
            · rw [up_ne _ _ c, va_up_ne _ _ c]
              exact q.2.2.2.1
          · intro j h1 h2
            have q := hr.2.2.2.2.2.2.2.1 j h1 h2
            refine ⟨?_, q.2.1, q.2.2.1, q.2.2.2.1, q.2.2.2.2.1, q.2.2.2.2.2⟩
            show upd (K 15) k _ j = 0
            rw [up_ne _ _ (by omega)]
            exact q.1
        have hp2 : zPure nb tn FF GF tt nd de so si ca bs nw tw pw mw rl cw xw (va_up ew k (ew k ^^^ (1 <<< (nI d &&& 31)))) hd al se bo rb pe me re cr xt en tx V P ST brt ny wd := by
          refine ⟨hp.1, hp.2.1, hp.2.2.1, hp.2.2.2.1, hp.2.2.2.2.1, hp.2.2.2.2.2.1, hp.2.2.2.2.2.2.1, ?_, hp.2.2.2.2.2.2.2.2⟩
          intro j hj
          have q := hp.2.2.2.2.2.2.2.1 j hj
          refine ⟨q.1, q.2.1, q.2.2.1, q.2.2.2.1, q.2.2.2.2.1, q.2.2.2.2.2.1, ?_, q.2.2.2.2.2.2.2.1, q.2.2.2.2.2.2.2.2.1, q.2.2.2.2.2.2.2.2.2.1, q.2.2.2.2.2.2.2.2.2.2⟩
          intro e h1 h2
          by_cases c : j = k
          · subst c
            rw [va_up_self]
            exact zHas_xor (by omega) (by omega) (by omega) (q.2.2.2.2.2.2.1 e h1 h2)
          · rw [va_up_ne _ _ c]
            exact q.2.2.2.2.2.2.1 e h1 h2
        exact ⟨rfl, ⟨_, _, _, _, _, _, _, hq.1⟩, zInv.mk hR2 rfl hq.1 hinj hq.2.1 hr2 hp2⟩
    · refine Or.inr ⟨0, _, 1, 1, 6, 3, fun _ m2 => zMQ cs um m2 ad mm (mo ad 1 (nI nb) (nI nd) (nI nw) brt (nI ny) wd) J K, by decide, by decide, by decide, by decide, rfl, fun sz => (t2_X6_enrol l D cs uc sz _ _ _ _ _ _ _ _ _ _ _ _ _ _ _ _ _ _ _ _ _ _ _ _ _ _ _ _ _ _ _ _ _ hlst hW hD hk hy9 hf hwr hdr), fun sz => ((t2_X7_enrol l D cs um sz _ _ _ _ _ _ _ _ _ _ _ _ _ _ hinj hM hp.2.2.1 hk hp.2.1 hy9 hm)).to (fun r w2 q => ⟨_, q.1, q.2⟩), ?_⟩
      rintro b m2 hq
      exact ⟨⟨_, _, _, _, _, _, _, hq.1⟩, zInv.m hR hinj hr hp hq mOut.refl⟩
  · refine Or.inr ⟨0, _, 1, 1, 6, 3, fun _ m2 => zMQ cs um m2 ad mm (mo ad 1 (nI nb) (nI nd) (nI nw) brt (nI ny) wd) J K, by decide, by decide, by decide, by decide, rfl, fun sz => (t1_X6_enrol l D cs uc sz _ _ _ _ _ _ _ _ _ _ _ _ _ _ _ _ _ _ _ _ _ _ _ _ _ _ _ _ _ _ hlst hW hx9 hf hwr), fun sz => ((t1_X7_enrol l D cs um sz _ _ _ _ _ _ _ _ _ _ _ _ _ _ hinj hM hp.2.2.1 hx9 hm)).to (fun r w2 q => ⟨_, q.1, q.2⟩), ?_⟩
    rintro b m2 hq
    exact ⟨⟨_, _, _, _, _, _, _, hq.1⟩, zInv.m hR hinj hr hp hq mOut.refl⟩

theorem zPer_b {v : Int64} (h : zPerB v = 1) : 1 ≤ v.toInt32.toInt ∧ v.toInt32.toInt ≤ 52 := by
  unfold zPerB at h
  by_cases c : ∃ j : Nat, j < 8 ∧ (zPer j).toInt64 = v
  · obtain ⟨j, hj, rfl⟩ := c
    rcases (show j = 0 ∨ j = 1 ∨ j = 2 ∨ j = 3 ∨ j = 4 ∨ j = 5 ∨ j = 6 ∨ j = 7 by omega) with q | q | q | q | q | q | q | q <;> subst q <;> decide +kernel
  · rw [zB_f c] at h
    cases h
theorem zIdxL (v : Int64) (n : Nat) : (∃ k : Nat, k < n ∧ v = lN k) ∨ ∀ k : Nat, k < n → v ≠ lN k := by
  by_cases c : ∃ k : Nat, k < n ∧ v = lN k
  · exact Or.inl c
  · exact Or.inr (fun k hk e => c ⟨k, hk, e⟩)
theorem zCan_w {what : Int32} {v : Int64} (h : zCanB what v = 1) : what = 0 ∨ what = 1 ∨ what = 2 ∨ what = 3 ∨ what = 5 := by
  unfold zCanB at h
  by_cases c0 : what = 0
  · exact Or.inl c0
  rw [if_neg c0] at h
  by_cases c1 : what = 1 ∨ what = 2
  · exact c1.elim (fun q => Or.inr (Or.inl q)) (fun q => Or.inr (Or.inr (Or.inl q)))
  rw [if_neg c1] at h
  by_cases c3 : what = 3
  · exact Or.inr (Or.inr (Or.inr (Or.inl c3)))
  rw [if_neg c3] at h
  by_cases c5 : what = 5
  · exact Or.inr (Or.inr (Or.inr (Or.inr c5)))
  rw [if_neg c5] at h
  cases h
theorem zPutT_0 {t : Value} {pe me : Int32} {re cr ex : Int64} {en : Int32} {v : Int64} : zPutT t pe me re cr ex en 0 v = [t, .int (pe), .int (v.toInt32), .long (re), .long (cr), .long (ex), .int en] := by
  unfold zPutT
  rw [if_neg (by decide), if_pos rfl, if_neg (by decide), if_neg (by decide), if_neg (by decide)]
theorem zPutT_1 {t : Value} {pe me : Int32} {re cr ex : Int64} {en : Int32} {v : Int64} : zPutT t pe me re cr ex en 1 v = [t, .int (pe), .int (me), .long (v), .long (cr), .long (ex), .int en] := by
  unfold zPutT
  rw [if_neg (by decide), if_neg (by decide), if_pos rfl, if_neg (by decide), if_neg (by decide)]
theorem zPutT_2 {t : Value} {pe me : Int32} {re cr ex : Int64} {en : Int32} {v : Int64} : zPutT t pe me re cr ex en 2 v = [t, .int (pe), .int (me), .long (re), .long (v), .long (ex), .int en] := by
  unfold zPutT
  rw [if_neg (by decide), if_neg (by decide), if_neg (by decide), if_pos rfl, if_neg (by decide)]
theorem zPutT_3 {t : Value} {pe me : Int32} {re cr ex : Int64} {en : Int32} {v : Int64} : zPutT t pe me re cr ex en 3 v = [t, .int (pe), .int (me), .long (re), .long (cr), .long (v), .int en] := by
  unfold zPutT
  rw [if_neg (by decide), if_neg (by decide), if_neg (by decide), if_neg (by decide), if_pos rfl]
theorem zPutT_5 {t : Value} {pe me : Int32} {re cr ex : Int64} {en : Int32} {v : Int64} : zPutT t pe me re cr ex en 5 v = [t, .int (v.toInt32), .int (me), .long (re), .long (cr), .long (ex), .int en] := by
  unfold zPutT
  rw [if_pos rfl, if_neg (by decide), if_neg (by decide), if_neg (by decide), if_neg (by decide)]
set_option maxHeartbeats 4000000 in
theorem zOp_change (l : Launch) (D : va_G) (cs : Nat → ClassId) (hlst : l.stackTraces = false) {xo mm : Nat} {uc um : zw} (h : zInv cs xo mm uc um) (x what : Int32) (v : Int64) : zBoth (fun _ : Unit => none) (fun _ : Unit => none) (fun _ : Unit => 0) (fun _ : Unit => 0) l D cs yX6_change wsX6_change yX7_change wsX7_change xo mm uc um [.int x, .int what, .long v] ["java/lang/IndexOutOfBoundsException", "java/lang/IllegalArgumentException"] := by
  obtain ⟨AD, ad, J, K, th, nb, tn, FF, GF, tt, nd, de, so, si, ca, bs, nw, tw, pw, mw, rl, cw, xw, ew, hd, al, se, bo, rb, pe, me, re, cr, xt, en, tx, V, P, ST, brt, ny, wd, ag, us, ai, ab, AP, hR, rfl, hm, hinj, hM, hr, hp⟩ := h
  have hW := hR.wks hp
  have hf := hR.1 _ _ cR_0
  have htr := hR.1 _ _ cR_1
  have hdr := hR.1 _ _ cR_2
  have hwr := hR.1 _ _ cR_3
  have ha := hR.1 _ _ cR_4
  have hapc := hR.1 _ _ cR_5
  have hT : zArrN 6 _ (fun k => AD (10, k, 0)) nb := zArrIf hp.1
  have hD : zArrN 8 _ (fun k => AD (20, k, 0)) nd := zArrIf hp.2.1
  have hWn : zArrN 10 _ (fun k => AD (30, k, 0)) nw := zArrIf hp.2.2.1
  have hDs := hR.deds hp
  have hTb := hR.tabs hp
  rcases zIdx x nw with ⟨k, hk, rfl⟩ | hx9
  · by_cases h4 : what = 4
    · subst h4
      rcases zIdxL v nb with ⟨t, ht, rfl⟩ | hv9
      · refine Or.inl ⟨3, 0, 0, 3, fun _ u2 => zEx uc u2 [(AD (10, t, 0), (.inr (3, [.ref (AD (11, t, 0)), .ref (AD (12, t, 0)), .int (nI (tn t)), .int 1]))), (AD (31, k, 0), (.inr (4, [.ref (AD (10, t, 0)), .int (pw k), .int (mw k), .long (rl k), .long (cw k), .long (xw k), .int (ew k)])))], fun _ m2 => zMQ cs um m2 ad mm (mo ad 0 (nI nb) (nI nd) (nI nw) brt (nI ny) wd) J (va_up (va_up K 12 (upd (K 12) k (nI t))) 4 (upd (K 4) t 1)), by decide, by decide, by decide, by decide, fun sz => ((c_X6_change_table l D cs uc sz _ _ _ _ _ _ _ _ _ _ _ _ _ _ _ _ _ _ _ _ _ _ _ _ _ _ _ _ ((some (AD (10, tw k, 0)))) _ _ _ _ _ _ _ _ _ _ _ _ _ _ hW hT hk ht hf hwr ((hR.1 _ _ (cR_31 hk))) htr ((hR.1 _ _ (cR_10 ht))))).to (fun r w2 q => ⟨(), q.1, q.2⟩), fun sz => ((c4_X7_change l D cs um sz _ _ _ _ _ _ _ _ _ _ _ _ _ hinj hM hp.2.2.1 hk hp.1 ht hm)).to (fun r w2 q => ⟨(), q.1, q.2⟩), ?_⟩
        rintro z u2 b m2 hx hq
        have hR2 : zRep u2 AD (cR cs AD nb tn FF GF (va_up tt t 1) nd de so si ca bs nw (va_up tw k t) pw mw rl cw xw ew hd al se bo rb pe me re cr xt en tx V P ST brt ny wd ag us ai ab AP) := by
          refine hR.put [((10, t, 0), (.inr (3, [.ref (AD (11, t, 0)), .ref (AD (12, t, 0)), .int (nI (tn t)), .int 1]))), ((31, k, 0), (.inr (4, [.ref (AD (10, t, 0)), .int (pw k), .int (mw k), .long (rl k), .long (cw k), .long (xw k), .int (ew k)])))] hx (zall1 ⟨_, cR_10 ht⟩ (zall1 ⟨_, cR_31 hk⟩ zall0)) (cR_cases ?_ ?_ ?_ ?_ ?_ ?_ ?_ ?_ ?_ ?_ ?_ ?_ ?_ ?_ ?_ ?_ ?_ ?_)
          · exact Or.inr ⟨cR_0, (zall1 (fun z => absurd (show (0 : Nat) = 10 from congrArg Prod.fst z) (by decide)) (zall1 (fun z => absurd (show (0 : Nat) = 31 from congrArg Prod.fst z) (by decide)) zall0))⟩
          · exact Or.inr ⟨cR_1, (zall1 (fun z => absurd (show (1 : Nat) = 10 from congrArg Prod.fst z) (by decide)) (zall1 (fun z => absurd (show (1 : Nat) = 31 from congrArg Prod.fst z) (by decide)) zall0))⟩
          · exact Or.inr ⟨cR_2, (zall1 (fun z => absurd (show (2 : Nat) = 10 from congrArg Prod.fst z) (by decide)) (zall1 (fun z => absurd (show (2 : Nat) = 31 from congrArg Prod.fst z) (by decide)) zall0))⟩
          · exact Or.inr ⟨cR_3, (zall1 (fun z => absurd (show (3 : Nat) = 10 from congrArg Prod.fst z) (by decide)) (zall1 (fun z => absurd (show (3 : Nat) = 31 from congrArg Prod.fst z) (by decide)) zall0))⟩
          · exact Or.inr ⟨cR_4, (zall1 (fun z => absurd (show (4 : Nat) = 10 from congrArg Prod.fst z) (by decide)) (zall1 (fun z => absurd (show (4 : Nat) = 31 from congrArg Prod.fst z) (by decide)) zall0))⟩
          · exact Or.inr ⟨cR_5, (zall1 (fun z => absurd (show (5 : Nat) = 10 from congrArg Prod.fst z) (by decide)) (zall1 (fun z => absurd (show (5 : Nat) = 31 from congrArg Prod.fst z) (by decide)) zall0))⟩
          · intro j hj
            by_cases q : j = t
            · subst q
              refine Or.inl ?_
              rw [va_up_self]
              exact List.mem_of_getElem? (i := 0) rfl
            · refine Or.inr ⟨?_, (zall1 (fun z => q (congrArg (fun r : Nat × Nat × Nat => r.2.1) z)) (zall1 (fun z => absurd (show (10 : Nat) = 31 from congrArg Prod.fst z) (by decide)) zall0))⟩
              rw [va_up_ne _ _ q]
              exact cR_10 hj
          · exact fun k hk => Or.inr ⟨cR_11 hk, (zall1 (fun z => absurd (show (11 : Nat) = 10 from congrArg Prod.fst z) (by decide)) (zall1 (fun z => absurd (show (11 : Nat) = 31 from congrArg Prod.fst z) (by decide)) zall0))⟩
          · exact fun k hk => Or.inr ⟨cR_12 hk, (zall1 (fun z => absurd (show (12 : Nat) = 10 from congrArg Prod.fst z) (by decide)) (zall1 (fun z => absurd (show (12 : Nat) = 31 from congrArg Prod.fst z) (by decide)) zall0))⟩
          · exact fun k hk => Or.inr ⟨cR_20 hk, (zall1 (fun z => absurd (show (20 : Nat) = 10 from congrArg Prod.fst z) (by decide)) (zall1 (fun z => absurd (show (20 : Nat) = 31 from congrArg Prod.fst z) (by decide)) zall0))⟩
          · exact fun k hk => Or.inr ⟨cR_30 hk, (zall1 (fun z => absurd (show (30 : Nat) = 10 from congrArg Prod.fst z) (by decide)) (zall1 (fun z => absurd (show (30 : Nat) = 31 from congrArg Prod.fst z) (by decide)) zall0))⟩
          · intro j hj
            by_cases q : j = k
            · subst q
              refine Or.inl ?_
              rw [va_up_self]
              exact List.mem_of_getElem? (i := 1) rfl
            · refine Or.inr ⟨?_, (zall1 (fun z => absurd (show (31 : Nat) = 10 from congrArg Prod.fst z) (by decide)) (zall1 (fun z => q (congrArg (fun r : Nat × Nat × Nat => r.2.1) z)) zall0))⟩
              rw [va_up_ne _ _ q]
              exact cR_31 hj
          · exact fun k hk => Or.inr ⟨cR_32 hk, (zall1 (fun z => absurd (show (32 : Nat) = 10 from congrArg Prod.fst z) (by decide)) (zall1 (fun z => absurd (show (32 : Nat) = 31 from congrArg Prod.fst z) (by decide)) zall0))⟩
          · exact fun k hk => Or.inr ⟨cR_33 hk, (zall1 (fun z => absurd (show (33 : Nat) = 10 from congrArg Prod.fst z) (by decide)) (zall1 (fun z => absurd (show (33 : Nat) = 31 from congrArg Prod.fst z) (by decide)) zall0))⟩
          · exact fun k i hk hi => Or.inr ⟨cR_40 hk hi, (zall1 (fun z => absurd (show (40 : Nat) = 10 from congrArg Prod.fst z) (by decide)) (zall1 (fun z => absurd (show (40 : Nat) = 31 from congrArg Prod.fst z) (by decide)) zall0))⟩
          · exact fun k i hk hi => Or.inr ⟨cR_41 hk hi, (zall1 (fun z => absurd (show (41 : Nat) = 10 from congrArg Prod.fst z) (by decide)) (zall1 (fun z => absurd (show (41 : Nat) = 31 from congrArg Prod.fst z) (by decide)) zall0))⟩
          · exact fun k i hk hi => Or.inr ⟨cR_42 hk hi, (zall1 (fun z => absurd (show (42 : Nat) = 10 from congrArg Prod.fst z) (by decide)) (zall1 (fun z => absurd (show (42 : Nat) = 31 from congrArg Prod.fst z) (by decide)) zall0))⟩
          · exact fun k i hk hi => Or.inr ⟨cR_43 hk hi, (zall1 (fun z => absurd (show (43 : Nat) = 10 from congrArg Prod.fst z) (by decide)) (zall1 (fun z => absurd (show (43 : Nat) = 31 from congrArg Prod.fst z) (by decide)) zall0))⟩
        have htt : ∀ j : Nat, tt j = 1 → va_up tt t 1 j = 1 := fun j hj => by
          by_cases c : j = t
          · rw [c, va_up_self]
          · rw [va_up_ne _ _ c]
            exact hj
        have hr2 : mRel J (va_up (va_up K 12 (upd (K 12) k (nI t))) 4 (upd (K 4) t 1)) nb tn FF GF (va_up tt t 1) nd de so si ca bs nw (va_up tw k t) pw mw rl cw xw ew hd al se bo rb pe me re cr xt en tx V P ST brt ny wd := by
          refine ⟨hr.1, hr.2.1, hr.2.2.1, hr.2.2.2.1, (fun j hj => by
            show upd (K 4) t 1 j = va_up tt t 1 j
            by_cases c : j = t
            · rw [c, up_self, va_up_self]
            · rw [up_ne _ _ c, va_up_ne _ _ c]
              exact hr.2.2.2.2.1 j hj), (fun j h1 h2 => ⟨(hr.2.2.2.2.2.1 j h1 h2).1, by show upd (K 4) t 1 j = 0; rw [up_ne _ _ (by omega)]; exact (hr.2.2.2.2.2.1 j h1 h2).2⟩), ?_, hr.2.2.2.2.2.2.2.1, hr.2.2.2.2.2.2.2.2⟩
          · intro j hj
            have q := hr.2.2.2.2.2.2.1 j hj
            refine ⟨?_, q.2.1, q.2.2.1, q.2.2.2.1, q.2.2.2.2.1, q.2.2.2.2.2.1, q.2.2.2.2.2.2.1, q.2.2.2.2.2.2.2⟩
            show upd (K 12) k (nI t) j = nI (va_up tw k t j)
            by_cases c : j = k
            · subst c
              rw [up_self, va_up_self]
            · rw [up_ne _ _ c, va_up_ne _ _ c]
              exact q.1
        have hp2 : zPure nb tn FF GF (va_up tt t 1) nd de so si ca bs nw (va_up tw k t) pw mw rl cw xw ew hd al se bo rb pe me re cr xt en tx V P ST brt ny wd := by
          refine ⟨hp.1, hp.2.1, hp.2.2.1, hp.2.2.2.1, hp.2.2.2.2.1, (fun j hj => ⟨(hp.2.2.2.2.2.1 j hj).1, (hp.2.2.2.2.2.1 j hj).2.1, by
            by_cases c : j = t
            · rw [c, va_up_self]
              exact Or.inr rfl
            · rw [va_up_ne _ _ c]
              exact (hp.2.2.2.2.2.1 j hj).2.2⟩), hp.2.2.2.2.2.2.1, ?_, hp.2.2.2.2.2.2.2.2⟩
          intro j hj
          have q := hp.2.2.2.2.2.2.2.1 j hj
          refine ⟨?_, ?_, q.2.2.1, q.2.2.2.1, q.2.2.2.2.1, q.2.2.2.2.2.1, q.2.2.2.2.2.2.1, q.2.2.2.2.2.2.2.1, q.2.2.2.2.2.2.2.2.1, ?_, q.2.2.2.2.2.2.2.2.2.2⟩
          · by_cases c : j = k
            · rw [c, va_up_self]
              exact ht
            · rw [va_up_ne _ _ c]
              exact q.1
          · by_cases c : j = k
            · rw [c, va_up_self, va_up_self]
            · rw [va_up_ne (k := k) _ _ c]
              exact htt _ q.2.1
          · exact fun n hn => ⟨(q.2.2.2.2.2.2.2.2.2.1 n hn).1, htt _ (q.2.2.2.2.2.2.2.2.2.1 n hn).2.1, (q.2.2.2.2.2.2.2.2.2.1 n hn).2.2⟩
        exact ⟨rfl, ⟨_, _, _, _, _, _, _, hq.1⟩, zInv.mk hR2 rfl hq.1 hinj hq.2.1 hr2 hp2⟩
      · refine Or.inr ⟨0, _, 3, 1, 6, 3, fun _ m2 => zMQ cs um m2 ad mm (mo ad 1 (nI nb) (nI nd) (nI nw) brt (nI ny) wd) J K, by decide, by decide, by decide, by decide, rfl, fun sz => (t2_X6_change l D cs uc sz _ _ _ _ _ _ _ _ _ _ _ _ _ _ _ _ _ _ _ _ _ _ _ _ _ _ _ _ _ _ _ _ hlst hW hT hk hv9 hf hwr htr), fun sz => ((t2_X7_change l D cs um sz _ _ _ _ _ _ _ _ _ _ _ _ _ hinj hM hp.2.2.1 hk hp.1 hv9 hm)).to (fun r w2 q => ⟨(), q.1, q.2⟩), ?_⟩
        rintro b m2 hq
        exact ⟨⟨_, _, _, _, _, _, _, hq.1⟩, zInv.m hR hinj hr hp hq mOut.refl⟩
    · by_cases hcan : zCanB what v = 1
      · rcases zCan_w hcan with c | c | c | c | c <;> subst c
        · refine Or.inl ⟨3, 0, 0, 3, fun _ u2 => zEx uc u2 [(AD (31, k, 0), (.inr (4, [.ref (AD (10, (tw k), 0)), .int (pw k), .int (v.toInt32), .long (rl k), .long (cw k), .long (xw k), .int (ew k)])))], fun _ m2 => zMQ cs um m2 ad mm (mo ad 0 (nI nb) (nI nd) (nI nw) brt (nI ny) wd) J (va_up K 14 (upd (K 14) k (v.toInt32))), by decide, by decide, by decide, by decide, fun sz => ((c_X6_change l D cs uc sz _ _ _ _ _ _ _ _ _ _ _ _ _ _ _ _ _ _ _ _ _ _ _ _ _ _ _ _ ((some (AD (10, tw k, 0)))) _ _ _ _ _ _ _ _ hW hk h4 hcan hf hwr ((hR.1 _ _ (cR_31 hk))))).to (fun r w2 q => ⟨(), q.1, by rw [zPutT_0] at q; exact q.2⟩), fun sz => ((c0_X7_change l D cs um sz _ _ _ _ _ _ _ _ _ _ _ _ _ hinj hM hp.2.2.1 hk hcan hm)).to (fun r w2 q => ⟨(), q.1, q.2⟩), ?_⟩
          rintro z u2 b m2 hx hq
          have hR2 : zRep u2 AD (cR cs AD nb tn FF GF tt nd de so si ca bs nw tw pw (va_up mw k (v.toInt32)) rl cw xw ew hd al se bo rb pe me re cr xt en tx V P ST brt ny wd ag us ai ab AP) := by
            refine hR.put [((31, k, 0), (.inr (4, [.ref (AD (10, (tw k), 0)), .int (pw k), .int (v.toInt32), .long (rl k), .long (cw k), .long (xw k), .int (ew k)])))] hx (zall1 ⟨_, cR_31 hk⟩ zall0) (cR_cases ?_ ?_ ?_ ?_ ?_ ?_ ?_ ?_ ?_ ?_ ?_ ?_ ?_ ?_ ?_ ?_ ?_ ?_)
            · exact Or.inr ⟨cR_0, (zall1 (fun z => absurd (show (0 : Nat) = 31 from congrArg Prod.fst z) (by decide)) zall0)⟩
            · exact Or.inr ⟨cR_1, (zall1 (fun z => absurd (show (1 : Nat) = 31 from congrArg Prod.fst z) (by decide)) zall0)⟩
            · exact Or.inr ⟨cR_2, (zall1 (fun z => absurd (show (2 : Nat) = 31 from congrArg Prod.fst z) (by decide)) zall0)⟩
            · exact Or.inr ⟨cR_3, (zall1 (fun z => absurd (show (3 : Nat) = 31 from congrArg Prod.fst z) (by decide)) zall0)⟩
            · exact Or.inr ⟨cR_4, (zall1 (fun z => absurd (show (4 : Nat) = 31 from congrArg Prod.fst z) (by decide)) zall0)⟩
            · exact Or.inr ⟨cR_5, (zall1 (fun z => absurd (show (5 : Nat) = 31 from congrArg Prod.fst z) (by decide)) zall0)⟩
            · exact fun k hk => Or.inr ⟨cR_10 hk, (zall1 (fun z => absurd (show (10 : Nat) = 31 from congrArg Prod.fst z) (by decide)) zall0)⟩
            · exact fun k hk => Or.inr ⟨cR_11 hk, (zall1 (fun z => absurd (show (11 : Nat) = 31 from congrArg Prod.fst z) (by decide)) zall0)⟩
            · exact fun k hk => Or.inr ⟨cR_12 hk, (zall1 (fun z => absurd (show (12 : Nat) = 31 from congrArg Prod.fst z) (by decide)) zall0)⟩
            · exact fun k hk => Or.inr ⟨cR_20 hk, (zall1 (fun z => absurd (show (20 : Nat) = 31 from congrArg Prod.fst z) (by decide)) zall0)⟩
            · exact fun k hk => Or.inr ⟨cR_30 hk, (zall1 (fun z => absurd (show (30 : Nat) = 31 from congrArg Prod.fst z) (by decide)) zall0)⟩
            · intro j hj
              by_cases q : j = k
              · subst q
                refine Or.inl ?_
                rw [va_up_self]
                exact List.mem_of_getElem? (i := 0) rfl
              · refine Or.inr ⟨?_, (zall1 (fun z => q (congrArg (fun r : Nat × Nat × Nat => r.2.1) z)) zall0)⟩
                rw [va_up_ne _ _ q]
                exact cR_31 hj
            · exact fun k hk => Or.inr ⟨cR_32 hk, (zall1 (fun z => absurd (show (32 : Nat) = 31 from congrArg Prod.fst z) (by decide)) zall0)⟩
            · exact fun k hk => Or.inr ⟨cR_33 hk, (zall1 (fun z => absurd (show (33 : Nat) = 31 from congrArg Prod.fst z) (by decide)) zall0)⟩
            · exact fun k i hk hi => Or.inr ⟨cR_40 hk hi, (zall1 (fun z => absurd (show (40 : Nat) = 31 from congrArg Prod.fst z) (by decide)) zall0)⟩
            · exact fun k i hk hi => Or.inr ⟨cR_41 hk hi, (zall1 (fun z => absurd (show (41 : Nat) = 31 from congrArg Prod.fst z) (by decide)) zall0)⟩
            · exact fun k i hk hi => Or.inr ⟨cR_42 hk hi, (zall1 (fun z => absurd (show (42 : Nat) = 31 from congrArg Prod.fst z) (by decide)) zall0)⟩
            · exact fun k i hk hi => Or.inr ⟨cR_43 hk hi, (zall1 (fun z => absurd (show (43 : Nat) = 31 from congrArg Prod.fst z) (by decide)) zall0)⟩
          have hr2 : mRel J (va_up K 14 (upd (K 14) k (v.toInt32))) nb tn FF GF tt nd de so si ca bs nw tw pw (va_up mw k (v.toInt32)) rl cw xw ew hd al se bo rb pe me re cr xt en tx V P ST brt ny wd := by
            refine ⟨hr.1, hr.2.1, hr.2.2.1, hr.2.2.2.1, hr.2.2.2.2.1, hr.2.2.2.2.2.1, ?_, hr.2.2.2.2.2.2.2.1, hr.2.2.2.2.2.2.2.2⟩
            · intro j hj
              have q := hr.2.2.2.2.2.2.1 j hj
              refine ⟨q.1, q.2.1, ?_, q.2.2.2.1, q.2.2.2.2.1, q.2.2.2.2.2.1, q.2.2.2.2.2.2.1, q.2.2.2.2.2.2.2⟩
              show upd (K 14) k _ j = va_up mw k _ j
              by_cases c : j = k
              · subst c
                rw [up_self, va_up_self]
              · rw [up_ne _ _ c, va_up_ne _ _ c]
                exact q.2.2.1
          exact ⟨rfl, ⟨_, _, _, _, _, _, _, hq.1⟩, zInv.mk hR2 rfl hq.1 hinj hq.2.1 hr2 hp⟩
        · refine Or.inl ⟨3, 0, 0, 3, fun _ u2 => zEx uc u2 [(AD (31, k, 0), (.inr (4, [.ref (AD (10, (tw k), 0)), .int (pw k), .int (mw k), .long (v), .long (cw k), .long (xw k), .int (ew k)])))], fun _ m2 => zMQ cs um m2 ad mm (mo ad 0 (nI nb) (nI nd) (nI nw) brt (nI ny) wd) (va_up J 16 (vp_updL (J 16) k (v))) K, by decide, by decide, by decide, by decide, fun sz => ((c_X6_change l D cs uc sz _ _ _ _ _ _ _ _ _ _ _ _ _ _ _ _ _ _ _ _ _ _ _ _ _ _ _ _ ((some (AD (10, tw k, 0)))) _ _ _ _ _ _ _ _ hW hk h4 hcan hf hwr ((hR.1 _ _ (cR_31 hk))))).to (fun r w2 q => ⟨(), q.1, by rw [zPutT_1] at q; exact q.2⟩), fun sz => ((c1_X7_change l D cs um sz _ _ _ _ _ _ _ _ _ _ _ _ _ hinj hM hp.2.2.1 hk hcan hm)).to (fun r w2 q => ⟨(), q.1, q.2⟩), ?_⟩
          rintro z u2 b m2 hx hq
          have hR2 : zRep u2 AD (cR cs AD nb tn FF GF tt nd de so si ca bs nw tw pw mw (va_up rl k (v)) cw xw ew hd al se bo rb pe me re cr xt en tx V P ST brt ny wd ag us ai ab AP) := by
            refine hR.put [((31, k, 0), (.inr (4, [.ref (AD (10, (tw k), 0)), .int (pw k), .int (mw k), .long (v), .long (cw k), .long (xw k), .int (ew k)])))] hx (zall1 ⟨_, cR_31 hk⟩ zall0) (cR_cases ?_ ?_ ?_ ?_ ?_ ?_ ?_ ?_ ?_ ?_ ?_ ?_ ?_ ?_ ?_ ?_ ?_ ?_)
            · exact Or.inr ⟨cR_0, (zall1 (fun z => absurd (show (0 : Nat) = 31 from congrArg Prod.fst z) (by decide)) zall0)⟩
            · exact Or.inr ⟨cR_1, (zall1 (fun z => absurd (show (1 : Nat) = 31 from congrArg Prod.fst z) (by decide)) zall0)⟩
            · exact Or.inr ⟨cR_2, (zall1 (fun z => absurd (show (2 : Nat) = 31 from congrArg Prod.fst z) (by decide)) zall0)⟩
            · exact Or.inr ⟨cR_3, (zall1 (fun z => absurd (show (3 : Nat) = 31 from congrArg Prod.fst z) (by decide)) zall0)⟩
            · exact Or.inr ⟨cR_4, (zall1 (fun z => absurd (show (4 : Nat) = 31 from congrArg Prod.fst z) (by decide)) zall0)⟩
            · exact Or.inr ⟨cR_5, (zall1 (fun z => absurd (show (5 : Nat) = 31 from congrArg Prod.fst z) (by decide)) zall0)⟩
            · exact fun k hk => Or.inr ⟨cR_10 hk, (zall1 (fun z => absurd (show (10 : Nat) = 31 from congrArg Prod.fst z) (by decide)) zall0)⟩
            · exact fun k hk => Or.inr ⟨cR_11 hk, (zall1 (fun z => absurd (show (11 : Nat) = 31 from congrArg Prod.fst z) (by decide)) zall0)⟩
            · exact fun k hk => Or.inr ⟨cR_12 hk, (zall1 (fun z => absurd (show (12 : Nat) = 31 from congrArg Prod.fst z) (by decide)) zall0)⟩
            · exact fun k hk => Or.inr ⟨cR_20 hk, (zall1 (fun z => absurd (show (20 : Nat) = 31 from congrArg Prod.fst z) (by decide)) zall0)⟩
            · exact fun k hk => Or.inr ⟨cR_30 hk, (zall1 (fun z => absurd (show (30 : Nat) = 31 from congrArg Prod.fst z) (by decide)) zall0)⟩
            · intro j hj
              by_cases q : j = k
              · subst q
                refine Or.inl ?_
                rw [va_up_self]
                exact List.mem_of_getElem? (i := 0) rfl
              · refine Or.inr ⟨?_, (zall1 (fun z => q (congrArg (fun r : Nat × Nat × Nat => r.2.1) z)) zall0)⟩
                rw [va_up_ne _ _ q]
                exact cR_31 hj
            · exact fun k hk => Or.inr ⟨cR_32 hk, (zall1 (fun z => absurd (show (32 : Nat) = 31 from congrArg Prod.fst z) (by decide)) zall0)⟩
            · exact fun k hk => Or.inr ⟨cR_33 hk, (zall1 (fun z => absurd (show (33 : Nat) = 31 from congrArg Prod.fst z) (by decide)) zall0)⟩
            · exact fun k i hk hi => Or.inr ⟨cR_40 hk hi, (zall1 (fun z => absurd (show (40 : Nat) = 31 from congrArg Prod.fst z) (by decide)) zall0)⟩
            · exact fun k i hk hi => Or.inr ⟨cR_41 hk hi, (zall1 (fun z => absurd (show (41 : Nat) = 31 from congrArg Prod.fst z) (by decide)) zall0)⟩
            · exact fun k i hk hi => Or.inr ⟨cR_42 hk hi, (zall1 (fun z => absurd (show (42 : Nat) = 31 from congrArg Prod.fst z) (by decide)) zall0)⟩
            · exact fun k i hk hi => Or.inr ⟨cR_43 hk hi, (zall1 (fun z => absurd (show (43 : Nat) = 31 from congrArg Prod.fst z) (by decide)) zall0)⟩
          have hr2 : mRel (va_up J 16 (vp_updL (J 16) k (v))) K nb tn FF GF tt nd de so si ca bs nw tw pw mw (va_up rl k (v)) cw xw ew hd al se bo rb pe me re cr xt en tx V P ST brt ny wd := by
            refine ⟨hr.1, hr.2.1, hr.2.2.1, hr.2.2.2.1, hr.2.2.2.2.1, hr.2.2.2.2.2.1, ?_, ?_, hr.2.2.2.2.2.2.2.2⟩
            · intro j hj
              have q := hr.2.2.2.2.2.2.1 j hj
              refine ⟨q.1, q.2.1, q.2.2.1, q.2.2.2.1, ?_, q.2.2.2.2.2.1, q.2.2.2.2.2.2.1, q.2.2.2.2.2.2.2⟩
              show vp_updL (J 16) k _ j = va_up rl k _ j
              by_cases c : j = k
              · subst c
                rw [vpL_self, va_up_self]
              · rw [vpL_ne _ _ c, va_up_ne _ _ c]
                exact q.2.2.2.2.1
            · intro j h1 h2
              have q := hr.2.2.2.2.2.2.2.1 j h1 h2
              refine ⟨q.1, ?_, q.2.2.1, q.2.2.2.1, q.2.2.2.2.1, q.2.2.2.2.2⟩
              show vp_updL (J 16) k _ j = 0
              rw [vpL_ne _ _ (by omega)]
              exact q.2.1
          have hb := zUpTo_1 (show zUpTo v 1000000000000 = 1 from hcan)
          rw [zT12] at hb
          have hp2 : zPure nb tn FF GF tt nd de so si ca bs nw tw pw mw (va_up rl k (v)) cw xw ew hd al se bo rb pe me re cr xt en tx V P ST brt ny wd := by
            refine ⟨hp.1, hp.2.1, hp.2.2.1, hp.2.2.2.1, hp.2.2.2.2.1, hp.2.2.2.2.2.1, hp.2.2.2.2.2.2.1, ?_, hp.2.2.2.2.2.2.2.2⟩
            intro j hj
            have q := hp.2.2.2.2.2.2.2.1 j hj
            refine ⟨q.1, q.2.1, q.2.2.1, ?_, q.2.2.2.2.1, q.2.2.2.2.2.1, q.2.2.2.2.2.2.1, q.2.2.2.2.2.2.2.1, q.2.2.2.2.2.2.2.2.1, q.2.2.2.2.2.2.2.2.2.1, q.2.2.2.2.2.2.2.2.2.2⟩
            by_cases c : j = k
            · rw [c, va_up_self]
              exact hb
            · rw [va_up_ne _ _ c]
              exact q.2.2.2.1
          exact ⟨rfl, ⟨_, _, _, _, _, _, _, hq.1⟩, zInv.mk hR2 rfl hq.1 hinj hq.2.1 hr2 hp2⟩
        · refine Or.inl ⟨3, 0, 0, 3, fun _ u2 => zEx uc u2 [(AD (31, k, 0), (.inr (4, [.ref (AD (10, (tw k), 0)), .int (pw k), .int (mw k), .long (rl k), .long (v), .long (xw k), .int (ew k)])))], fun _ m2 => zMQ cs um m2 ad mm (mo ad 0 (nI nb) (nI nd) (nI nw) brt (nI ny) wd) (va_up J 17 (vp_updL (J 17) k (v))) K, by decide, by decide, by decide, by decide, fun sz => ((c_X6_change l D cs uc sz _ _ _ _ _ _ _ _ _ _ _ _ _ _ _ _ _ _ _ _ _ _ _ _ _ _ _ _ ((some (AD (10, tw k, 0)))) _ _ _ _ _ _ _ _ hW hk h4 hcan hf hwr ((hR.1 _ _ (cR_31 hk))))).to (fun r w2 q => ⟨(), q.1, by rw [zPutT_2] at q; exact q.2⟩), fun sz => ((c2_X7_change l D cs um sz _ _ _ _ _ _ _ _ _ _ _ _ _ hinj hM hp.2.2.1 hk hcan hm)).to (fun r w2 q => ⟨(), q.1, q.2⟩), ?_⟩
          rintro z u2 b m2 hx hq
          have hR2 : zRep u2 AD (cR cs AD nb tn FF GF tt nd de so si ca bs nw tw pw mw rl (va_up cw k (v)) xw ew hd al se bo rb pe me re cr xt en tx V P ST brt ny wd ag us ai ab AP) := by
            refine hR.put [((31, k, 0), (.inr (4, [.ref (AD (10, (tw k), 0)), .int (pw k), .int (mw k), .long (rl k), .long (v), .long (xw k), .int (ew k)])))] hx (zall1 ⟨_, cR_31 hk⟩ zall0) (cR_cases ?_ ?_ ?_ ?_ ?_ ?_ ?_ ?_ ?_ ?_ ?_ ?_ ?_ ?_ ?_ ?_ ?_ ?_)
            · exact Or.inr ⟨cR_0, (zall1 (fun z => absurd (show (0 : Nat) = 31 from congrArg Prod.fst z) (by decide)) zall0)⟩
            · exact Or.inr ⟨cR_1, (zall1 (fun z => absurd (show (1 : Nat) = 31 from congrArg Prod.fst z) (by decide)) zall0)⟩
            · exact Or.inr ⟨cR_2, (zall1 (fun z => absurd (show (2 : Nat) = 31 from congrArg Prod.fst z) (by decide)) zall0)⟩
            · exact Or.inr ⟨cR_3, (zall1 (fun z => absurd (show (3 : Nat) = 31 from congrArg Prod.fst z) (by decide)) zall0)⟩
            · exact Or.inr ⟨cR_4, (zall1 (fun z => absurd (show (4 : Nat) = 31 from congrArg Prod.fst z) (by decide)) zall0)⟩
            · exact Or.inr ⟨cR_5, (zall1 (fun z => absurd (show (5 : Nat) = 31 from congrArg Prod.fst z) (by decide)) zall0)⟩
            · exact fun k hk => Or.inr ⟨cR_10 hk, (zall1 (fun z => absurd (show (10 : Nat) = 31 from congrArg Prod.fst z) (by decide)) zall0)⟩
            · exact fun k hk => Or.inr ⟨cR_11 hk, (zall1 (fun z => absurd (show (11 : Nat) = 31 from congrArg Prod.fst z) (by decide)) zall0)⟩
            · exact fun k hk => Or.inr ⟨cR_12 hk, (zall1 (fun z => absurd (show (12 : Nat) = 31 from congrArg Prod.fst z) (by decide)) zall0)⟩
            · exact fun k hk => Or.inr ⟨cR_20 hk, (zall1 (fun z => absurd (show (20 : Nat) = 31 from congrArg Prod.fst z) (by decide)) zall0)⟩
            · exact fun k hk => Or.inr ⟨cR_30 hk, (zall1 (fun z => absurd (show (30 : Nat) = 31 from congrArg Prod.fst z) (by decide)) zall0)⟩
            · intro j hj
              by_cases q : j = k
              · subst q
                refine Or.inl ?_
                rw [va_up_self]
                exact List.mem_of_getElem? (i := 0) rfl
              · refine Or.inr ⟨?_, (zall1 (fun z => q (congrArg (fun r : Nat × Nat × Nat => r.2.1) z)) zall0)⟩
                rw [va_up_ne _ _ q]
                exact cR_31 hj
            · exact fun k hk => Or.inr ⟨cR_32 hk, (zall1 (fun z => absurd (show (32 : Nat) = 31 from congrArg Prod.fst z) (by decide)) zall0)⟩
            · exact fun k hk => Or.inr ⟨cR_33 hk, (zall1 (fun z => absurd (show (33 : Nat) = 31 from congrArg Prod.fst z) (by decide)) zall0)⟩
            · exact fun k i hk hi => Or.inr ⟨cR_40 hk hi, (zall1 (fun z => absurd (show (40 : Nat) = 31 from congrArg Prod.fst z) (by decide)) zall0)⟩
            · exact fun k i hk hi => Or.inr ⟨cR_41 hk hi, (zall1 (fun z => absurd (show (41 : Nat) = 31 from congrArg Prod.fst z) (by decide)) zall0)⟩
            · exact fun k i hk hi => Or.inr ⟨cR_42 hk hi, (zall1 (fun z => absurd (show (42 : Nat) = 31 from congrArg Prod.fst z) (by decide)) zall0)⟩
            · exact fun k i hk hi => Or.inr ⟨cR_43 hk hi, (zall1 (fun z => absurd (show (43 : Nat) = 31 from congrArg Prod.fst z) (by decide)) zall0)⟩
          have hr2 : mRel (va_up J 17 (vp_updL (J 17) k (v))) K nb tn FF GF tt nd de so si ca bs nw tw pw mw rl (va_up cw k (v)) xw ew hd al se bo rb pe me re cr xt en tx V P ST brt ny wd := by
            refine ⟨hr.1, hr.2.1, hr.2.2.1, hr.2.2.2.1, hr.2.2.2.2.1, hr.2.2.2.2.2.1, ?_, ?_, hr.2.2.2.2.2.2.2.2⟩
            · intro j hj
              have q := hr.2.2.2.2.2.2.1 j hj
              refine ⟨q.1, q.2.1, q.2.2.1, q.2.2.2.1, q.2.2.2.2.1, ?_, q.2.2.2.2.2.2.1, q.2.2.2.2.2.2.2⟩
              show vp_updL (J 17) k _ j = va_up cw k _ j
              by_cases c : j = k
              · subst c
                rw [vpL_self, va_up_self]
              · rw [vpL_ne _ _ c, va_up_ne _ _ c]
                exact q.2.2.2.2.2.1
            · intro j h1 h2
              have q := hr.2.2.2.2.2.2.2.1 j h1 h2
              refine ⟨q.1, q.2.1, ?_, q.2.2.2.1, q.2.2.2.2.1, q.2.2.2.2.2⟩
              show vp_updL (J 17) k _ j = 0
              rw [vpL_ne _ _ (by omega)]
              exact q.2.2.1
          have hb := zUpTo_1 (show zUpTo v 1000000000000 = 1 from hcan)
          rw [zT12] at hb
          have hp2 : zPure nb tn FF GF tt nd de so si ca bs nw tw pw mw rl (va_up cw k (v)) xw ew hd al se bo rb pe me re cr xt en tx V P ST brt ny wd := by
            refine ⟨hp.1, hp.2.1, hp.2.2.1, hp.2.2.2.1, hp.2.2.2.2.1, hp.2.2.2.2.2.1, hp.2.2.2.2.2.2.1, ?_, hp.2.2.2.2.2.2.2.2⟩
            intro j hj
            have q := hp.2.2.2.2.2.2.2.1 j hj
            refine ⟨q.1, q.2.1, q.2.2.1, q.2.2.2.1, ?_, q.2.2.2.2.2.1, q.2.2.2.2.2.2.1, q.2.2.2.2.2.2.2.1, q.2.2.2.2.2.2.2.2.1, q.2.2.2.2.2.2.2.2.2.1, q.2.2.2.2.2.2.2.2.2.2⟩
            by_cases c : j = k
            · rw [c, va_up_self]
              exact hb
            · rw [va_up_ne _ _ c]
              exact q.2.2.2.2.1
          exact ⟨rfl, ⟨_, _, _, _, _, _, _, hq.1⟩, zInv.mk hR2 rfl hq.1 hinj hq.2.1 hr2 hp2⟩
        · refine Or.inl ⟨3, 0, 0, 3, fun _ u2 => zEx uc u2 [(AD (31, k, 0), (.inr (4, [.ref (AD (10, (tw k), 0)), .int (pw k), .int (mw k), .long (rl k), .long (cw k), .long (v), .int (ew k)])))], fun _ m2 => zMQ cs um m2 ad mm (mo ad 0 (nI nb) (nI nd) (nI nw) brt (nI ny) wd) (va_up J 18 (vp_updL (J 18) k (v))) K, by decide, by decide, by decide, by decide, fun sz => ((c_X6_change l D cs uc sz _ _ _ _ _ _ _ _ _ _ _ _ _ _ _ _ _ _ _ _ _ _ _ _ _ _ _ _ ((some (AD (10, tw k, 0)))) _ _ _ _ _ _ _ _ hW hk h4 hcan hf hwr ((hR.1 _ _ (cR_31 hk))))).to (fun r w2 q => ⟨(), q.1, by rw [zPutT_3] at q; exact q.2⟩), fun sz => ((c3_X7_change l D cs um sz _ _ _ _ _ _ _ _ _ _ _ _ _ hinj hM hp.2.2.1 hk hcan hm)).to (fun r w2 q => ⟨(), q.1, q.2⟩), ?_⟩
          rintro z u2 b m2 hx hq
          have hR2 : zRep u2 AD (cR cs AD nb tn FF GF tt nd de so si ca bs nw tw pw mw rl cw (va_up xw k (v)) ew hd al se bo rb pe me re cr xt en tx V P ST brt ny wd ag us ai ab AP) := by
            refine hR.put [((31, k, 0), (.inr (4, [.ref (AD (10, (tw k), 0)), .int (pw k), .int (mw k), .long (rl k), .long (cw k), .long (v), .int (ew k)])))] hx (zall1 ⟨_, cR_31 hk⟩ zall0) (cR_cases ?_ ?_ ?_ ?_ ?_ ?_ ?_ ?_ ?_ ?_ ?_ ?_ ?_ ?_ ?_ ?_ ?_ ?_)
            · exact Or.inr ⟨cR_0, (zall1 (fun z => absurd (show (0 : Nat) = 31 from congrArg Prod.fst z) (by decide)) zall0)⟩
            · exact Or.inr ⟨cR_1, (zall1 (fun z => absurd (show (1 : Nat) = 31 from congrArg Prod.fst z) (by decide)) zall0)⟩
            · exact Or.inr ⟨cR_2, (zall1 (fun z => absurd (show (2 : Nat) = 31 from congrArg Prod.fst z) (by decide)) zall0)⟩
            · exact Or.inr ⟨cR_3, (zall1 (fun z => absurd (show (3 : Nat) = 31 from congrArg Prod.fst z) (by decide)) zall0)⟩
            · exact Or.inr ⟨cR_4, (zall1 (fun z => absurd (show (4 : Nat) = 31 from congrArg Prod.fst z) (by decide)) zall0)⟩
            · exact Or.inr ⟨cR_5, (zall1 (fun z => absurd (show (5 : Nat) = 31 from congrArg Prod.fst z) (by decide)) zall0)⟩
            · exact fun k hk => Or.inr ⟨cR_10 hk, (zall1 (fun z => absurd (show (10 : Nat) = 31 from congrArg Prod.fst z) (by decide)) zall0)⟩
            · exact fun k hk => Or.inr ⟨cR_11 hk, (zall1 (fun z => absurd (show (11 : Nat) = 31 from congrArg Prod.fst z) (by decide)) zall0)⟩
            · exact fun k hk => Or.inr ⟨cR_12 hk, (zall1 (fun z => absurd (show (12 : Nat) = 31 from congrArg Prod.fst z) (by decide)) zall0)⟩
            · exact fun k hk => Or.inr ⟨cR_20 hk, (zall1 (fun z => absurd (show (20 : Nat) = 31 from congrArg Prod.fst z) (by decide)) zall0)⟩
            · exact fun k hk => Or.inr ⟨cR_30 hk, (zall1 (fun z => absurd (show (30 : Nat) = 31 from congrArg Prod.fst z) (by decide)) zall0)⟩
            · intro j hj
              by_cases q : j = k
              · subst q
                refine Or.inl ?_
                rw [va_up_self]
                exact List.mem_of_getElem? (i := 0) rfl
              · refine Or.inr ⟨?_, (zall1 (fun z => q (congrArg (fun r : Nat × Nat × Nat => r.2.1) z)) zall0)⟩
                rw [va_up_ne _ _ q]
                exact cR_31 hj
            · exact fun k hk => Or.inr ⟨cR_32 hk, (zall1 (fun z => absurd (show (32 : Nat) = 31 from congrArg Prod.fst z) (by decide)) zall0)⟩
            · exact fun k hk => Or.inr ⟨cR_33 hk, (zall1 (fun z => absurd (show (33 : Nat) = 31 from congrArg Prod.fst z) (by decide)) zall0)⟩
            · exact fun k i hk hi => Or.inr ⟨cR_40 hk hi, (zall1 (fun z => absurd (show (40 : Nat) = 31 from congrArg Prod.fst z) (by decide)) zall0)⟩
            · exact fun k i hk hi => Or.inr ⟨cR_41 hk hi, (zall1 (fun z => absurd (show (41 : Nat) = 31 from congrArg Prod.fst z) (by decide)) zall0)⟩
            · exact fun k i hk hi => Or.inr ⟨cR_42 hk hi, (zall1 (fun z => absurd (show (42 : Nat) = 31 from congrArg Prod.fst z) (by decide)) zall0)⟩
            · exact fun k i hk hi => Or.inr ⟨cR_43 hk hi, (zall1 (fun z => absurd (show (43 : Nat) = 31 from congrArg Prod.fst z) (by decide)) zall0)⟩
          have hr2 : mRel (va_up J 18 (vp_updL (J 18) k (v))) K nb tn FF GF tt nd de so si ca bs nw tw pw mw rl cw (va_up xw k (v)) ew hd al se bo rb pe me re cr xt en tx V P ST brt ny wd := by
            refine ⟨hr.1, hr.2.1, hr.2.2.1, hr.2.2.2.1, hr.2.2.2.2.1, hr.2.2.2.2.2.1, ?_, ?_, hr.2.2.2.2.2.2.2.2⟩
            · intro j hj
              have q := hr.2.2.2.2.2.2.1 j hj
              refine ⟨q.1, q.2.1, q.2.2.1, q.2.2.2.1, q.2.2.2.2.1, q.2.2.2.2.2.1, ?_, q.2.2.2.2.2.2.2⟩
              show vp_updL (J 18) k _ j = va_up xw k _ j
              by_cases c : j = k
              · subst c
                rw [vpL_self, va_up_self]
              · rw [vpL_ne _ _ c, va_up_ne _ _ c]
                exact q.2.2.2.2.2.2.1
            · intro j h1 h2
              have q := hr.2.2.2.2.2.2.2.1 j h1 h2
              refine ⟨q.1, q.2.1, q.2.2.1, ?_, q.2.2.2.2.1, q.2.2.2.2.2⟩
              show vp_updL (J 18) k _ j = 0
              rw [vpL_ne _ _ (by omega)]
              exact q.2.2.2.1
          have hb := zUpTo_1 (show zUpTo v 1000000000 = 1 from hcan)
          rw [zT9] at hb
          have hp2 : zPure nb tn FF GF tt nd de so si ca bs nw tw pw mw rl cw (va_up xw k (v)) ew hd al se bo rb pe me re cr xt en tx V P ST brt ny wd := by
            refine ⟨hp.1, hp.2.1, hp.2.2.1, hp.2.2.2.1, hp.2.2.2.2.1, hp.2.2.2.2.2.1, hp.2.2.2.2.2.2.1, ?_, hp.2.2.2.2.2.2.2.2⟩
            intro j hj
            have q := hp.2.2.2.2.2.2.2.1 j hj
            refine ⟨q.1, q.2.1, q.2.2.1, q.2.2.2.1, q.2.2.2.2.1, ?_, q.2.2.2.2.2.2.1, q.2.2.2.2.2.2.2.1, q.2.2.2.2.2.2.2.2.1, q.2.2.2.2.2.2.2.2.2.1, q.2.2.2.2.2.2.2.2.2.2⟩
            by_cases c : j = k
            · rw [c, va_up_self]
              exact hb
            · rw [va_up_ne _ _ c]
              exact q.2.2.2.2.2.1
          exact ⟨rfl, ⟨_, _, _, _, _, _, _, hq.1⟩, zInv.mk hR2 rfl hq.1 hinj hq.2.1 hr2 hp2⟩
        · refine Or.inl ⟨3, 0, 0, 3, fun _ u2 => zEx uc u2 [(AD (31, k, 0), (.inr (4, [.ref (AD (10, (tw k), 0)), .int (v.toInt32), .int (mw k), .long (rl k), .long (cw k), .long (xw k), .int (ew k)])))], fun _ m2 => zMQ cs um m2 ad mm (mo ad 0 (nI nb) (nI nd) (nI nw) brt (nI ny) wd) J (va_up K 13 (upd (K 13) k (v.toInt32))), by decide, by decide, by decide, by decide, fun sz => ((c_X6_change l D cs uc sz _ _ _ _ _ _ _ _ _ _ _ _ _ _ _ _ _ _ _ _ _ _ _ _ _ _ _ _ ((some (AD (10, tw k, 0)))) _ _ _ _ _ _ _ _ hW hk h4 hcan hf hwr ((hR.1 _ _ (cR_31 hk))))).to (fun r w2 q => ⟨(), q.1, by rw [zPutT_5] at q; exact q.2⟩), fun sz => ((c5_X7_change l D cs um sz _ _ _ _ _ _ _ _ _ _ _ _ _ hinj hM hp.2.2.1 hk hcan hm)).to (fun r w2 q => ⟨(), q.1, q.2⟩), ?_⟩
          rintro z u2 b m2 hx hq
          have hR2 : zRep u2 AD (cR cs AD nb tn FF GF tt nd de so si ca bs nw tw (va_up pw k (v.toInt32)) mw rl cw xw ew hd al se bo rb pe me re cr xt en tx V P ST brt ny wd ag us ai ab AP) := by
            refine hR.put [((31, k, 0), (.inr (4, [.ref (AD (10, (tw k), 0)), .int (v.toInt32), .int (mw k), .long (rl k), .long (cw k), .long (xw k), .int (ew k)])))] hx (zall1 ⟨_, cR_31 hk⟩ zall0) (cR_cases ?_ ?_ ?_ ?_ ?_ ?_ ?_ ?_ ?_ ?_ ?_ ?_ ?_ ?_ ?_ ?_ ?_ ?_)
            · exact Or.inr ⟨cR_0, (zall1 (fun z => absurd (show (0 : Nat) = 31 from congrArg Prod.fst z) (by decide)) zall0)⟩
            · exact Or.inr ⟨cR_1, (zall1 (fun z => absurd (show (1 : Nat) = 31 from congrArg Prod.fst z) (by decide)) zall0)⟩
            · exact Or.inr ⟨cR_2, (zall1 (fun z => absurd (show (2 : Nat) = 31 from congrArg Prod.fst z) (by decide)) zall0)⟩
            · exact Or.inr ⟨cR_3, (zall1 (fun z => absurd (show (3 : Nat) = 31 from congrArg Prod.fst z) (by decide)) zall0)⟩
            · exact Or.inr ⟨cR_4, (zall1 (fun z => absurd (show (4 : Nat) = 31 from congrArg Prod.fst z) (by decide)) zall0)⟩
            · exact Or.inr ⟨cR_5, (zall1 (fun z => absurd (show (5 : Nat) = 31 from congrArg Prod.fst z) (by decide)) zall0)⟩
            · exact fun k hk => Or.inr ⟨cR_10 hk, (zall1 (fun z => absurd (show (10 : Nat) = 31 from congrArg Prod.fst z) (by decide)) zall0)⟩
            · exact fun k hk => Or.inr ⟨cR_11 hk, (zall1 (fun z => absurd (show (11 : Nat) = 31 from congrArg Prod.fst z) (by decide)) zall0)⟩
            · exact fun k hk => Or.inr ⟨cR_12 hk, (zall1 (fun z => absurd (show (12 : Nat) = 31 from congrArg Prod.fst z) (by decide)) zall0)⟩
            · exact fun k hk => Or.inr ⟨cR_20 hk, (zall1 (fun z => absurd (show (20 : Nat) = 31 from congrArg Prod.fst z) (by decide)) zall0)⟩
            · exact fun k hk => Or.inr ⟨cR_30 hk, (zall1 (fun z => absurd (show (30 : Nat) = 31 from congrArg Prod.fst z) (by decide)) zall0)⟩
            · intro j hj
              by_cases q : j = k
              · subst q
                refine Or.inl ?_
                rw [va_up_self]
                exact List.mem_of_getElem? (i := 0) rfl
              · refine Or.inr ⟨?_, (zall1 (fun z => q (congrArg (fun r : Nat × Nat × Nat => r.2.1) z)) zall0)⟩
                rw [va_up_ne _ _ q]
                exact cR_31 hj
            · exact fun k hk => Or.inr ⟨cR_32 hk, (zall1 (fun z => absurd (show (32 : Nat) = 31 from congrArg Prod.fst z) (by decide)) zall0)⟩
            · exact fun k hk => Or.inr ⟨cR_33 hk, (zall1 (fun z => absurd (show (33 : Nat) = 31 from congrArg Prod.fst z) (by decide)) zall0)⟩
            · exact fun k i hk hi => Or.inr ⟨cR_40 hk hi, (zall1 (fun z => absurd (show (40 : Nat) = 31 from congrArg Prod.fst z) (by decide)) zall0)⟩
            · exact fun k i hk hi => Or.inr ⟨cR_41 hk hi, (zall1 (fun z => absurd (show (41 : Nat) = 31 from congrArg Prod.fst z) (by decide)) zall0)⟩
            · exact fun k i hk hi => Or.inr ⟨cR_42 hk hi, (zall1 (fun z => absurd (show (42 : Nat) = 31 from congrArg Prod.fst z) (by decide)) zall0)⟩
            · exact fun k i hk hi => Or.inr ⟨cR_43 hk hi, (zall1 (fun z => absurd (show (43 : Nat) = 31 from congrArg Prod.fst z) (by decide)) zall0)⟩
          have hr2 : mRel J (va_up K 13 (upd (K 13) k (v.toInt32))) nb tn FF GF tt nd de so si ca bs nw tw (va_up pw k (v.toInt32)) mw rl cw xw ew hd al se bo rb pe me re cr xt en tx V P ST brt ny wd := by
            refine ⟨hr.1, hr.2.1, hr.2.2.1, hr.2.2.2.1, hr.2.2.2.2.1, hr.2.2.2.2.2.1, ?_, hr.2.2.2.2.2.2.2.1, hr.2.2.2.2.2.2.2.2⟩
            · intro j hj
              have q := hr.2.2.2.2.2.2.1 j hj
              refine ⟨q.1, ?_, q.2.2.1, q.2.2.2.1, q.2.2.2.2.1, q.2.2.2.2.2.1, q.2.2.2.2.2.2.1, q.2.2.2.2.2.2.2⟩
              show upd (K 13) k _ j = va_up pw k _ j
              by_cases c : j = k
              · subst c
                rw [up_self, va_up_self]
              · rw [up_ne _ _ c, va_up_ne _ _ c]
                exact q.2.1
          have hb := zPer_b (show zPerB v = 1 from hcan)
          have hp2 : zPure nb tn FF GF tt nd de so si ca bs nw tw (va_up pw k (v.toInt32)) mw rl cw xw ew hd al se bo rb pe me re cr xt en tx V P ST brt ny wd := by
            refine ⟨hp.1, hp.2.1, hp.2.2.1, hp.2.2.2.1, hp.2.2.2.2.1, hp.2.2.2.2.2.1, hp.2.2.2.2.2.2.1, ?_, hp.2.2.2.2.2.2.2.2⟩
            intro j hj
            have q := hp.2.2.2.2.2.2.2.1 j hj
            refine ⟨q.1, q.2.1, ?_, q.2.2.2.1, q.2.2.2.2.1, q.2.2.2.2.2.1, q.2.2.2.2.2.2.1, q.2.2.2.2.2.2.2.1, q.2.2.2.2.2.2.2.2.1, q.2.2.2.2.2.2.2.2.2.1, q.2.2.2.2.2.2.2.2.2.2⟩
            by_cases c : j = k
            · rw [c, va_up_self]
              exact hb
            · rw [va_up_ne _ _ c]
              exact q.2.2.1
          exact ⟨rfl, ⟨_, _, _, _, _, _, _, hq.1⟩, zInv.mk hR2 rfl hq.1 hinj hq.2.1 hr2 hp2⟩
      · have hcan : zCanB what v = 0 := (zCanB_01 _ _).resolve_right hcan
        refine Or.inr ⟨1, _, 3, 1, 6, 3, fun _ m2 => zMQ cs um m2 ad mm (mo ad 2 (nI nb) (nI nd) (nI nw) brt (nI ny) wd) J K, by decide, by decide, by decide, by decide, rfl, fun sz => (t3_X6_change l D cs uc sz _ _ _ _ _ _ _ _ _ _ _ _ _ _ _ _ _ _ _ _ _ _ _ _ _ _ _ _ _ _ hlst hW hk h4 hcan hf hwr), fun sz => ((t3_X7_change l D cs um sz _ _ _ _ _ _ _ _ _ _ _ _ _ _ hinj hM hp.2.2.1 hk h4 hcan hm)).to (fun r w2 q => ⟨(), q.1, q.2⟩), ?_⟩
        rintro b m2 hq
        exact ⟨⟨_, _, _, _, _, _, _, hq.1⟩, zInv.m hR hinj hr hp hq mOut.refl⟩
  · refine Or.inr ⟨0, _, 3, 1, 6, 3, fun _ m2 => zMQ cs um m2 ad mm (mo ad 1 (nI nb) (nI nd) (nI nw) brt (nI ny) wd) J K, by decide, by decide, by decide, by decide, rfl, fun sz => (t1_X6_change l D cs uc sz _ _ _ _ _ _ _ _ _ _ _ _ _ _ _ _ _ _ _ _ _ _ _ _ _ _ _ _ _ _ hlst hW hx9 hf hwr), fun sz => ((t1_X7_change l D cs um sz _ _ _ _ _ _ _ _ _ _ _ _ _ _ hinj hM hp.2.2.1 hx9 hm)).to (fun r w2 q => ⟨(), q.1, q.2⟩), ?_⟩
    rintro b m2 hq
    exact ⟨⟨_, _, _, _, _, _, _, hq.1⟩, zInv.m hR hinj hr hp hq mOut.refl⟩

