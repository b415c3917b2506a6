/-! ===== pay, ask ===== -/
theorem mOut.up {J J' : Nat → Nat → Int64} {s0 : Nat} {x : Nat} {v : Int64} (h : mOut J J') (hs : s0 ∉ [37, 38, 39, 40, 41, 42, 43]) : mOut (va_up J s0 (vp_updL (J s0) x v)) (va_up J' s0 (vp_updL (J' s0) x v)) := by
  intro s hn
  by_cases c : s = s0
  · rw [c, va_up_self, va_up_self, h s0 hs]
  · rw [va_up_ne _ _ c, va_up_ne _ _ c]
    exact h s hn
theorem zPe_ne {x : Int32} (h : 1 ≤ x.toInt ∧ x.toInt ≤ 52) : x.toInt64 ≠ 0 := fun e => by
  have h1 := h.1
  rw [← Int32.toInt_toInt64, e, zT0] at h1
  exact absurd h1 (by decide)
set_option maxHeartbeats 4000000 in
theorem zOp_ask (l : Launch) (D : va_G) (cs : Nat → ClassId) (hlst : l.stackTraces = false) {xo mm : Nat} {uc um : zw} (h : zInv cs xo mm uc um) (x : Int32) (gross : Int64) (bon : Int32) (hbon : bon = 0 ∨ bon = 1) : zBoth (fun z : Int64 => some (.long z)) (fun z : Int64 => some (.long z)) (fun z : Int64 => z) (fun z : Int64 => z) l D cs yX6_ask wsX6_ask yX7_ask wsX7_ask xo mm uc um [.int x, .long gross, .int bon] ["java/lang/IndexOutOfBoundsException", "java/lang/IllegalArgumentException", "java/lang/UnsupportedOperationException"] := by
  obtain ⟨AD, ad, J, K, th, nb, tn, FF, GF, tt, nd, de, so, si, ca, bs, nw, tw, pw, mw, rl, cw, xw, ew, hd, al, se, bo, rb, pe, me, re, cr, xt, en, tx, V, P, ST, brt, ny, wd, ag, us, ai, ab, AP, hR, rfl, hm, hinj, hM, hr, hp⟩ := h
  have hW := hR.wks hp
  have hf := hR.1 _ _ cR_0
  have htr := hR.1 _ _ cR_1
  have hdr := hR.1 _ _ cR_2
  have hwr := hR.1 _ _ cR_3
  have ha := hR.1 _ _ cR_4
  have hapc := hR.1 _ _ cR_5
  have hT : zArrN 6 _ (fun k => AD (10, k, 0)) nb := zArrIf hp.1
  have hD : zArrN 8 _ (fun k => AD (20, k, 0)) nd := zArrIf hp.2.1
  have hWn : zArrN 10 _ (fun k => AD (30, k, 0)) nw := zArrIf hp.2.2.1
  have hDs := hR.deds hp
  have hTb := hR.tabs hp
  rcases zIdx x nw with ⟨k, hk, rfl⟩ | hx9
  · by_cases hg : zUpTo (gross) 1000000000 = 1
    · by_cases h60 : hd k = 60
      · refine Or.inr ⟨2, _, 6, 4, 40, 7, fun _ m2 => zMQ cs um m2 ad mm (mo ad 3 (nI nb) (nI nd) (nI nw) brt (nI ny) wd) J K, by decide, by decide, by decide, by decide, rfl, fun sz => (t3_X6_ask l D cs uc sz _ _ _ _ _ _ _ _ _ _ _ _ _ _ _ _ _ _ _ _ _ _ _ hlst hWn hk hg h60 hf hwr ((hR.1 _ _ (cR_30 hk))) ((hR.1 _ _ (cR_32 hk)))), fun sz => ((t3_X7_ask l D cs um sz _ _ _ _ _ _ _ _ _ _ _ _ _ _ _ hinj hM hp.2.2.1 hk hg ((hr.2.2.2.1 k hk).1) ((by omega)) h60 hm)).to (fun r w2 q => ⟨_, q.1, q.2⟩), ?_⟩
        rintro b m2 hq
        exact ⟨⟨_, _, _, _, _, _, _, hq.1⟩, zInv.m hR hinj hr hp hq mOut.refl⟩
      · have hw := hp.2.2.2.2.2.2.2.1 k hk
        have hal : hd k ≤ al k := hw.2.2.2.2.2.2.2.1
        have hal2 : al k ≤ 60 := hw.2.2.2.2.2.2.2.2.1
        have hn : hd k < 60 := by omega
        have htk := hw.1
        have htb := hp.2.2.2.2.2.1 (tw k) hw.1
        have hu := zUpTo_1 hg
        rw [zT9] at hu
        have hrows := hw.2.2.2.2.2.2.2.2.2.1
        have step : ∀ (GG VN PN v0 PT0 : Nat → Int64), v0 0 = gross → VN 0 = gross → (∀ d : Nat, d < 8 → GG d = zSum (fun i => P k i d) (hd k)) → (∀ d : Nat, nd ≤ d → d < 8 → PT0 d = 0) → (∀ c : Nat, 1 ≤ c → c ≤ 6 → VN c = zWkV (zSel de nd 1) (zSel de nd 0) (zHasF (ew k)) (zDueF so si ca bs bon gross (zSum (fun i => V k i 0) (hd k)) GG) (zWh (FF (tw k)) (GF (tw k)) (tn (tw k)) (pw k) (mw k) (rl k) (cw k) bon brt (zUs (bo k) (hd k)) (zSumU (bo k) (fun i => V k i 2) (hd k)) (zSumU (bo k) (fun i => V k i 3) (hd k))) (xw k) bon v0 PT0 c) → PN = (zWkL (zSel de nd 1) (zSel de nd 0) (zHasF (ew k)) (zDueF so si ca bs bon gross (zSum (fun i => V k i 0) (hd k)) GG) (zWh (FF (tw k)) (GF (tw k)) (tn (tw k)) (pw k) (mw k) (rl k) (cw k) bon brt (zUs (bo k) (hd k)) (zSumU (bo k) (fun i => V k i 2) (hd k)) (zSumU (bo k) (fun i => V k i 3) (hd k))) (xw k) bon v0 PT0).2 → (∀ i : Nat, i < hd k + 1 → zWkd nd de so si ca bs (va_up (bo k) (hd k) bon) (va_up (rb k) (hd k) brt) (va_up (pe k) (hd k) (pw k)) (va_up (me k) (hd k) (mw k)) (va_up (re k) (hd k) (rl k)) (va_up (cr k) (hd k) (cw k)) (va_up (xt k) (hd k) (xw k)) (va_up (en k) (hd k) (ew k)) (va_up (tx k) (hd k) (tw k)) tn FF GF (va_up (V k) (hd k) VN) (va_up (P k) (hd k) PN) i) ∧ (∀ i : Nat, i < hd k + 1 → mWkd nd de so si ca bs (va_up (bo k) (hd k) bon) (va_up (rb k) (hd k) brt) (va_up (pe k) (hd k) (pw k)) (va_up (me k) (hd k) (mw k)) (va_up (re k) (hd k) (rl k)) (va_up (cr k) (hd k) (cw k)) (va_up (xt k) (hd k) (xw k)) (va_up (en k) (hd k) (ew k)) (va_up (tx k) (hd k) (tw k)) tn FF GF (va_up (V k) (hd k) VN) (va_up (P k) (hd k) PN) i) ∧ ∀ d : Nat, nd ≤ d → d < 8 → PN d = 0 := by
          intro GG VN PN v0 PT0 q1 q2 q3 q4 q5 q6
          have hz : ∀ i : Nat, i < hd k + 1 → zWkd nd de so si ca bs (va_up (bo k) (hd k) bon) (va_up (rb k) (hd k) brt) (va_up (pe k) (hd k) (pw k)) (va_up (me k) (hd k) (mw k)) (va_up (re k) (hd k) (rl k)) (va_up (cr k) (hd k) (cw k)) (va_up (xt k) (hd k) (xw k)) (va_up (en k) (hd k) (ew k)) (va_up (tx k) (hd k) (tw k)) tn FF GF (va_up (V k) (hd k) VN) (va_up (P k) (hd k) PN) i := fun i hi => by
            by_cases c : i = hd k
            · rw [c]
              exact zWkd.new (fun d hd9 => (hp.2.2.2.2.2.2.1 d hd9).2) q1 q2 q3 q4 q5 (fun d _ => congrFun q6 d)
            · exact (hw.2.2.2.2.2.2.2.2.2.2 i (by omega)).ahead (by omega)
          have hgd : zGood nd de so si ca bs (va_up (bo k) (hd k) bon) (va_up (rb k) (hd k) brt) (va_up (pe k) (hd k) (pw k)) (va_up (me k) (hd k) (mw k)) (va_up (re k) (hd k) (rl k)) (va_up (cr k) (hd k) (cw k)) (va_up (xt k) (hd k) (xw k)) (va_up (en k) (hd k) (ew k)) (va_up (tx k) (hd k) (tw k)) tn FF GF (va_up (V k) (hd k) VN) (va_up (P k) (hd k) PN) (hd k + 1) := by
            refine ⟨fun i hi => ?_, hp.2.1, hp.2.2.2.2.2.2.1⟩
            by_cases c : i = hd k
            · rw [c]
              simp only [va_up_self]
              rw [q2]
              exact ⟨hu, hp.2.2.2.2.1, hw.2.2.1, hw.2.2.2.1, hw.2.2.2.2.1, hw.2.2.2.2.2.1, htb.2.1⟩
            · have z := hrows i (by omega)
              repeat rw [va_up_ne _ _ c]
              exact ⟨z.2.2.2.1, z.2.2.2.2.1, z.2.2.2.2.2.1, z.2.2.2.2.2.2.1, z.2.2.2.2.2.2.2.1, z.2.2.2.2.2.2.2.2.1, (hp.2.2.2.2.2.1 (tx k i) z.1).2.1⟩
          refine ⟨hz, (zTie (by omega) hgd hz (hd k + 1) (Nat.le_refl _)).2, fun d h1 h2 => ?_⟩
          rw [q6]
          exact zWkL_0 h1 (q4 d h1 h2)
        have model : ∀ (VN PN : Nat → Int64) (sz : Nat), VN 0 = gross → (∀ i : Nat, i < hd k + 1 → mWkd nd de so si ca bs (va_up (bo k) (hd k) bon) (va_up (rb k) (hd k) brt) (va_up (pe k) (hd k) (pw k)) (va_up (me k) (hd k) (mw k)) (va_up (re k) (hd k) (rl k)) (va_up (cr k) (hd k) (cw k)) (va_up (xt k) (hd k) (xw k)) (va_up (en k) (hd k) (ew k)) (va_up (tx k) (hd k) (tw k)) tn FF GF (va_up (V k) (hd k) VN) (va_up (P k) (hd k) PN) i) → zM l D cs yX7_ask wsX7_ask 7 0 0 um sz [.ref mm, .int (nI k), .long gross, .int bon] (fun r w2 => r = some (.long (VN 6)) ∧ ∃ J' : Nat → Nat → Int64, mOut (va_up (va_up (va_up (va_up J 25 (vp_updL (J 25) (60 * k + hd k) gross)) 32 (vp_updL (J 32) (60 * k + hd k) (rl k))) 33 (vp_updL (J 33) (60 * k + hd k) (cw k))) 34 (vp_updL (J 34) (60 * k + hd k) (xw k))) J' ∧ zMQ cs um w2 ad mm (mo ad 0 (nI nb) (nI nd) (nI nw) brt (nI ny) wd) J' (va_up (va_up (va_up (va_up (va_up (va_up K 26 (upd (K 26) (60 * k + hd k) bon)) 27 (upd (K 27) (60 * k + hd k) (nI (tw k)))) 28 (upd (K 28) (60 * k + hd k) (pw k))) 29 (upd (K 29) (60 * k + hd k) (mw k))) 30 (upd (K 30) (60 * k + hd k) (ew k))) 31 (upd (K 31) (60 * k + hd k) brt))) := by
          intro VN PN sz q2 hmw
          have c := (c_X7_ask l D cs um sz _ _ _ _ _ _ _ _ k ((va_up (bo k) (hd k) bon)) ((va_up (rb k) (hd k) brt)) ((va_up (pe k) (hd k) (pw k))) ((va_up (me k) (hd k) (mw k))) ((va_up (re k) (hd k) (rl k))) ((va_up (cr k) (hd k) (cw k))) ((va_up (xt k) (hd k) (xw k))) ((va_up (en k) (hd k) (ew k))) ((va_up (tx k) (hd k) (tw k))) ((va_up (V k) (hd k) VN)) ((va_up (P k) (hd k) PN)) _ _ _ _ _ _ _ _ _ _ ((hd k)) _ hinj hM hr.1 hr.2.1 (((hr.2.2.1 k hk).as (fun i hi => ⟨zUp_lt hi, zUp_lt hi, zUp_lt hi, zUp_lt hi, zUp_lt hi, zUp_lt hi, zUp_lt hi, zUp_lt hi, zUp_lt hi, by rw [zUp_lt hi]⟩))) ((Nat.lt_of_lt_of_le hk hp.2.2.1)) hn ((hr.2.2.2.1 k hk).1) ((by rw [va_up_self]; exact hbon)) ((by rw [va_up_self]; exact (hr.2.2.2.2.2.2.1 k hk).1)) ((by rw [va_up_self]; exact (hr.2.2.2.2.2.2.1 k hk).2.1)) ((by rw [va_up_self]; exact (hr.2.2.2.2.2.2.1 k hk).2.2.1)) ((by rw [va_up_self]; exact (hr.2.2.2.2.2.2.1 k hk).2.2.2.1)) ((by rw [va_up_self]; exact (hr.2.2.2.2.2.2.1 k hk).2.2.2.2.1)) ((by rw [va_up_self]; exact (hr.2.2.2.2.2.2.1 k hk).2.2.2.2.2.1)) ((by rw [va_up_self]; exact (hr.2.2.2.2.2.2.1 k hk).2.2.2.2.2.2.1)) ((by rw [va_up_self]; exact htk)) ((by rw [va_up_self]; exact zPe_ne hw.2.2.1)) hmw hp.2.2.1 hk ((by rw [va_up_self, q2]; exact hg)) ((by rw [va_up_self]; exact hm)))
          simp only [va_up_self] at c
          rw [q2] at c
          exact c
        by_cases hnew : al k = hd k
        · obtain ⟨GG0, hGG0⟩ : ∃ z : Nat → Int64, z = (fun d => zSum (fun i => P k i d) (hd k)) := ⟨_, rfl⟩
          obtain ⟨VN0, hVN0⟩ : ∃ z : Nat → Int64, z = (zWkV (zSel de nd 1) (zSel de nd 0) (zHasF (ew k)) (zDueF so si ca bs bon gross (zSum (fun i => V k i 0) (hd k)) GG0) (zWh (FF (tw k)) (GF (tw k)) (tn (tw k)) (pw k) (mw k) (rl k) (cw k) bon brt (zUs (bo k) (hd k)) (zSumU (bo k) (fun i => V k i 2) (hd k)) (zSumU (bo k) (fun i => V k i 3) (hd k))) (xw k) bon (zL8 gross 0 0 0 0 0 0 0) (fun _ => 0)) := ⟨_, rfl⟩
          obtain ⟨PN0, hPN0⟩ : ∃ z : Nat → Int64, z = (zWkL (zSel de nd 1) (zSel de nd 0) (zHasF (ew k)) (zDueF so si ca bs bon gross (zSum (fun i => V k i 0) (hd k)) GG0) (zWh (FF (tw k)) (GF (tw k)) (tn (tw k)) (pw k) (mw k) (rl k) (cw k) bon brt (zUs (bo k) (hd k)) (zSumU (bo k) (fun i => V k i 2) (hd k)) (zSumU (bo k) (fun i => V k i 3) (hd k))) (xw k) bon (zL8 gross 0 0 0 0 0 0 0) (fun _ => 0)).2 := ⟨_, rfl⟩
          have hpt : ∀ d : Nat, nd ≤ d → d < 8 → (fun _ => (0 : Int64) : Nat → Int64) d = 0 := fun _ _ _ => rfl
          have st := step GG0 VN0 PN0 (zL8 gross 0 0 0 0 0 0 0) (fun _ => 0) rfl (by rw [hVN0]; rfl) (fun d _ => by rw [hGG0]) hpt (fun c _ _ => by rw [hVN0]) hPN0
          have hV00 : VN0 0 = gross := by rw [hVN0]; rfl
          refine Or.inl ⟨6, 3, 27, 7, fun z u2 => ∃ (pa te pp : Nat) (GG VN PN : Nat → Int64), VN = (zWkV (zSel de nd 1) (zSel de nd 0) (zHasF (ew k)) (zDueF so si ca bs bon gross (zSum (fun i => V k i 0) (hd k)) GG) (zWh (FF (tw k)) (GF (tw k)) (tn (tw k)) (pw k) (mw k) (rl k) (cw k) bon brt (zUs (bo k) (hd k)) (zSumU (bo k) (fun i => V k i 2) (hd k)) (zSumU (bo k) (fun i => V k i 3) (hd k))) (xw k) bon (zL8 gross 0 0 0 0 0 0 0) (fun _ => 0)) ∧ PN = (zWkL (zSel de nd 1) (zSel de nd 0) (zHasF (ew k)) (zDueF so si ca bs bon gross (zSum (fun i => V k i 0) (hd k)) GG) (zWh (FF (tw k)) (GF (tw k)) (tn (tw k)) (pw k) (mw k) (rl k) (cw k) bon brt (zUs (bo k) (hd k)) (zSumU (bo k) (fun i => V k i 2) (hd k)) (zSumU (bo k) (fun i => V k i 3) (hd k))) (xw k) bon (zL8 gross 0 0 0 0 0 0 0) (fun _ => 0)).2 ∧ z = VN 6 ∧ uc pa = none ∧ uc te = none ∧ uc pp = none ∧ te ≠ pp ∧ (∀ d : Nat, d < 8 → GG d = zSum (fun i => P k i d) (hd k)) ∧ zEx uc u2 [(AD (32, k, 0), (eR cs 4 60 (va_up (fun i => if i < al k then some (AD (40, k, i)) else none) (hd k) (some (pa))))), (pa, (zPayE (te) (pp) bon brt VN)), (te, (.inr (4, [.ref (AD (10, tw k, 0)), .int (pw k), .int (mw k), .long (rl k), .long (cw k), .long (xw k), .int (ew k)]))), (pp, (eJ cs 8 PN)), (AD (4, 0, 0), (.inr (0, [.ref (AD (5, 0, 0)), .long (zSum (fun i => V k i 0) (hd k)), .int (nI (zUs (bo k) (hd k))), .long (zSumU (bo k) (fun i => V k i 2) (hd k)), .long (zSumU (bo k) (fun i => V k i 3) (hd k))]))), (AD (5, 0, 0), (eJ cs 8 GG))], fun b m2 => b = VN0 6 ∧ ∃ J' : Nat → Nat → Int64, mOut (va_up (va_up (va_up (va_up J 25 (vp_updL (J 25) (60 * k + hd k) gross)) 32 (vp_updL (J 32) (60 * k + hd k) (rl k))) 33 (vp_updL (J 33) (60 * k + hd k) (cw k))) 34 (vp_updL (J 34) (60 * k + hd k) (xw k))) J' ∧ zMQ cs um m2 ad mm (mo ad 0 (nI nb) (nI nd) (nI nw) brt (nI ny) wd) J' (va_up (va_up (va_up (va_up (va_up (va_up K 26 (upd (K 26) (60 * k + hd k) bon)) 27 (upd (K 27) (60 * k + hd k) (nI (tw k)))) 28 (upd (K 28) (60 * k + hd k) (pw k))) 29 (upd (K 29) (60 * k + hd k) (mw k))) 30 (upd (K 30) (60 * k + hd k) (ew k))) 31 (upd (K 31) (60 * k + hd k) brt)), by decide, by decide, by decide, by decide, fun sz => ((c_X6_ask_new l D cs uc sz _ _ _ _ _ _ _ _ _ _ _ _ _ _ _ _ _ _ _ _ _ _ _ _ _ _ _ _ _ _ _ _ _ _ _ _ _ _ _ _ _ _ _ _ _ _ _ _ _ _ _ _ _ _ _ _ _ hWn hk hDs ((hW.2.1 k hk).2.2.2.2) hn htb.1 hg hbon ((fun i hi z => absurd (show (42 : Nat) = 5 from congrArg Prod.fst (hR.2 _ _ _ _ (cR_42 hk (Nat.lt_of_lt_of_le hi hal)) cR_5 z)) (by decide))) ((if_neg (by omega))) hf hdr ha hapc ((hR.1 _ _ (cR_30 hk))) ((hR.1 _ _ (cR_32 hk))) ((hR.1 _ _ (cR_31 hk))) ((hR.1 _ _ (cR_10 htk))) ((hR.1 _ _ (cR_11 htk))) ((hR.1 _ _ (cR_12 htk))) hwr)).to (fun r w2 q => (by obtain ⟨pa, te, pp, GG, q0, q1, q2, q3, q4, q5, q6⟩ := q; exact ⟨_, q0, pa, te, pp, GG, _, _, rfl, rfl, rfl, q1, q2, q3, q4, q5, q6⟩)), fun sz => (model VN0 PN0 sz hV00 st.2.1).to (fun r w2 q => ⟨_, q.1, rfl, q.2⟩), ?_⟩
          rintro z u2 b m2 ⟨pa, te, pp, GG, VN, PN, eV, eP, ez, g1, g2, g3, g4, hG, hx⟩ ⟨rfl, J', ho, hq⟩
          subst ez
          have hcg := zWk_congr (selE := zSel de nd 1) (selL := zSel de nd 0) (has := zHasF (ew k)) (d1 := (zDueF so si ca bs bon gross (zSum (fun i => V k i 0) (hd k)) GG)) (d2 := (zDueF so si ca bs bon gross (zSum (fun i => V k i 0) (hd k)) GG0)) (wh := (zWh (FF (tw k)) (GF (tw k)) (tn (tw k)) (pw k) (mw k) (rl k) (cw k) bon brt (zUs (bo k) (hd k)) (zSumU (bo k) (fun i => V k i 2) (hd k)) (zSumU (bo k) (fun i => V k i 3) (hd k)))) (ex := xw k) (bo := bon) (V := (zL8 gross 0 0 0 0 0 0 0)) (PT := (fun _ => 0)) (fun i hi => by unfold zDueF; rw [hG i hi, hGG0])
          have eVN : VN = VN0 := by rw [eV, hVN0, hcg.1]
          have ePN : PN = PN0 := by rw [eP, hPN0, hcg.2]
          clear eV eP hVN0 hPN0 hcg
          subst eVN
          subst ePN
          obtain ⟨bo2, ebo⟩ : ∃ z, z = va_up (bo k) (hd k) bon := ⟨_, rfl⟩
          obtain ⟨rb2, erb⟩ : ∃ z, z = va_up (rb k) (hd k) brt := ⟨_, rfl⟩
          obtain ⟨pe2, epe⟩ : ∃ z, z = va_up (pe k) (hd k) (pw k) := ⟨_, rfl⟩
          obtain ⟨me2, eme⟩ : ∃ z, z = va_up (me k) (hd k) (mw k) := ⟨_, rfl⟩
          obtain ⟨re2, ere⟩ : ∃ z, z = va_up (re k) (hd k) (rl k) := ⟨_, rfl⟩
          obtain ⟨cr2, ecr⟩ : ∃ z, z = va_up (cr k) (hd k) (cw k) := ⟨_, rfl⟩
          obtain ⟨xt2, ext⟩ : ∃ z, z = va_up (xt k) (hd k) (xw k) := ⟨_, rfl⟩
          obtain ⟨en2, een⟩ : ∃ z, z = va_up (en k) (hd k) (ew k) := ⟨_, rfl⟩
          obtain ⟨tx2, etx⟩ : ∃ z, z = va_up (tx k) (hd k) (tw k) := ⟨_, rfl⟩
          obtain ⟨V2, eV⟩ : ∃ z, z = va_up (V k) (hd k) VN := ⟨_, rfl⟩
          obtain ⟨P2, eP⟩ : ∃ z, z = va_up (P k) (hd k) PN := ⟨_, rfl⟩
          rw [← ebo, ← erb, ← epe, ← eme, ← ere, ← ecr, ← ext, ← een, ← etx, ← eV, ← eP] at st
          have sbo : bo2 (hd k) = bon := by rw [ebo, va_up_self]
          have srb : rb2 (hd k) = brt := by rw [erb, va_up_self]
          have spe : pe2 (hd k) = (pw k) := by rw [epe, va_up_self]
          have sme : me2 (hd k) = (mw k) := by rw [eme, va_up_self]
          have sre : re2 (hd k) = (rl k) := by rw [ere, va_up_self]
          have scr : cr2 (hd k) = (cw k) := by rw [ecr, va_up_self]
          have sxt : xt2 (hd k) = (xw k) := by rw [ext, va_up_self]
          have sen : en2 (hd k) = (ew k) := by rw [een, va_up_self]
          have stx : tx2 (hd k) = (tw k) := by rw [etx, va_up_self]
          have sV : V2 (hd k) = VN := by rw [eV, va_up_self]
          have sP : P2 (hd k) = PN := by rw [eP, va_up_self]
          have obo : ∀ i : Nat, i ≠ hd k → bo2 i = bo k i := fun i hi => by rw [ebo, va_up_ne _ _ hi]
          have orb : ∀ i : Nat, i ≠ hd k → rb2 i = rb k i := fun i hi => by rw [erb, va_up_ne _ _ hi]
          have ope : ∀ i : Nat, i ≠ hd k → pe2 i = pe k i := fun i hi => by rw [epe, va_up_ne _ _ hi]
          have ome : ∀ i : Nat, i ≠ hd k → me2 i = me k i := fun i hi => by rw [eme, va_up_ne _ _ hi]
          have ore : ∀ i : Nat, i ≠ hd k → re2 i = re k i := fun i hi => by rw [ere, va_up_ne _ _ hi]
          have ocr : ∀ i : Nat, i ≠ hd k → cr2 i = cr k i := fun i hi => by rw [ecr, va_up_ne _ _ hi]
          have oxt : ∀ i : Nat, i ≠ hd k → xt2 i = xt k i := fun i hi => by rw [ext, va_up_ne _ _ hi]
          have oen : ∀ i : Nat, i ≠ hd k → en2 i = en k i := fun i hi => by rw [een, va_up_ne _ _ hi]
          have otx : ∀ i : Nat, i ≠ hd k → tx2 i = tx k i := fun i hi => by rw [etx, va_up_ne _ _ hi]
          have oV : ∀ i : Nat, i ≠ hd k → V2 i = V k i := fun i hi => by rw [eV, va_up_ne _ _ hi]
          have oP : ∀ i : Nat, i ≠ hd k → P2 i = P k i := fun i hi => by rw [eP, va_up_ne _ _ hi]
          have u1 := hx.at 1 rfl
          have u2_ := hx.at 2 rfl
          have u3 := hx.at 3 rfl
          obtain ⟨AE, hAE⟩ : ∃ z, z = (r_up (r_up (r_up AD (40, k, hd k) pa) (41, k, hd k) te) (42, k, hd k) pp) := ⟨_, rfl⟩
          have n0 : AE (40, k, hd k) = pa := by rw [hAE, r_up_ne _ _ (fun z => absurd (show (40 : Nat) = 42 from congrArg Prod.fst z) (by decide)), r_up_ne _ _ (fun z => absurd (show (40 : Nat) = 41 from congrArg Prod.fst z) (by decide)), r_up_self]
          have n1 : AE (41, k, hd k) = te := by rw [hAE, r_up_ne _ _ (fun z => absurd (show (41 : Nat) = 42 from congrArg Prod.fst z) (by decide)), r_up_self]
          have n2 : AE (42, k, hd k) = pp := by rw [hAE, r_up_self]
          have hag : ∀ (r : Nat × Nat × Nat) (e : va_E), cR cs AD nb tn FF GF tt nd de so si ca bs nw tw pw mw rl cw xw ew hd al se bo rb pe me re cr xt en tx V P ST brt ny wd ag us ai ab AP r = some e → AE r = AD r := fun r e q => by
            rw [hAE, r_up_ne _ _ (fun z => by rw [z, cN_42 (k := k) (i := hd k) (by omega)] at q; cases q), r_up_ne _ _ (fun z => by rw [z, cN_41 (k := k) (i := hd k) (by omega)] at q; cases q), r_up_ne _ _ (fun z => by rw [z, cN_40 (k := k) (i := hd k) (by omega)] at q; cases q)]
          have hR0 := hR.re (AE := AE) hp hag
          have hf0 := cR_agree (AE := AE) hp hag
          have hR1 := hR0.new (40, k, hd k) (.inr (0, [])) (by rw [n0]; exact g1) (by rw [cN_40 (k := k) (i := hd k) (by omega)])
          have hR2 := hR1.new (41, k, hd k) (.inr (0, [])) (by rw [n1, va_up_ne _ _ (by rw [n0]; exact (zne u2_ u1 (by intro q9; first | cases q9 | simp at q9)))]; exact g2) (by rw [r_up_ne _ _ (fun z => absurd (show (41 : Nat) = 40 from congrArg Prod.fst z) (by decide)), cN_41 (k := k) (i := hd k) (by omega)])
          have hR3 := hR2.new (42, k, hd k) (.inr (0, [])) (by rw [n2, va_up_ne _ _ (by rw [n1]; exact (Ne.symm g4)), va_up_ne _ _ (by rw [n0]; exact (zne u3 u1 (by intro q9; first | cases q9 | simp at q9)))]; exact g3) (by rw [r_up_ne _ _ (fun z => absurd (show (42 : Nat) = 41 from congrArg Prod.fst z) (by decide)), r_up_ne _ _ (fun z => absurd (show (42 : Nat) = 40 from congrArg Prod.fst z) (by decide)), cN_42 (k := k) (i := hd k) (by omega)])
          have hold : ∀ (r : Nat × Nat × Nat) (e : va_E), cR cs AE nb tn FF GF tt nd de so si ca bs nw tw pw mw rl cw xw ew hd al se bo rb pe me re cr xt en tx V P ST brt ny wd ag us ai ab AP r = some e → (r_up (r_up (r_up (cR cs AE nb tn FF GF tt nd de so si ca bs nw tw pw mw rl cw xw ew hd al se bo rb pe me re cr xt en tx V P ST brt ny wd ag us ai ab AP) (40, k, hd k) (some (.inr (0, [])))) (41, k, hd k) (some (.inr (0, [])))) (42, k, hd k) (some (.inr (0, [])))) r = some e := fun r e q => by
            rw [r_up_ne _ _ (fun z => by rw [z, cN_42 (k := k) (i := hd k) (by omega)] at q; cases q), r_up_ne _ _ (fun z => by rw [z, cN_41 (k := k) (i := hd k) (by omega)] at q; cases q), r_up_ne _ _ (fun z => by rw [z, cN_40 (k := k) (i := hd k) (by omega)] at q; cases q)]
            exact q
          have w0 : (r_up (r_up (r_up (cR cs AE nb tn FF GF tt nd de so si ca bs nw tw pw mw rl cw xw ew hd al se bo rb pe me re cr xt en tx V P ST brt ny wd ag us ai ab AP) (40, k, hd k) (some (.inr (0, [])))) (41, k, hd k) (some (.inr (0, [])))) (42, k, hd k) (some (.inr (0, [])))) (40, k, hd k) = some (.inr (0, [])) := by rw [r_up_ne _ _ (fun z => absurd (show (40 : Nat) = 42 from congrArg Prod.fst z) (by decide)), r_up_ne _ _ (fun z => absurd (show (40 : Nat) = 41 from congrArg Prod.fst z) (by decide)), r_up_self]
          have w1 : (r_up (r_up (r_up (cR cs AE nb tn FF GF tt nd de so si ca bs nw tw pw mw rl cw xw ew hd al se bo rb pe me re cr xt en tx V P ST brt ny wd ag us ai ab AP) (40, k, hd k) (some (.inr (0, [])))) (41, k, hd k) (some (.inr (0, [])))) (42, k, hd k) (some (.inr (0, [])))) (41, k, hd k) = some (.inr (0, [])) := by rw [r_up_ne _ _ (fun z => absurd (show (41 : Nat) = 42 from congrArg Prod.fst z) (by decide)), r_up_self]
          have w2 : (r_up (r_up (r_up (cR cs AE nb tn FF GF tt nd de so si ca bs nw tw pw mw rl cw xw ew hd al se bo rb pe me re cr xt en tx V P ST brt ny wd ag us ai ab AP) (40, k, hd k) (some (.inr (0, [])))) (41, k, hd k) (some (.inr (0, [])))) (42, k, hd k) (some (.inr (0, [])))) (42, k, hd k) = some (.inr (0, [])) := by rw [r_up_self]
          have hx2 : zEx uc u2 [(AE (32, k, 0), (eR cs 4 60 (va_up (fun i => if i < al k then some (AD (40, k, i)) else none) (hd k) (some (AE (40, k, hd k)))))), (AE (40, k, hd k), (zPayE (AE (41, k, hd k)) (AE (42, k, hd k)) bon brt VN)), (AE (41, k, hd k), (.inr (4, [.ref (AE (10, tw k, 0)), .int (pw k), .int (mw k), .long (rl k), .long (cw k), .long (xw k), .int (ew k)]))), (AE (42, k, hd k), (eJ cs 8 PN)), (AE (4, 0, 0), (.inr (0, [.ref (AE (5, 0, 0)), .long (zSum (fun i => V k i 0) (hd k)), .int (nI (zUs (bo k) (hd k))), .long (zSumU (bo k) (fun i => V k i 2) (hd k)), .long (zSumU (bo k) (fun i => V k i 3) (hd k))]))), (AE (5, 0, 0), (eJ cs 8 GG))] := by
            rw [hag _ _ cR_4, hag _ _ cR_5, hag _ _ (cR_32 hk), hag _ _ (cR_10 htk), n0, n1, n2]
            exact hx
          have hx3 := ((hx2.pre (e0 := .inr (0, [])) (List.mem_of_getElem? (i := 1) rfl)).pre (e0 := .inr (0, [])) (List.mem_of_getElem? (i := 2) rfl)).pre (e0 := .inr (0, [])) (List.mem_of_getElem? (i := 3) rfl)
          have ef : (fun i => if i < hd k + 1 then some (AE (40, k, i)) else none) = va_up (fun i => if i < al k then some (AD (40, k, i)) else none) (hd k) (some (AE (40, k, hd k))) := by
            funext y
            by_cases q : y = hd k
            · rw [q, va_up_self, if_pos (by omega)]
            · rw [va_up_ne _ _ q]
              by_cases q2 : y < al k
              · rw [if_pos q2, if_pos (by omega), hag _ _ (cR_40 hk q2)]
              · rw [if_neg q2, if_neg (by omega)]
          have hR2 : zRep u2 AE (cR cs AE nb tn FF GF tt nd de so si ca bs nw tw pw mw rl cw xw ew hd (va_up al k (hd k + 1)) se (va_up bo k bo2) (va_up rb k rb2) (va_up pe k pe2) (va_up me k me2) (va_up re k re2) (va_up cr k cr2) (va_up xt k xt2) (va_up en k en2) (va_up tx k tx2) (va_up V k V2) (va_up P k P2) ST brt ny wd (zSum (fun i => V k i 0) (hd k)) (nI (zUs (bo k) (hd k))) (zSumU (bo k) (fun i => V k i 2) (hd k)) (zSumU (bo k) (fun i => V k i 3) (hd k)) (GG)) := by
            refine hR3.put [((32, k, 0), (eR cs 4 60 (va_up (fun i => if i < al k then some (AD (40, k, i)) else none) (hd k) (some (AE (40, k, hd k)))))), ((40, k, hd k), (zPayE (AE (41, k, hd k)) (AE (42, k, hd k)) bon brt VN)), ((41, k, hd k), (.inr (4, [.ref (AE (10, tw k, 0)), .int (pw k), .int (mw k), .long (rl k), .long (cw k), .long (xw k), .int (ew k)]))), ((42, k, hd k), (eJ cs 8 PN)), ((4, 0, 0), (.inr (0, [.ref (AE (5, 0, 0)), .long (zSum (fun i => V k i 0) (hd k)), .int (nI (zUs (bo k) (hd k))), .long (zSumU (bo k) (fun i => V k i 2) (hd k)), .long (zSumU (bo k) (fun i => V k i 3) (hd k))]))), ((5, 0, 0), (eJ cs 8 GG))] hx3 (zall1 ⟨_, hold _ _ (cR_32 hk)⟩ (zall1 ⟨_, w0⟩ (zall1 ⟨_, w1⟩ (zall1 ⟨_, w2⟩ (zall1 ⟨_, hold _ _ cR_4⟩ (zall1 ⟨_, hold _ _ cR_5⟩ zall0)))))) (cR_cases ?_ ?_ ?_ ?_ ?_ ?_ ?_ ?_ ?_ ?_ ?_ ?_ ?_ ?_ ?_ ?_ ?_ ?_)
            · exact Or.inr ⟨hold _ _ cR_0, (zall1 (fun z => absurd (show (0 : Nat) = 32 from congrArg Prod.fst z) (by decide)) (zall1 (fun z => absurd (show (0 : Nat) = 40 from congrArg Prod.fst z) (by decide)) (zall1 (fun z => absurd (show (0 : Nat) = 41 from congrArg Prod.fst z) (by decide)) (zall1 (fun z => absurd (show (0 : Nat) = 42 from congrArg Prod.fst z) (by decide)) (zall1 (fun z => absurd (show (0 : Nat) = 4 from congrArg Prod.fst z) (by decide)) (zall1 (fun z => absurd (show (0 : Nat) = 5 from congrArg Prod.fst z) (by decide)) zall0))))))⟩
            · exact Or.inr ⟨hold _ _ cR_1, (zall1 (fun z => absurd (show (1 : Nat) = 32 from congrArg Prod.fst z) (by decide)) (zall1 (fun z => absurd (show (1 : Nat) = 40 from congrArg Prod.fst z) (by decide)) (zall1 (fun z => absurd (show (1 : Nat) = 41 from congrArg Prod.fst z) (by decide)) (zall1 (fun z => absurd (show (1 : Nat) = 42 from congrArg Prod.fst z) (by decide)) (zall1 (fun z => absurd (show (1 : Nat) = 4 from congrArg Prod.fst z) (by decide)) (zall1 (fun z => absurd (show (1 : Nat) = 5 from congrArg Prod.fst z) (by decide)) zall0))))))⟩
            · exact Or.inr ⟨hold _ _ cR_2, (zall1 (fun z => absurd (show (2 : Nat) = 32 from congrArg Prod.fst z) (by decide)) (zall1 (fun z => absurd (show (2 : Nat) = 40 from congrArg Prod.fst z) (by decide)) (zall1 (fun z => absurd (show (2 : Nat) = 41 from congrArg Prod.fst z) (by decide)) (zall1 (fun z => absurd (show (2 : Nat) = 42 from congrArg Prod.fst z) (by decide)) (zall1 (fun z => absurd (show (2 : Nat) = 4 from congrArg Prod.fst z) (by decide)) (zall1 (fun z => absurd (show (2 : Nat) = 5 from congrArg Prod.fst z) (by decide)) zall0))))))⟩
            · exact Or.inr ⟨hold _ _ cR_3, (zall1 (fun z => absurd (show (3 : Nat) = 32 from congrArg Prod.fst z) (by decide)) (zall1 (fun z => absurd (show (3 : Nat) = 40 from congrArg Prod.fst z) (by decide)) (zall1 (fun z => absurd (show (3 : Nat) = 41 from congrArg Prod.fst z) (by decide)) (zall1 (fun z => absurd (show (3 : Nat) = 42 from congrArg Prod.fst z) (by decide)) (zall1 (fun z => absurd (show (3 : Nat) = 4 from congrArg Prod.fst z) (by decide)) (zall1 (fun z => absurd (show (3 : Nat) = 5 from congrArg Prod.fst z) (by decide)) zall0))))))⟩
            · exact Or.inl (List.mem_of_getElem? (i := 4) rfl)
            · exact Or.inl (List.mem_of_getElem? (i := 5) rfl)
            · exact fun k hk => Or.inr ⟨hold _ _ (cR_10 hk), (zall1 (fun z => absurd (show (10 : Nat) = 32 from congrArg Prod.fst z) (by decide)) (zall1 (fun z => absurd (show (10 : Nat) = 40 from congrArg Prod.fst z) (by decide)) (zall1 (fun z => absurd (show (10 : Nat) = 41 from congrArg Prod.fst z) (by decide)) (zall1 (fun z => absurd (show (10 : Nat) = 42 from congrArg Prod.fst z) (by decide)) (zall1 (fun z => absurd (show (10 : Nat) = 4 from congrArg Prod.fst z) (by decide)) (zall1 (fun z => absurd (show (10 : Nat) = 5 from congrArg Prod.fst z) (by decide)) zall0))))))⟩
            · exact fun k hk => Or.inr ⟨hold _ _ (cR_11 hk), (zall1 (fun z => absurd (show (11 : Nat) = 32 from congrArg Prod.fst z) (by decide)) (zall1 (fun z => absurd (show (11 : Nat) = 40 from congrArg Prod.fst z) (by decide)) (zall1 (fun z => absurd (show (11 : Nat) = 41 from congrArg Prod.fst z) (by decide)) (zall1 (fun z => absurd (show (11 : Nat) = 42 from congrArg Prod.fst z) (by decide)) (zall1 (fun z => absurd (show (11 : Nat) = 4 from congrArg Prod.fst z) (by decide)) (zall1 (fun z => absurd (show (11 : Nat) = 5 from congrArg Prod.fst z) (by decide)) zall0))))))⟩
            · exact fun k hk => Or.inr ⟨hold _ _ (cR_12 hk), (zall1 (fun z => absurd (show (12 : Nat) = 32 from congrArg Prod.fst z) (by decide)) (zall1 (fun z => absurd (show (12 : Nat) = 40 from congrArg Prod.fst z) (by decide)) (zall1 (fun z => absurd (show (12 : Nat) = 41 from congrArg Prod.fst z) (by decide)) (zall1 (fun z => absurd (show (12 : Nat) = 42 from congrArg Prod.fst z) (by decide)) (zall1 (fun z => absurd (show (12 : Nat) = 4 from congrArg Prod.fst z) (by decide)) (zall1 (fun z => absurd (show (12 : Nat) = 5 from congrArg Prod.fst z) (by decide)) zall0))))))⟩
            · exact fun k hk => Or.inr ⟨hold _ _ (cR_20 hk), (zall1 (fun z => absurd (show (20 : Nat) = 32 from congrArg Prod.fst z) (by decide)) (zall1 (fun z => absurd (show (20 : Nat) = 40 from congrArg Prod.fst z) (by decide)) (zall1 (fun z => absurd (show (20 : Nat) = 41 from congrArg Prod.fst z) (by decide)) (zall1 (fun z => absurd (show (20 : Nat) = 42 from congrArg Prod.fst z) (by decide)) (zall1 (fun z => absurd (show (20 : Nat) = 4 from congrArg Prod.fst z) (by decide)) (zall1 (fun z => absurd (show (20 : Nat) = 5 from congrArg Prod.fst z) (by decide)) zall0))))))⟩
            · exact fun k hk => Or.inr ⟨hold _ _ (cR_30 hk), (zall1 (fun z => absurd (show (30 : Nat) = 32 from congrArg Prod.fst z) (by decide)) (zall1 (fun z => absurd (show (30 : Nat) = 40 from congrArg Prod.fst z) (by decide)) (zall1 (fun z => absurd (show (30 : Nat) = 41 from congrArg Prod.fst z) (by decide)) (zall1 (fun z => absurd (show (30 : Nat) = 42 from congrArg Prod.fst z) (by decide)) (zall1 (fun z => absurd (show (30 : Nat) = 4 from congrArg Prod.fst z) (by decide)) (zall1 (fun z => absurd (show (30 : Nat) = 5 from congrArg Prod.fst z) (by decide)) zall0))))))⟩
            · exact fun k hk => Or.inr ⟨hold _ _ (cR_31 hk), (zall1 (fun z => absurd (show (31 : Nat) = 32 from congrArg Prod.fst z) (by decide)) (zall1 (fun z => absurd (show (31 : Nat) = 40 from congrArg Prod.fst z) (by decide)) (zall1 (fun z => absurd (show (31 : Nat) = 41 from congrArg Prod.fst z) (by decide)) (zall1 (fun z => absurd (show (31 : Nat) = 42 from congrArg Prod.fst z) (by decide)) (zall1 (fun z => absurd (show (31 : Nat) = 4 from congrArg Prod.fst z) (by decide)) (zall1 (fun z => absurd (show (31 : Nat) = 5 from congrArg Prod.fst z) (by decide)) zall0))))))⟩
            · intro j hj
              by_cases q : j = k
              · subst q
                refine Or.inl ?_
                rw [va_up_self, ef]
                exact List.mem_of_getElem? (i := 0) rfl
              · refine Or.inr ⟨?_, (zall1 (fun z => q (congrArg (fun r : Nat × Nat × Nat => r.2.1) z)) (zall1 (fun z => absurd (show (32 : Nat) = 40 from congrArg Prod.fst z) (by decide)) (zall1 (fun z => absurd (show (32 : Nat) = 41 from congrArg Prod.fst z) (by decide)) (zall1 (fun z => absurd (show (32 : Nat) = 42 from congrArg Prod.fst z) (by decide)) (zall1 (fun z => absurd (show (32 : Nat) = 4 from congrArg Prod.fst z) (by decide)) (zall1 (fun z => absurd (show (32 : Nat) = 5 from congrArg Prod.fst z) (by decide)) zall0))))))⟩
                rw [va_up_ne _ _ q]
                exact hold _ _ (cR_32 hj)
            · exact fun k hk => Or.inr ⟨hold _ _ (cR_33 hk), (zall1 (fun z => absurd (show (33 : Nat) = 32 from congrArg Prod.fst z) (by decide)) (zall1 (fun z => absurd (show (33 : Nat) = 40 from congrArg Prod.fst z) (by decide)) (zall1 (fun z => absurd (show (33 : Nat) = 41 from congrArg Prod.fst z) (by decide)) (zall1 (fun z => absurd (show (33 : Nat) = 42 from congrArg Prod.fst z) (by decide)) (zall1 (fun z => absurd (show (33 : Nat) = 4 from congrArg Prod.fst z) (by decide)) (zall1 (fun z => absurd (show (33 : Nat) = 5 from congrArg Prod.fst z) (by decide)) zall0))))))⟩
            · intro j y hj hy
              by_cases q : j = k
              · subst q
                rw [va_up_self] at hy
                by_cases q2 : y = hd j
                · subst q2
                  refine Or.inl ?_
                  rw [va_up_self, va_up_self, va_up_self, sbo, srb, sV]
                  exact List.mem_of_getElem? (i := 1) rfl
                · refine Or.inr ⟨?_, (zall1 (fun z => absurd (show (40 : Nat) = 32 from congrArg Prod.fst z) (by decide)) (zall1 (fun z => q2 (congrArg (fun r : Nat × Nat × Nat => r.2.2) z)) (zall1 (fun z => absurd (show (40 : Nat) = 41 from congrArg Prod.fst z) (by decide)) (zall1 (fun z => absurd (show (40 : Nat) = 42 from congrArg Prod.fst z) (by decide)) (zall1 (fun z => absurd (show (40 : Nat) = 4 from congrArg Prod.fst z) (by decide)) (zall1 (fun z => absurd (show (40 : Nat) = 5 from congrArg Prod.fst z) (by decide)) zall0))))))⟩
                  rw [va_up_self, va_up_self, va_up_self, obo y q2, orb y q2, oV y q2]
                  exact hold _ _ (cR_40 hj (by omega))
              · refine Or.inr ⟨?_, (zall1 (fun z => absurd (show (40 : Nat) = 32 from congrArg Prod.fst z) (by decide)) (zall1 (fun z => q (congrArg (fun r : Nat × Nat × Nat => r.2.1) z)) (zall1 (fun z => absurd (show (40 : Nat) = 41 from congrArg Prod.fst z) (by decide)) (zall1 (fun z => absurd (show (40 : Nat) = 42 from congrArg Prod.fst z) (by decide)) (zall1 (fun z => absurd (show (40 : Nat) = 4 from congrArg Prod.fst z) (by decide)) (zall1 (fun z => absurd (show (40 : Nat) = 5 from congrArg Prod.fst z) (by decide)) zall0))))))⟩
                rw [va_up_ne _ _ q] at hy
                rw [va_up_ne _ _ q, va_up_ne _ _ q, va_up_ne _ _ q]
                exact hold _ _ (cR_40 hj hy)
            · intro j y hj hy
              by_cases q : j = k
              · subst q
                rw [va_up_self] at hy
                by_cases q2 : y = hd j
                · subst q2
                  refine Or.inl ?_
                  rw [va_up_self, va_up_self, va_up_self, va_up_self, va_up_self, va_up_self, va_up_self, stx, spe, sme, sre, scr, sxt, sen]
                  exact List.mem_of_getElem? (i := 2) rfl
                · refine Or.inr ⟨?_, (zall1 (fun z => absurd (show (41 : Nat) = 32 from congrArg Prod.fst z) (by decide)) (zall1 (fun z => absurd (show (41 : Nat) = 40 from congrArg Prod.fst z) (by decide)) (zall1 (fun z => q2 (congrArg (fun r : Nat × Nat × Nat => r.2.2) z)) (zall1 (fun z => absurd (show (41 : Nat) = 42 from congrArg Prod.fst z) (by decide)) (zall1 (fun z => absurd (show (41 : Nat) = 4 from congrArg Prod.fst z) (by decide)) (zall1 (fun z => absurd (show (41 : Nat) = 5 from congrArg Prod.fst z) (by decide)) zall0))))))⟩
                  rw [va_up_self, va_up_self, va_up_self, va_up_self, va_up_self, va_up_self, va_up_self, otx y q2, ope y q2, ome y q2, ore y q2, ocr y q2, oxt y q2, oen y q2]
                  exact hold _ _ (cR_41 hj (by omega))
              · refine Or.inr ⟨?_, (zall1 (fun z => absurd (show (41 : Nat) = 32 from congrArg Prod.fst z) (by decide)) (zall1 (fun z => absurd (show (41 : Nat) = 40 from congrArg Prod.fst z) (by decide)) (zall1 (fun z => q (congrArg (fun r : Nat × Nat × Nat => r.2.1) z)) (zall1 (fun z => absurd (show (41 : Nat) = 42 from congrArg Prod.fst z) (by decide)) (zall1 (fun z => absurd (show (41 : Nat) = 4 from congrArg Prod.fst z) (by decide)) (zall1 (fun z => absurd (show (41 : Nat) = 5 from congrArg Prod.fst z) (by decide)) zall0))))))⟩
                rw [va_up_ne _ _ q] at hy
                rw [va_up_ne _ _ q, va_up_ne _ _ q, va_up_ne _ _ q, va_up_ne _ _ q, va_up_ne _ _ q, va_up_ne _ _ q, va_up_ne _ _ q]
                exact hold _ _ (cR_41 hj hy)
            · intro j y hj hy
              by_cases q : j = k
              · subst q
                rw [va_up_self] at hy
                by_cases q2 : y = hd j
                · subst q2
                  refine Or.inl ?_
                  rw [va_up_self, sP]
                  exact List.mem_of_getElem? (i := 3) rfl
                · refine Or.inr ⟨?_, (zall1 (fun z => absurd (show (42 : Nat) = 32 from congrArg Prod.fst z) (by decide)) (zall1 (fun z => absurd (show (42 : Nat) = 40 from congrArg Prod.fst z) (by decide)) (zall1 (fun z => absurd (show (42 : Nat) = 41 from congrArg Prod.fst z) (by decide)) (zall1 (fun z => q2 (congrArg (fun r : Nat × Nat × Nat => r.2.2) z)) (zall1 (fun z => absurd (show (42 : Nat) = 4 from congrArg Prod.fst z) (by decide)) (zall1 (fun z => absurd (show (42 : Nat) = 5 from congrArg Prod.fst z) (by decide)) zall0))))))⟩
                  rw [va_up_self, oP y q2]
                  exact hold _ _ (cR_42 hj (by omega))
              · refine Or.inr ⟨?_, (zall1 (fun z => absurd (show (42 : Nat) = 32 from congrArg Prod.fst z) (by decide)) (zall1 (fun z => absurd (show (42 : Nat) = 40 from congrArg Prod.fst z) (by decide)) (zall1 (fun z => absurd (show (42 : Nat) = 41 from congrArg Prod.fst z) (by decide)) (zall1 (fun z => q (congrArg (fun r : Nat × Nat × Nat => r.2.1) z)) (zall1 (fun z => absurd (show (42 : Nat) = 4 from congrArg Prod.fst z) (by decide)) (zall1 (fun z => absurd (show (42 : Nat) = 5 from congrArg Prod.fst z) (by decide)) zall0))))))⟩
                rw [va_up_ne _ _ q] at hy
                rw [va_up_ne _ _ q]
                exact hold _ _ (cR_42 hj hy)
            · exact fun k i hk hi => Or.inr ⟨hold _ _ (cR_43 hk hi), (zall1 (fun z => absurd (show (43 : Nat) = 32 from congrArg Prod.fst z) (by decide)) (zall1 (fun z => absurd (show (43 : Nat) = 40 from congrArg Prod.fst z) (by decide)) (zall1 (fun z => absurd (show (43 : Nat) = 41 from congrArg Prod.fst z) (by decide)) (zall1 (fun z => absurd (show (43 : Nat) = 42 from congrArg Prod.fst z) (by decide)) (zall1 (fun z => absurd (show (43 : Nat) = 4 from congrArg Prod.fst z) (by decide)) (zall1 (fun z => absurd (show (43 : Nat) = 5 from congrArg Prod.fst z) (by decide)) zall0))))))⟩
          have eJ9 : ∀ s ∈ [25, 32, 33, 34], ∀ y : Nat, y ≠ (60 * k + hd k) → (va_up (va_up (va_up (va_up J 25 (vp_updL (J 25) (60 * k + hd k) gross)) 32 (vp_updL (J 32) (60 * k + hd k) (rl k))) 33 (vp_updL (J 33) (60 * k + hd k) (cw k))) 34 (vp_updL (J 34) (60 * k + hd k) (xw k))) s y = J s y := by
            intro s hs y hy
            rcases List.mem_cons.mp hs with rfl | hs
            · exact vpL_ne _ _ hy
            rcases List.mem_cons.mp hs with rfl | hs
            · exact vpL_ne _ _ hy
            rcases List.mem_cons.mp hs with rfl | hs
            · exact vpL_ne _ _ hy
            rcases List.mem_cons.mp hs with rfl | hs
            · exact vpL_ne _ _ hy
            cases hs
          have eK9 : ∀ s ∈ [26, 27, 28, 29, 30, 31], ∀ y : Nat, y ≠ (60 * k + hd k) → (va_up (va_up (va_up (va_up (va_up (va_up K 26 (upd (K 26) (60 * k + hd k) bon)) 27 (upd (K 27) (60 * k + hd k) (nI (tw k)))) 28 (upd (K 28) (60 * k + hd k) (pw k))) 29 (upd (K 29) (60 * k + hd k) (mw k))) 30 (upd (K 30) (60 * k + hd k) (ew k))) 31 (upd (K 31) (60 * k + hd k) brt)) s y = K s y := by
            intro s hs y hy
            rcases List.mem_cons.mp hs with rfl | hs
            · exact up_ne _ _ hy
            rcases List.mem_cons.mp hs with rfl | hs
            · exact up_ne _ _ hy
            rcases List.mem_cons.mp hs with rfl | hs
            · exact up_ne _ _ hy
            rcases List.mem_cons.mp hs with rfl | hs
            · exact up_ne _ _ hy
            rcases List.mem_cons.mp hs with rfl | hs
            · exact up_ne _ _ hy
            rcases List.mem_cons.mp hs with rfl | hs
            · exact up_ne _ _ hy
            cases hs
          have hr1 : mRel (va_up (va_up (va_up (va_up J 25 (vp_updL (J 25) (60 * k + hd k) gross)) 32 (vp_updL (J 32) (60 * k + hd k) (rl k))) 33 (vp_updL (J 33) (60 * k + hd k) (cw k))) 34 (vp_updL (J 34) (60 * k + hd k) (xw k))) (va_up (va_up (va_up (va_up (va_up (va_up K 26 (upd (K 26) (60 * k + hd k) bon)) 27 (upd (K 27) (60 * k + hd k) (nI (tw k)))) 28 (upd (K 28) (60 * k + hd k) (pw k))) 29 (upd (K 29) (60 * k + hd k) (mw k))) 30 (upd (K 30) (60 * k + hd k) (ew k))) 31 (upd (K 31) (60 * k + hd k) brt)) nb tn FF GF tt nd de so si ca bs nw tw pw mw rl cw xw ew hd (va_up al k (hd k + 1)) se (va_up bo k bo2) (va_up rb k rb2) (va_up pe k pe2) (va_up me k me2) (va_up re k re2) (va_up cr k cr2) (va_up xt k xt2) (va_up en k en2) (va_up tx k tx2) (va_up V k V2) (va_up P k P2) ST brt ny wd := by
            refine ⟨hr.1, hr.2.1, (fun j hj => by
              by_cases c : j = k
              · subst c
                rw [va_up_self, va_up_self, va_up_self, va_up_self, va_up_self, va_up_self, va_up_self, va_up_self, va_up_self, va_up_self]
                exact ((hr.2.2.1 j hj).as (fun i hi => ⟨obo i (by omega), orb i (by omega), ope i (by omega), ome i (by omega), ore i (by omega), ocr i (by omega), oxt i (by omega), oen i (by omega), otx i (by omega), by rw [oV i (by omega)]⟩)).keep (x := 60 * j + hd j) (fun i hi => by omega) eJ9 eK9
              · rw [va_up_ne _ _ c, va_up_ne _ _ c, va_up_ne _ _ c, va_up_ne _ _ c, va_up_ne _ _ c, va_up_ne _ _ c, va_up_ne _ _ c, va_up_ne _ _ c, va_up_ne _ _ c, va_up_ne _ _ c]
                have z60 := (show hd j ≤ 60 from Nat.le_trans (hp.2.2.2.2.2.2.2.1 j hj).2.2.2.2.2.2.2.1 (hp.2.2.2.2.2.2.2.1 j hj).2.2.2.2.2.2.2.2.1)
                exact (hr.2.2.1 j hj).keep (x := 60 * k + hd k) (fun i hi => by omega) eJ9 eK9), (fun j hj => by
              by_cases c : j = k
              · subst c
                rw [va_up_self]
                exact ⟨(hr.2.2.2.1 j hj).1, fun i hi => by rw [oV i (by omega)]; exact (hr.2.2.2.1 j hj).2 i hi⟩
              · rw [va_up_ne _ _ c]
                exact hr.2.2.2.1 j hj), hr.2.2.2.2.1, hr.2.2.2.2.2.1, hr.2.2.2.2.2.2.1, hr.2.2.2.2.2.2.2.1, hr.2.2.2.2.2.2.2.2⟩
          have hr2 := hr1.out ho
          have hp2 : zPure nb tn FF GF tt nd de so si ca bs nw tw pw mw rl cw xw ew hd (va_up al k (hd k + 1)) se (va_up bo k bo2) (va_up rb k rb2) (va_up pe k pe2) (va_up me k me2) (va_up re k re2) (va_up cr k cr2) (va_up xt k xt2) (va_up en k en2) (va_up tx k tx2) (va_up V k V2) (va_up P k P2) ST brt ny wd := by
            refine ⟨hp.1, hp.2.1, hp.2.2.1, hp.2.2.2.1, hp.2.2.2.2.1, hp.2.2.2.2.2.1, hp.2.2.2.2.2.2.1, ?_, hp.2.2.2.2.2.2.2.2⟩
            intro j hj
            have q := hp.2.2.2.2.2.2.2.1 j hj
            by_cases c : j = k
            · subst c
              simp only [va_up_self]
              refine ⟨q.1, q.2.1, q.2.2.1, q.2.2.2.1, q.2.2.2.2.1, q.2.2.2.2.2.1, q.2.2.2.2.2.2.1, by omega, by omega, fun i hi => ?_, fun i hi => st.1 i (by omega)⟩
              by_cases c2 : i = hd j
              · rw [c2, stx, sbo, sV, srb, spe, sre, scr, sxt, sen, sP, hV00]
                exact ⟨htk, q.2.1, hbon, hu, hp.2.2.2.2.1, q.2.2.1, q.2.2.2.1, q.2.2.2.2.1, q.2.2.2.2.2.1, fun d h1 h2 => ⟨q.2.2.2.2.2.2.1 d h1 h2, st.2.2 d h1 h2⟩⟩
              · rw [otx i c2, obo i c2, oV i c2, orb i c2, ope i c2, ore i c2, ocr i c2, oxt i c2, oen i c2, oP i c2]
                exact q.2.2.2.2.2.2.2.2.2.1 i (by omega)
            · repeat rw [va_up_ne _ _ c]
              exact q
          exact ⟨rfl, ⟨_, _, _, _, _, _, _, hq.1⟩, zInv.mk hR2 (hag _ _ cR_0) hq.1 hinj hq.2.1 hr2 hp2⟩
        · have hna : hd k < al k := by omega
          obtain ⟨GG0, hGG0⟩ : ∃ z : Nat → Int64, z = (fun d => zSum (fun i => P k i d) (hd k)) := ⟨_, rfl⟩
          obtain ⟨VN0, hVN0⟩ : ∃ z : Nat → Int64, z = (zWkV (zSel de nd 1) (zSel de nd 0) (zHasF (ew k)) (zDueF so si ca bs bon gross (zSum (fun i => V k i 0) (hd k)) GG0) (zWh (FF (tw k)) (GF (tw k)) (tn (tw k)) (pw k) (mw k) (rl k) (cw k) bon brt (zUs (bo k) (hd k)) (zSumU (bo k) (fun i => V k i 2) (hd k)) (zSumU (bo k) (fun i => V k i 3) (hd k))) (xw k) bon (zL8 gross (V k (hd k) 1) (V k (hd k) 2) (V k (hd k) 3) (V k (hd k) 4) (V k (hd k) 5) (V k (hd k) 6) (V k (hd k) 7)) (P k (hd k))) := ⟨_, rfl⟩
          obtain ⟨PN0, hPN0⟩ : ∃ z : Nat → Int64, z = (zWkL (zSel de nd 1) (zSel de nd 0) (zHasF (ew k)) (zDueF so si ca bs bon gross (zSum (fun i => V k i 0) (hd k)) GG0) (zWh (FF (tw k)) (GF (tw k)) (tn (tw k)) (pw k) (mw k) (rl k) (cw k) bon brt (zUs (bo k) (hd k)) (zSumU (bo k) (fun i => V k i 2) (hd k)) (zSumU (bo k) (fun i => V k i 3) (hd k))) (xw k) bon (zL8 gross (V k (hd k) 1) (V k (hd k) 2) (V k (hd k) 3) (V k (hd k) 4) (V k (hd k) 5) (V k (hd k) 6) (V k (hd k) 7)) (P k (hd k))).2 := ⟨_, rfl⟩
          have hpt : ∀ d : Nat, nd ≤ d → d < 8 → (P k (hd k)) d = 0 := fun d h1 h2 => ((hrows (hd k) hna).2.2.2.2.2.2.2.2.2 d h1 h2).2
          have st := step GG0 VN0 PN0 (zL8 gross (V k (hd k) 1) (V k (hd k) 2) (V k (hd k) 3) (V k (hd k) 4) (V k (hd k) 5) (V k (hd k) 6) (V k (hd k) 7)) (P k (hd k)) rfl (by rw [hVN0]; rfl) (fun d _ => by rw [hGG0]) hpt (fun c _ _ => by rw [hVN0]) hPN0
          have hV00 : VN0 0 = gross := by rw [hVN0]; rfl
          refine Or.inl ⟨6, 3, 27, 7, fun z u2 => ∃ GG VN PN : Nat → Int64, VN = (zWkV (zSel de nd 1) (zSel de nd 0) (zHasF (ew k)) (zDueF so si ca bs bon gross (zSum (fun i => V k i 0) (hd k)) GG) (zWh (FF (tw k)) (GF (tw k)) (tn (tw k)) (pw k) (mw k) (rl k) (cw k) bon brt (zUs (bo k) (hd k)) (zSumU (bo k) (fun i => V k i 2) (hd k)) (zSumU (bo k) (fun i => V k i 3) (hd k))) (xw k) bon (zL8 gross (V k (hd k) 1) (V k (hd k) 2) (V k (hd k) 3) (V k (hd k) 4) (V k (hd k) 5) (V k (hd k) 6) (V k (hd k) 7)) (P k (hd k))) ∧ PN = (zWkL (zSel de nd 1) (zSel de nd 0) (zHasF (ew k)) (zDueF so si ca bs bon gross (zSum (fun i => V k i 0) (hd k)) GG) (zWh (FF (tw k)) (GF (tw k)) (tn (tw k)) (pw k) (mw k) (rl k) (cw k) bon brt (zUs (bo k) (hd k)) (zSumU (bo k) (fun i => V k i 2) (hd k)) (zSumU (bo k) (fun i => V k i 3) (hd k))) (xw k) bon (zL8 gross (V k (hd k) 1) (V k (hd k) 2) (V k (hd k) 3) (V k (hd k) 4) (V k (hd k) 5) (V k (hd k) 6) (V k (hd k) 7)) (P k (hd k))).2 ∧ z = VN 6 ∧ (∀ d : Nat, d < 8 → GG d = zSum (fun i => P k i d) (hd k)) ∧ zEx uc u2 [(AD (40, k, hd k), (zPayE (AD (41, k, hd k)) (AD (42, k, hd k)) bon brt VN)), (AD (41, k, hd k), (.inr (4, [.ref (AD (10, tw k, 0)), .int (pw k), .int (mw k), .long (rl k), .long (cw k), .long (xw k), .int (ew k)]))), (AD (42, k, hd k), (eJ cs 8 PN)), (AD (4, 0, 0), (.inr (0, [.ref (AD (5, 0, 0)), .long (zSum (fun i => V k i 0) (hd k)), .int (nI (zUs (bo k) (hd k))), .long (zSumU (bo k) (fun i => V k i 2) (hd k)), .long (zSumU (bo k) (fun i => V k i 3) (hd k))]))), (AD (5, 0, 0), (eJ cs 8 GG))], fun b m2 => b = VN0 6 ∧ ∃ J' : Nat → Nat → Int64, mOut (va_up (va_up (va_up (va_up J 25 (vp_updL (J 25) (60 * k + hd k) gross)) 32 (vp_updL (J 32) (60 * k + hd k) (rl k))) 33 (vp_updL (J 33) (60 * k + hd k) (cw k))) 34 (vp_updL (J 34) (60 * k + hd k) (xw k))) J' ∧ zMQ cs um m2 ad mm (mo ad 0 (nI nb) (nI nd) (nI nw) brt (nI ny) wd) J' (va_up (va_up (va_up (va_up (va_up (va_up K 26 (upd (K 26) (60 * k + hd k) bon)) 27 (upd (K 27) (60 * k + hd k) (nI (tw k)))) 28 (upd (K 28) (60 * k + hd k) (pw k))) 29 (upd (K 29) (60 * k + hd k) (mw k))) 30 (upd (K 30) (60 * k + hd k) (ew k))) 31 (upd (K 31) (60 * k + hd k) brt)), by decide, by decide, by decide, by decide, fun sz => ((c_X6_ask_old l D cs uc sz _ _ _ _ _ _ _ _ _ _ _ _ _ _ _ _ _ _ _ _ _ _ _ _ _ _ _ _ _ _ _ _ _ _ _ _ _ _ _ _ _ _ _ _ _ _ _ _ _ _ _ _ _ _ _ _ _ _ _ _ _ _ _ _ _ _ _ _ _ _ _ ((some (AD (10, tx k (hd k), 0)))) _ _ _ _ _ _ hWn hk hDs ((hW.2.1 k hk).2.2.2.2) hn htb.1 hg hbon ((fun i hi z => absurd (show (42 : Nat) = 5 from congrArg Prod.fst (hR.2 _ _ _ _ (cR_42 hk (Nat.lt_of_lt_of_le hi hal)) cR_5 z)) (by decide))) ((if_pos hna)) ((fun z => absurd (show (42 : Nat) = 5 from congrArg Prod.fst (hR.2 _ _ _ _ (cR_42 hk hna) cR_5 z)) (by decide))) ((fun z => absurd (show (31 : Nat) = 41 from congrArg Prod.fst (hR.2 _ _ _ _ (cR_31 hk) (cR_41 hk hna) z)) (by decide))) ((fun i hi => ⟨fun z => absurd (show i = hd k from congrArg (fun r : Nat × Nat × Nat => r.2.2) (hR.2 _ _ _ _ (cR_40 hk (Nat.lt_of_lt_of_le hi hal)) (cR_40 hk hna) z)) (by omega), fun z => absurd (show i = hd k from congrArg (fun r : Nat × Nat × Nat => r.2.2) (hR.2 _ _ _ _ (cR_42 hk (Nat.lt_of_lt_of_le hi hal)) (cR_42 hk hna) z)) (by omega)⟩)) hf hdr ha hapc ((hR.1 _ _ (cR_30 hk))) ((hR.1 _ _ (cR_32 hk))) ((hR.1 _ _ (cR_31 hk))) ((hR.1 _ _ (cR_10 htk))) ((hR.1 _ _ (cR_11 htk))) ((hR.1 _ _ (cR_12 htk))) ((hR.1 _ _ (cR_40 hk hna))) ((hR.1 _ _ (cR_41 hk hna))) ((hR.1 _ _ (cR_42 hk hna))) hwr)).to (fun r w2 q => (by obtain ⟨GG, q0, q5, q6⟩ := q; exact ⟨_, q0, GG, _, _, rfl, rfl, rfl, q5, q6⟩)), fun sz => (model VN0 PN0 sz hV00 st.2.1).to (fun r w2 q => ⟨_, q.1, rfl, q.2⟩), ?_⟩
          rintro z u2 b m2 ⟨GG, VN, PN, eV, eP, ez, hG, hx⟩ ⟨rfl, J', ho, hq⟩
          subst ez
          have hcg := zWk_congr (selE := zSel de nd 1) (selL := zSel de nd 0) (has := zHasF (ew k)) (d1 := (zDueF so si ca bs bon gross (zSum (fun i => V k i 0) (hd k)) GG)) (d2 := (zDueF so si ca bs bon gross (zSum (fun i => V k i 0) (hd k)) GG0)) (wh := (zWh (FF (tw k)) (GF (tw k)) (tn (tw k)) (pw k) (mw k) (rl k) (cw k) bon brt (zUs (bo k) (hd k)) (zSumU (bo k) (fun i => V k i 2) (hd k)) (zSumU (bo k) (fun i => V k i 3) (hd k)))) (ex := xw k) (bo := bon) (V := (zL8 gross (V k (hd k) 1) (V k (hd k) 2) (V k (hd k) 3) (V k (hd k) 4) (V k (hd k) 5) (V k (hd k) 6) (V k (hd k) 7))) (PT := (P k (hd k))) (fun i hi => by unfold zDueF; rw [hG i hi, hGG0])
          have eVN : VN = VN0 := by rw [eV, hVN0, hcg.1]
          have ePN : PN = PN0 := by rw [eP, hPN0, hcg.2]
          clear eV eP hVN0 hPN0 hcg
          subst eVN
          subst ePN
          obtain ⟨bo2, ebo⟩ : ∃ z, z = va_up (bo k) (hd k) bon := ⟨_, rfl⟩
          obtain ⟨rb2, erb⟩ : ∃ z, z = va_up (rb k) (hd k) brt := ⟨_, rfl⟩
          obtain ⟨pe2, epe⟩ : ∃ z, z = va_up (pe k) (hd k) (pw k) := ⟨_, rfl⟩
          obtain ⟨me2, eme⟩ : ∃ z, z = va_up (me k) (hd k) (mw k) := ⟨_, rfl⟩
          obtain ⟨re2, ere⟩ : ∃ z, z = va_up (re k) (hd k) (rl k) := ⟨_, rfl⟩
          obtain ⟨cr2, ecr⟩ : ∃ z, z = va_up (cr k) (hd k) (cw k) := ⟨_, rfl⟩
          obtain ⟨xt2, ext⟩ : ∃ z, z = va_up (xt k) (hd k) (xw k) := ⟨_, rfl⟩
          obtain ⟨en2, een⟩ : ∃ z, z = va_up (en k) (hd k) (ew k) := ⟨_, rfl⟩
          obtain ⟨tx2, etx⟩ : ∃ z, z = va_up (tx k) (hd k) (tw k) := ⟨_, rfl⟩
          obtain ⟨V2, eV⟩ : ∃ z, z = va_up (V k) (hd k) VN := ⟨_, rfl⟩
          obtain ⟨P2, eP⟩ : ∃ z, z = va_up (P k) (hd k) PN := ⟨_, rfl⟩
          rw [← ebo, ← erb, ← epe, ← eme, ← ere, ← ecr, ← ext, ← een, ← etx, ← eV, ← eP] at st
          have sbo : bo2 (hd k) = bon := by rw [ebo, va_up_self]
          have srb : rb2 (hd k) = brt := by rw [erb, va_up_self]
          have spe : pe2 (hd k) = (pw k) := by rw [epe, va_up_self]
          have sme : me2 (hd k) = (mw k) := by rw [eme, va_up_self]
          have sre : re2 (hd k) = (rl k) := by rw [ere, va_up_self]
          have scr : cr2 (hd k) = (cw k) := by rw [ecr, va_up_self]
          have sxt : xt2 (hd k) = (xw k) := by rw [ext, va_up_self]
          have sen : en2 (hd k) = (ew k) := by rw [een, va_up_self]
          have stx : tx2 (hd k) = (tw k) := by rw [etx, va_up_self]
          have sV : V2 (hd k) = VN := by rw [eV, va_up_self]
          have sP : P2 (hd k) = PN := by rw [eP, va_up_self]
          have obo : ∀ i : Nat, i ≠ hd k → bo2 i = bo k i := fun i hi => by rw [ebo, va_up_ne _ _ hi]
          have orb : ∀ i : Nat, i ≠ hd k → rb2 i = rb k i := fun i hi => by rw [erb, va_up_ne _ _ hi]
          have ope : ∀ i : Nat, i ≠ hd k → pe2 i = pe k i := fun i hi => by rw [epe, va_up_ne _ _ hi]
          have ome : ∀ i : Nat, i ≠ hd k → me2 i = me k i := fun i hi => by rw [eme, va_up_ne _ _ hi]
          have ore : ∀ i : Nat, i ≠ hd k → re2 i = re k i := fun i hi => by rw [ere, va_up_ne _ _ hi]
          have ocr : ∀ i : Nat, i ≠ hd k → cr2 i = cr k i := fun i hi => by rw [ecr, va_up_ne _ _ hi]
          have oxt : ∀ i : Nat, i ≠ hd k → xt2 i = xt k i := fun i hi => by rw [ext, va_up_ne _ _ hi]
          have oen : ∀ i : Nat, i ≠ hd k → en2 i = en k i := fun i hi => by rw [een, va_up_ne _ _ hi]
          have otx : ∀ i : Nat, i ≠ hd k → tx2 i = tx k i := fun i hi => by rw [etx, va_up_ne _ _ hi]
          have oV : ∀ i : Nat, i ≠ hd k → V2 i = V k i := fun i hi => by rw [eV, va_up_ne _ _ hi]
          have oP : ∀ i : Nat, i ≠ hd k → P2 i = P k i := fun i hi => by rw [eP, va_up_ne _ _ hi]
          have hR2 : zRep u2 AD (cR cs AD nb tn FF GF tt nd de so si ca bs nw tw pw mw rl cw xw ew hd al se (va_up bo k bo2) (va_up rb k rb2) (va_up pe k pe2) (va_up me k me2) (va_up re k re2) (va_up cr k cr2) (va_up xt k xt2) (va_up en k en2) (va_up tx k tx2) (va_up V k V2) (va_up P k P2) ST brt ny wd (zSum (fun i => V k i 0) (hd k)) (nI (zUs (bo k) (hd k))) (zSumU (bo k) (fun i => V k i 2) (hd k)) (zSumU (bo k) (fun i => V k i 3) (hd k)) (GG)) := by
            refine hR.put [((40, k, hd k), (zPayE (AD (41, k, hd k)) (AD (42, k, hd k)) bon brt VN)), ((41, k, hd k), (.inr (4, [.ref (AD (10, tw k, 0)), .int (pw k), .int (mw k), .long (rl k), .long (cw k), .long (xw k), .int (ew k)]))), ((42, k, hd k), (eJ cs 8 PN)), ((4, 0, 0), (.inr (0, [.ref (AD (5, 0, 0)), .long (zSum (fun i => V k i 0) (hd k)), .int (nI (zUs (bo k) (hd k))), .long (zSumU (bo k) (fun i => V k i 2) (hd k)), .long (zSumU (bo k) (fun i => V k i 3) (hd k))]))), ((5, 0, 0), (eJ cs 8 GG))] hx (zall1 ⟨_, cR_40 hk hna⟩ (zall1 ⟨_, cR_41 hk hna⟩ (zall1 ⟨_, cR_42 hk hna⟩ (zall1 ⟨_, cR_4⟩ (zall1 ⟨_, cR_5⟩ zall0))))) (cR_cases ?_ ?_ ?_ ?_ ?_ ?_ ?_ ?_ ?_ ?_ ?_ ?_ ?_ ?_ ?_ ?_ ?_ ?_)
            · exact Or.inr ⟨cR_0, (zall1 (fun z => absurd (show (0 : Nat) = 40 from congrArg Prod.fst z) (by decide)) (zall1 (fun z => absurd (show (0 : Nat) = 41 from congrArg Prod.fst z) (by decide)) (zall1 (fun z => absurd (show (0 : Nat) = 42 from congrArg Prod.fst z) (by decide)) (zall1 (fun z => absurd (show (0 : Nat) = 4 from congrArg Prod.fst z) (by decide)) (zall1 (fun z => absurd (show (0 : Nat) = 5 from congrArg Prod.fst z) (by decide)) zall0)))))⟩
            · exact Or.inr ⟨cR_1, (zall1 (fun z => absurd (show (1 : Nat) = 40 from congrArg Prod.fst z) (by decide)) (zall1 (fun z => absurd (show (1 : Nat) = 41 from congrArg Prod.fst z) (by decide)) (zall1 (fun z => absurd (show (1 : Nat) = 42 from congrArg Prod.fst z) (by decide)) (zall1 (fun z => absurd (show (1 : Nat) = 4 from congrArg Prod.fst z) (by decide)) (zall1 (fun z => absurd (show (1 : Nat) = 5 from congrArg Prod.fst z) (by decide)) zall0)))))⟩
            · exact Or.inr ⟨cR_2, (zall1 (fun z => absurd (show (2 : Nat) = 40 from congrArg Prod.fst z) (by decide)) (zall1 (fun z => absurd (show (2 : Nat) = 41 from congrArg Prod.fst z) (by decide)) (zall1 (fun z => absurd (show (2 : Nat) = 42 from congrArg Prod.fst z) (by decide)) (zall1 (fun z => absurd (show (2 : Nat) = 4 from congrArg Prod.fst z) (by decide)) (zall1 (fun z => absurd (show (2 : Nat) = 5 from congrArg Prod.fst z) (by decide)) zall0)))))⟩
            · exact Or.inr ⟨cR_3, (zall1 (fun z => absurd (show (3 : Nat) = 40 from congrArg Prod.fst z) (by decide)) (zall1 (fun z => absurd (show (3 : Nat) = 41 from congrArg Prod.fst z) (by decide)) (zall1 (fun z => absurd (show (3 : Nat) = 42 from congrArg Prod.fst z) (by decide)) (zall1 (fun z => absurd (show (3 : Nat) = 4 from congrArg Prod.fst z) (by decide)) (zall1 (fun z => absurd (show (3 : Nat) = 5 from congrArg Prod.fst z) (by decide)) zall0)))))⟩
            · exact Or.inl (List.mem_of_getElem? (i := 3) rfl)
            · exact Or.inl (List.mem_of_getElem? (i := 4) rfl)
            · exact fun k hk => Or.inr ⟨cR_10 hk, (zall1 (fun z => absurd (show (10 : Nat) = 40 from congrArg Prod.fst z) (by decide)) (zall1 (fun z => absurd (show (10 : Nat) = 41 from congrArg Prod.fst z) (by decide)) (zall1 (fun z => absurd (show (10 : Nat) = 42 from congrArg Prod.fst z) (by decide)) (zall1 (fun z => absurd (show (10 : Nat) = 4 from congrArg Prod.fst z) (by decide)) (zall1 (fun z => absurd (show (10 : Nat) = 5 from congrArg Prod.fst z) (by decide)) zall0)))))⟩
            · exact fun k hk => Or.inr ⟨cR_11 hk, (zall1 (fun z => absurd (show (11 : Nat) = 40 from congrArg Prod.fst z) (by decide)) (zall1 (fun z => absurd (show (11 : Nat) = 41 from congrArg Prod.fst z) (by decide)) (zall1 (fun z => absurd (show (11 : Nat) = 42 from congrArg Prod.fst z) (by decide)) (zall1 (fun z => absurd (show (11 : Nat) = 4 from congrArg Prod.fst z) (by decide)) (zall1 (fun z => absurd (show (11 : Nat) = 5 from congrArg Prod.fst z) (by decide)) zall0)))))⟩
            · exact fun k hk => Or.inr ⟨cR_12 hk, (zall1 (fun z => absurd (show (12 : Nat) = 40 from congrArg Prod.fst z) (by decide)) (zall1 (fun z => absurd (show (12 : Nat) = 41 from congrArg Prod.fst z) (by decide)) (zall1 (fun z => absurd (show (12 : Nat) = 42 from congrArg Prod.fst z) (by decide)) (zall1 (fun z => absurd (show (12 : Nat) = 4 from congrArg Prod.fst z) (by decide)) (zall1 (fun z => absurd (show (12 : Nat) = 5 from congrArg Prod.fst z) (by decide)) zall0)))))⟩
            · exact fun k hk => Or.inr ⟨cR_20 hk, (zall1 (fun z => absurd (show (20 : Nat) = 40 from congrArg Prod.fst z) (by decide)) (zall1 (fun z => absurd (show (20 : Nat) = 41 from congrArg Prod.fst z) (by decide)) (zall1 (fun z => absurd (show (20 : Nat) = 42 from congrArg Prod.fst z) (by decide)) (zall1 (fun z => absurd (show (20 : Nat) = 4 from congrArg Prod.fst z) (by decide)) (zall1 (fun z => absurd (show (20 : Nat) = 5 from congrArg Prod.fst z) (by decide)) zall0)))))⟩
            · exact fun k hk => Or.inr ⟨cR_30 hk, (zall1 (fun z => absurd (show (30 : Nat) = 40 from congrArg Prod.fst z) (by decide)) (zall1 (fun z => absurd (show (30 : Nat) = 41 from congrArg Prod.fst z) (by decide)) (zall1 (fun z => absurd (show (30 : Nat) = 42 from congrArg Prod.fst z) (by decide)) (zall1 (fun z => absurd (show (30 : Nat) = 4 from congrArg Prod.fst z) (by decide)) (zall1 (fun z => absurd (show (30 : Nat) = 5 from congrArg Prod.fst z) (by decide)) zall0)))))⟩
            · exact fun k hk => Or.inr ⟨cR_31 hk, (zall1 (fun z => absurd (show (31 : Nat) = 40 from congrArg Prod.fst z) (by decide)) (zall1 (fun z => absurd (show (31 : Nat) = 41 from congrArg Prod.fst z) (by decide)) (zall1 (fun z => absurd (show (31 : Nat) = 42 from congrArg Prod.fst z) (by decide)) (zall1 (fun z => absurd (show (31 : Nat) = 4 from congrArg Prod.fst z) (by decide)) (zall1 (fun z => absurd (show (31 : Nat) = 5 from congrArg Prod.fst z) (by decide)) zall0)))))⟩
            · exact fun k hk => Or.inr ⟨cR_32 hk, (zall1 (fun z => absurd (show (32 : Nat) = 40 from congrArg Prod.fst z) (by decide)) (zall1 (fun z => absurd (show (32 : Nat) = 41 from congrArg Prod.fst z) (by decide)) (zall1 (fun z => absurd (show (32 : Nat) = 42 from congrArg Prod.fst z) (by decide)) (zall1 (fun z => absurd (show (32 : Nat) = 4 from congrArg Prod.fst z) (by decide)) (zall1 (fun z => absurd (show (32 : Nat) = 5 from congrArg Prod.fst z) (by decide)) zall0)))))⟩
            · exact fun k hk => Or.inr ⟨cR_33 hk, (zall1 (fun z => absurd (show (33 : Nat) = 40 from congrArg Prod.fst z) (by decide)) (zall1 (fun z => absurd (show (33 : Nat) = 41 from congrArg Prod.fst z) (by decide)) (zall1 (fun z => absurd (show (33 : Nat) = 42 from congrArg Prod.fst z) (by decide)) (zall1 (fun z => absurd (show (33 : Nat) = 4 from congrArg Prod.fst z) (by decide)) (zall1 (fun z => absurd (show (33 : Nat) = 5 from congrArg Prod.fst z) (by decide)) zall0)))))⟩
            · intro j y hj hy
              by_cases q : j = k
              · subst q
                by_cases q2 : y = hd j
                · subst q2
                  refine Or.inl ?_
                  rw [va_up_self, va_up_self, va_up_self, sbo, srb, sV]
                  exact List.mem_of_getElem? (i := 0) rfl
                · refine Or.inr ⟨?_, (zall1 (fun z => q2 (congrArg (fun r : Nat × Nat × Nat => r.2.2) z)) (zall1 (fun z => absurd (show (40 : Nat) = 41 from congrArg Prod.fst z) (by decide)) (zall1 (fun z => absurd (show (40 : Nat) = 42 from congrArg Prod.fst z) (by decide)) (zall1 (fun z => absurd (show (40 : Nat) = 4 from congrArg Prod.fst z) (by decide)) (zall1 (fun z => absurd (show (40 : Nat) = 5 from congrArg Prod.fst z) (by decide)) zall0)))))⟩
                  rw [va_up_self, va_up_self, va_up_self, obo y q2, orb y q2, oV y q2]
                  exact cR_40 hj (by omega)
              · refine Or.inr ⟨?_, (zall1 (fun z => q (congrArg (fun r : Nat × Nat × Nat => r.2.1) z)) (zall1 (fun z => absurd (show (40 : Nat) = 41 from congrArg Prod.fst z) (by decide)) (zall1 (fun z => absurd (show (40 : Nat) = 42 from congrArg Prod.fst z) (by decide)) (zall1 (fun z => absurd (show (40 : Nat) = 4 from congrArg Prod.fst z) (by decide)) (zall1 (fun z => absurd (show (40 : Nat) = 5 from congrArg Prod.fst z) (by decide)) zall0)))))⟩
                rw [va_up_ne _ _ q, va_up_ne _ _ q, va_up_ne _ _ q]
                exact cR_40 hj hy
            · intro j y hj hy
              by_cases q : j = k
              · subst q
                by_cases q2 : y = hd j
                · subst q2
                  refine Or.inl ?_
                  rw [va_up_self, va_up_self, va_up_self, va_up_self, va_up_self, va_up_self, va_up_self, stx, spe, sme, sre, scr, sxt, sen]
                  exact List.mem_of_getElem? (i := 1) rfl
                · refine Or.inr ⟨?_, (zall1 (fun z => absurd (show (41 : Nat) = 40 from congrArg Prod.fst z) (by decide)) (zall1 (fun z => q2 (congrArg (fun r : Nat × Nat × Nat => r.2.2) z)) (zall1 (fun z => absurd (show (41 : Nat) = 42 from congrArg Prod.fst z) (by decide)) (zall1 (fun z => absurd (show (41 : Nat) = 4 from congrArg Prod.fst z) (by decide)) (zall1 (fun z => absurd (show (41 : Nat) = 5 from congrArg Prod.fst z) (by decide)) zall0)))))⟩
                  rw [va_up_self, va_up_self, va_up_self, va_up_self, va_up_self, va_up_self, va_up_self, otx y q2, ope y q2, ome y q2, ore y q2, ocr y q2, oxt y q2, oen y q2]
                  exact cR_41 hj (by omega)
              · refine Or.inr ⟨?_, (zall1 (fun z => absurd (show (41 : Nat) = 40 from congrArg Prod.fst z) (by decide)) (zall1 (fun z => q (congrArg (fun r : Nat × Nat × Nat => r.2.1) z)) (zall1 (fun z => absurd (show (41 : Nat) = 42 from congrArg Prod.fst z) (by decide)) (zall1 (fun z => absurd (show (41 : Nat) = 4 from congrArg Prod.fst z) (by decide)) (zall1 (fun z => absurd (show (41 : Nat) = 5 from congrArg Prod.fst z) (by decide)) zall0)))))⟩
                rw [va_up_ne _ _ q, va_up_ne _ _ q, va_up_ne _ _ q, va_up_ne _ _ q, va_up_ne _ _ q, va_up_ne _ _ q, va_up_ne _ _ q]
                exact cR_41 hj hy
            · intro j y hj hy
              by_cases q : j = k
              · subst q
                by_cases q2 : y = hd j
                · subst q2
                  refine Or.inl ?_
                  rw [va_up_self, sP]
                  exact List.mem_of_getElem? (i := 2) rfl
                · refine Or.inr ⟨?_, (zall1 (fun z => absurd (show (42 : Nat) = 40 from congrArg Prod.fst z) (by decide)) (zall1 (fun z => absurd (show (42 : Nat) = 41 from congrArg Prod.fst z) (by decide)) (zall1 (fun z => q2 (congrArg (fun r : Nat × Nat × Nat => r.2.2) z)) (zall1 (fun z => absurd (show (42 : Nat) = 4 from congrArg Prod.fst z) (by decide)) (zall1 (fun z => absurd (show (42 : Nat) = 5 from congrArg Prod.fst z) (by decide)) zall0)))))⟩
                  rw [va_up_self, oP y q2]
                  exact cR_42 hj (by omega)
              · refine Or.inr ⟨?_, (zall1 (fun z => absurd (show (42 : Nat) = 40 from congrArg Prod.fst z) (by decide)) (zall1 (fun z => absurd (show (42 : Nat) = 41 from congrArg Prod.fst z) (by decide)) (zall1 (fun z => q (congrArg (fun r : Nat × Nat × Nat => r.2.1) z)) (zall1 (fun z => absurd (show (42 : Nat) = 4 from congrArg Prod.fst z) (by decide)) (zall1 (fun z => absurd (show (42 : Nat) = 5 from congrArg Prod.fst z) (by decide)) zall0)))))⟩
                rw [va_up_ne _ _ q]
                exact cR_42 hj hy
            · exact fun k i hk hi => Or.inr ⟨cR_43 hk hi, (zall1 (fun z => absurd (show (43 : Nat) = 40 from congrArg Prod.fst z) (by decide)) (zall1 (fun z => absurd (show (43 : Nat) = 41 from congrArg Prod.fst z) (by decide)) (zall1 (fun z => absurd (show (43 : Nat) = 42 from congrArg Prod.fst z) (by decide)) (zall1 (fun z => absurd (show (43 : Nat) = 4 from congrArg Prod.fst z) (by decide)) (zall1 (fun z => absurd (show (43 : Nat) = 5 from congrArg Prod.fst z) (by decide)) zall0)))))⟩
          have eJ9 : ∀ s ∈ [25, 32, 33, 34], ∀ y : Nat, y ≠ (60 * k + hd k) → (va_up (va_up (va_up (va_up J 25 (vp_updL (J 25) (60 * k + hd k) gross)) 32 (vp_updL (J 32) (60 * k + hd k) (rl k))) 33 (vp_updL (J 33) (60 * k + hd k) (cw k))) 34 (vp_updL (J 34) (60 * k + hd k) (xw k))) s y = J s y := by
            intro s hs y hy
            rcases List.mem_cons.mp hs with rfl | hs
            · exact vpL_ne _ _ hy
            rcases List.mem_cons.mp hs with rfl | hs
            · exact vpL_ne _ _ hy
            rcases List.mem_cons.mp hs with rfl | hs
            · exact vpL_ne _ _ hy
            rcases List.mem_cons.mp hs with rfl | hs
            · exact vpL_ne _ _ hy
            cases hs
          have eK9 : ∀ s ∈ [26, 27, 28, 29, 30, 31], ∀ y : Nat, y ≠ (60 * k + hd k) → (va_up (va_up (va_up (va_up (va_up (va_up K 26 (upd (K 26) (60 * k + hd k) bon)) 27 (upd (K 27) (60 * k + hd k) (nI (tw k)))) 28 (upd (K 28) (60 * k + hd k) (pw k))) 29 (upd (K 29) (60 * k + hd k) (mw k))) 30 (upd (K 30) (60 * k + hd k) (ew k))) 31 (upd (K 31) (60 * k + hd k) brt)) s y = K s y := by
            intro s hs y hy
            rcases List.mem_cons.mp hs with rfl | hs
            · exact up_ne _ _ hy
            rcases List.mem_cons.mp hs with rfl | hs
            · exact up_ne _ _ hy
            rcases List.mem_cons.mp hs with rfl | hs
            · exact up_ne _ _ hy
            rcases List.mem_cons.mp hs with rfl | hs
            · exact up_ne _ _ hy
            rcases List.mem_cons.mp hs with rfl | hs
            · exact up_ne _ _ hy
            rcases List.mem_cons.mp hs with rfl | hs
            · exact up_ne _ _ hy
            cases hs
          have hr1 : mRel (va_up (va_up (va_up (va_up J 25 (vp_updL (J 25) (60 * k + hd k) gross)) 32 (vp_updL (J 32) (60 * k + hd k) (rl k))) 33 (vp_updL (J 33) (60 * k + hd k) (cw k))) 34 (vp_updL (J 34) (60 * k + hd k) (xw k))) (va_up (va_up (va_up (va_up (va_up (va_up K 26 (upd (K 26) (60 * k + hd k) bon)) 27 (upd (K 27) (60 * k + hd k) (nI (tw k)))) 28 (upd (K 28) (60 * k + hd k) (pw k))) 29 (upd (K 29) (60 * k + hd k) (mw k))) 30 (upd (K 30) (60 * k + hd k) (ew k))) 31 (upd (K 31) (60 * k + hd k) brt)) nb tn FF GF tt nd de so si ca bs nw tw pw mw rl cw xw ew hd al se (va_up bo k bo2) (va_up rb k rb2) (va_up pe k pe2) (va_up me k me2) (va_up re k re2) (va_up cr k cr2) (va_up xt k xt2) (va_up en k en2) (va_up tx k tx2) (va_up V k V2) (va_up P k P2) ST brt ny wd := by
            refine ⟨hr.1, hr.2.1, (fun j hj => by
              by_cases c : j = k
              · subst c
                rw [va_up_self, va_up_self, va_up_self, va_up_self, va_up_self, va_up_self, va_up_self, va_up_self, va_up_self, va_up_self]
                exact ((hr.2.2.1 j hj).as (fun i hi => ⟨obo i (by omega), orb i (by omega), ope i (by omega), ome i (by omega), ore i (by omega), ocr i (by omega), oxt i (by omega), oen i (by omega), otx i (by omega), by rw [oV i (by omega)]⟩)).keep (x := 60 * j + hd j) (fun i hi => by omega) eJ9 eK9
              · rw [va_up_ne _ _ c, va_up_ne _ _ c, va_up_ne _ _ c, va_up_ne _ _ c, va_up_ne _ _ c, va_up_ne _ _ c, va_up_ne _ _ c, va_up_ne _ _ c, va_up_ne _ _ c, va_up_ne _ _ c]
                have z60 := (show hd j ≤ 60 from Nat.le_trans (hp.2.2.2.2.2.2.2.1 j hj).2.2.2.2.2.2.2.1 (hp.2.2.2.2.2.2.2.1 j hj).2.2.2.2.2.2.2.2.1)
                exact (hr.2.2.1 j hj).keep (x := 60 * k + hd k) (fun i hi => by omega) eJ9 eK9), (fun j hj => by
              by_cases c : j = k
              · subst c
                rw [va_up_self]
                exact ⟨(hr.2.2.2.1 j hj).1, fun i hi => by rw [oV i (by omega)]; exact (hr.2.2.2.1 j hj).2 i hi⟩
              · rw [va_up_ne _ _ c]
                exact hr.2.2.2.1 j hj), hr.2.2.2.2.1, hr.2.2.2.2.2.1, hr.2.2.2.2.2.2.1, hr.2.2.2.2.2.2.2.1, hr.2.2.2.2.2.2.2.2⟩
          have hr2 := hr1.out ho
          have hp2 : zPure nb tn FF GF tt nd de so si ca bs nw tw pw mw rl cw xw ew hd al se (va_up bo k bo2) (va_up rb k rb2) (va_up pe k pe2) (va_up me k me2) (va_up re k re2) (va_up cr k cr2) (va_up xt k xt2) (va_up en k en2) (va_up tx k tx2) (va_up V k V2) (va_up P k P2) ST brt ny wd := by
            refine ⟨hp.1, hp.2.1, hp.2.2.1, hp.2.2.2.1, hp.2.2.2.2.1, hp.2.2.2.2.2.1, hp.2.2.2.2.2.2.1, ?_, hp.2.2.2.2.2.2.2.2⟩
            intro j hj
            have q := hp.2.2.2.2.2.2.2.1 j hj
            by_cases c : j = k
            · subst c
              simp only [va_up_self]
              refine ⟨q.1, q.2.1, q.2.2.1, q.2.2.2.1, q.2.2.2.2.1, q.2.2.2.2.2.1, q.2.2.2.2.2.2.1, by omega, by omega, fun i hi => ?_, fun i hi => st.1 i (by omega)⟩
              by_cases c2 : i = hd j
              · rw [c2, stx, sbo, sV, srb, spe, sre, scr, sxt, sen, sP, hV00]
                exact ⟨htk, q.2.1, hbon, hu, hp.2.2.2.2.1, q.2.2.1, q.2.2.2.1, q.2.2.2.2.1, q.2.2.2.2.2.1, fun d h1 h2 => ⟨q.2.2.2.2.2.2.1 d h1 h2, st.2.2 d h1 h2⟩⟩
              · rw [otx i c2, obo i c2, oV i c2, orb i c2, ope i c2, ore i c2, ocr i c2, oxt i c2, oen i c2, oP i c2]
                exact q.2.2.2.2.2.2.2.2.2.1 i (by omega)
            · repeat rw [va_up_ne _ _ c]
              exact q
          exact ⟨rfl, ⟨_, _, _, _, _, _, _, hq.1⟩, zInv.mk hR2 rfl hq.1 hinj hq.2.1 hr2 hp2⟩
    · have hg : zUpTo (gross) 1000000000 = 0 := (zUpTo_01 _ _).resolve_right hg
      refine Or.inr ⟨1, _, 6, 3, 27, 7, fun _ m2 => zMQ cs um m2 ad mm (mo ad 2 (nI nb) (nI nd) (nI nw) brt (nI ny) wd) J K, by decide, by decide, by decide, by decide, rfl, fun sz => (t2_X6_ask l D cs uc sz _ _ _ _ _ _ _ _ _ _ _ _ _ _ _ _ _ _ _ _ _ _ _ hlst hWn hk hg hf hwr ((hR.1 _ _ (cR_30 hk))) ((hR.1 _ _ (cR_32 hk)))), fun sz => ((t2_X7_ask l D cs um sz _ _ _ _ _ _ _ _ _ _ _ _ _ _ hinj hM hp.2.2.1 hk hg hm)).to (fun r w2 q => ⟨_, q.1, q.2⟩), ?_⟩
      rintro b m2 hq
      exact ⟨⟨_, _, _, _, _, _, _, hq.1⟩, zInv.m hR hinj hr hp hq mOut.refl⟩
  · refine Or.inr ⟨0, _, 6, 3, 27, 7, fun _ m2 => zMQ cs um m2 ad mm (mo ad 1 (nI nb) (nI nd) (nI nw) brt (nI ny) wd) J K, by decide, by decide, by decide, by decide, rfl, fun sz => (t1_X6_ask l D cs uc sz _ _ _ _ _ _ _ _ _ _ _ _ _ _ _ _ _ hlst hWn hx9 hf hwr), fun sz => ((t1_X7_ask l D cs um sz _ _ _ _ _ _ _ _ _ _ _ _ _ _ hinj hM hp.2.2.1 hx9 hm)).to (fun r w2 q => ⟨_, q.1, q.2⟩), ?_⟩
    rintro b m2 hq
    exact ⟨⟨_, _, _, _, _, _, _, hq.1⟩, zInv.m hR hinj hr hp hq mOut.refl⟩

set_option maxHeartbeats 4000000 in
theorem zOp_pay (l : Launch) (D : va_G) (cs : Nat → ClassId) (hlst : l.stackTraces = false) {xo mm : Nat} {uc um : zw} (h : zInv cs xo mm uc um) (x : Int32) (gross : Int64) (bon : Int32) (hbon : bon = 0 ∨ bon = 1) : zBoth (fun z : Int32 => some (.int z)) (fun z : Int32 => some (.int z)) (fun z : Int32 => z.toInt64) (fun z : Int32 => z.toInt64) l D cs yX6_pay wsX6_pay yX7_pay wsX7_pay xo mm uc um [.int x, .long gross, .int bon] ["java/lang/IndexOutOfBoundsException", "java/lang/IllegalArgumentException", "java/lang/UnsupportedOperationException"] := by
  obtain ⟨AD, ad, J, K, th, nb, tn, FF, GF, tt, nd, de, so, si, ca, bs, nw, tw, pw, mw, rl, cw, xw, ew, hd, al, se, bo, rb, pe, me, re, cr, xt, en, tx, V, P, ST, brt, ny, wd, ag, us, ai, ab, AP, hR, rfl, hm, hinj, hM, hr, hp⟩ := h
  have hW := hR.wks hp
  have hf := hR.1 _ _ cR_0
  have htr := hR.1 _ _ cR_1
  have hdr := hR.1 _ _ cR_2
  have hwr := hR.1 _ _ cR_3
  have ha := hR.1 _ _ cR_4
  have hapc := hR.1 _ _ cR_5
  have hT : zArrN 6 _ (fun k => AD (10, k, 0)) nb := zArrIf hp.1
  have hD : zArrN 8 _ (fun k => AD (20, k, 0)) nd := zArrIf hp.2.1
  have hWn : zArrN 10 _ (fun k => AD (30, k, 0)) nw := zArrIf hp.2.2.1
  have hDs := hR.deds hp
  have hTb := hR.tabs hp
  rcases zIdx x nw with ⟨k, hk, rfl⟩ | hx9
  · by_cases hg : zUpTo (gross) 1000000000 = 1
    · by_cases h60 : hd k = 60
      · refine Or.inr ⟨2, _, 6, 4, 40, 7, fun _ m2 => zMQ cs um m2 ad mm (mo ad 3 (nI nb) (nI nd) (nI nw) brt (nI ny) wd) J K, by decide, by decide, by decide, by decide, rfl, fun sz => (t3_X6_pay l D cs uc sz _ _ _ _ _ _ _ _ _ _ _ _ _ _ _ _ _ _ _ _ _ _ _ hlst hWn hk hg h60 hf hwr ((hR.1 _ _ (cR_30 hk))) ((hR.1 _ _ (cR_32 hk)))), fun sz => ((t3_X7_pay l D cs um sz _ _ _ _ _ _ _ _ _ _ _ _ _ _ _ hinj hM hp.2.2.1 hk hg ((hr.2.2.2.1 k hk).1) ((by omega)) h60 hm)).to (fun r w2 q => ⟨_, q.1, q.2⟩), ?_⟩
        rintro b m2 hq
        exact ⟨⟨_, _, _, _, _, _, _, hq.1⟩, zInv.m hR hinj hr hp hq mOut.refl⟩
      · have hw := hp.2.2.2.2.2.2.2.1 k hk
        have hal : hd k ≤ al k := hw.2.2.2.2.2.2.2.1
        have hal2 : al k ≤ 60 := hw.2.2.2.2.2.2.2.2.1
        have hn : hd k < 60 := by omega
        have htk := hw.1
        have htb := hp.2.2.2.2.2.1 (tw k) hw.1
        have hu := zUpTo_1 hg
        rw [zT9] at hu
        have hrows := hw.2.2.2.2.2.2.2.2.2.1
        have step : ∀ (GG VN PN v0 PT0 : Nat → Int64), v0 0 = gross → VN 0 = gross → (∀ d : Nat, d < 8 → GG d = zSum (fun i => P k i d) (hd k)) → (∀ d : Nat, nd ≤ d → d < 8 → PT0 d = 0) → (∀ c : Nat, 1 ≤ c → c ≤ 6 → VN c = zWkV (zSel de nd 1) (zSel de nd 0) (zHasF (ew k)) (zDueF so si ca bs bon gross (zSum (fun i => V k i 0) (hd k)) GG) (zWh (FF (tw k)) (GF (tw k)) (tn (tw k)) (pw k) (mw k) (rl k) (cw k) bon brt (zUs (bo k) (hd k)) (zSumU (bo k) (fun i => V k i 2) (hd k)) (zSumU (bo k) (fun i => V k i 3) (hd k))) (xw k) bon v0 PT0 c) → PN = (zWkL (zSel de nd 1) (zSel de nd 0) (zHasF (ew k)) (zDueF so si ca bs bon gross (zSum (fun i => V k i 0) (hd k)) GG) (zWh (FF (tw k)) (GF (tw k)) (tn (tw k)) (pw k) (mw k) (rl k) (cw k) bon brt (zUs (bo k) (hd k)) (zSumU (bo k) (fun i => V k i 2) (hd k)) (zSumU (bo k) (fun i => V k i 3) (hd k))) (xw k) bon v0 PT0).2 → (∀ i : Nat, i < hd k + 1 → zWkd nd de so si ca bs (va_up (bo k) (hd k) bon) (va_up (rb k) (hd k) brt) (va_up (pe k) (hd k) (pw k)) (va_up (me k) (hd k) (mw k)) (va_up (re k) (hd k) (rl k)) (va_up (cr k) (hd k) (cw k)) (va_up (xt k) (hd k) (xw k)) (va_up (en k) (hd k) (ew k)) (va_up (tx k) (hd k) (tw k)) tn FF GF (va_up (V k) (hd k) VN) (va_up (P k) (hd k) PN) i) ∧ (∀ i : Nat, i < hd k + 1 → mWkd nd de so si ca bs (va_up (bo k) (hd k) bon) (va_up (rb k) (hd k) brt) (va_up (pe k) (hd k) (pw k)) (va_up (me k) (hd k) (mw k)) (va_up (re k) (hd k) (rl k)) (va_up (cr k) (hd k) (cw k)) (va_up (xt k) (hd k) (xw k)) (va_up (en k) (hd k) (ew k)) (va_up (tx k) (hd k) (tw k)) tn FF GF (va_up (V k) (hd k) VN) (va_up (P k) (hd k) PN) i) ∧ ∀ d : Nat, nd ≤ d → d < 8 → PN d = 0 := by
          intro GG VN PN v0 PT0 q1 q2 q3 q4 q5 q6
          have hz : ∀ i : Nat, i < hd k + 1 → zWkd nd de so si ca bs (va_up (bo k) (hd k) bon) (va_up (rb k) (hd k) brt) (va_up (pe k) (hd k) (pw k)) (va_up (me k) (hd k) (mw k)) (va_up (re k) (hd k) (rl k)) (va_up (cr k) (hd k) (cw k)) (va_up (xt k) (hd k) (xw k)) (va_up (en k) (hd k) (ew k)) (va_up (tx k) (hd k) (tw k)) tn FF GF (va_up (V k) (hd k) VN) (va_up (P k) (hd k) PN) i := fun i hi => by
            by_cases c : i = hd k
            · rw [c]
              exact zWkd.new (fun d hd9 => (hp.2.2.2.2.2.2.1 d hd9).2) q1 q2 q3 q4 q5 (fun d _ => congrFun q6 d)
            · exact (hw.2.2.2.2.2.2.2.2.2.2 i (by omega)).ahead (by omega)
          have hgd : zGood nd de so si ca bs (va_up (bo k) (hd k) bon) (va_up (rb k) (hd k) brt) (va_up (pe k) (hd k) (pw k)) (va_up (me k) (hd k) (mw k)) (va_up (re k) (hd k) (rl k)) (va_up (cr k) (hd k) (cw k)) (va_up (xt k) (hd k) (xw k)) (va_up (en k) (hd k) (ew k)) (va_up (tx k) (hd k) (tw k)) tn FF GF (va_up (V k) (hd k) VN) (va_up (P k) (hd k) PN) (hd k + 1) := by
            refine ⟨fun i hi => ?_, hp.2.1, hp.2.2.2.2.2.2.1⟩
            by_cases c : i = hd k
            · rw [c]
              simp only [va_up_self]
              rw [q2]
              exact ⟨hu, hp.2.2.2.2.1, hw.2.2.1, hw.2.2.2.1, hw.2.2.2.2.1, hw.2.2.2.2.2.1, htb.2.1⟩
            · have z := hrows i (by omega)
              repeat rw [va_up_ne _ _ c]
              exact ⟨z.2.2.2.1, z.2.2.2.2.1, z.2.2.2.2.2.1, z.2.2.2.2.2.2.1, z.2.2.2.2.2.2.2.1, z.2.2.2.2.2.2.2.2.1, (hp.2.2.2.2.2.1 (tx k i) z.1).2.1⟩
          refine ⟨hz, (zTie (by omega) hgd hz (hd k + 1) (Nat.le_refl _)).2, fun d h1 h2 => ?_⟩
          rw [q6]
          exact zWkL_0 h1 (q4 d h1 h2)
        have model : ∀ (VN PN : Nat → Int64) (sz : Nat), VN 0 = gross → (∀ i : Nat, i < hd k + 1 → mWkd nd de so si ca bs (va_up (bo k) (hd k) bon) (va_up (rb k) (hd k) brt) (va_up (pe k) (hd k) (pw k)) (va_up (me k) (hd k) (mw k)) (va_up (re k) (hd k) (rl k)) (va_up (cr k) (hd k) (cw k)) (va_up (xt k) (hd k) (xw k)) (va_up (en k) (hd k) (ew k)) (va_up (tx k) (hd k) (tw k)) tn FF GF (va_up (V k) (hd k) VN) (va_up (P k) (hd k) PN) i) → zM l D cs yX7_pay wsX7_pay 7 0 0 um sz [.ref mm, .int (nI k), .long gross, .int bon] (fun r w2 => r = some (.int (nI (hd k))) ∧ ∃ J' : Nat → Nat → Int64, mOut (va_up (va_up (va_up (va_up J 25 (vp_updL (J 25) (60 * k + hd k) gross)) 32 (vp_updL (J 32) (60 * k + hd k) (rl k))) 33 (vp_updL (J 33) (60 * k + hd k) (cw k))) 34 (vp_updL (J 34) (60 * k + hd k) (xw k))) J' ∧ zMQ cs um w2 ad mm (mo ad 0 (nI nb) (nI nd) (nI nw) brt (nI ny) (wd + 1)) (va_up J' 35 (vp_updL (J' 35) (60 * k + hd k) (VN 6))) (va_up (va_up (va_up (va_up (va_up (va_up (va_up K 26 (upd (K 26) (60 * k + hd k) bon)) 27 (upd (K 27) (60 * k + hd k) (nI (tw k)))) 28 (upd (K 28) (60 * k + hd k) (pw k))) 29 (upd (K 29) (60 * k + hd k) (mw k))) 30 (upd (K 30) (60 * k + hd k) (ew k))) 31 (upd (K 31) (60 * k + hd k) brt)) 19 (upd (K 19) k (nI (hd k + 1))))) := by
          intro VN PN sz q2 hmw
          have c := (c_X7_pay l D cs um sz _ _ _ _ _ _ _ _ k ((va_up (bo k) (hd k) bon)) ((va_up (rb k) (hd k) brt)) ((va_up (pe k) (hd k) (pw k))) ((va_up (me k) (hd k) (mw k))) ((va_up (re k) (hd k) (rl k))) ((va_up (cr k) (hd k) (cw k))) ((va_up (xt k) (hd k) (xw k))) ((va_up (en k) (hd k) (ew k))) ((va_up (tx k) (hd k) (tw k))) ((va_up (V k) (hd k) VN)) ((va_up (P k) (hd k) PN)) _ _ _ _ _ _ _ _ _ _ ((hd k)) _ hinj hM hr.1 hr.2.1 (((hr.2.2.1 k hk).as (fun i hi => ⟨zUp_lt hi, zUp_lt hi, zUp_lt hi, zUp_lt hi, zUp_lt hi, zUp_lt hi, zUp_lt hi, zUp_lt hi, zUp_lt hi, by rw [zUp_lt hi]⟩))) ((Nat.lt_of_lt_of_le hk hp.2.2.1)) hn ((hr.2.2.2.1 k hk).1) ((by rw [va_up_self]; exact hbon)) ((by rw [va_up_self]; exact (hr.2.2.2.2.2.2.1 k hk).1)) ((by rw [va_up_self]; exact (hr.2.2.2.2.2.2.1 k hk).2.1)) ((by rw [va_up_self]; exact (hr.2.2.2.2.2.2.1 k hk).2.2.1)) ((by rw [va_up_self]; exact (hr.2.2.2.2.2.2.1 k hk).2.2.2.1)) ((by rw [va_up_self]; exact (hr.2.2.2.2.2.2.1 k hk).2.2.2.2.1)) ((by rw [va_up_self]; exact (hr.2.2.2.2.2.2.1 k hk).2.2.2.2.2.1)) ((by rw [va_up_self]; exact (hr.2.2.2.2.2.2.1 k hk).2.2.2.2.2.2.1)) ((by rw [va_up_self]; exact htk)) ((by rw [va_up_self]; exact zPe_ne hw.2.2.1)) hmw hp.2.2.1 hk ((by rw [va_up_self, q2]; exact hg)) ((by rw [va_up_self]; exact hm)))
          simp only [va_up_self] at c
          rw [q2] at c
          exact c
        by_cases hnew : al k = hd k
        · obtain ⟨GG0, hGG0⟩ : ∃ z : Nat → Int64, z = (fun d => zSum (fun i => P k i d) (hd k)) := ⟨_, rfl⟩
          obtain ⟨VN0, hVN0⟩ : ∃ z : Nat → Int64, z = (vp_updL (zWkV (zSel de nd 1) (zSel de nd 0) (zHasF (ew k)) (zDueF so si ca bs bon gross (zSum (fun i => V k i 0) (hd k)) GG0) (zWh (FF (tw k)) (GF (tw k)) (tn (tw k)) (pw k) (mw k) (rl k) (cw k) bon brt (zUs (bo k) (hd k)) (zSumU (bo k) (fun i => V k i 2) (hd k)) (zSumU (bo k) (fun i => V k i 3) (hd k))) (xw k) bon (zL8 gross 0 0 0 0 0 0 0) (fun _ => 0)) 7 ((zWkV (zSel de nd 1) (zSel de nd 0) (zHasF (ew k)) (zDueF so si ca bs bon gross (zSum (fun i => V k i 0) (hd k)) GG0) (zWh (FF (tw k)) (GF (tw k)) (tn (tw k)) (pw k) (mw k) (rl k) (cw k) bon brt (zUs (bo k) (hd k)) (zSumU (bo k) (fun i => V k i 2) (hd k)) (zSumU (bo k) (fun i => V k i 3) (hd k))) (xw k) bon (zL8 gross 0 0 0 0 0 0 0) (fun _ => 0)) 6)) := ⟨_, rfl⟩
          obtain ⟨PN0, hPN0⟩ : ∃ z : Nat → Int64, z = (zWkL (zSel de nd 1) (zSel de nd 0) (zHasF (ew k)) (zDueF so si ca bs bon gross (zSum (fun i => V k i 0) (hd k)) GG0) (zWh (FF (tw k)) (GF (tw k)) (tn (tw k)) (pw k) (mw k) (rl k) (cw k) bon brt (zUs (bo k) (hd k)) (zSumU (bo k) (fun i => V k i 2) (hd k)) (zSumU (bo k) (fun i => V k i 3) (hd k))) (xw k) bon (zL8 gross 0 0 0 0 0 0 0) (fun _ => 0)).2 := ⟨_, rfl⟩
          have hpt : ∀ d : Nat, nd ≤ d → d < 8 → (fun _ => (0 : Int64) : Nat → Int64) d = 0 := fun _ _ _ => rfl
          have st := step GG0 VN0 PN0 (zL8 gross 0 0 0 0 0 0 0) (fun _ => 0) rfl (by rw [hVN0]; rfl) (fun d _ => by rw [hGG0]) hpt (fun c h1 h2 => by rw [hVN0, vpL_ne _ _ (by omega)]) hPN0
          have hV00 : VN0 0 = gross := by rw [hVN0]; rfl
          have hV07 : VN0 7 = VN0 6 := by rw [hVN0]; rfl
          refine Or.inl ⟨6, 3, 27, 7, fun z u2 => ∃ (pa te pp : Nat) (GG VN PN : Nat → Int64), VN = (vp_updL (zWkV (zSel de nd 1) (zSel de nd 0) (zHasF (ew k)) (zDueF so si ca bs bon gross (zSum (fun i => V k i 0) (hd k)) GG) (zWh (FF (tw k)) (GF (tw k)) (tn (tw k)) (pw k) (mw k) (rl k) (cw k) bon brt (zUs (bo k) (hd k)) (zSumU (bo k) (fun i => V k i 2) (hd k)) (zSumU (bo k) (fun i => V k i 3) (hd k))) (xw k) bon (zL8 gross 0 0 0 0 0 0 0) (fun _ => 0)) 7 ((zWkV (zSel de nd 1) (zSel de nd 0) (zHasF (ew k)) (zDueF so si ca bs bon gross (zSum (fun i => V k i 0) (hd k)) GG) (zWh (FF (tw k)) (GF (tw k)) (tn (tw k)) (pw k) (mw k) (rl k) (cw k) bon brt (zUs (bo k) (hd k)) (zSumU (bo k) (fun i => V k i 2) (hd k)) (zSumU (bo k) (fun i => V k i 3) (hd k))) (xw k) bon (zL8 gross 0 0 0 0 0 0 0) (fun _ => 0)) 6)) ∧ PN = (zWkL (zSel de nd 1) (zSel de nd 0) (zHasF (ew k)) (zDueF so si ca bs bon gross (zSum (fun i => V k i 0) (hd k)) GG) (zWh (FF (tw k)) (GF (tw k)) (tn (tw k)) (pw k) (mw k) (rl k) (cw k) bon brt (zUs (bo k) (hd k)) (zSumU (bo k) (fun i => V k i 2) (hd k)) (zSumU (bo k) (fun i => V k i 3) (hd k))) (xw k) bon (zL8 gross 0 0 0 0 0 0 0) (fun _ => 0)).2 ∧ z = nI (hd k) ∧ uc pa = none ∧ uc te = none ∧ uc pp = none ∧ te ≠ pp ∧ (∀ d : Nat, d < 8 → GG d = zSum (fun i => P k i d) (hd k)) ∧ zEx uc u2 [(AD (0, 0, 0), (.inr (6, [.ref (AD (1, 0, 0)), .ref (AD (2, 0, 0)), .ref (AD (3, 0, 0)), .ref (AD (4, 0, 0)), .int (nI nb), .int (nI nd), .int (nI nw), .int brt, .int (nI ny), .int (wd + 1)]))), (AD (30, k, 0), (.inr (5, [.ref (AD (31, k, 0)), .ref (AD (32, k, 0)), .ref (AD (33, k, 0)), .int (nI (hd k + 1)), .long (se k)]))), (AD (32, k, 0), (eR cs 4 60 (va_up (fun i => if i < al k then some (AD (40, k, i)) else none) (hd k) (some (pa))))), (pa, (zPayE (te) (pp) bon brt VN)), (te, (.inr (4, [.ref (AD (10, tw k, 0)), .int (pw k), .int (mw k), .long (rl k), .long (cw k), .long (xw k), .int (ew k)]))), (pp, (eJ cs 8 PN)), (AD (4, 0, 0), (.inr (0, [.ref (AD (5, 0, 0)), .long (zSum (fun i => V k i 0) (hd k)), .int (nI (zUs (bo k) (hd k))), .long (zSumU (bo k) (fun i => V k i 2) (hd k)), .long (zSumU (bo k) (fun i => V k i 3) (hd k))]))), (AD (5, 0, 0), (eJ cs 8 GG))], fun b m2 => b = nI (hd k) ∧ ∃ J' : Nat → Nat → Int64, mOut (va_up (va_up (va_up (va_up J 25 (vp_updL (J 25) (60 * k + hd k) gross)) 32 (vp_updL (J 32) (60 * k + hd k) (rl k))) 33 (vp_updL (J 33) (60 * k + hd k) (cw k))) 34 (vp_updL (J 34) (60 * k + hd k) (xw k))) J' ∧ zMQ cs um m2 ad mm (mo ad 0 (nI nb) (nI nd) (nI nw) brt (nI ny) (wd + 1)) (va_up J' 35 (vp_updL (J' 35) (60 * k + hd k) (VN0 6))) (va_up (va_up (va_up (va_up (va_up (va_up (va_up K 26 (upd (K 26) (60 * k + hd k) bon)) 27 (upd (K 27) (60 * k + hd k) (nI (tw k)))) 28 (upd (K 28) (60 * k + hd k) (pw k))) 29 (upd (K 29) (60 * k + hd k) (mw k))) 30 (upd (K 30) (60 * k + hd k) (ew k))) 31 (upd (K 31) (60 * k + hd k) brt)) 19 (upd (K 19) k (nI (hd k + 1)))), by decide, by decide, by decide, by decide, fun sz => ((c_X6_pay_new l D cs uc sz _ _ _ _ _ _ _ _ _ _ _ _ _ _ _ _ _ _ _ _ _ _ _ _ _ _ _ _ _ _ _ _ _ _ _ _ _ _ _ _ _ _ _ _ _ _ _ _ _ _ _ _ _ _ _ _ _ hWn hk hDs ((hW.2.1 k hk).2.2.2.2) hn htb.1 hg hbon ((fun i hi z => absurd (show (42 : Nat) = 5 from congrArg Prod.fst (hR.2 _ _ _ _ (cR_42 hk (Nat.lt_of_lt_of_le hi hal)) cR_5 z)) (by decide))) ((if_neg (by omega))) hf hdr ha hapc ((hR.1 _ _ (cR_30 hk))) ((hR.1 _ _ (cR_32 hk))) ((hR.1 _ _ (cR_31 hk))) ((hR.1 _ _ (cR_10 htk))) ((hR.1 _ _ (cR_11 htk))) ((hR.1 _ _ (cR_12 htk))) hwr)).to (fun r w2 q => (by obtain ⟨pa, te, pp, GG, q0, q1, q2, q3, q4, q5, q6⟩ := q; exact ⟨_, q0, pa, te, pp, GG, _, _, rfl, rfl, rfl, q1, q2, q3, q4, q5, q6⟩)), fun sz => (model VN0 PN0 sz hV00 st.2.1).to (fun r w2 q => ⟨_, q.1, rfl, q.2⟩), ?_⟩
          rintro z u2 b m2 ⟨pa, te, pp, GG, VN, PN, eV, eP, ez, g1, g2, g3, g4, hG, hx⟩ ⟨rfl, J', ho, hq⟩
          subst ez
          have hcg := zWk_congr (selE := zSel de nd 1) (selL := zSel de nd 0) (has := zHasF (ew k)) (d1 := (zDueF so si ca bs bon gross (zSum (fun i => V k i 0) (hd k)) GG)) (d2 := (zDueF so si ca bs bon gross (zSum (fun i => V k i 0) (hd k)) GG0)) (wh := (zWh (FF (tw k)) (GF (tw k)) (tn (tw k)) (pw k) (mw k) (rl k) (cw k) bon brt (zUs (bo k) (hd k)) (zSumU (bo k) (fun i => V k i 2) (hd k)) (zSumU (bo k) (fun i => V k i 3) (hd k)))) (ex := xw k) (bo := bon) (V := (zL8 gross 0 0 0 0 0 0 0)) (PT := (fun _ => 0)) (fun i hi => by unfold zDueF; rw [hG i hi, hGG0])
          have eVN : VN = VN0 := by rw [eV, hVN0, hcg.1]
          have ePN : PN = PN0 := by rw [eP, hPN0, hcg.2]
          clear eV eP hVN0 hPN0 hcg
          subst eVN
          subst ePN
          obtain ⟨bo2, ebo⟩ : ∃ z, z = va_up (bo k) (hd k) bon := ⟨_, rfl⟩
          obtain ⟨rb2, erb⟩ : ∃ z, z = va_up (rb k) (hd k) brt := ⟨_, rfl⟩
          obtain ⟨pe2, epe⟩ : ∃ z, z = va_up (pe k) (hd k) (pw k) := ⟨_, rfl⟩
          obtain ⟨me2, eme⟩ : ∃ z, z = va_up (me k) (hd k) (mw k) := ⟨_, rfl⟩
          obtain ⟨re2, ere⟩ : ∃ z, z = va_up (re k) (hd k) (rl k) := ⟨_, rfl⟩
          obtain ⟨cr2, ecr⟩ : ∃ z, z = va_up (cr k) (hd k) (cw k) := ⟨_, rfl⟩
          obtain ⟨xt2, ext⟩ : ∃ z, z = va_up (xt k) (hd k) (xw k) := ⟨_, rfl⟩
          obtain ⟨en2, een⟩ : ∃ z, z = va_up (en k) (hd k) (ew k) := ⟨_, rfl⟩
          obtain ⟨tx2, etx⟩ : ∃ z, z = va_up (tx k) (hd k) (tw k) := ⟨_, rfl⟩
          obtain ⟨V2, eV⟩ : ∃ z, z = va_up (V k) (hd k) VN := ⟨_, rfl⟩
          obtain ⟨P2, eP⟩ : ∃ z, z = va_up (P k) (hd k) PN := ⟨_, rfl⟩
          rw [← ebo, ← erb, ← epe, ← eme, ← ere, ← ecr, ← ext, ← een, ← etx, ← eV, ← eP] at st
          have sbo : bo2 (hd k) = bon := by rw [ebo, va_up_self]
          have srb : rb2 (hd k) = brt := by rw [erb, va_up_self]
          have spe : pe2 (hd k) = (pw k) := by rw [epe, va_up_self]
          have sme : me2 (hd k) = (mw k) := by rw [eme, va_up_self]
          have sre : re2 (hd k) = (rl k) := by rw [ere, va_up_self]
          have scr : cr2 (hd k) = (cw k) := by rw [ecr, va_up_self]
          have sxt : xt2 (hd k) = (xw k) := by rw [ext, va_up_self]
          have sen : en2 (hd k) = (ew k) := by rw [een, va_up_self]
          have stx : tx2 (hd k) = (tw k) := by rw [etx, va_up_self]
          have sV : V2 (hd k) = VN := by rw [eV, va_up_self]
          have sP : P2 (hd k) = PN := by rw [eP, va_up_self]
          have obo : ∀ i : Nat, i ≠ hd k → bo2 i = bo k i := fun i hi => by rw [ebo, va_up_ne _ _ hi]
          have orb : ∀ i : Nat, i ≠ hd k → rb2 i = rb k i := fun i hi => by rw [erb, va_up_ne _ _ hi]
          have ope : ∀ i : Nat, i ≠ hd k → pe2 i = pe k i := fun i hi => by rw [epe, va_up_ne _ _ hi]
          have ome : ∀ i : Nat, i ≠ hd k → me2 i = me k i := fun i hi => by rw [eme, va_up_ne _ _ hi]
          have ore : ∀ i : Nat, i ≠ hd k → re2 i = re k i := fun i hi => by rw [ere, va_up_ne _ _ hi]
          have ocr : ∀ i : Nat, i ≠ hd k → cr2 i = cr k i := fun i hi => by rw [ecr, va_up_ne _ _ hi]
          have oxt : ∀ i : Nat, i ≠ hd k → xt2 i = xt k i := fun i hi => by rw [ext, va_up_ne _ _ hi]
          have oen : ∀ i : Nat, i ≠ hd k → en2 i = en k i := fun i hi => by rw [een, va_up_ne _ _ hi]
          have otx : ∀ i : Nat, i ≠ hd k → tx2 i = tx k i := fun i hi => by rw [etx, va_up_ne _ _ hi]
          have oV : ∀ i : Nat, i ≠ hd k → V2 i = V k i := fun i hi => by rw [eV, va_up_ne _ _ hi]
          have oP : ∀ i : Nat, i ≠ hd k → P2 i = P k i := fun i hi => by rw [eP, va_up_ne _ _ hi]
          have u1 := hx.at 3 rfl
          have u2_ := hx.at 4 rfl
          have u3 := hx.at 5 rfl
          obtain ⟨AE, hAE⟩ : ∃ z, z = (r_up (r_up (r_up AD (40, k, hd k) pa) (41, k, hd k) te) (42, k, hd k) pp) := ⟨_, rfl⟩
          have n0 : AE (40, k, hd k) = pa := by rw [hAE, r_up_ne _ _ (fun z => absurd (show (40 : Nat) = 42 from congrArg Prod.fst z) (by decide)), r_up_ne _ _ (fun z => absurd (show (40 : Nat) = 41 from congrArg Prod.fst z) (by decide)), r_up_self]
          have n1 : AE (41, k, hd k) = te := by rw [hAE, r_up_ne _ _ (fun z => absurd (show (41 : Nat) = 42 from congrArg Prod.fst z) (by decide)), r_up_self]
          have n2 : AE (42, k, hd k) = pp := by rw [hAE, r_up_self]
          have hag : ∀ (r : Nat × Nat × Nat) (e : va_E), cR cs AD nb tn FF GF tt nd de so si ca bs nw tw pw mw rl cw xw ew hd al se bo rb pe me re cr xt en tx V P ST brt ny wd ag us ai ab AP r = some e → AE r = AD r := fun r e q => by
            rw [hAE, r_up_ne _ _ (fun z => by rw [z, cN_42 (k := k) (i := hd k) (by omega)] at q; cases q), r_up_ne _ _ (fun z => by rw [z, cN_41 (k := k) (i := hd k) (by omega)] at q; cases q), r_up_ne _ _ (fun z => by rw [z, cN_40 (k := k) (i := hd k) (by omega)] at q; cases q)]
          have hR0 := hR.re (AE := AE) hp hag
          have hf0 := cR_agree (AE := AE) hp hag
          have hR1 := hR0.new (40, k, hd k) (.inr (0, [])) (by rw [n0]; exact g1) (by rw [cN_40 (k := k) (i := hd k) (by omega)])
          have hR2 := hR1.new (41, k, hd k) (.inr (0, [])) (by rw [n1, va_up_ne _ _ (by rw [n0]; exact (zne u2_ u1 (by intro q9; first | cases q9 | simp at q9)))]; exact g2) (by rw [r_up_ne _ _ (fun z => absurd (show (41 : Nat) = 40 from congrArg Prod.fst z) (by decide)), cN_41 (k := k) (i := hd k) (by omega)])
          have hR3 := hR2.new (42, k, hd k) (.inr (0, [])) (by rw [n2, va_up_ne _ _ (by rw [n1]; exact (Ne.symm g4)), va_up_ne _ _ (by rw [n0]; exact (zne u3 u1 (by intro q9; first | cases q9 | simp at q9)))]; exact g3) (by rw [r_up_ne _ _ (fun z => absurd (show (42 : Nat) = 41 from congrArg Prod.fst z) (by decide)), r_up_ne _ _ (fun z => absurd (show (42 : Nat) = 40 from congrArg Prod.fst z) (by decide)), cN_42 (k := k) (i := hd k) (by omega)])
          have hold : ∀ (r : Nat × Nat × Nat) (e : va_E), cR cs AE nb tn FF GF tt nd de so si ca bs nw tw pw mw rl cw xw ew hd al se bo rb pe me re cr xt en tx V P ST brt ny wd ag us ai ab AP r = some e → (r_up (r_up (r_up (cR cs AE nb tn FF GF tt nd de so si ca bs nw tw pw mw rl cw xw ew hd al se bo rb pe me re cr xt en tx V P ST brt ny wd ag us ai ab AP) (40, k, hd k) (some (.inr (0, [])))) (41, k, hd k) (some (.inr (0, [])))) (42, k, hd k) (some (.inr (0, [])))) r = some e := fun r e q => by
            rw [r_up_ne _ _ (fun z => by rw [z, cN_42 (k := k) (i := hd k) (by omega)] at q; cases q), r_up_ne _ _ (fun z => by rw [z, cN_41 (k := k) (i := hd k) (by omega)] at q; cases q), r_up_ne _ _ (fun z => by rw [z, cN_40 (k := k) (i := hd k) (by omega)] at q; cases q)]
            exact q
          have w0 : (r_up (r_up (r_up (cR cs AE nb tn FF GF tt nd de so si ca bs nw tw pw mw rl cw xw ew hd al se bo rb pe me re cr xt en tx V P ST brt ny wd ag us ai ab AP) (40, k, hd k) (some (.inr (0, [])))) (41, k, hd k) (some (.inr (0, [])))) (42, k, hd k) (some (.inr (0, [])))) (40, k, hd k) = some (.inr (0, [])) := by rw [r_up_ne _ _ (fun z => absurd (show (40 : Nat) = 42 from congrArg Prod.fst z) (by decide)), r_up_ne _ _ (fun z => absurd (show (40 : Nat) = 41 from congrArg Prod.fst z) (by decide)), r_up_self]
          have w1 : (r_up (r_up (r_up (cR cs AE nb tn FF GF tt nd de so si ca bs nw tw pw mw rl cw xw ew hd al se bo rb pe me re cr xt en tx V P ST brt ny wd ag us ai ab AP) (40, k, hd k) (some (.inr (0, [])))) (41, k, hd k) (some (.inr (0, [])))) (42, k, hd k) (some (.inr (0, [])))) (41, k, hd k) = some (.inr (0, [])) := by rw [r_up_ne _ _ (fun z => absurd (show (41 : Nat) = 42 from congrArg Prod.fst z) (by decide)), r_up_self]
          have w2 : (r_up (r_up (r_up (cR cs AE nb tn FF GF tt nd de so si ca bs nw tw pw mw rl cw xw ew hd al se bo rb pe me re cr xt en tx V P ST brt ny wd ag us ai ab AP) (40, k, hd k) (some (.inr (0, [])))) (41, k, hd k) (some (.inr (0, [])))) (42, k, hd k) (some (.inr (0, [])))) (42, k, hd k) = some (.inr (0, [])) := by rw [r_up_self]
          have hx2 : zEx uc u2 [(AE (0, 0, 0), (.inr (6, [.ref (AE (1, 0, 0)), .ref (AE (2, 0, 0)), .ref (AE (3, 0, 0)), .ref (AE (4, 0, 0)), .int (nI nb), .int (nI nd), .int (nI nw), .int brt, .int (nI ny), .int (wd + 1)]))), (AE (30, k, 0), (.inr (5, [.ref (AE (31, k, 0)), .ref (AE (32, k, 0)), .ref (AE (33, k, 0)), .int (nI (hd k + 1)), .long (se k)]))), (AE (32, k, 0), (eR cs 4 60 (va_up (fun i => if i < al k then some (AD (40, k, i)) else none) (hd k) (some (AE (40, k, hd k)))))), (AE (40, k, hd k), (zPayE (AE (41, k, hd k)) (AE (42, k, hd k)) bon brt VN)), (AE (41, k, hd k), (.inr (4, [.ref (AE (10, tw k, 0)), .int (pw k), .int (mw k), .long (rl k), .long (cw k), .long (xw k), .int (ew k)]))), (AE (42, k, hd k), (eJ cs 8 PN)), (AE (4, 0, 0), (.inr (0, [.ref (AE (5, 0, 0)), .long (zSum (fun i => V k i 0) (hd k)), .int (nI (zUs (bo k) (hd k))), .long (zSumU (bo k) (fun i => V k i 2) (hd k)), .long (zSumU (bo k) (fun i => V k i 3) (hd k))]))), (AE (5, 0, 0), (eJ cs 8 GG))] := by
            rw [hag _ _ cR_0, hag _ _ cR_1, hag _ _ cR_2, hag _ _ cR_3, hag _ _ cR_4, hag _ _ cR_5, hag _ _ (cR_30 hk), hag _ _ (cR_31 hk), hag _ _ (cR_32 hk), hag _ _ (cR_33 hk), hag _ _ (cR_10 htk), n0, n1, n2]
            exact hx
          have hx3 := ((hx2.pre (e0 := .inr (0, [])) (List.mem_of_getElem? (i := 3) rfl)).pre (e0 := .inr (0, [])) (List.mem_of_getElem? (i := 4) rfl)).pre (e0 := .inr (0, [])) (List.mem_of_getElem? (i := 5) rfl)
          have ef : (fun i => if i < hd k + 1 then some (AE (40, k, i)) else none) = va_up (fun i => if i < al k then some (AD (40, k, i)) else none) (hd k) (some (AE (40, k, hd k))) := by
            funext y
            by_cases q : y = hd k
            · rw [q, va_up_self, if_pos (by omega)]
            · rw [va_up_ne _ _ q]
              by_cases q2 : y < al k
              · rw [if_pos q2, if_pos (by omega), hag _ _ (cR_40 hk q2)]
              · rw [if_neg q2, if_neg (by omega)]
          have hR2 : zRep u2 AE (cR cs AE nb tn FF GF tt nd de so si ca bs nw tw pw mw rl cw xw ew (va_up hd k (hd k + 1)) (va_up al k (hd k + 1)) se (va_up bo k bo2) (va_up rb k rb2) (va_up pe k pe2) (va_up me k me2) (va_up re k re2) (va_up cr k cr2) (va_up xt k xt2) (va_up en k en2) (va_up tx k tx2) (va_up V k V2) (va_up P k P2) ST brt ny (wd + 1) (zSum (fun i => V k i 0) (hd k)) (nI (zUs (bo k) (hd k))) (zSumU (bo k) (fun i => V k i 2) (hd k)) (zSumU (bo k) (fun i => V k i 3) (hd k)) (GG)) := by
            refine hR3.put [((0, 0, 0), (.inr (6, [.ref (AE (1, 0, 0)), .ref (AE (2, 0, 0)), .ref (AE (3, 0, 0)), .ref (AE (4, 0, 0)), .int (nI nb), .int (nI nd), .int (nI nw), .int brt, .int (nI ny), .int (wd + 1)]))), ((30, k, 0), (.inr (5, [.ref (AE (31, k, 0)), .ref (AE (32, k, 0)), .ref (AE (33, k, 0)), .int (nI (hd k + 1)), .long (se k)]))), ((32, k, 0), (eR cs 4 60 (va_up (fun i => if i < al k then some (AD (40, k, i)) else none) (hd k) (some (AE (40, k, hd k)))))), ((40, k, hd k), (zPayE (AE (41, k, hd k)) (AE (42, k, hd k)) bon brt VN)), ((41, k, hd k), (.inr (4, [.ref (AE (10, tw k, 0)), .int (pw k), .int (mw k), .long (rl k), .long (cw k), .long (xw k), .int (ew k)]))), ((42, k, hd k), (eJ cs 8 PN)), ((4, 0, 0), (.inr (0, [.ref (AE (5, 0, 0)), .long (zSum (fun i => V k i 0) (hd k)), .int (nI (zUs (bo k) (hd k))), .long (zSumU (bo k) (fun i => V k i 2) (hd k)), .long (zSumU (bo k) (fun i => V k i 3) (hd k))]))), ((5, 0, 0), (eJ cs 8 GG))] hx3 (zall1 ⟨_, hold _ _ cR_0⟩ (zall1 ⟨_, hold _ _ (cR_30 hk)⟩ (zall1 ⟨_, hold _ _ (cR_32 hk)⟩ (zall1 ⟨_, w0⟩ (zall1 ⟨_, w1⟩ (zall1 ⟨_, w2⟩ (zall1 ⟨_, hold _ _ cR_4⟩ (zall1 ⟨_, hold _ _ cR_5⟩ zall0)))))))) (cR_cases ?_ ?_ ?_ ?_ ?_ ?_ ?_ ?_ ?_ ?_ ?_ ?_ ?_ ?_ ?_ ?_ ?_ ?_)
            · exact Or.inl (List.mem_of_getElem? (i := 0) rfl)
            · exact Or.inr ⟨hold _ _ cR_1, (zall1 (fun z => absurd (show (1 : Nat) = 0 from congrArg Prod.fst z) (by decide)) (zall1 (fun z => absurd (show (1 : Nat) = 30 from congrArg Prod.fst z) (by decide)) (zall1 (fun z => absurd (show (1 : Nat) = 32 from congrArg Prod.fst z) (by decide)) (zall1 (fun z => absurd (show (1 : Nat) = 40 from congrArg Prod.fst z) (by decide)) (zall1 (fun z => absurd (show (1 : Nat) = 41 from congrArg Prod.fst z) (by decide)) (zall1 (fun z => absurd (show (1 : Nat) = 42 from congrArg Prod.fst z) (by decide)) (zall1 (fun z => absurd (show (1 : Nat) = 4 from congrArg Prod.fst z) (by decide)) (zall1 (fun z => absurd (show (1 : Nat) = 5 from congrArg Prod.fst z) (by decide)) zall0))))))))⟩
            · exact Or.inr ⟨hold _ _ cR_2, (zall1 (fun z => absurd (show (2 : Nat) = 0 from congrArg Prod.fst z) (by decide)) (zall1 (fun z => absurd (show (2 : Nat) = 30 from congrArg Prod.fst z) (by decide)) (zall1 (fun z => absurd (show (2 : Nat) = 32 from congrArg Prod.fst z) (by decide)) (zall1 (fun z => absurd (show (2 : Nat) = 40 from congrArg Prod.fst z) (by decide)) (zall1 (fun z => absurd (show (2 : Nat) = 41 from congrArg Prod.fst z) (by decide)) (zall1 (fun z => absurd (show (2 : Nat) = 42 from congrArg Prod.fst z) (by decide)) (zall1 (fun z => absurd (show (2 : Nat) = 4 from congrArg Prod.fst z) (by decide)) (zall1 (fun z => absurd (show (2 : Nat) = 5 from congrArg Prod.fst z) (by decide)) zall0))))))))⟩
            · exact Or.inr ⟨hold _ _ cR_3, (zall1 (fun z => absurd (show (3 : Nat) = 0 from congrArg Prod.fst z) (by decide)) (zall1 (fun z => absurd (show (3 : Nat) = 30 from congrArg Prod.fst z) (by decide)) (zall1 (fun z => absurd (show (3 : Nat) = 32 from congrArg Prod.fst z) (by decide)) (zall1 (fun z => absurd (show (3 : Nat) = 40 from congrArg Prod.fst z) (by decide)) (zall1 (fun z => absurd (show (3 : Nat) = 41 from congrArg Prod.fst z) (by decide)) (zall1 (fun z => absurd (show (3 : Nat) = 42 from congrArg Prod.fst z) (by decide)) (zall1 (fun z => absurd (show (3 : Nat) = 4 from congrArg Prod.fst z) (by decide)) (zall1 (fun z => absurd (show (3 : Nat) = 5 from congrArg Prod.fst z) (by decide)) zall0))))))))⟩
            · exact Or.inl (List.mem_of_getElem? (i := 6) rfl)
            · exact Or.inl (List.mem_of_getElem? (i := 7) rfl)
            · exact fun k hk => Or.inr ⟨hold _ _ (cR_10 hk), (zall1 (fun z => absurd (show (10 : Nat) = 0 from congrArg Prod.fst z) (by decide)) (zall1 (fun z => absurd (show (10 : Nat) = 30 from congrArg Prod.fst z) (by decide)) (zall1 (fun z => absurd (show (10 : Nat) = 32 from congrArg Prod.fst z) (by decide)) (zall1 (fun z => absurd (show (10 : Nat) = 40 from congrArg Prod.fst z) (by decide)) (zall1 (fun z => absurd (show (10 : Nat) = 41 from congrArg Prod.fst z) (by decide)) (zall1 (fun z => absurd (show (10 : Nat) = 42 from congrArg Prod.fst z) (by decide)) (zall1 (fun z => absurd (show (10 : Nat) = 4 from congrArg Prod.fst z) (by decide)) (zall1 (fun z => absurd (show (10 : Nat) = 5 from congrArg Prod.fst z) (by decide)) zall0))))))))⟩
            · exact fun k hk => Or.inr ⟨hold _ _ (cR_11 hk), (zall1 (fun z => absurd (show (11 : Nat) = 0 from congrArg Prod.fst z) (by decide)) (zall1 (fun z => absurd (show (11 : Nat) = 30 from congrArg Prod.fst z) (by decide)) (zall1 (fun z => absurd (show (11 : Nat) = 32 from congrArg Prod.fst z) (by decide)) (zall1 (fun z => absurd (show (11 : Nat) = 40 from congrArg Prod.fst z) (by decide)) (zall1 (fun z => absurd (show (11 : Nat) = 41 from congrArg Prod.fst z) (by decide)) (zall1 (fun z => absurd (show (11 : Nat) = 42 from congrArg Prod.fst z) (by decide)) (zall1 (fun z => absurd (show (11 : Nat) = 4 from congrArg Prod.fst z) (by decide)) (zall1 (fun z => absurd (show (11 : Nat) = 5 from congrArg Prod.fst z) (by decide)) zall0))))))))⟩
            · exact fun k hk => Or.inr ⟨hold _ _ (cR_12 hk), (zall1 (fun z => absurd (show (12 : Nat) = 0 from congrArg Prod.fst z) (by decide)) (zall1 (fun z => absurd (show (12 : Nat) = 30 from congrArg Prod.fst z) (by decide)) (zall1 (fun z => absurd (show (12 : Nat) = 32 from congrArg Prod.fst z) (by decide)) (zall1 (fun z => absurd (show (12 : Nat) = 40 from congrArg Prod.fst z) (by decide)) (zall1 (fun z => absurd (show (12 : Nat) = 41 from congrArg Prod.fst z) (by decide)) (zall1 (fun z => absurd (show (12 : Nat) = 42 from congrArg Prod.fst z) (by decide)) (zall1 (fun z => absurd (show (12 : Nat) = 4 from congrArg Prod.fst z) (by decide)) (zall1 (fun z => absurd (show (12 : Nat) = 5 from congrArg Prod.fst z) (by decide)) zall0))))))))⟩
            · exact fun k hk => Or.inr ⟨hold _ _ (cR_20 hk), (zall1 (fun z => absurd (show (20 : Nat) = 0 from congrArg Prod.fst z) (by decide)) (zall1 (fun z => absurd (show (20 : Nat) = 30 from congrArg Prod.fst z) (by decide)) (zall1 (fun z => absurd (show (20 : Nat) = 32 from congrArg Prod.fst z) (by decide)) (zall1 (fun z => absurd (show (20 : Nat) = 40 from congrArg Prod.fst z) (by decide)) (zall1 (fun z => absurd (show (20 : Nat) = 41 from congrArg Prod.fst z) (by decide)) (zall1 (fun z => absurd (show (20 : Nat) = 42 from congrArg Prod.fst z) (by decide)) (zall1 (fun z => absurd (show (20 : Nat) = 4 from congrArg Prod.fst z) (by decide)) (zall1 (fun z => absurd (show (20 : Nat) = 5 from congrArg Prod.fst z) (by decide)) zall0))))))))⟩
            · intro j hj
              by_cases q : j = k
              · subst q
                refine Or.inl ?_
                rw [va_up_self]
                exact List.mem_of_getElem? (i := 1) rfl
              · refine Or.inr ⟨?_, (zall1 (fun z => absurd (show (30 : Nat) = 0 from congrArg Prod.fst z) (by decide)) (zall1 (fun z => q (congrArg (fun r : Nat × Nat × Nat => r.2.1) z)) (zall1 (fun z => absurd (show (30 : Nat) = 32 from congrArg Prod.fst z) (by decide)) (zall1 (fun z => absurd (show (30 : Nat) = 40 from congrArg Prod.fst z) (by decide)) (zall1 (fun z => absurd (show (30 : Nat) = 41 from congrArg Prod.fst z) (by decide)) (zall1 (fun z => absurd (show (30 : Nat) = 42 from congrArg Prod.fst z) (by decide)) (zall1 (fun z => absurd (show (30 : Nat) = 4 from congrArg Prod.fst z) (by decide)) (zall1 (fun z => absurd (show (30 : Nat) = 5 from congrArg Prod.fst z) (by decide)) zall0))))))))⟩
                rw [va_up_ne _ _ q]
                exact hold _ _ (cR_30 hj)
            · exact fun k hk => Or.inr ⟨hold _ _ (cR_31 hk), (zall1 (fun z => absurd (show (31 : Nat) = 0 from congrArg Prod.fst z) (by decide)) (zall1 (fun z => absurd (show (31 : Nat) = 30 from congrArg Prod.fst z) (by decide)) (zall1 (fun z => absurd (show (31 : Nat) = 32 from congrArg Prod.fst z) (by decide)) (zall1 (fun z => absurd (show (31 : Nat) = 40 from congrArg Prod.fst z) (by decide)) (zall1 (fun z => absurd (show (31 : Nat) = 41 from congrArg Prod.fst z) (by decide)) (zall1 (fun z => absurd (show (31 : Nat) = 42 from congrArg Prod.fst z) (by decide)) (zall1 (fun z => absurd (show (31 : Nat) = 4 from congrArg Prod.fst z) (by decide)) (zall1 (fun z => absurd (show (31 : Nat) = 5 from congrArg Prod.fst z) (by decide)) zall0))))))))⟩
            · intro j hj
              by_cases q : j = k
              · subst q
                refine Or.inl ?_
                rw [va_up_self, ef]
                exact List.mem_of_getElem? (i := 2) rfl
              · refine Or.inr ⟨?_, (zall1 (fun z => absurd (show (32 : Nat) = 0 from congrArg Prod.fst z) (by decide)) (zall1 (fun z => absurd (show (32 : Nat) = 30 from congrArg Prod.fst z) (by decide)) (zall1 (fun z => q (congrArg (fun r : Nat × Nat × Nat => r.2.1) z)) (zall1 (fun z => absurd (show (32 : Nat) = 40 from congrArg Prod.fst z) (by decide)) (zall1 (fun z => absurd (show (32 : Nat) = 41 from congrArg Prod.fst z) (by decide)) (zall1 (fun z => absurd (show (32 : Nat) = 42 from congrArg Prod.fst z) (by decide)) (zall1 (fun z => absurd (show (32 : Nat) = 4 from congrArg Prod.fst z) (by decide)) (zall1 (fun z => absurd (show (32 : Nat) = 5 from congrArg Prod.fst z) (by decide)) zall0))))))))⟩
                rw [va_up_ne _ _ q]
                exact hold _ _ (cR_32 hj)
            · exact fun k hk => Or.inr ⟨hold _ _ (cR_33 hk), (zall1 (fun z => absurd (show (33 : Nat) = 0 from congrArg Prod.fst z) (by decide)) (zall1 (fun z => absurd (show (33 : Nat) = 30 from congrArg Prod.fst z) (by decide)) (zall1 (fun z => absurd (show (33 : Nat) = 32 from congrArg Prod.fst z) (by decide)) (zall1 (fun z => absurd (show (33 : Nat) = 40 from congrArg Prod.fst z) (by decide)) (zall1 (fun z => absurd (show (33 : Nat) = 41 from congrArg Prod.fst z) (by decide)) (zall1 (fun z => absurd (show (33 : Nat) = 42 from congrArg Prod.fst z) (by decide)) (zall1 (fun z => absurd (show (33 : Nat) = 4 from congrArg Prod.fst z) (by decide)) (zall1 (fun z => absurd (show (33 : Nat) = 5 from congrArg Prod.fst z) (by decide)) zall0))))))))⟩
            · intro j y hj hy
              by_cases q : j = k
              · subst q
                rw [va_up_self] at hy
                by_cases q2 : y = hd j
                · subst q2
                  refine Or.inl ?_
                  rw [va_up_self, va_up_self, va_up_self, sbo, srb, sV]
                  exact List.mem_of_getElem? (i := 3) rfl
                · refine Or.inr ⟨?_, (zall1 (fun z => absurd (show (40 : Nat) = 0 from congrArg Prod.fst z) (by decide)) (zall1 (fun z => absurd (show (40 : Nat) = 30 from congrArg Prod.fst z) (by decide)) (zall1 (fun z => absurd (show (40 : Nat) = 32 from congrArg Prod.fst z) (by decide)) (zall1 (fun z => q2 (congrArg (fun r : Nat × Nat × Nat => r.2.2) z)) (zall1 (fun z => absurd (show (40 : Nat) = 41 from congrArg Prod.fst z) (by decide)) (zall1 (fun z => absurd (show (40 : Nat) = 42 from congrArg Prod.fst z) (by decide)) (zall1 (fun z => absurd (show (40 : Nat) = 4 from congrArg Prod.fst z) (by decide)) (zall1 (fun z => absurd (show (40 : Nat) = 5 from congrArg Prod.fst z) (by decide)) zall0))))))))⟩
                  rw [va_up_self, va_up_self, va_up_self, obo y q2, orb y q2, oV y q2]
                  exact hold _ _ (cR_40 hj (by omega))
              · refine Or.inr ⟨?_, (zall1 (fun z => absurd (show (40 : Nat) = 0 from congrArg Prod.fst z) (by decide)) (zall1 (fun z => absurd (show (40 : Nat) = 30 from congrArg Prod.fst z) (by decide)) (zall1 (fun z => absurd (show (40 : Nat) = 32 from congrArg Prod.fst z) (by decide)) (zall1 (fun z => q (congrArg (fun r : Nat × Nat × Nat => r.2.1) z)) (zall1 (fun z => absurd (show (40 : Nat) = 41 from congrArg Prod.fst z) (by decide)) (zall1 (fun z => absurd (show (40 : Nat) = 42 from congrArg Prod.fst z) (by decide)) (zall1 (fun z => absurd (show (40 : Nat) = 4 from congrArg Prod.fst z) (by decide)) (zall1 (fun z => absurd (show (40 : Nat) = 5 from congrArg Prod.fst z) (by decide)) zall0))))))))⟩
                rw [va_up_ne _ _ q] at hy
                rw [va_up_ne _ _ q, va_up_ne _ _ q, va_up_ne _ _ q]
                exact hold _ _ (cR_40 hj hy)
            · intro j y hj hy
              by_cases q : j = k
              · subst q
                rw [va_up_self] at hy
                by_cases q2 : y = hd j
                · subst q2
                  refine Or.inl ?_
                  rw [va_up_self, va_up_self, va_up_self, va_up_self, va_up_self, va_up_self, va_up_self, stx, spe, sme, sre, scr, sxt, sen]
                  exact List.mem_of_getElem? (i := 4) rfl
                · refine Or.inr ⟨?_, (zall1 (fun z => absurd (show (41 : Nat) = 0 from congrArg Prod.fst z) (by decide)) (zall1 (fun z => absurd (show (41 : Nat) = 30 from congrArg Prod.fst z) (by decide)) (zall1 (fun z => absurd (show (41 : Nat) = 32 from congrArg Prod.fst z) (by decide)) (zall1 (fun z => absurd (show (41 : Nat) = 40 from congrArg Prod.fst z) (by decide)) (zall1 (fun z => q2 (congrArg (fun r : Nat × Nat × Nat => r.2.2) z)) (zall1 (fun z => absurd (show (41 : Nat) = 42 from congrArg Prod.fst z) (by decide)) (zall1 (fun z => absurd (show (41 : Nat) = 4 from congrArg Prod.fst z) (by decide)) (zall1 (fun z => absurd (show (41 : Nat) = 5 from congrArg Prod.fst z) (by decide)) zall0))))))))⟩
                  rw [va_up_self, va_up_self, va_up_self, va_up_self, va_up_self, va_up_self, va_up_self, otx y q2, ope y q2, ome y q2, ore y q2, ocr y q2, oxt y q2, oen y q2]
                  exact hold _ _ (cR_41 hj (by omega))
              · refine Or.inr ⟨?_, (zall1 (fun z => absurd (show (41 : Nat) = 0 from congrArg Prod.fst z) (by decide)) (zall1 (fun z => absurd (show (41 : Nat) = 30 from congrArg Prod.fst z) (by decide)) (zall1 (fun z => absurd (show (41 : Nat) = 32 from congrArg Prod.fst z) (by decide)) (zall1 (fun z => absurd (show (41 : Nat) = 40 from congrArg Prod.fst z) (by decide)) (zall1 (fun z => q (congrArg (fun r : Nat × Nat × Nat => r.2.1) z)) (zall1 (fun z => absurd (show (41 : Nat) = 42 from congrArg Prod.fst z) (by decide)) (zall1 (fun z => absurd (show (41 : Nat) = 4 from congrArg Prod.fst z) (by decide)) (zall1 (fun z => absurd (show (41 : Nat) = 5 from congrArg Prod.fst z) (by decide)) zall0))))))))⟩
                rw [va_up_ne _ _ q] at hy
                rw [va_up_ne _ _ q, va_up_ne _ _ q, va_up_ne _ _ q, va_up_ne _ _ q, va_up_ne _ _ q, va_up_ne _ _ q, va_up_ne _ _ q]
                exact hold _ _ (cR_41 hj hy)
            · intro j y hj hy
              by_cases q : j = k
              · subst q
                rw [va_up_self] at hy
                by_cases q2 : y = hd j
                · subst q2
                  refine Or.inl ?_
                  rw [va_up_self, sP]
                  exact List.mem_of_getElem? (i := 5) rfl
                · refine Or.inr ⟨?_, (zall1 (fun z => absurd (show (42 : Nat) = 0 from congrArg Prod.fst z) (by decide)) (zall1 (fun z => absurd (show (42 : Nat) = 30 from congrArg Prod.fst z) (by decide)) (zall1 (fun z => absurd (show (42 : Nat) = 32 from congrArg Prod.fst z) (by decide)) (zall1 (fun z => absurd (show (42 : Nat) = 40 from congrArg Prod.fst z) (by decide)) (zall1 (fun z => absurd (show (42 : Nat) = 41 from congrArg Prod.fst z) (by decide)) (zall1 (fun z => q2 (congrArg (fun r : Nat × Nat × Nat => r.2.2) z)) (zall1 (fun z => absurd (show (42 : Nat) = 4 from congrArg Prod.fst z) (by decide)) (zall1 (fun z => absurd (show (42 : Nat) = 5 from congrArg Prod.fst z) (by decide)) zall0))))))))⟩
                  rw [va_up_self, oP y q2]
                  exact hold _ _ (cR_42 hj (by omega))
              · refine Or.inr ⟨?_, (zall1 (fun z => absurd (show (42 : Nat) = 0 from congrArg Prod.fst z) (by decide)) (zall1 (fun z => absurd (show (42 : Nat) = 30 from congrArg Prod.fst z) (by decide)) (zall1 (fun z => absurd (show (42 : Nat) = 32 from congrArg Prod.fst z) (by decide)) (zall1 (fun z => absurd (show (42 : Nat) = 40 from congrArg Prod.fst z) (by decide)) (zall1 (fun z => absurd (show (42 : Nat) = 41 from congrArg Prod.fst z) (by decide)) (zall1 (fun z => q (congrArg (fun r : Nat × Nat × Nat => r.2.1) z)) (zall1 (fun z => absurd (show (42 : Nat) = 4 from congrArg Prod.fst z) (by decide)) (zall1 (fun z => absurd (show (42 : Nat) = 5 from congrArg Prod.fst z) (by decide)) zall0))))))))⟩
                rw [va_up_ne _ _ q] at hy
                rw [va_up_ne _ _ q]
                exact hold _ _ (cR_42 hj hy)
            · exact fun k i hk hi => Or.inr ⟨hold _ _ (cR_43 hk hi), (zall1 (fun z => absurd (show (43 : Nat) = 0 from congrArg Prod.fst z) (by decide)) (zall1 (fun z => absurd (show (43 : Nat) = 30 from congrArg Prod.fst z) (by decide)) (zall1 (fun z => absurd (show (43 : Nat) = 32 from congrArg Prod.fst z) (by decide)) (zall1 (fun z => absurd (show (43 : Nat) = 40 from congrArg Prod.fst z) (by decide)) (zall1 (fun z => absurd (show (43 : Nat) = 41 from congrArg Prod.fst z) (by decide)) (zall1 (fun z => absurd (show (43 : Nat) = 42 from congrArg Prod.fst z) (by decide)) (zall1 (fun z => absurd (show (43 : Nat) = 4 from congrArg Prod.fst z) (by decide)) (zall1 (fun z => absurd (show (43 : Nat) = 5 from congrArg Prod.fst z) (by decide)) zall0))))))))⟩
          have eJ9 : ∀ s ∈ [25, 32, 33, 34], ∀ y : Nat, y ≠ (60 * k + hd k) → (va_up (va_up (va_up (va_up (va_up J 25 (vp_updL (J 25) (60 * k + hd k) gross)) 32 (vp_updL (J 32) (60 * k + hd k) (rl k))) 33 (vp_updL (J 33) (60 * k + hd k) (cw k))) 34 (vp_updL (J 34) (60 * k + hd k) (xw k))) 35 (vp_updL (J 35) (60 * k + hd k) (VN 6))) s y = J s y := by
            intro s hs y hy
            rcases List.mem_cons.mp hs with rfl | hs
            · exact vpL_ne _ _ hy
            rcases List.mem_cons.mp hs with rfl | hs
            · exact vpL_ne _ _ hy
            rcases List.mem_cons.mp hs with rfl | hs
            · exact vpL_ne _ _ hy
            rcases List.mem_cons.mp hs with rfl | hs
            · exact vpL_ne _ _ hy
            cases hs
          have eK9 : ∀ s ∈ [26, 27, 28, 29, 30, 31], ∀ y : Nat, y ≠ (60 * k + hd k) → (va_up (va_up (va_up (va_up (va_up (va_up (va_up K 26 (upd (K 26) (60 * k + hd k) bon)) 27 (upd (K 27) (60 * k + hd k) (nI (tw k)))) 28 (upd (K 28) (60 * k + hd k) (pw k))) 29 (upd (K 29) (60 * k + hd k) (mw k))) 30 (upd (K 30) (60 * k + hd k) (ew k))) 31 (upd (K 31) (60 * k + hd k) brt)) 19 (upd (K 19) k (nI (hd k + 1)))) s y = K s y := by
            intro s hs y hy
            rcases List.mem_cons.mp hs with rfl | hs
            · exact up_ne _ _ hy
            rcases List.mem_cons.mp hs with rfl | hs
            · exact up_ne _ _ hy
            rcases List.mem_cons.mp hs with rfl | hs
            · exact up_ne _ _ hy
            rcases List.mem_cons.mp hs with rfl | hs
            · exact up_ne _ _ hy
            rcases List.mem_cons.mp hs with rfl | hs
            · exact up_ne _ _ hy
            rcases List.mem_cons.mp hs with rfl | hs
            · exact up_ne _ _ hy
            cases hs
          have hr1 : mRel (va_up (va_up (va_up (va_up (va_up J 25 (vp_updL (J 25) (60 * k + hd k) gross)) 32 (vp_updL (J 32) (60 * k + hd k) (rl k))) 33 (vp_updL (J 33) (60 * k + hd k) (cw k))) 34 (vp_updL (J 34) (60 * k + hd k) (xw k))) 35 (vp_updL (J 35) (60 * k + hd k) (VN 6))) (va_up (va_up (va_up (va_up (va_up (va_up (va_up K 26 (upd (K 26) (60 * k + hd k) bon)) 27 (upd (K 27) (60 * k + hd k) (nI (tw k)))) 28 (upd (K 28) (60 * k + hd k) (pw k))) 29 (upd (K 29) (60 * k + hd k) (mw k))) 30 (upd (K 30) (60 * k + hd k) (ew k))) 31 (upd (K 31) (60 * k + hd k) brt)) 19 (upd (K 19) k (nI (hd k + 1)))) nb tn FF GF tt nd de so si ca bs nw tw pw mw rl cw xw ew (va_up hd k (hd k + 1)) (va_up al k (hd k + 1)) se (va_up bo k bo2) (va_up rb k rb2) (va_up pe k pe2) (va_up me k me2) (va_up re k re2) (va_up cr k cr2) (va_up xt k xt2) (va_up en k en2) (va_up tx k tx2) (va_up V k V2) (va_up P k P2) ST brt ny (wd + 1) := by
            refine ⟨hr.1, hr.2.1, (fun j hj => by
              by_cases c : j = k
              · subst c
                rw [va_up_self, va_up_self, va_up_self, va_up_self, va_up_self, va_up_self, va_up_self, va_up_self, va_up_self, va_up_self, va_up_self]
                exact mPy.new ((hr.2.2.1 j hj).as (fun i hi => ⟨obo i (by omega), orb i (by omega), ope i (by omega), ome i (by omega), ore i (by omega), ocr i (by omega), oxt i (by omega), oen i (by omega), otx i (by omega), by rw [oV i (by omega)]⟩)) (by rw [sV, hV00]; rfl) (by rw [sbo]; rfl) (by rw [stx]; rfl) (by rw [spe]; rfl) (by rw [sme]; rfl) (by rw [sen]; rfl) (by rw [srb]; rfl) (by rw [sre]; rfl) (by rw [scr]; rfl) (by rw [sxt]; rfl) (by rw [stx]; exact htk) (by rw [spe]; exact zPe_ne hw.2.2.1)
              · rw [va_up_ne _ _ c, va_up_ne _ _ c, va_up_ne _ _ c, va_up_ne _ _ c, va_up_ne _ _ c, va_up_ne _ _ c, va_up_ne _ _ c, va_up_ne _ _ c, va_up_ne _ _ c, va_up_ne _ _ c, va_up_ne _ _ c]
                have z60 := (show hd j ≤ 60 from Nat.le_trans (hp.2.2.2.2.2.2.2.1 j hj).2.2.2.2.2.2.2.1 (hp.2.2.2.2.2.2.2.1 j hj).2.2.2.2.2.2.2.2.1)
                exact (hr.2.2.1 j hj).keep (x := 60 * k + hd k) (fun i hi => by omega) eJ9 eK9), (fun j hj => by
              have z60 := (show hd j ≤ 60 from Nat.le_trans (hp.2.2.2.2.2.2.2.1 j hj).2.2.2.2.2.2.2.1 (hp.2.2.2.2.2.2.2.1 j hj).2.2.2.2.2.2.2.2.1)
              show upd (K 19) k (nI (hd k + 1)) j = _ ∧ ∀ i : Nat, i < _ → vp_updL (J 35) (60 * k + hd k) (VN 6) (60 * j + i) = _
              by_cases c : j = k
              · subst c
                rw [va_up_self, va_up_self, up_self]
                refine ⟨rfl, fun i hi => ?_⟩
                by_cases c2 : i = hd j
                · rw [c2, vpL_self, sV, hV07]
                · rw [vpL_ne _ _ (by omega), oV i c2]
                  exact (hr.2.2.2.1 j hj).2 i (by omega)
              · rw [va_up_ne _ _ c, va_up_ne _ _ c, up_ne _ _ c]
                refine ⟨(hr.2.2.2.1 j hj).1, fun i hi => ?_⟩
                rw [vpL_ne _ _ (by omega)]
                exact (hr.2.2.2.1 j hj).2 i hi), hr.2.2.2.2.1, hr.2.2.2.2.2.1, hr.2.2.2.2.2.2.1, ?_, hr.2.2.2.2.2.2.2.2⟩
            · intro j h1 h2
              have q := hr.2.2.2.2.2.2.2.1 j h1 h2
              refine ⟨q.1, q.2.1, q.2.2.1, q.2.2.2.1, ?_, q.2.2.2.2.2⟩
              show upd (K 19) k (nI (hd k + 1)) j = 0
              rw [up_ne _ _ (by omega)]
              exact q.2.2.2.2.1
          have hr2 := hr1.out (ho.up (s0 := 35) (by decide))
          have hp2 : zPure nb tn FF GF tt nd de so si ca bs nw tw pw mw rl cw xw ew (va_up hd k (hd k + 1)) (va_up al k (hd k + 1)) se (va_up bo k bo2) (va_up rb k rb2) (va_up pe k pe2) (va_up me k me2) (va_up re k re2) (va_up cr k cr2) (va_up xt k xt2) (va_up en k en2) (va_up tx k tx2) (va_up V k V2) (va_up P k P2) ST brt ny (wd + 1) := by
            refine ⟨hp.1, hp.2.1, hp.2.2.1, hp.2.2.2.1, hp.2.2.2.2.1, hp.2.2.2.2.2.1, hp.2.2.2.2.2.2.1, ?_, hp.2.2.2.2.2.2.2.2⟩
            intro j hj
            have q := hp.2.2.2.2.2.2.2.1 j hj
            by_cases c : j = k
            · subst c
              simp only [va_up_self]
              refine ⟨q.1, q.2.1, q.2.2.1, q.2.2.2.1, q.2.2.2.2.1, q.2.2.2.2.2.1, q.2.2.2.2.2.2.1, by omega, by omega, fun i hi => ?_, fun i hi => st.1 i (by omega)⟩
              by_cases c2 : i = hd j
              · rw [c2, stx, sbo, sV, srb, spe, sre, scr, sxt, sen, sP, hV00]
                exact ⟨htk, q.2.1, hbon, hu, hp.2.2.2.2.1, q.2.2.1, q.2.2.2.1, q.2.2.2.2.1, q.2.2.2.2.2.1, fun d h1 h2 => ⟨q.2.2.2.2.2.2.1 d h1 h2, st.2.2 d h1 h2⟩⟩
              · rw [otx i c2, obo i c2, oV i c2, orb i c2, ope i c2, ore i c2, ocr i c2, oxt i c2, oen i c2, oP i c2]
                exact q.2.2.2.2.2.2.2.2.2.1 i (by omega)
            · repeat rw [va_up_ne _ _ c]
              exact q
          exact ⟨rfl, ⟨_, _, _, _, _, _, _, hq.1⟩, zInv.mk hR2 (hag _ _ cR_0) hq.1 hinj hq.2.1 hr2 hp2⟩
        · have hna : hd k < al k := by omega
          obtain ⟨GG0, hGG0⟩ : ∃ z : Nat → Int64, z = (fun d => zSum (fun i => P k i d) (hd k)) := ⟨_, rfl⟩
          obtain ⟨VN0, hVN0⟩ : ∃ z : Nat → Int64, z = (vp_updL (zWkV (zSel de nd 1) (zSel de nd 0) (zHasF (ew k)) (zDueF so si ca bs bon gross (zSum (fun i => V k i 0) (hd k)) GG0) (zWh (FF (tw k)) (GF (tw k)) (tn (tw k)) (pw k) (mw k) (rl k) (cw k) bon brt (zUs (bo k) (hd k)) (zSumU (bo k) (fun i => V k i 2) (hd k)) (zSumU (bo k) (fun i => V k i 3) (hd k))) (xw k) bon (zL8 gross (V k (hd k) 1) (V k (hd k) 2) (V k (hd k) 3) (V k (hd k) 4) (V k (hd k) 5) (V k (hd k) 6) (V k (hd k) 7)) (P k (hd k))) 7 ((zWkV (zSel de nd 1) (zSel de nd 0) (zHasF (ew k)) (zDueF so si ca bs bon gross (zSum (fun i => V k i 0) (hd k)) GG0) (zWh (FF (tw k)) (GF (tw k)) (tn (tw k)) (pw k) (mw k) (rl k) (cw k) bon brt (zUs (bo k) (hd k)) (zSumU (bo k) (fun i => V k i 2) (hd k)) (zSumU (bo k) (fun i => V k i 3) (hd k))) (xw k) bon (zL8 gross (V k (hd k) 1) (V k (hd k) 2) (V k (hd k) 3) (V k (hd k) 4) (V k (hd k) 5) (V k (hd k) 6) (V k (hd k) 7)) (P k (hd k))) 6)) := ⟨_, rfl⟩
          obtain ⟨PN0, hPN0⟩ : ∃ z : Nat → Int64, z = (zWkL (zSel de nd 1) (zSel de nd 0) (zHasF (ew k)) (zDueF so si ca bs bon gross (zSum (fun i => V k i 0) (hd k)) GG0) (zWh (FF (tw k)) (GF (tw k)) (tn (tw k)) (pw k) (mw k) (rl k) (cw k) bon brt (zUs (bo k) (hd k)) (zSumU (bo k) (fun i => V k i 2) (hd k)) (zSumU (bo k) (fun i => V k i 3) (hd k))) (xw k) bon (zL8 gross (V k (hd k) 1) (V k (hd k) 2) (V k (hd k) 3) (V k (hd k) 4) (V k (hd k) 5) (V k (hd k) 6) (V k (hd k) 7)) (P k (hd k))).2 := ⟨_, rfl⟩
          have hpt : ∀ d : Nat, nd ≤ d → d < 8 → (P k (hd k)) d = 0 := fun d h1 h2 => ((hrows (hd k) hna).2.2.2.2.2.2.2.2.2 d h1 h2).2
          have st := step GG0 VN0 PN0 (zL8 gross (V k (hd k) 1) (V k (hd k) 2) (V k (hd k) 3) (V k (hd k) 4) (V k (hd k) 5) (V k (hd k) 6) (V k (hd k) 7)) (P k (hd k)) rfl (by rw [hVN0]; rfl) (fun d _ => by rw [hGG0]) hpt (fun c h1 h2 => by rw [hVN0, vpL_ne _ _ (by omega)]) hPN0
          have hV00 : VN0 0 = gross := by rw [hVN0]; rfl
          have hV07 : VN0 7 = VN0 6 := by rw [hVN0]; rfl
          refine Or.inl ⟨6, 3, 27, 7, fun z u2 => ∃ GG VN PN : Nat → Int64, VN = (vp_updL (zWkV (zSel de nd 1) (zSel de nd 0) (zHasF (ew k)) (zDueF so si ca bs bon gross (zSum (fun i => V k i 0) (hd k)) GG) (zWh (FF (tw k)) (GF (tw k)) (tn (tw k)) (pw k) (mw k) (rl k) (cw k) bon brt (zUs (bo k) (hd k)) (zSumU (bo k) (fun i => V k i 2) (hd k)) (zSumU (bo k) (fun i => V k i 3) (hd k))) (xw k) bon (zL8 gross (V k (hd k) 1) (V k (hd k) 2) (V k (hd k) 3) (V k (hd k) 4) (V k (hd k) 5) (V k (hd k) 6) (V k (hd k) 7)) (P k (hd k))) 7 ((zWkV (zSel de nd 1) (zSel de nd 0) (zHasF (ew k)) (zDueF so si ca bs bon gross (zSum (fun i => V k i 0) (hd k)) GG) (zWh (FF (tw k)) (GF (tw k)) (tn (tw k)) (pw k) (mw k) (rl k) (cw k) bon brt (zUs (bo k) (hd k)) (zSumU (bo k) (fun i => V k i 2) (hd k)) (zSumU (bo k) (fun i => V k i 3) (hd k))) (xw k) bon (zL8 gross (V k (hd k) 1) (V k (hd k) 2) (V k (hd k) 3) (V k (hd k) 4) (V k (hd k) 5) (V k (hd k) 6) (V k (hd k) 7)) (P k (hd k))) 6)) ∧ PN = (zWkL (zSel de nd 1) (zSel de nd 0) (zHasF (ew k)) (zDueF so si ca bs bon gross (zSum (fun i => V k i 0) (hd k)) GG) (zWh (FF (tw k)) (GF (tw k)) (tn (tw k)) (pw k) (mw k) (rl k) (cw k) bon brt (zUs (bo k) (hd k)) (zSumU (bo k) (fun i => V k i 2) (hd k)) (zSumU (bo k) (fun i => V k i 3) (hd k))) (xw k) bon (zL8 gross (V k (hd k) 1) (V k (hd k) 2) (V k (hd k) 3) (V k (hd k) 4) (V k (hd k) 5) (V k (hd k) 6) (V k (hd k) 7)) (P k (hd k))).2 ∧ z = nI (hd k) ∧ (∀ d : Nat, d < 8 → GG d = zSum (fun i => P k i d) (hd k)) ∧ zEx uc u2 [(AD (0, 0, 0), (.inr (6, [.ref (AD (1, 0, 0)), .ref (AD (2, 0, 0)), .ref (AD (3, 0, 0)), .ref (AD (4, 0, 0)), .int (nI nb), .int (nI nd), .int (nI nw), .int brt, .int (nI ny), .int (wd + 1)]))), (AD (30, k, 0), (.inr (5, [.ref (AD (31, k, 0)), .ref (AD (32, k, 0)), .ref (AD (33, k, 0)), .int (nI (hd k + 1)), .long (se k)]))), (AD (40, k, hd k), (zPayE (AD (41, k, hd k)) (AD (42, k, hd k)) bon brt VN)), (AD (41, k, hd k), (.inr (4, [.ref (AD (10, tw k, 0)), .int (pw k), .int (mw k), .long (rl k), .long (cw k), .long (xw k), .int (ew k)]))), (AD (42, k, hd k), (eJ cs 8 PN)), (AD (4, 0, 0), (.inr (0, [.ref (AD (5, 0, 0)), .long (zSum (fun i => V k i 0) (hd k)), .int (nI (zUs (bo k) (hd k))), .long (zSumU (bo k) (fun i => V k i 2) (hd k)), .long (zSumU (bo k) (fun i => V k i 3) (hd k))]))), (AD (5, 0, 0), (eJ cs 8 GG))], fun b m2 => b = nI (hd k) ∧ ∃ J' : Nat → Nat → Int64, mOut (va_up (va_up (va_up (va_up J 25 (vp_updL (J 25) (60 * k + hd k) gross)) 32 (vp_updL (J 32) (60 * k + hd k) (rl k))) 33 (vp_updL (J 33) (60 * k + hd k) (cw k))) 34 (vp_updL (J 34) (60 * k + hd k) (xw k))) J' ∧ zMQ cs um m2 ad mm (mo ad 0 (nI nb) (nI nd) (nI nw) brt (nI ny) (wd + 1)) (va_up J' 35 (vp_updL (J' 35) (60 * k + hd k) (VN0 6))) (va_up (va_up (va_up (va_up (va_up (va_up (va_up K 26 (upd (K 26) (60 * k + hd k) bon)) 27 (upd (K 27) (60 * k + hd k) (nI (tw k)))) 28 (upd (K 28) (60 * k + hd k) (pw k))) 29 (upd (K 29) (60 * k + hd k) (mw k))) 30 (upd (K 30) (60 * k + hd k) (ew k))) 31 (upd (K 31) (60 * k + hd k) brt)) 19 (upd (K 19) k (nI (hd k + 1)))), by decide, by decide, by decide, by decide, fun sz => ((c_X6_pay_old l D cs uc sz _ _ _ _ _ _ _ _ _ _ _ _ _ _ _ _ _ _ _ _ _ _ _ _ _ _ _ _ _ _ _ _ _ _ _ _ _ _ _ _ _ _ _ _ _ _ _ _ _ _ _ _ _ _ _ _ _ _ _ _ _ _ _ _ _ _ _ _ _ _ _ ((some (AD (10, tx k (hd k), 0)))) _ _ _ _ _ _ hWn hk hDs ((hW.2.1 k hk).2.2.2.2) hn htb.1 hg hbon ((fun i hi z => absurd (show (42 : Nat) = 5 from congrArg Prod.fst (hR.2 _ _ _ _ (cR_42 hk (Nat.lt_of_lt_of_le hi hal)) cR_5 z)) (by decide))) ((if_pos hna)) ((fun z => absurd (show (42 : Nat) = 5 from congrArg Prod.fst (hR.2 _ _ _ _ (cR_42 hk hna) cR_5 z)) (by decide))) ((fun z => absurd (show (31 : Nat) = 41 from congrArg Prod.fst (hR.2 _ _ _ _ (cR_31 hk) (cR_41 hk hna) z)) (by decide))) ((fun i hi => ⟨fun z => absurd (show i = hd k from congrArg (fun r : Nat × Nat × Nat => r.2.2) (hR.2 _ _ _ _ (cR_40 hk (Nat.lt_of_lt_of_le hi hal)) (cR_40 hk hna) z)) (by omega), fun z => absurd (show i = hd k from congrArg (fun r : Nat × Nat × Nat => r.2.2) (hR.2 _ _ _ _ (cR_42 hk (Nat.lt_of_lt_of_le hi hal)) (cR_42 hk hna) z)) (by omega)⟩)) hf hdr ha hapc ((hR.1 _ _ (cR_30 hk))) ((hR.1 _ _ (cR_32 hk))) ((hR.1 _ _ (cR_31 hk))) ((hR.1 _ _ (cR_10 htk))) ((hR.1 _ _ (cR_11 htk))) ((hR.1 _ _ (cR_12 htk))) ((hR.1 _ _ (cR_40 hk hna))) ((hR.1 _ _ (cR_41 hk hna))) ((hR.1 _ _ (cR_42 hk hna))) hwr)).to (fun r w2 q => (by obtain ⟨GG, q0, q5, q6⟩ := q; exact ⟨_, q0, GG, _, _, rfl, rfl, rfl, q5, q6⟩)), fun sz => (model VN0 PN0 sz hV00 st.2.1).to (fun r w2 q => ⟨_, q.1, rfl, q.2⟩), ?_⟩
          rintro z u2 b m2 ⟨GG, VN, PN, eV, eP, ez, hG, hx⟩ ⟨rfl, J', ho, hq⟩
          subst ez
          have hcg := zWk_congr (selE := zSel de nd 1) (selL := zSel de nd 0) (has := zHasF (ew k)) (d1 := (zDueF so si ca bs bon gross (zSum (fun i => V k i 0) (hd k)) GG)) (d2 := (zDueF so si ca bs bon gross (zSum (fun i => V k i 0) (hd k)) GG0)) (wh := (zWh (FF (tw k)) (GF (tw k)) (tn (tw k)) (pw k) (mw k) (rl k) (cw k) bon brt (zUs (bo k) (hd k)) (zSumU (bo k) (fun i => V k i 2) (hd k)) (zSumU (bo k) (fun i => V k i 3) (hd k)))) (ex := xw k) (bo := bon) (V := (zL8 gross (V k (hd k) 1) (V k (hd k) 2) (V k (hd k) 3) (V k (hd k) 4) (V k (hd k) 5) (V k (hd k) 6) (V k (hd k) 7))) (PT := (P k (hd k))) (fun i hi => by unfold zDueF; rw [hG i hi, hGG0])
          have eVN : VN = VN0 := by rw [eV, hVN0, hcg.1]
          have ePN : PN = PN0 := by rw [eP, hPN0, hcg.2]
          clear eV eP hVN0 hPN0 hcg
          subst eVN
          subst ePN
          obtain ⟨bo2, ebo⟩ : ∃ z, z = va_up (bo k) (hd k) bon := ⟨_, rfl⟩
          obtain ⟨rb2, erb⟩ : ∃ z, z = va_up (rb k) (hd k) brt := ⟨_, rfl⟩
          obtain ⟨pe2, epe⟩ : ∃ z, z = va_up (pe k) (hd k) (pw k) := ⟨_, rfl⟩
          obtain ⟨me2, eme⟩ : ∃ z, z = va_up (me k) (hd k) (mw k) := ⟨_, rfl⟩
          obtain ⟨re2, ere⟩ : ∃ z, z = va_up (re k) (hd k) (rl k) := ⟨_, rfl⟩
          obtain ⟨cr2, ecr⟩ : ∃ z, z = va_up (cr k) (hd k) (cw k) := ⟨_, rfl⟩
          obtain ⟨xt2, ext⟩ : ∃ z, z = va_up (xt k) (hd k) (xw k) := ⟨_, rfl⟩
          obtain ⟨en2, een⟩ : ∃ z, z = va_up (en k) (hd k) (ew k) := ⟨_, rfl⟩
          obtain ⟨tx2, etx⟩ : ∃ z, z = va_up (tx k) (hd k) (tw k) := ⟨_, rfl⟩
          obtain ⟨V2, eV⟩ : ∃ z, z = va_up (V k) (hd k) VN := ⟨_, rfl⟩
          obtain ⟨P2, eP⟩ : ∃ z, z = va_up (P k) (hd k) PN := ⟨_, rfl⟩
          rw [← ebo, ← erb, ← epe, ← eme, ← ere, ← ecr, ← ext, ← een, ← etx, ← eV, ← eP] at st
          have sbo : bo2 (hd k) = bon := by rw [ebo, va_up_self]
          have srb : rb2 (hd k) = brt := by rw [erb, va_up_self]
          have spe : pe2 (hd k) = (pw k) := by rw [epe, va_up_self]
          have sme : me2 (hd k) = (mw k) := by rw [eme, va_up_self]
          have sre : re2 (hd k) = (rl k) := by rw [ere, va_up_self]
          have scr : cr2 (hd k) = (cw k) := by rw [ecr, va_up_self]
          have sxt : xt2 (hd k) = (xw k) := by rw [ext, va_up_self]
          have sen : en2 (hd k) = (ew k) := by rw [een, va_up_self]
          have stx : tx2 (hd k) = (tw k) := by rw [etx, va_up_self]
          have sV : V2 (hd k) = VN := by rw [eV, va_up_self]
          have sP : P2 (hd k) = PN := by rw [eP, va_up_self]
          have obo : ∀ i : Nat, i ≠ hd k → bo2 i = bo k i := fun i hi => by rw [ebo, va_up_ne _ _ hi]
          have orb : ∀ i : Nat, i ≠ hd k → rb2 i = rb k i := fun i hi => by rw [erb, va_up_ne _ _ hi]
          have ope : ∀ i : Nat, i ≠ hd k → pe2 i = pe k i := fun i hi => by rw [epe, va_up_ne _ _ hi]
          have ome : ∀ i : Nat, i ≠ hd k → me2 i = me k i := fun i hi => by rw [eme, va_up_ne _ _ hi]
          have ore : ∀ i : Nat, i ≠ hd k → re2 i = re k i := fun i hi => by rw [ere, va_up_ne _ _ hi]
          have ocr : ∀ i : Nat, i ≠ hd k → cr2 i = cr k i := fun i hi => by rw [ecr, va_up_ne _ _ hi]
          have oxt : ∀ i : Nat, i ≠ hd k → xt2 i = xt k i := fun i hi => by rw [ext, va_up_ne _ _ hi]
          have oen : ∀ i : Nat, i ≠ hd k → en2 i = en k i := fun i hi => by rw [een, va_up_ne _ _ hi]
          have otx : ∀ i : Nat, i ≠ hd k → tx2 i = tx k i := fun i hi => by rw [etx, va_up_ne _ _ hi]
          have oV : ∀ i : Nat, i ≠ hd k → V2 i = V k i := fun i hi => by rw [eV, va_up_ne _ _ hi]
          have oP : ∀ i : Nat, i ≠ hd k → P2 i = P k i := fun i hi => by rw [eP, va_up_ne _ _ hi]
          have hR2 : zRep u2 AD (cR cs AD nb tn FF GF tt nd de so si ca bs nw tw pw mw rl cw xw ew (va_up hd k (hd k + 1)) al se (va_up bo k bo2) (va_up rb k rb2) (va_up pe k pe2) (va_up me k me2) (va_up re k re2) (va_up cr k cr2) (va_up xt k xt2) (va_up en k en2) (va_up tx k tx2) (va_up V k V2) (va_up P k P2) ST brt ny (wd + 1) (zSum (fun i => V k i 0) (hd k)) (nI (zUs (bo k) (hd k))) (zSumU (bo k) (fun i => V k i 2) (hd k)) (zSumU (bo k) (fun i => V k i 3) (hd k)) (GG)) := by
            refine hR.put [((0, 0, 0), (.inr (6, [.ref (AD (1, 0, 0)), .ref (AD (2, 0, 0)), .ref (AD (3, 0, 0)), .ref (AD (4, 0, 0)), .int (nI nb), .int (nI nd), .int (nI nw), .int brt, .int (nI ny), .int (wd + 1)]))), ((30, k, 0), (.inr (5, [.ref (AD (31, k, 0)), .ref (AD (32, k, 0)), .ref (AD (33, k, 0)), .int (nI (hd k + 1)), .long (se k)]))), ((40, k, hd k), (zPayE (AD (41, k, hd k)) (AD (42, k, hd k)) bon brt VN)), ((41, k, hd k), (.inr (4, [.ref (AD (10, tw k, 0)), .int (pw k), .int (mw k), .long (rl k), .long (cw k), .long (xw k), .int (ew k)]))), ((42, k, hd k), (eJ cs 8 PN)), ((4, 0, 0), (.inr (0, [.ref (AD (5, 0, 0)), .long (zSum (fun i => V k i 0) (hd k)), .int (nI (zUs (bo k) (hd k))), .long (zSumU (bo k) (fun i => V k i 2) (hd k)), .long (zSumU (bo k) (fun i => V k i 3) (hd k))]))), ((5, 0, 0), (eJ cs 8 GG))] hx (zall1 ⟨_, cR_0⟩ (zall1 ⟨_, cR_30 hk⟩ (zall1 ⟨_, cR_40 hk hna⟩ (zall1 ⟨_, cR_41 hk hna⟩ (zall1 ⟨_, cR_42 hk hna⟩ (zall1 ⟨_, cR_4⟩ (zall1 ⟨_, cR_5⟩ zall0))))))) (cR_cases ?_ ?_ ?_ ?_ ?_ ?_ ?_ ?_ ?_ ?_ ?_ ?_ ?_ ?_ ?_ ?_ ?_ ?_)
            · exact Or.inl (List.mem_of_getElem? (i := 0) rfl)
            · exact Or.inr ⟨cR_1, (zall1 (fun z => absurd (show (1 : Nat) = 0 from congrArg Prod.fst z) (by decide)) (zall1 (fun z => absurd (show (1 : Nat) = 30 from congrArg Prod.fst z) (by decide)) (zall1 (fun z => absurd (show (1 : Nat) = 40 from congrArg Prod.fst z) (by decide)) (zall1 (fun z => absurd (show (1 : Nat) = 41 from congrArg Prod.fst z) (by decide)) (zall1 (fun z => absurd (show (1 : Nat) = 42 from congrArg Prod.fst z) (by decide)) (zall1 (fun z => absurd (show (1 : Nat) = 4 from congrArg Prod.fst z) (by decide)) (zall1 (fun z => absurd (show (1 : Nat) = 5 from congrArg Prod.fst z) (by decide)) zall0)))))))⟩
            · exact Or.inr ⟨cR_2, (zall1 (fun z => absurd (show (2 : Nat) = 0 from congrArg Prod.fst z) (by decide)) (zall1 (fun z => absurd (show (2 : Nat) = 30 from congrArg Prod.fst z) (by decide)) (zall1 (fun z => absurd (show (2 : Nat) = 40 from congrArg Prod.fst z) (by decide)) (zall1 (fun z => absurd (show (2 : Nat) = 41 from congrArg Prod.fst z) (by decide)) (zall1 (fun z => absurd (show (2 : Nat) = 42 from congrArg Prod.fst z) (by decide)) (zall1 (fun z => absurd (show (2 : Nat) = 4 from congrArg Prod.fst z) (by decide)) (zall1 (fun z => absurd (show (2 : Nat) = 5 from congrArg Prod.fst z) (by decide)) zall0)))))))⟩
            · exact Or.inr ⟨cR_3, (zall1 (fun z => absurd (show (3 : Nat) = 0 from congrArg Prod.fst z) (by decide)) (zall1 (fun z => absurd (show (3 : Nat) = 30 from congrArg Prod.fst z) (by decide)) (zall1 (fun z => absurd (show (3 : Nat) = 40 from congrArg Prod.fst z) (by decide)) (zall1 (fun z => absurd (show (3 : Nat) = 41 from congrArg Prod.fst z) (by decide)) (zall1 (fun z => absurd (show (3 : Nat) = 42 from congrArg Prod.fst z) (by decide)) (zall1 (fun z => absurd (show (3 : Nat) = 4 from congrArg Prod.fst z) (by decide)) (zall1 (fun z => absurd (show (3 : Nat) = 5 from congrArg Prod.fst z) (by decide)) zall0)))))))⟩
            · exact Or.inl (List.mem_of_getElem? (i := 5) rfl)
            · exact Or.inl (List.mem_of_getElem? (i := 6) rfl)
            · exact fun k hk => Or.inr ⟨cR_10 hk, (zall1 (fun z => absurd (show (10 : Nat) = 0 from congrArg Prod.fst z) (by decide)) (zall1 (fun z => absurd (show (10 : Nat) = 30 from congrArg Prod.fst z) (by decide)) (zall1 (fun z => absurd (show (10 : Nat) = 40 from congrArg Prod.fst z) (by decide)) (zall1 (fun z => absurd (show (10 : Nat) = 41 from congrArg Prod.fst z) (by decide)) (zall1 (fun z => absurd (show (10 : Nat) = 42 from congrArg Prod.fst z) (by decide)) (zall1 (fun z => absurd (show (10 : Nat) = 4 from congrArg Prod.fst z) (by decide)) (zall1 (fun z => absurd (show (10 : Nat) = 5 from congrArg Prod.fst z) (by decide)) zall0)))))))⟩
            · exact fun k hk => Or.inr ⟨cR_11 hk, (zall1 (fun z => absurd (show (11 : Nat) = 0 from congrArg Prod.fst z) (by decide)) (zall1 (fun z => absurd (show (11 : Nat) = 30 from congrArg Prod.fst z) (by decide)) (zall1 (fun z => absurd (show (11 : Nat) = 40 from congrArg Prod.fst z) (by decide)) (zall1 (fun z => absurd (show (11 : Nat) = 41 from congrArg Prod.fst z) (by decide)) (zall1 (fun z => absurd (show (11 : Nat) = 42 from congrArg Prod.fst z) (by decide)) (zall1 (fun z => absurd (show (11 : Nat) = 4 from congrArg Prod.fst z) (by decide)) (zall1 (fun z => absurd (show (11 : Nat) = 5 from congrArg Prod.fst z) (by decide)) zall0)))))))⟩
            · exact fun k hk => Or.inr ⟨cR_12 hk, (zall1 (fun z => absurd (show (12 : Nat) = 0 from congrArg Prod.fst z) (by decide)) (zall1 (fun z => absurd (show (12 : Nat) = 30 from congrArg Prod.fst z) (by decide)) (zall1 (fun z => absurd (show (12 : Nat) = 40 from congrArg Prod.fst z) (by decide)) (zall1 (fun z => absurd (show (12 : Nat) = 41 from congrArg Prod.fst z) (by decide)) (zall1 (fun z => absurd (show (12 : Nat) = 42 from congrArg Prod.fst z) (by decide)) (zall1 (fun z => absurd (show (12 : Nat) = 4 from congrArg Prod.fst z) (by decide)) (zall1 (fun z => absurd (show (12 : Nat) = 5 from congrArg Prod.fst z) (by decide)) zall0)))))))⟩
            · exact fun k hk => Or.inr ⟨cR_20 hk, (zall1 (fun z => absurd (show (20 : Nat) = 0 from congrArg Prod.fst z) (by decide)) (zall1 (fun z => absurd (show (20 : Nat) = 30 from congrArg Prod.fst z) (by decide)) (zall1 (fun z => absurd (show (20 : Nat) = 40 from congrArg Prod.fst z) (by decide)) (zall1 (fun z => absurd (show (20 : Nat) = 41 from congrArg Prod.fst z) (by decide)) (zall1 (fun z => absurd (show (20 : Nat) = 42 from congrArg Prod.fst z) (by decide)) (zall1 (fun z => absurd (show (20 : Nat) = 4 from congrArg Prod.fst z) (by decide)) (zall1 (fun z => absurd (show (20 : Nat) = 5 from congrArg Prod.fst z) (by decide)) zall0)))))))⟩
            · intro j hj
              by_cases q : j = k
              · subst q
                refine Or.inl ?_
                rw [va_up_self]
                exact List.mem_of_getElem? (i := 1) rfl
              · refine Or.inr ⟨?_, (zall1 (fun z => absurd (show (30 : Nat) = 0 from congrArg Prod.fst z) (by decide)) (zall1 (fun z => q (congrArg (fun r : Nat × Nat × Nat => r.2.1) z)) (zall1 (fun z => absurd (show (30 : Nat) = 40 from congrArg Prod.fst z) (by decide)) (zall1 (fun z => absurd (show (30 : Nat) = 41 from congrArg Prod.fst z) (by decide)) (zall1 (fun z => absurd (show (30 : Nat) = 42 from congrArg Prod.fst z) (by decide)) (zall1 (fun z => absurd (show (30 : Nat) = 4 from congrArg Prod.fst z) (by decide)) (zall1 (fun z => absurd (show (30 : Nat) = 5 from congrArg Prod.fst z) (by decide)) zall0)))))))⟩
                rw [va_up_ne _ _ q]
                exact cR_30 hj
            · exact fun k hk => Or.inr ⟨cR_31 hk, (zall1 (fun z => absurd (show (31 : Nat) = 0 from congrArg Prod.fst z) (by decide)) (zall1 (fun z => absurd (show (31 : Nat) = 30 from congrArg Prod.fst z) (by decide)) (zall1 (fun z => absurd (show (31 : Nat) = 40 from congrArg Prod.fst z) (by decide)) (zall1 (fun z => absurd (show (31 : Nat) = 41 from congrArg Prod.fst z) (by decide)) (zall1 (fun z => absurd (show (31 : Nat) = 42 from congrArg Prod.fst z) (by decide)) (zall1 (fun z => absurd (show (31 : Nat) = 4 from congrArg Prod.fst z) (by decide)) (zall1 (fun z => absurd (show (31 : Nat) = 5 from congrArg Prod.fst z) (by decide)) zall0)))))))⟩
            · exact fun k hk => Or.inr ⟨cR_32 hk, (zall1 (fun z => absurd (show (32 : Nat) = 0 from congrArg Prod.fst z) (by decide)) (zall1 (fun z => absurd (show (32 : Nat) = 30 from congrArg Prod.fst z) (by decide)) (zall1 (fun z => absurd (show (32 : Nat) = 40 from congrArg Prod.fst z) (by decide)) (zall1 (fun z => absurd (show (32 : Nat) = 41 from congrArg Prod.fst z) (by decide)) (zall1 (fun z => absurd (show (32 : Nat) = 42 from congrArg Prod.fst z) (by decide)) (zall1 (fun z => absurd (show (32 : Nat) = 4 from congrArg Prod.fst z) (by decide)) (zall1 (fun z => absurd (show (32 : Nat) = 5 from congrArg Prod.fst z) (by decide)) zall0)))))))⟩
            · exact fun k hk => Or.inr ⟨cR_33 hk, (zall1 (fun z => absurd (show (33 : Nat) = 0 from congrArg Prod.fst z) (by decide)) (zall1 (fun z => absurd (show (33 : Nat) = 30 from congrArg Prod.fst z) (by decide)) (zall1 (fun z => absurd (show (33 : Nat) = 40 from congrArg Prod.fst z) (by decide)) (zall1 (fun z => absurd (show (33 : Nat) = 41 from congrArg Prod.fst z) (by decide)) (zall1 (fun z => absurd (show (33 : Nat) = 42 from congrArg Prod.fst z) (by decide)) (zall1 (fun z => absurd (show (33 : Nat) = 4 from congrArg Prod.fst z) (by decide)) (zall1 (fun z => absurd (show (33 : Nat) = 5 from congrArg Prod.fst z) (by decide)) zall0)))))))⟩
            · intro j y hj hy
              by_cases q : j = k
              · subst q
                by_cases q2 : y = hd j
                · subst q2
                  refine Or.inl ?_
                  rw [va_up_self, va_up_self, va_up_self, sbo, srb, sV]
                  exact List.mem_of_getElem? (i := 2) rfl
                · refine Or.inr ⟨?_, (zall1 (fun z => absurd (show (40 : Nat) = 0 from congrArg Prod.fst z) (by decide)) (zall1 (fun z => absurd (show (40 : Nat) = 30 from congrArg Prod.fst z) (by decide)) (zall1 (fun z => q2 (congrArg (fun r : Nat × Nat × Nat => r.2.2) z)) (zall1 (fun z => absurd (show (40 : Nat) = 41 from congrArg Prod.fst z) (by decide)) (zall1 (fun z => absurd (show (40 : Nat) = 42 from congrArg Prod.fst z) (by decide)) (zall1 (fun z => absurd (show (40 : Nat) = 4 from congrArg Prod.fst z) (by decide)) (zall1 (fun z => absurd (show (40 : Nat) = 5 from congrArg Prod.fst z) (by decide)) zall0)))))))⟩
                  rw [va_up_self, va_up_self, va_up_self, obo y q2, orb y q2, oV y q2]
                  exact cR_40 hj (by omega)
              · refine Or.inr ⟨?_, (zall1 (fun z => absurd (show (40 : Nat) = 0 from congrArg Prod.fst z) (by decide)) (zall1 (fun z => absurd (show (40 : Nat) = 30 from congrArg Prod.fst z) (by decide)) (zall1 (fun z => q (congrArg (fun r : Nat × Nat × Nat => r.2.1) z)) (zall1 (fun z => absurd (show (40 : Nat) = 41 from congrArg Prod.fst z) (by decide)) (zall1 (fun z => absurd (show (40 : Nat) = 42 from congrArg Prod.fst z) (by decide)) (zall1 (fun z => absurd (show (40 : Nat) = 4 from congrArg Prod.fst z) (by decide)) (zall1 (fun z => absurd (show (40 : Nat) = 5 from congrArg Prod.fst z) (by decide)) zall0)))))))⟩
                rw [va_up_ne _ _ q, va_up_ne _ _ q, va_up_ne _ _ q]
                exact cR_40 hj hy
            · intro j y hj hy
              by_cases q : j = k
              · subst q
                by_cases q2 : y = hd j
                · subst q2
                  refine Or.inl ?_
                  rw [va_up_self, va_up_self, va_up_self, va_up_self, va_up_self, va_up_self, va_up_self, stx, spe, sme, sre, scr, sxt, sen]
                  exact List.mem_of_getElem? (i := 3) rfl
                · refine Or.inr ⟨?_, (zall1 (fun z => absurd (show (41 : Nat) = 0 from congrArg Prod.fst z) (by decide)) (zall1 (fun z => absurd (show (41 : Nat) = 30 from congrArg Prod.fst z) (by decide)) (zall1 (fun z => absurd (show (41 : Nat) = 40 from congrArg Prod.fst z) (by decide)) (zall1 (fun z => q2 (congrArg (fun r : Nat × Nat × Nat => r.2.2) z)) (zall1 (fun z => absurd (show (41 : Nat) = 42 from congrArg Prod.fst z) (by decide)) (zall1 (fun z => absurd (show (41 : Nat) = 4 from congrArg Prod.fst z) (by decide)) (zall1 (fun z => absurd (show (41 : Nat) = 5 from congrArg Prod.fst z) (by decide)) zall0)))))))⟩
                  rw [va_up_self, va_up_self, va_up_self, va_up_self, va_up_self, va_up_self, va_up_self, otx y q2, ope y q2, ome y q2, ore y q2, ocr y q2, oxt y q2, oen y q2]
                  exact cR_41 hj (by omega)
              · refine Or.inr ⟨?_, (zall1 (fun z => absurd (show (41 : Nat) = 0 from congrArg Prod.fst z) (by decide)) (zall1 (fun z => absurd (show (41 : Nat) = 30 from congrArg Prod.fst z) (by decide)) (zall1 (fun z => absurd (show (41 : Nat) = 40 from congrArg Prod.fst z) (by decide)) (zall1 (fun z => q (congrArg (fun r : Nat × Nat × Nat => r.2.1) z)) (zall1 (fun z => absurd (show (41 : Nat) = 42 from congrArg Prod.fst z) (by decide)) (zall1 (fun z => absurd (show (41 : Nat) = 4 from congrArg Prod.fst z) (by decide)) (zall1 (fun z => absurd (show (41 : Nat) = 5 from congrArg Prod.fst z) (by decide)) zall0)))))))⟩
                rw [va_up_ne _ _ q, va_up_ne _ _ q, va_up_ne _ _ q, va_up_ne _ _ q, va_up_ne _ _ q, va_up_ne _ _ q, va_up_ne _ _ q]
                exact cR_41 hj hy
            · intro j y hj hy
              by_cases q : j = k
              · subst q
                by_cases q2 : y = hd j
                · subst q2
                  refine Or.inl ?_
                  rw [va_up_self, sP]
                  exact List.mem_of_getElem? (i := 4) rfl
                · refine Or.inr ⟨?_, (zall1 (fun z => absurd (show (42 : Nat) = 0 from congrArg Prod.fst z) (by decide)) (zall1 (fun z => absurd (show (42 : Nat) = 30 from congrArg Prod.fst z) (by decide)) (zall1 (fun z => absurd (show (42 : Nat) = 40 from congrArg Prod.fst z) (by decide)) (zall1 (fun z => absurd (show (42 : Nat) = 41 from congrArg Prod.fst z) (by decide)) (zall1 (fun z => q2 (congrArg (fun r : Nat × Nat × Nat => r.2.2) z)) (zall1 (fun z => absurd (show (42 : Nat) = 4 from congrArg Prod.fst z) (by decide)) (zall1 (fun z => absurd (show (42 : Nat) = 5 from congrArg Prod.fst z) (by decide)) zall0)))))))⟩
                  rw [va_up_self, oP y q2]
                  exact cR_42 hj (by omega)
              · refine Or.inr ⟨?_, (zall1 (fun z => absurd (show (42 : Nat) = 0 from congrArg Prod.fst z) (by decide)) (zall1 (fun z => absurd (show (42 : Nat) = 30 from congrArg Prod.fst z) (by decide)) (zall1 (fun z => absurd (show (42 : Nat) = 40 from congrArg Prod.fst z) (by decide)) (zall1 (fun z => absurd (show (42 : Nat) = 41 from congrArg Prod.fst z) (by decide)) (zall1 (fun z => q (congrArg (fun r : Nat × Nat × Nat => r.2.1) z)) (zall1 (fun z => absurd (show (42 : Nat) = 4 from congrArg Prod.fst z) (by decide)) (zall1 (fun z => absurd (show (42 : Nat) = 5 from congrArg Prod.fst z) (by decide)) zall0)))))))⟩
                rw [va_up_ne _ _ q]
                exact cR_42 hj hy
            · exact fun k i hk hi => Or.inr ⟨cR_43 hk hi, (zall1 (fun z => absurd (show (43 : Nat) = 0 from congrArg Prod.fst z) (by decide)) (zall1 (fun z => absurd (show (43 : Nat) = 30 from congrArg Prod.fst z) (by decide)) (zall1 (fun z => absurd (show (43 : Nat) = 40 from congrArg Prod.fst z) (by decide)) (zall1 (fun z => absurd (show (43 : Nat) = 41 from congrArg Prod.fst z) (by decide)) (zall1 (fun z => absurd (show (43 : Nat) = 42 from congrArg Prod.fst z) (by decide)) (zall1 (fun z => absurd (show (43 : Nat) = 4 from congrArg Prod.fst z) (by decide)) (zall1 (fun z => absurd (show (43 : Nat) = 5 from congrArg Prod.fst z) (by decide)) zall0)))))))⟩
          have eJ9 : ∀ s ∈ [25, 32, 33, 34], ∀ y : Nat, y ≠ (60 * k + hd k) → (va_up (va_up (va_up (va_up (va_up J 25 (vp_updL (J 25) (60 * k + hd k) gross)) 32 (vp_updL (J 32) (60 * k + hd k) (rl k))) 33 (vp_updL (J 33) (60 * k + hd k) (cw k))) 34 (vp_updL (J 34) (60 * k + hd k) (xw k))) 35 (vp_updL (J 35) (60 * k + hd k) (VN 6))) s y = J s y := by
            intro s hs y hy
            rcases List.mem_cons.mp hs with rfl | hs
            · exact vpL_ne _ _ hy
            rcases List.mem_cons.mp hs with rfl | hs
            · exact vpL_ne _ _ hy
            rcases List.mem_cons.mp hs with rfl | hs
            · exact vpL_ne _ _ hy
            rcases List.mem_cons.mp hs with rfl | hs
            · exact vpL_ne _ _ hy
            cases hs
          have eK9 : ∀ s ∈ [26, 27, 28, 29, 30, 31], ∀ y : Nat, y ≠ (60 * k + hd k) → (va_up (va_up (va_up (va_up (va_up (va_up (va_up K 26 (upd (K 26) (60 * k + hd k) bon)) 27 (upd (K 27) (60 * k + hd k) (nI (tw k)))) 28 (upd (K 28) (60 * k + hd k) (pw k))) 29 (upd (K 29) (60 * k + hd k) (mw k))) 30 (upd (K 30) (60 * k + hd k) (ew k))) 31 (upd (K 31) (60 * k + hd k) brt)) 19 (upd (K 19) k (nI (hd k + 1)))) s y = K s y := by
            intro s hs y hy
            rcases List.mem_cons.mp hs with rfl | hs
            · exact up_ne _ _ hy
            rcases List.mem_cons.mp hs with rfl | hs
            · exact up_ne _ _ hy
            rcases List.mem_cons.mp hs with rfl | hs
            · exact up_ne _ _ hy
            rcases List.mem_cons.mp hs with rfl | hs
            · exact up_ne _ _ hy
            rcases List.mem_cons.mp hs with rfl | hs
            · exact up_ne _ _ hy
            rcases List.mem_cons.mp hs with rfl | hs
            · exact up_ne _ _ hy
            cases hs
          have hr1 : mRel (va_up (va_up (va_up (va_up (va_up J 25 (vp_updL (J 25) (60 * k + hd k) gross)) 32 (vp_updL (J 32) (60 * k + hd k) (rl k))) 33 (vp_updL (J 33) (60 * k + hd k) (cw k))) 34 (vp_updL (J 34) (60 * k + hd k) (xw k))) 35 (vp_updL (J 35) (60 * k + hd k) (VN 6))) (va_up (va_up (va_up (va_up (va_up (va_up (va_up K 26 (upd (K 26) (60 * k + hd k) bon)) 27 (upd (K 27) (60 * k + hd k) (nI (tw k)))) 28 (upd (K 28) (60 * k + hd k) (pw k))) 29 (upd (K 29) (60 * k + hd k) (mw k))) 30 (upd (K 30) (60 * k + hd k) (ew k))) 31 (upd (K 31) (60 * k + hd k) brt)) 19 (upd (K 19) k (nI (hd k + 1)))) nb tn FF GF tt nd de so si ca bs nw tw pw mw rl cw xw ew (va_up hd k (hd k + 1)) al se (va_up bo k bo2) (va_up rb k rb2) (va_up pe k pe2) (va_up me k me2) (va_up re k re2) (va_up cr k cr2) (va_up xt k xt2) (va_up en k en2) (va_up tx k tx2) (va_up V k V2) (va_up P k P2) ST brt ny (wd + 1) := by
            refine ⟨hr.1, hr.2.1, (fun j hj => by
              by_cases c : j = k
              · subst c
                rw [va_up_self, va_up_self, va_up_self, va_up_self, va_up_self, va_up_self, va_up_self, va_up_self, va_up_self, va_up_self, va_up_self]
                exact mPy.new ((hr.2.2.1 j hj).as (fun i hi => ⟨obo i (by omega), orb i (by omega), ope i (by omega), ome i (by omega), ore i (by omega), ocr i (by omega), oxt i (by omega), oen i (by omega), otx i (by omega), by rw [oV i (by omega)]⟩)) (by rw [sV, hV00]; rfl) (by rw [sbo]; rfl) (by rw [stx]; rfl) (by rw [spe]; rfl) (by rw [sme]; rfl) (by rw [sen]; rfl) (by rw [srb]; rfl) (by rw [sre]; rfl) (by rw [scr]; rfl) (by rw [sxt]; rfl) (by rw [stx]; exact htk) (by rw [spe]; exact zPe_ne hw.2.2.1)
              · rw [va_up_ne _ _ c, va_up_ne _ _ c, va_up_ne _ _ c, va_up_ne _ _ c, va_up_ne _ _ c, va_up_ne _ _ c, va_up_ne _ _ c, va_up_ne _ _ c, va_up_ne _ _ c, va_up_ne _ _ c, va_up_ne _ _ c]
                have z60 := (show hd j ≤ 60 from Nat.le_trans (hp.2.2.2.2.2.2.2.1 j hj).2.2.2.2.2.2.2.1 (hp.2.2.2.2.2.2.2.1 j hj).2.2.2.2.2.2.2.2.1)
                exact (hr.2.2.1 j hj).keep (x := 60 * k + hd k) (fun i hi => by omega) eJ9 eK9), (fun j hj => by
              have z60 := (show hd j ≤ 60 from Nat.le_trans (hp.2.2.2.2.2.2.2.1 j hj).2.2.2.2.2.2.2.1 (hp.2.2.2.2.2.2.2.1 j hj).2.2.2.2.2.2.2.2.1)
              show upd (K 19) k (nI (hd k + 1)) j = _ ∧ ∀ i : Nat, i < _ → vp_updL (J 35) (60 * k + hd k) (VN 6) (60 * j + i) = _
              by_cases c : j = k
              · subst c
                rw [va_up_self, va_up_self, up_self]
                refine ⟨rfl, fun i hi => ?_⟩
                by_cases c2 : i = hd j
                · rw [c2, vpL_self, sV, hV07]
                · rw [vpL_ne _ _ (by omega), oV i c2]
                  exact (hr.2.2.2.1 j hj).2 i (by omega)
              · rw [va_up_ne _ _ c, va_up_ne _ _ c, up_ne _ _ c]
                refine ⟨(hr.2.2.2.1 j hj).1, fun i hi => ?_⟩
                rw [vpL_ne _ _ (by omega)]
                exact (hr.2.2.2.1 j hj).2 i hi), hr.2.2.2.2.1, hr.2.2.2.2.2.1, hr.2.2.2.2.2.2.1, ?_, hr.2.2.2.2.2.2.2.2⟩
            · intro j h1 h2
              have q := hr.2.2.2.2.2.2.2.1 j h1 h2
              refine ⟨q.1, q.2.1, q.2.2.1, q.2.2.2.1, ?_, q.2.2.2.2.2⟩
              show upd (K 19) k (nI (hd k + 1)) j = 0
              rw [up_ne _ _ (by omega)]
              exact q.2.2.2.2.1
          have hr2 := hr1.out (ho.up (s0 := 35) (by decide))
          have hp2 : zPure nb tn FF GF tt nd de so si ca bs nw tw pw mw rl cw xw ew (va_up hd k (hd k + 1)) al se (va_up bo k bo2) (va_up rb k rb2) (va_up pe k pe2) (va_up me k me2) (va_up re k re2) (va_up cr k cr2) (va_up xt k xt2) (va_up en k en2) (va_up tx k tx2) (va_up V k V2) (va_up P k P2) ST brt ny (wd + 1) := by
            refine ⟨hp.1, hp.2.1, hp.2.2.1, hp.2.2.2.1, hp.2.2.2.2.1, hp.2.2.2.2.2.1, hp.2.2.2.2.2.2.1, ?_, hp.2.2.2.2.2.2.2.2⟩
            intro j hj
            have q := hp.2.2.2.2.2.2.2.1 j hj
            by_cases c : j = k
            · subst c
              simp only [va_up_self]
              refine ⟨q.1, q.2.1, q.2.2.1, q.2.2.2.1, q.2.2.2.2.1, q.2.2.2.2.2.1, q.2.2.2.2.2.2.1, by omega, by omega, fun i hi => ?_, fun i hi => st.1 i (by omega)⟩
              by_cases c2 : i = hd j
              · rw [c2, stx, sbo, sV, srb, spe, sre, scr, sxt, sen, sP, hV00]
                exact ⟨htk, q.2.1, hbon, hu, hp.2.2.2.2.1, q.2.2.1, q.2.2.2.1, q.2.2.2.2.1, q.2.2.2.2.2.1, fun d h1 h2 => ⟨q.2.2.2.2.2.2.1 d h1 h2, st.2.2 d h1 h2⟩⟩
              · rw [otx i c2, obo i c2, oV i c2, orb i c2, ope i c2, ore i c2, ocr i c2, oxt i c2, oen i c2, oP i c2]
                exact q.2.2.2.2.2.2.2.2.2.1 i (by omega)
            · repeat rw [va_up_ne _ _ c]
              exact q
          exact ⟨rfl, ⟨_, _, _, _, _, _, _, hq.1⟩, zInv.mk hR2 rfl hq.1 hinj hq.2.1 hr2 hp2⟩
    · have hg : zUpTo (gross) 1000000000 = 0 := (zUpTo_01 _ _).resolve_right hg
      refine Or.inr ⟨1, _, 6, 3, 27, 7, fun _ m2 => zMQ cs um m2 ad mm (mo ad 2 (nI nb) (nI nd) (nI nw) brt (nI ny) wd) J K, by decide, by decide, by decide, by decide, rfl, fun sz => (t2_X6_pay l D cs uc sz _ _ _ _ _ _ _ _ _ _ _ _ _ _ _ _ _ _ _ _ _ _ _ hlst hWn hk hg hf hwr ((hR.1 _ _ (cR_30 hk))) ((hR.1 _ _ (cR_32 hk)))), fun sz => ((t2_X7_pay l D cs um sz _ _ _ _ _ _ _ _ _ _ _ _ _ _ hinj hM hp.2.2.1 hk hg hm)).to (fun r w2 q => ⟨_, q.1, q.2⟩), ?_⟩
      rintro b m2 hq
      exact ⟨⟨_, _, _, _, _, _, _, hq.1⟩, zInv.m hR hinj hr hp hq mOut.refl⟩
  · refine Or.inr ⟨0, _, 6, 3, 27, 7, fun _ m2 => zMQ cs um m2 ad mm (mo ad 1 (nI nb) (nI nd) (nI nw) brt (nI ny) wd) J K, by decide, by decide, by decide, by decide, rfl, fun sz => (t1_X6_pay l D cs uc sz _ _ _ _ _ _ _ _ _ _ _ _ _ _ _ _ _ hlst hWn hx9 hf hwr), fun sz => ((t1_X7_pay l D cs um sz _ _ _ _ _ _ _ _ _ _ _ _ _ _ hinj hM hp.2.2.1 hx9 hm)).to (fun r w2 q => ⟨_, q.1, q.2⟩), ?_⟩
    rintro b m2 hq
    exact ⟨⟨_, _, _, _, _, _, _, hq.1⟩, zInv.m hR hinj hr hp hq mOut.refl⟩

