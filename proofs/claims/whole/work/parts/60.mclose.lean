/-! ===== the model: correct, close ===== -/
set_option maxHeartbeats 4000000 in
set_option maxRecDepth 100000 in
theorem t1_X7_correct (l : Launch) (D : va_G) (cs : Nat → ClassId) (w : zw) (sz : Nat) (mm : Nat) (ad : Nat → Nat) (J : Nat → Nat → Int64) (K : Nat → Nat → Int32) (th tb dd br yr wd : Int32) (nw : Nat) (x i : Int32) (v : Int64) (hinj : ∀ i j : Nat, i ≠ j → ad i ≠ ad j) (hM : zMA cs w ad J K) (hnw : nw ≤ 10) (hx9 : ∀ k : Nat, k < nw → x ≠ nI k) (h_m : w (mm) = some (mo ad (th) (tb) (dd) (nI nw) (br) (yr) (wd))) : zM l D cs yX7_correct wsX7_correct 3 0 0 w sz [.ref (mm), .int (x), .int (i), .long (v)] (fun r w2 => r = some (.int 0) ∧ zMQ cs w w2 ad mm (mo ad (1) (tb) (dd) (nI nw) (br) (yr) (wd)) J K) := by
  refine z_met (cc := cX7_correct) (maxL := 7) (ret := (some .int)) (by decide) rfl (Nat.le_of_ble_eq_true rfl) ?_
  intro p e s m below meth c hx hb hr hml hown hts hlocks hnm hsz hK hE hS ls hl
  have hl : lv_has ls 7 [(0, .ref (mm)), (1, .int (x)), (2, .int (i)), (3, .long (v))] := hl
  refine lv_aload_n hx hb dX7_correct_0 rfl (lv_at hl 0 rfl) ?_
  refine lv_iconst (v := 0) hx hb dX7_correct_1 (by decide) ?_
  refine z_put (C := RX7) (T := TX7) (N := 45) (v := .int (0)) hx hb hts (by decide +kernel) tyX7 tyX7_ok nmX7 hown hK hS h_m rfl 0 (by decide) (hts (.fieldLink RX7 126 "PayLedgerModel" "thrown" "I") (by decide +kernel)) rfl rfl rfl (Nat.le_of_ble_eq_true rfl) dX7_correct_2 (fun H locs hS => ?_)
  obtain ⟨w1, ew1⟩ : ∃ z : zw, z = va_up w (mm) (some (mo ad (0) (tb) (dd) (nI nw) (br) (yr) (wd))) := ⟨_, rfl⟩
  have hS : zS (zA w sz) D w1 s.heap H locs := by rw [ew1]; exact hS
  have h1_mm : w1 (mm) = some (mo ad (0) (tb) (dd) (nI nw) (br) (yr) (wd)) := by rw [ew1]; exact va_up_self _ _ _
  refine lv_aload_n hx hb dX7_correct_5 rfl (lv_at hl 0 rfl) ?_
  refine lv_aload_n hx hb dX7_correct_6 rfl (lv_at hl 0 rfl) ?_
  refine lv_iload_n hx hb dX7_correct_7 rfl (lv_at hl 1 rfl) ?_
  refine z_rV (As := [.int (x)]) (rest := [.ref (mm)]) (n := 1) ⟨hx, hb, hml, hown, hts⟩ (n_X7_noWorker l D cs w1 H.size mm ad (0) (tb) (dd) (br) (yr) (wd) nw x (by omega) hx9 h1_mm) gX7_correct_X7_noWorker rfl ⟨rfl, by decide +kernel, by decide +kernel, by decide +kernel⟩ ⟨Nat.le_of_ble_eq_true rfl, Nat.le_of_ble_eq_true rfl⟩ hK hE hS rfl h1_mm rfl hl.1 rfl (Nat.le_of_ble_eq_true rfl) dX7_correct_8 ⟨Nat.le_of_ble_eq_true rfl, Nat.le_of_ble_eq_true rfl⟩ (fun H locs hS => ?_)
  refine lv_iconst (v := 1) hx hb dX7_correct_11 (by decide) ?_
  refine z_invV (As := [.int (1), .int (1)]) (rest := []) (n := 2) ⟨hx, hb, hml, hown, hts⟩ (c1_X7_throwsIf l D cs w1 H.size mm ad (0) (tb) (dd) (nI nw) (br) (yr) (wd) 1 h1_mm) gX7_correct_X7_throwsIf rfl ⟨rfl, by decide +kernel, by decide +kernel, by decide +kernel⟩ ⟨Nat.le_of_ble_eq_true rfl, Nat.le_of_ble_eq_true rfl⟩ hK hE hS rfl h1_mm rfl hl.1 rfl (Nat.le_of_ble_eq_true rfl) dX7_correct_12 ⟨Nat.le_of_ble_eq_true rfl, Nat.le_of_ble_eq_true rfl⟩ (fun v9 u2 H locs hq hS => ?_)
  obtain ⟨rfl, hx2⟩ := hq
  have h3_mm : u2 (mm) = some (mo ad (1) (tb) (dd) (nI nw) (br) (yr) (wd)) := hx2.at 0 rfl
  refine W.eq (g2 := F0 m 15 ls [.int (1)]) rfl ?_
  refine lv_if_ne (tgt := 69) hx hb dX7_correct_15 (by decide) (fun _ => ?_) (fun cq9 => absurd cq9 (by decide))
  refine lv_iconst (v := 0) hx hb dX7_correct_69 (by decide) ?_
  have hex : zEx w u2 [(mm, (mo ad (1) (tb) (dd) (nI nw) (br) (yr) (wd)))] := ⟨(zm1 h3_mm zm0), fun a9 h9 => by rw [hx2.2 a9 (zm1 (show a9 ≠ mm from h9 (mm, (mo ad (1) (tb) (dd) (nI nw) (br) (yr) (wd))) (List.mem_of_getElem? (i := 0) rfl)) zm0), ew1, va_up_ne _ _ (show a9 ≠ mm from h9 (mm, (mo ad (1) (tb) (dd) (nI nw) (br) (yr) (wd))) (List.mem_of_getElem? (i := 0) rfl))]⟩
  exact z_iret hx hb hr hlocks hS (Nat.le_of_ble_eq_true rfl) (Nat.le_of_ble_eq_true rfl) dX7_correct_70 ⟨rfl, zMQ.o hM h_m hinj hex⟩
set_option maxHeartbeats 4000000 in
set_option maxRecDepth 100000 in
theorem t2_X7_correct (l : Launch) (D : va_G) (cs : Nat → ClassId) (w : zw) (sz : Nat) (mm : Nat) (ad : Nat → Nat) (J : Nat → Nat → Int64) (K : Nat → Nat → Int32) (th tb dd br yr wd : Int32) (nw wi n : Nat) (i : Int32) (v : Int64) (hinj : ∀ i j : Nat, i ≠ j → ad i ≠ ad j) (hM : zMA cs w ad J K) (hnw : nw ≤ 10) (hwi : wi < nw) (h19 : K 19 wi = nI n) (hn : n ≤ 60) (hi9 : ∀ k : Nat, k < n → i ≠ nI k) (h_m : w (mm) = some (mo ad (th) (tb) (dd) (nI nw) (br) (yr) (wd))) : zM l D cs yX7_correct wsX7_correct 3 0 0 w sz [.ref (mm), .int (nI wi), .int (i), .long (v)] (fun r w2 => r = some (.int 0) ∧ zMQ cs w w2 ad mm (mo ad (2) (tb) (dd) (nI nw) (br) (yr) (wd)) J K) := by
  refine z_met (cc := cX7_correct) (maxL := 7) (ret := (some .int)) (by decide) rfl (Nat.le_of_ble_eq_true rfl) ?_
  intro p e s m below meth c hx hb hr hml hown hts hlocks hnm hsz hK hE hS ls hl
  have hl : lv_has ls 7 [(0, .ref (mm)), (1, .int (nI wi)), (2, .int (i)), (3, .long (v))] := hl
  have h_19 : w (ad 19) = some (eI cs (10) (K 19)) := hM 19 (by decide)
  refine lv_aload_n hx hb dX7_correct_0 rfl (lv_at hl 0 rfl) ?_
  refine lv_iconst (v := 0) hx hb dX7_correct_1 (by decide) ?_
  refine z_put (C := RX7) (T := TX7) (N := 45) (v := .int (0)) hx hb hts (by decide +kernel) tyX7 tyX7_ok nmX7 hown hK hS h_m rfl 0 (by decide) (hts (.fieldLink RX7 126 "PayLedgerModel" "thrown" "I") (by decide +kernel)) rfl rfl rfl (Nat.le_of_ble_eq_true rfl) dX7_correct_2 (fun H locs hS => ?_)
  obtain ⟨w1, ew1⟩ : ∃ z : zw, z = va_up w (mm) (some (mo ad (0) (tb) (dd) (nI nw) (br) (yr) (wd))) := ⟨_, rfl⟩
  have hS : zS (zA w sz) D w1 s.heap H locs := by rw [ew1]; exact hS
  have h1_mm : w1 (mm) = some (mo ad (0) (tb) (dd) (nI nw) (br) (yr) (wd)) := by rw [ew1]; exact va_up_self _ _ _
  have h1_ad19 : w1 (ad 19) = some (eI cs (10) (K 19)) := by rw [ew1]; exact (va_up_ne _ _ (zne h_19 h_m (by intro q9; first | cases q9 | simp at q9))).trans h_19
  refine lv_aload_n hx hb dX7_correct_5 rfl (lv_at hl 0 rfl) ?_
  refine lv_aload_n hx hb dX7_correct_6 rfl (lv_at hl 0 rfl) ?_
  refine lv_iload_n hx hb dX7_correct_7 rfl (lv_at hl 1 rfl) ?_
  refine z_rV (As := [.int (nI wi)]) (rest := [.ref (mm)]) (n := 1) ⟨hx, hb, hml, hown, hts⟩ (c_X7_noWorker l D cs w1 H.size mm ad (0) (tb) (dd) (br) (yr) (wd) nw wi (by omega) hwi h1_mm) gX7_correct_X7_noWorker rfl ⟨rfl, by decide +kernel, by decide +kernel, by decide +kernel⟩ ⟨Nat.le_of_ble_eq_true rfl, Nat.le_of_ble_eq_true rfl⟩ hK hE hS rfl h1_mm rfl hl.1 rfl (Nat.le_of_ble_eq_true rfl) dX7_correct_8 ⟨Nat.le_of_ble_eq_true rfl, Nat.le_of_ble_eq_true rfl⟩ (fun H locs hS => ?_)
  refine lv_iconst (v := 1) hx hb dX7_correct_11 (by decide) ?_
  refine z_rV (As := [.int (0), .int (1)]) (rest := []) (n := 2) ⟨hx, hb, hml, hown, hts⟩ (c0_X7_throwsIf l D cs w1 H.size mm ad (0) (tb) (dd) (nI nw) (br) (yr) (wd) 1 h1_mm) gX7_correct_X7_throwsIf rfl ⟨rfl, by decide +kernel, by decide +kernel, by decide +kernel⟩ ⟨Nat.le_of_ble_eq_true rfl, Nat.le_of_ble_eq_true rfl⟩ hK hE hS rfl h1_mm rfl hl.1 rfl (Nat.le_of_ble_eq_true rfl) dX7_correct_12 ⟨Nat.le_of_ble_eq_true rfl, Nat.le_of_ble_eq_true rfl⟩ (fun H locs hS => ?_)
  refine lv_if_ne (tgt := 69) hx hb dX7_correct_15 (by decide) (fun cq9 => absurd rfl cq9) (fun _ => ?_)
  refine lv_aload_n hx hb dX7_correct_18 rfl (lv_at hl 0 rfl) ?_
  refine lv_iload_n hx hb dX7_correct_19 rfl (lv_at hl 2 rfl) ?_
  refine lv_if_lt (tgt := 33) hx hb dX7_correct_20 (by decide) (fun c20 => ?_) (fun c20 => ?_)
  · refine lv_iconst (v := 1) hx hb dX7_correct_33 (by decide) ?_
    refine lv_goto (tgt := 38) hx hb dX7_correct_34 (by decide) ?_
    refine lv_iconst (v := 2) hx hb dX7_correct_38 (by decide) ?_
    refine z_invV (As := [.int (1), .int (2)]) (rest := []) (n := 2) ⟨hx, hb, hml, hown, hts⟩ (c1_X7_throwsIf l D cs w1 H.size mm ad (0) (tb) (dd) (nI nw) (br) (yr) (wd) 2 h1_mm) gX7_correct_X7_throwsIf rfl ⟨rfl, by decide +kernel, by decide +kernel, by decide +kernel⟩ ⟨Nat.le_of_ble_eq_true rfl, Nat.le_of_ble_eq_true rfl⟩ hK hE hS rfl h1_mm rfl hl.1 rfl (Nat.le_of_ble_eq_true rfl) dX7_correct_39 ⟨Nat.le_of_ble_eq_true rfl, Nat.le_of_ble_eq_true rfl⟩ (fun v9 u2 H locs hq hS => ?_)
    obtain ⟨rfl, hx2⟩ := hq
    have h3_mm : u2 (mm) = some (mo ad (2) (tb) (dd) (nI nw) (br) (yr) (wd)) := hx2.at 0 rfl
    have h3_ad19 : u2 (ad 19) = some (eI cs (10) (K 19)) := hx2.old h1_ad19 (zm1 (zne h1_ad19 h1_mm (by intro q9; first | cases q9 | simp at q9)) zm0)
    refine W.eq (g2 := F0 m 42 ls [.int (1)]) rfl ?_
    refine lv_if_ne (tgt := 69) hx hb dX7_correct_42 (by decide) (fun _ => ?_) (fun cq9 => absurd cq9 (by decide))
    refine lv_iconst (v := 0) hx hb dX7_correct_69 (by decide) ?_
    have hex : zEx w u2 [(mm, (mo ad (2) (tb) (dd) (nI nw) (br) (yr) (wd)))] := ⟨(zm1 h3_mm zm0), fun a9 h9 => by rw [hx2.2 a9 (zm1 (show a9 ≠ mm from h9 (mm, (mo ad (2) (tb) (dd) (nI nw) (br) (yr) (wd))) (List.mem_of_getElem? (i := 0) rfl)) zm0), ew1, va_up_ne _ _ (show a9 ≠ mm from h9 (mm, (mo ad (2) (tb) (dd) (nI nw) (br) (yr) (wd))) (List.mem_of_getElem? (i := 0) rfl))]⟩
    exact z_iret hx hb hr hlocks hS (Nat.le_of_ble_eq_true rfl) (Nat.le_of_ble_eq_true rfl) dX7_correct_70 ⟨rfl, zMQ.o hM h_m hinj hex⟩
  · refine lv_iload_n hx hb dX7_correct_23 rfl (lv_at hl 2 rfl) ?_
    refine lv_aload_n hx hb dX7_correct_24 rfl (lv_at hl 0 rfl) ?_
    refine z_get (C := RX7) (T := TX7) (N := 45) (v := .ref (ad 19)) hx hb hts (by decide +kernel) hown hK hS h1_mm rfl 19 (by decide) (hts (.fieldLink RX7 60 "PayLedgerModel" "many" "[I") (by decide +kernel)) rfl dX7_correct_25 ?_
    refine lv_iload_n hx hb dX7_correct_28 rfl (lv_at hl 1 rfl) ?_
    refine z_iald hx hb hK hS h1_ad19 (vp_in_nI (by omega) (by decide)) dX7_correct_29 ?_
    refine z_ti (y := ((K 19) (wi))) (congrArg _ (nI_clamp (by omega))) ?_
    refine z_ti (y := nI n) h19 ?_
    refine lv_icmp_lt (tgt := 37) hx hb dX7_correct_30 (by decide) (fun cq9 => absurd cq9 (fun q9 => by obtain ⟨j9, h91, h92⟩ := zI32_of c20 q9 (by omega); exact hi9 j9 h91 h92)) (fun _ => ?_)
    refine lv_iconst (v := 1) hx hb dX7_correct_33 (by decide) ?_
    refine lv_goto (tgt := 38) hx hb dX7_correct_34 (by decide) ?_
    refine lv_iconst (v := 2) hx hb dX7_correct_38 (by decide) ?_
    refine z_invV (As := [.int (1), .int (2)]) (rest := []) (n := 2) ⟨hx, hb, hml, hown, hts⟩ (c1_X7_throwsIf l D cs w1 H.size mm ad (0) (tb) (dd) (nI nw) (br) (yr) (wd) 2 h1_mm) gX7_correct_X7_throwsIf rfl ⟨rfl, by decide +kernel, by decide +kernel, by decide +kernel⟩ ⟨Nat.le_of_ble_eq_true rfl, Nat.le_of_ble_eq_true rfl⟩ hK hE hS rfl h1_mm rfl hl.1 rfl (Nat.le_of_ble_eq_true rfl) dX7_correct_39 ⟨Nat.le_of_ble_eq_true rfl, Nat.le_of_ble_eq_true rfl⟩ (fun v9 u4 H locs hq hS => ?_)
    obtain ⟨rfl, hx4⟩ := hq
    have h5_mm : u4 (mm) = some (mo ad (2) (tb) (dd) (nI nw) (br) (yr) (wd)) := hx4.at 0 rfl
    have h5_ad19 : u4 (ad 19) = some (eI cs (10) (K 19)) := hx4.old h1_ad19 (zm1 (zne h1_ad19 h1_mm (by intro q9; first | cases q9 | simp at q9)) zm0)
    refine W.eq (g2 := F0 m 42 ls [.int (1)]) rfl ?_
    refine lv_if_ne (tgt := 69) hx hb dX7_correct_42 (by decide) (fun _ => ?_) (fun cq9 => absurd cq9 (by decide))
    refine lv_iconst (v := 0) hx hb dX7_correct_69 (by decide) ?_
    have hex : zEx w u4 [(mm, (mo ad (2) (tb) (dd) (nI nw) (br) (yr) (wd)))] := ⟨(zm1 h5_mm zm0), fun a9 h9 => by rw [hx4.2 a9 (zm1 (show a9 ≠ mm from h9 (mm, (mo ad (2) (tb) (dd) (nI nw) (br) (yr) (wd))) (List.mem_of_getElem? (i := 0) rfl)) zm0), ew1, va_up_ne _ _ (show a9 ≠ mm from h9 (mm, (mo ad (2) (tb) (dd) (nI nw) (br) (yr) (wd))) (List.mem_of_getElem? (i := 0) rfl))]⟩
    exact z_iret hx hb hr hlocks hS (Nat.le_of_ble_eq_true rfl) (Nat.le_of_ble_eq_true rfl) dX7_correct_70 ⟨rfl, zMQ.o hM h_m hinj hex⟩
set_option maxHeartbeats 4000000 in
set_option maxRecDepth 100000 in
theorem t3_X7_correct (l : Launch) (D : va_G) (cs : Nat → ClassId) (w : zw) (sz : Nat) (mm : Nat) (ad : Nat → Nat) (J : Nat → Nat → Int64) (K : Nat → Nat → Int32) (th tb dd br yr wd : Int32) (nw wi n i : Nat) (v : Int64) (hinj : ∀ i j : Nat, i ≠ j → ad i ≠ ad j) (hM : zMA cs w ad J K) (hnw : nw ≤ 10) (hwi : wi < nw) (h19 : K 19 wi = nI n) (hn : n ≤ 60) (hi : i < n) (hv : zUpTo v 1000000000 = 0) (h_m : w (mm) = some (mo ad (th) (tb) (dd) (nI nw) (br) (yr) (wd))) : zM l D cs yX7_correct wsX7_correct 3 0 0 w sz [.ref (mm), .int (nI wi), .int (nI i), .long (v)] (fun r w2 => r = some (.int 0) ∧ zMQ cs w w2 ad mm (mo ad (3) (tb) (dd) (nI nw) (br) (yr) (wd)) J K) := by
  refine z_met (cc := cX7_correct) (maxL := 7) (ret := (some .int)) (by decide) rfl (Nat.le_of_ble_eq_true rfl) ?_
  intro p e s m below meth c hx hb hr hml hown hts hlocks hnm hsz hK hE hS ls hl
  have hl : lv_has ls 7 [(0, .ref (mm)), (1, .int (nI wi)), (2, .int (nI i)), (3, .long (v))] := hl
  have h_19 : w (ad 19) = some (eI cs (10) (K 19)) := hM 19 (by decide)
  refine lv_aload_n hx hb dX7_correct_0 rfl (lv_at hl 0 rfl) ?_
  refine lv_iconst (v := 0) hx hb dX7_correct_1 (by decide) ?_
  refine z_put (C := RX7) (T := TX7) (N := 45) (v := .int (0)) hx hb hts (by decide +kernel) tyX7 tyX7_ok nmX7 hown hK hS h_m rfl 0 (by decide) (hts (.fieldLink RX7 126 "PayLedgerModel" "thrown" "I") (by decide +kernel)) rfl rfl rfl (Nat.le_of_ble_eq_true rfl) dX7_correct_2 (fun H locs hS => ?_)
  obtain ⟨w1, ew1⟩ : ∃ z : zw, z = va_up w (mm) (some (mo ad (0) (tb) (dd) (nI nw) (br) (yr) (wd))) := ⟨_, rfl⟩
  have hS : zS (zA w sz) D w1 s.heap H locs := by rw [ew1]; exact hS
  have h1_mm : w1 (mm) = some (mo ad (0) (tb) (dd) (nI nw) (br) (yr) (wd)) := by rw [ew1]; exact va_up_self _ _ _
  have h1_ad19 : w1 (ad 19) = some (eI cs (10) (K 19)) := by rw [ew1]; exact (va_up_ne _ _ (zne h_19 h_m (by intro q9; first | cases q9 | simp at q9))).trans h_19
  refine lv_aload_n hx hb dX7_correct_5 rfl (lv_at hl 0 rfl) ?_
  refine lv_aload_n hx hb dX7_correct_6 rfl (lv_at hl 0 rfl) ?_
  refine lv_iload_n hx hb dX7_correct_7 rfl (lv_at hl 1 rfl) ?_
  refine z_rV (As := [.int (nI wi)]) (rest := [.ref (mm)]) (n := 1) ⟨hx, hb, hml, hown, hts⟩ (c_X7_noWorker l D cs w1 H.size mm ad (0) (tb) (dd) (br) (yr) (wd) nw wi (by omega) hwi h1_mm) gX7_correct_X7_noWorker rfl ⟨rfl, by decide +kernel, by decide +kernel, by decide +kernel⟩ ⟨Nat.le_of_ble_eq_true rfl, Nat.le_of_ble_eq_true rfl⟩ hK hE hS rfl h1_mm rfl hl.1 rfl (Nat.le_of_ble_eq_true rfl) dX7_correct_8 ⟨Nat.le_of_ble_eq_true rfl, Nat.le_of_ble_eq_true rfl⟩ (fun H locs hS => ?_)
  refine lv_iconst (v := 1) hx hb dX7_correct_11 (by decide) ?_
  refine z_rV (As := [.int (0), .int (1)]) (rest := []) (n := 2) ⟨hx, hb, hml, hown, hts⟩ (c0_X7_throwsIf l D cs w1 H.size mm ad (0) (tb) (dd) (nI nw) (br) (yr) (wd) 1 h1_mm) gX7_correct_X7_throwsIf rfl ⟨rfl, by decide +kernel, by decide +kernel, by decide +kernel⟩ ⟨Nat.le_of_ble_eq_true rfl, Nat.le_of_ble_eq_true rfl⟩ hK hE hS rfl h1_mm rfl hl.1 rfl (Nat.le_of_ble_eq_true rfl) dX7_correct_12 ⟨Nat.le_of_ble_eq_true rfl, Nat.le_of_ble_eq_true rfl⟩ (fun H locs hS => ?_)
  refine lv_if_ne (tgt := 69) hx hb dX7_correct_15 (by decide) (fun cq9 => absurd rfl cq9) (fun _ => ?_)
  refine lv_aload_n hx hb dX7_correct_18 rfl (lv_at hl 0 rfl) ?_
  refine lv_iload_n hx hb dX7_correct_19 rfl (lv_at hl 2 rfl) ?_
  refine lv_if_lt (tgt := 33) hx hb dX7_correct_20 (by decide) (fun cq9 => absurd cq9 (nI_pos (by omega))) (fun _ => ?_)
  refine lv_iload_n hx hb dX7_correct_23 rfl (lv_at hl 2 rfl) ?_
  refine lv_aload_n hx hb dX7_correct_24 rfl (lv_at hl 0 rfl) ?_
  refine z_get (C := RX7) (T := TX7) (N := 45) (v := .ref (ad 19)) hx hb hts (by decide +kernel) hown hK hS h1_mm rfl 19 (by decide) (hts (.fieldLink RX7 60 "PayLedgerModel" "many" "[I") (by decide +kernel)) rfl dX7_correct_25 ?_
  refine lv_iload_n hx hb dX7_correct_28 rfl (lv_at hl 1 rfl) ?_
  refine z_iald hx hb hK hS h1_ad19 (vp_in_nI (by omega) (by decide)) dX7_correct_29 ?_
  refine z_ti (y := ((K 19) (wi))) (congrArg _ (nI_clamp (by omega))) ?_
  refine z_ti (y := nI n) h19 ?_
  refine lv_icmp_lt (tgt := 37) hx hb dX7_correct_30 (by decide) (fun _ => ?_) (fun cq9 => absurd (nI_lt hi (by omega)) cq9)
  refine lv_iconst (v := 0) hx hb dX7_correct_37 (by decide) ?_
  refine lv_iconst (v := 2) hx hb dX7_correct_38 (by decide) ?_
  refine z_rV (As := [.int (0), .int (2)]) (rest := []) (n := 2) ⟨hx, hb, hml, hown, hts⟩ (c0_X7_throwsIf l D cs w1 H.size mm ad (0) (tb) (dd) (nI nw) (br) (yr) (wd) 2 h1_mm) gX7_correct_X7_throwsIf rfl ⟨rfl, by decide +kernel, by decide +kernel, by decide +kernel⟩ ⟨Nat.le_of_ble_eq_true rfl, Nat.le_of_ble_eq_true rfl⟩ hK hE hS rfl h1_mm rfl hl.1 rfl (Nat.le_of_ble_eq_true rfl) dX7_correct_39 ⟨Nat.le_of_ble_eq_true rfl, Nat.le_of_ble_eq_true rfl⟩ (fun H locs hS => ?_)
  refine lv_if_ne (tgt := 69) hx hb dX7_correct_42 (by decide) (fun cq9 => absurd rfl cq9) (fun _ => ?_)
  refine lv_aload_n hx hb dX7_correct_45 rfl (lv_at hl 0 rfl) ?_
  refine lv_lload_n hx hb dX7_correct_46 rfl (lv_at hl 3 rfl) ?_
  refine lv_lconst (v := 0) hx hb dX7_correct_47 (by decide) ?_
  refine lv_ldc2 (v := 1000000000) hx hb hown (hts (.constantLong RX7 212 (1000000000)) (by decide +kernel)) dX7_correct_48 ?_
  refine z_rS (As := [.long (v), .long (0), .long (1000000000)]) (rest := [.ref (mm)]) (n := 3) ⟨hx, hb, hml, hown, hts⟩ (c_X7_in l D cs w1 H.size (v) (0) (1000000000)) gX7_correct_X7_in rfl ⟨by decide +kernel, by decide +kernel, by decide +kernel⟩ ⟨Nat.le_of_ble_eq_true rfl, Nat.le_of_ble_eq_true rfl⟩ hK hE hS rfl hl.1 rfl (Nat.le_of_ble_eq_true rfl) dX7_correct_51 ⟨Nat.le_of_ble_eq_true rfl, Nat.le_of_ble_eq_true rfl⟩ (fun H locs hS => ?_)
  refine lv_if_ne (tgt := 61) hx hb dX7_correct_54 (by decide) (fun cq9 => absurd hv cq9) (fun _ => ?_)
  refine lv_iconst (v := 1) hx hb dX7_correct_57 (by decide) ?_
  refine lv_goto (tgt := 62) hx hb dX7_correct_58 (by decide) ?_
  refine lv_iconst (v := 3) hx hb dX7_correct_62 (by decide) ?_
  refine z_invV (As := [.int (1), .int (3)]) (rest := []) (n := 2) ⟨hx, hb, hml, hown, hts⟩ (c1_X7_throwsIf l D cs w1 H.size mm ad (0) (tb) (dd) (nI nw) (br) (yr) (wd) 3 h1_mm) gX7_correct_X7_throwsIf rfl ⟨rfl, by decide +kernel, by decide +kernel, by decide +kernel⟩ ⟨Nat.le_of_ble_eq_true rfl, Nat.le_of_ble_eq_true rfl⟩ hK hE hS rfl h1_mm rfl hl.1 rfl (Nat.le_of_ble_eq_true rfl) dX7_correct_63 ⟨Nat.le_of_ble_eq_true rfl, Nat.le_of_ble_eq_true rfl⟩ (fun v9 u2 H locs hq hS => ?_)
  obtain ⟨rfl, hx2⟩ := hq
  have h3_mm : u2 (mm) = some (mo ad (3) (tb) (dd) (nI nw) (br) (yr) (wd)) := hx2.at 0 rfl
  have h3_ad19 : u2 (ad 19) = some (eI cs (10) (K 19)) := hx2.old h1_ad19 (zm1 (zne h1_ad19 h1_mm (by intro q9; first | cases q9 | simp at q9)) zm0)
  refine W.eq (g2 := F0 m 66 ls [.int (1)]) rfl ?_
  refine lv_if_eq (tgt := 71) hx hb dX7_correct_66 (by decide) (fun cq9 => absurd cq9 (by decide)) (fun _ => ?_)
  refine lv_iconst (v := 0) hx hb dX7_correct_69 (by decide) ?_
  have hex : zEx w u2 [(mm, (mo ad (3) (tb) (dd) (nI nw) (br) (yr) (wd)))] := ⟨(zm1 h3_mm zm0), fun a9 h9 => by rw [hx2.2 a9 (zm1 (show a9 ≠ mm from h9 (mm, (mo ad (3) (tb) (dd) (nI nw) (br) (yr) (wd))) (List.mem_of_getElem? (i := 0) rfl)) zm0), ew1, va_up_ne _ _ (show a9 ≠ mm from h9 (mm, (mo ad (3) (tb) (dd) (nI nw) (br) (yr) (wd))) (List.mem_of_getElem? (i := 0) rfl))]⟩
  exact z_iret hx hb hr hlocks hS (Nat.le_of_ble_eq_true rfl) (Nat.le_of_ble_eq_true rfl) dX7_correct_70 ⟨rfl, zMQ.o hM h_m hinj hex⟩
set_option maxHeartbeats 8000000 in
set_option maxRecDepth 100000 in
theorem c_X7_correct (l : Launch) (D : va_G) (cs : Nat → ClassId) (w : zw) (sz : Nat) (mm : Nat) (ad : Nat → Nat) (J : Nat → Nat → Int64) (K : Nat → Nat → Int32) (th tb br yr wd : Int32) (wi : Nat) (bo rb pe me : Nat → Int32) (re cr ex : Nat → Int64) (en : Nat → Int32) (tx : Nat → Nat) (V P : Nat → Nat → Int64) (nb : Nat) (tn : Nat → Nat) (FF : Nat → Nat → Int64) (GF : Nat → Nat → Int32) (nd : Nat) (de so : Nat → Int32) (si ca bs : Nat → Int64) (n : Nat) (nw : Nat) (i : Nat) (V2 P2 : Nat → Nat → Int64) (hinj : ∀ i j : Nat, i ≠ j → ad i ≠ ad j) (hM : zMA cs w ad J K) (hW : mWr J K wi bo rb pe me re cr ex en tx V P nb tn FF GF nd de so si ca bs n) (hnw : nw ≤ 10) (hwi : wi < nw) (hi : i < n) (hv : zUpTo (V2 i 0) 1000000000 = 1) (hV2 : ∀ k : Nat, k < n → k ≠ i → V2 k 0 = V k 0) (hWk2 : ∀ k : Nat, k < n → mWkd nd de so si ca bs bo rb pe me re cr ex en tx tn FF GF V2 P2 k) (h_m : w (mm) = some (mo ad (th) (tb) (nI nd) (nI nw) (br) (yr) (wd))) : zM l D cs yX7_correct wsX7_correct 7 0 0 w sz [.ref (mm), .int (nI wi), .int (nI i), .long (V2 i 0)] (fun r w2 => r = some (.int (nI (zOth V V2 0 n))) ∧ ∃ J' : Nat → Nat → Int64, J' 25 = vp_updL (J 25) (60 * wi + i) (V2 i 0) ∧ (∀ s : Nat, s ∉ [25, 37, 38, 39, 40, 41, 42, 43, 44] → J' s = J s) ∧ zMQ cs w w2 ad mm (mo ad (0) (tb) (nI nd) (nI nw) (br) (yr) (wd + (nI n - nI i))) J' K) := by
  refine z_met (cc := cX7_correct) (maxL := 7) (ret := (some .int)) (by decide) rfl (Nat.le_of_ble_eq_true rfl) ?_
  intro p e s m below meth c hx hb hr hml hown hts hlocks hnm hsz hK hE hS ls hl
  have hl : lv_has ls 7 [(0, .ref (mm)), (1, .int (nI wi)), (2, .int (nI i)), (3, .long (V2 i 0))] := hl
  have h19 := hW.2.2.2.2.2.2.1
  have h35 := hW.2.2.2.2.2.2.2
  have hP := hW.2.2.1
  have hw := hW.2.2.2.1
  have hn := hW.2.2.2.2.1
  have hTb := hW.1
  have hDd := hW.2.1
  have hWk := hW.2.2.2.2.2.1
  have h_19 : w (ad 19) = some (eI cs (10) (K 19)) := hM 19 (by decide)
  have L162 : ∀ (k : Nat), ∀ (u : zw) (J6 : Nat → Nat → Int64), (hk : k ≤ n) → (e25 : J6 25 = vp_updL (J 25) (60 * wi + i) (V2 i 0)) → (eo : ∀ s : Nat, s ∉ [25, 37, 38, 39, 40, 41, 42, 43, 44] → J6 s = J s) → (hq6 : zMQ cs w u ad mm (mo ad (0) (tb) (nI nd) (nI nw) (br) (yr) (wd + (nI n - nI i))) J6 K) → (e44 : ∀ j : Nat, j < n → J6 44 j = V j 6) → (e43 : ∀ j : Nat, j < n → J6 43 j = V2 j 6) → (h_m : u (mm) = some (mo ad (0) (tb) (nI nd) (nI nw) (br) (yr) (wd + (nI n - nI i)))) → (h_19 : u (ad 19) = some (eI cs (10) (K 19))) → (h_43 : u (ad 43) = some (eJ cs (60) (J6 43))) → (h_44 : u (ad 44) = some (eJ cs (60) (J6 44))) → ∀ (H : Heap) (locs : List Loc) (ls : Array Slot), zS (zA w sz) D u s.heap H locs → lv_has ls 7 [(6, .int (nI k)), (5, .int (nI (zOth V V2 0 k))), (0, .ref (mm)), (1, .int (nI wi)), (2, .int (nI i)), (3, .long (V2 i 0))] → W p l e (zR 7 0 0) s m [.ref (mm), .int (nI wi), .int (nI i), .long (V2 i 0)].toArray below meth c H locs 0 0 (MQ below (zQ D w sz (fun r w2 => r = some (.int (nI (zOth V V2 0 n))) ∧ ∃ J' : Nat → Nat → Int64, J' 25 = vp_updL (J 25) (60 * wi + i) (V2 i 0) ∧ (∀ s : Nat, s ∉ [25, 37, 38, 39, 40, 41, 42, 43, 44] → J' s = J s) ∧ zMQ cs w w2 ad mm (mo ad (0) (tb) (nI nd) (nI nw) (br) (yr) (wd + (nI n - nI i))) J' K)) [.ref (mm), .int (nI wi), .int (nI i), .long (V2 i 0)].toArray s 0 0 (zA w sz)) (F0 m 162 ls []) := by
    refine zloopU (P := fun k => ∀ (u : zw) (J6 : Nat → Nat → Int64), (hk : k ≤ n) → (e25 : J6 25 = vp_updL (J 25) (60 * wi + i) (V2 i 0)) → (eo : ∀ s : Nat, s ∉ [25, 37, 38, 39, 40, 41, 42, 43, 44] → J6 s = J s) → (hq6 : zMQ cs w u ad mm (mo ad (0) (tb) (nI nd) (nI nw) (br) (yr) (wd + (nI n - nI i))) J6 K) → (e44 : ∀ j : Nat, j < n → J6 44 j = V j 6) → (e43 : ∀ j : Nat, j < n → J6 43 j = V2 j 6) → (h_m : u (mm) = some (mo ad (0) (tb) (nI nd) (nI nw) (br) (yr) (wd + (nI n - nI i)))) → (h_19 : u (ad 19) = some (eI cs (10) (K 19))) → (h_43 : u (ad 43) = some (eJ cs (60) (J6 43))) → (h_44 : u (ad 44) = some (eJ cs (60) (J6 44))) → ∀ (H : Heap) (locs : List Loc) (ls : Array Slot), zS (zA w sz) D u s.heap H locs → lv_has ls 7 [(6, .int (nI k)), (5, .int (nI (zOth V V2 0 k))), (0, .ref (mm)), (1, .int (nI wi)), (2, .int (nI i)), (3, .long (V2 i 0))] → W p l e (zR 7 0 0) s m [.ref (mm), .int (nI wi), .int (nI i), .long (V2 i 0)].toArray below meth c H locs 0 0 (MQ below (zQ D w sz (fun r w2 => r = some (.int (nI (zOth V V2 0 n))) ∧ ∃ J' : Nat → Nat → Int64, J' 25 = vp_updL (J 25) (60 * wi + i) (V2 i 0) ∧ (∀ s : Nat, s ∉ [25, 37, 38, 39, 40, 41, 42, 43, 44] → J' s = J s) ∧ zMQ cs w w2 ad mm (mo ad (0) (tb) (nI nd) (nI nw) (br) (yr) (wd + (nI n - nI i))) J' K)) [.ref (mm), .int (nI wi), .int (nI i), .long (V2 i 0)].toArray s 0 0 (zA w sz)) (F0 m 162 ls [])) n (fun k ih => ?_)
    intro u J6 hk e25 eo hq6 e44 e43 h_m h_19 h_43 h_44 H locs ls hS hl
    refine lv_iload hx hb dX7_correct_162 (lv_at hl 0 rfl) ?_
    refine lv_aload_n hx hb dX7_correct_164 rfl (lv_at hl 2 rfl) ?_
    refine z_get (C := RX7) (T := TX7) (N := 45) (v := .ref (ad 19)) hx hb hts (by decide +kernel) hown hK hS h_m rfl 19 (by decide) (hts (.fieldLink RX7 60 "PayLedgerModel" "many" "[I") (by decide +kernel)) rfl dX7_correct_165 ?_
    refine lv_iload_n hx hb dX7_correct_168 rfl (lv_at hl 3 rfl) ?_
    refine z_iald hx hb hK hS h_19 (vp_in_nI (by omega) (by decide)) dX7_correct_169 ?_
    refine z_ti (y := ((K 19) (wi))) (congrArg _ (nI_clamp (by omega))) ?_
    refine z_ti (y := nI n) h19 ?_
    refine lv_icmp_ge (tgt := 207) hx hb dX7_correct_170 (by decide) (fun c170 => ?_) (fun c170 => ?_)
    · have hi9 : k = n := by rcases Nat.lt_or_ge k (n) with q | q; exact absurd c170 (nI_ge (b := n) q (by omega)); omega
      refine lv_iload hx hb dX7_correct_207 (lv_at hl 1 rfl) ?_
      exact z_iret hx hb hr hlocks hS (Nat.le_of_ble_eq_true rfl) (Nat.le_of_ble_eq_true rfl) dX7_correct_209 ⟨by rw [hi9], J6, e25, eo, hq6⟩
    · have c170 : k < n := by rcases Nat.lt_or_ge k (n) with q | q; exact q; exact absurd (nI_le (a := n) q (by omega)) c170
      refine lv_iload hx hb dX7_correct_173 (lv_at hl 1 rfl) ?_
      refine lv_aload_n hx hb dX7_correct_175 rfl (lv_at hl 2 rfl) ?_
      refine z_get (C := RX7) (T := TX7) (N := 45) (v := .ref (ad 44)) hx hb hts (by decide +kernel) hown hK hS h_m rfl 44 (by decide) (hts (.fieldLink RX7 123 "PayLedgerModel" "before" "[J") (by decide +kernel)) rfl dX7_correct_176 ?_
      refine lv_iload hx hb dX7_correct_179 (lv_at hl 0 rfl) ?_
      refine z_lald hx hb hK hS h_44 (vp_in_nI (by omega) (by decide)) dX7_correct_181 ?_
      refine z_tl (y := ((J6 44) (k))) (congrArg _ (nI_clamp (by omega))) ?_
      refine z_tl (y := V k 6) (e44 k c170) ?_
      refine lv_aload_n hx hb dX7_correct_182 rfl (lv_at hl 2 rfl) ?_
      refine z_get (C := RX7) (T := TX7) (N := 45) (v := .ref (ad 43)) hx hb hts (by decide +kernel) hown hK hS h_m rfl 43 (by decide) (hts (.fieldLink RX7 120 "PayLedgerModel" "nets" "[J") (by decide +kernel)) rfl dX7_correct_183 ?_
      refine lv_iload hx hb dX7_correct_186 (lv_at hl 0 rfl) ?_
      refine z_lald hx hb hK hS h_43 (vp_in_nI (by omega) (by decide)) dX7_correct_188 ?_
      refine z_tl (y := ((J6 43) (k))) (congrArg _ (nI_clamp (by omega))) ?_
      refine z_tl (y := V2 k 6) (e43 k c170) ?_
      refine z_lif_ne (tgt := 197) hx hb dX7_correct_189 dX7_correct_190 (by decide) (fun c189 => ?_) (fun c189 => ?_)
      · refine lv_iconst (v := 1) hx hb dX7_correct_197 (by decide) ?_
        refine lv_iadd hx hb dX7_correct_198 ?_
        refine z_ti (y := nI (zOth V V2 0 (k + 1))) (by rw [zOth, Nat.zero_add, if_neg (fun q9 => c189 q9.symm)]; exact nI_1 _) ?_
        refine lv_istore (lv' := [(5, .int (nI (zOth V V2 0 (k + 1)))), (6, .int (nI k)), (0, .ref (mm)), (1, .int (nI wi)), (2, .int (nI i)), (3, .long (V2 i 0))]) hx hb dX7_correct_199 hl (by decide) rfl (fun ls hl => ?_)
        refine lv_iinc (v := nI (k + 1)) (lv' := [(6, .int (nI (k + 1))), (5, .int (nI (zOth V V2 0 (k + 1)))), (0, .ref (mm)), (1, .int (nI wi)), (2, .int (nI i)), (3, .long (V2 i 0))]) hx hb dX7_correct_201 hl (k := 1) rfl (nI_1 _) (by decide) rfl (fun ls hl => ?_)
        refine lv_goto (tgt := 162) hx hb dX7_correct_204 (by decide) ?_
        exact ih c170 _ J6 (by omega) e25 eo hq6 e44 e43 h_m h_19 h_43 h_44 _ _ _ hS (lv_sub hl [0, 1, 2, 3, 4, 5] rfl)
      · refine lv_iconst (v := 0) hx hb dX7_correct_193 (by decide) ?_
        refine lv_goto (tgt := 198) hx hb dX7_correct_194 (by decide) ?_
        refine lv_iadd hx hb dX7_correct_198 ?_
        refine z_ti (y := nI (zOth V V2 0 (k + 1))) (by rw [zOth, Nat.zero_add, if_pos c189.symm]; exact Int32.add_zero _) ?_
        refine lv_istore (lv' := [(5, .int (nI (zOth V V2 0 (k + 1)))), (6, .int (nI k)), (0, .ref (mm)), (1, .int (nI wi)), (2, .int (nI i)), (3, .long (V2 i 0))]) hx hb dX7_correct_199 hl (by decide) rfl (fun ls hl => ?_)
        refine lv_iinc (v := nI (k + 1)) (lv' := [(6, .int (nI (k + 1))), (5, .int (nI (zOth V V2 0 (k + 1)))), (0, .ref (mm)), (1, .int (nI wi)), (2, .int (nI i)), (3, .long (V2 i 0))]) hx hb dX7_correct_201 hl (k := 1) rfl (nI_1 _) (by decide) rfl (fun ls hl => ?_)
        refine lv_goto (tgt := 162) hx hb dX7_correct_204 (by decide) ?_
        exact ih c170 _ J6 (by omega) e25 eo hq6 e44 e43 h_m h_19 h_43 h_44 _ _ _ hS (lv_sub hl [0, 1, 2, 3, 4, 5] rfl)
  have L85 : ∀ (k : Nat), ∀ (u : zw) (J3 : Nat → Nat → Int64), (hk : k ≤ n) → (eo3 : ∀ s : Nat, s ∉ [37, 38, 39, 40, 41, 42, 43, 44] → J3 s = J s) → (hq3 : zMQ cs w u ad mm (mo ad (0) (tb) (nI nd) (nI nw) (br) (yr) (wd)) J3 K) → (e43 : ∀ j : Nat, j < n → J3 43 j = V j 6) → (e44 : ∀ j : Nat, j < k → J3 44 j = V j 6) → (h_m : u (mm) = some (mo ad (0) (tb) (nI nd) (nI nw) (br) (yr) (wd))) → (h_19 : u (ad 19) = some (eI cs (10) (K 19))) → (h_43 : u (ad 43) = some (eJ cs (60) (J3 43))) → (h_44 : u (ad 44) = some (eJ cs (60) (J3 44))) → ∀ (H : Heap) (locs : List Loc) (ls : Array Slot), zS (zA w sz) D u s.heap H locs → lv_has ls 7 [(5, .int (nI k)), (0, .ref (mm)), (1, .int (nI wi)), (2, .int (nI i)), (3, .long (V2 i 0))] → W p l e (zR 7 0 0) s m [.ref (mm), .int (nI wi), .int (nI i), .long (V2 i 0)].toArray below meth c H locs 0 0 (MQ below (zQ D w sz (fun r w2 => r = some (.int (nI (zOth V V2 0 n))) ∧ ∃ J' : Nat → Nat → Int64, J' 25 = vp_updL (J 25) (60 * wi + i) (V2 i 0) ∧ (∀ s : Nat, s ∉ [25, 37, 38, 39, 40, 41, 42, 43, 44] → J' s = J s) ∧ zMQ cs w w2 ad mm (mo ad (0) (tb) (nI nd) (nI nw) (br) (yr) (wd + (nI n - nI i))) J' K)) [.ref (mm), .int (nI wi), .int (nI i), .long (V2 i 0)].toArray s 0 0 (zA w sz)) (F0 m 85 ls []) := by
    refine zloopU (P := fun k => ∀ (u : zw) (J3 : Nat → Nat → Int64), (hk : k ≤ n) → (eo3 : ∀ s : Nat, s ∉ [37, 38, 39, 40, 41, 42, 43, 44] → J3 s = J s) → (hq3 : zMQ cs w u ad mm (mo ad (0) (tb) (nI nd) (nI nw) (br) (yr) (wd)) J3 K) → (e43 : ∀ j : Nat, j < n → J3 43 j = V j 6) → (e44 : ∀ j : Nat, j < k → J3 44 j = V j 6) → (h_m : u (mm) = some (mo ad (0) (tb) (nI nd) (nI nw) (br) (yr) (wd))) → (h_19 : u (ad 19) = some (eI cs (10) (K 19))) → (h_43 : u (ad 43) = some (eJ cs (60) (J3 43))) → (h_44 : u (ad 44) = some (eJ cs (60) (J3 44))) → ∀ (H : Heap) (locs : List Loc) (ls : Array Slot), zS (zA w sz) D u s.heap H locs → lv_has ls 7 [(5, .int (nI k)), (0, .ref (mm)), (1, .int (nI wi)), (2, .int (nI i)), (3, .long (V2 i 0))] → W p l e (zR 7 0 0) s m [.ref (mm), .int (nI wi), .int (nI i), .long (V2 i 0)].toArray below meth c H locs 0 0 (MQ below (zQ D w sz (fun r w2 => r = some (.int (nI (zOth V V2 0 n))) ∧ ∃ J' : Nat → Nat → Int64, J' 25 = vp_updL (J 25) (60 * wi + i) (V2 i 0) ∧ (∀ s : Nat, s ∉ [25, 37, 38, 39, 40, 41, 42, 43, 44] → J' s = J s) ∧ zMQ cs w w2 ad mm (mo ad (0) (tb) (nI nd) (nI nw) (br) (yr) (wd + (nI n - nI i))) J' K)) [.ref (mm), .int (nI wi), .int (nI i), .long (V2 i 0)].toArray s 0 0 (zA w sz)) (F0 m 85 ls [])) n (fun k ih => ?_)
    intro u J3 hk eo3 hq3 e43 e44 h_m h_19 h_43 h_44 H locs ls hS hl
    refine lv_iload hx hb dX7_correct_85 (lv_at hl 0 rfl) ?_
    refine lv_aload_n hx hb dX7_correct_87 rfl (lv_at hl 1 rfl) ?_
    refine z_get (C := RX7) (T := TX7) (N := 45) (v := .ref (ad 19)) hx hb hts (by decide +kernel) hown hK hS h_m rfl 19 (by decide) (hts (.fieldLink RX7 60 "PayLedgerModel" "many" "[I") (by decide +kernel)) rfl dX7_correct_88 ?_
    refine lv_iload_n hx hb dX7_correct_91 rfl (lv_at hl 2 rfl) ?_
    refine z_iald hx hb hK hS h_19 (vp_in_nI (by omega) (by decide)) dX7_correct_92 ?_
    refine z_ti (y := ((K 19) (wi))) (congrArg _ (nI_clamp (by omega))) ?_
    refine z_ti (y := nI n) h19 ?_
    refine lv_icmp_ge (tgt := 116) hx hb dX7_correct_93 (by decide) (fun c93 => ?_) (fun c93 => ?_)
    · have hi9 : k = n := by rcases Nat.lt_or_ge k (n) with q | q; exact absurd c93 (nI_ge (b := n) q (by omega)); omega
      have h_25x : u (ad 25) = some (eJ cs (600) (J3 25)) := hq3.2.1 25 (by decide)
      refine lv_aload_n hx hb dX7_correct_116 rfl (lv_at hl 1 rfl) ?_
      refine z_get (C := RX7) (T := TX7) (N := 45) (v := .ref (ad 25)) hx hb hts (by decide +kernel) hown hK hS h_m rfl 25 (by decide) (hts (.fieldLink RX7 66 "PayLedgerModel" "gross" "[J") (by decide +kernel)) rfl dX7_correct_117 ?_
      refine lv_bipush (v := 60) hx hb dX7_correct_120 (by decide) ?_
      refine lv_iload_n hx hb dX7_correct_122 rfl (lv_at hl 2 rfl) ?_
      refine lv_imul hx hb dX7_correct_123 ?_
      refine z_ti (y := nI (60 * wi)) (zI_mul (60) (wi)) ?_
      refine lv_iload_n hx hb dX7_correct_124 rfl (lv_at hl 3 rfl) ?_
      refine lv_iadd hx hb dX7_correct_125 ?_
      refine z_ti (y := nI ((60 * wi) + i)) (nI_add ((60 * wi)) (i)) ?_
      refine lv_lload_n hx hb dX7_correct_126 rfl (lv_at hl 4 rfl) ?_
      have e25a := eo3 25 (by decide)
      refine z_last hx hb hK hS h_25x (vp_in_nI (by omega) (by decide)) dX7_correct_127 (fun H locs hS => ?_)
      obtain ⟨w1, ew1⟩ : ∃ z : zw, z = va_up u (ad 25) (some (eJ cs (600) (vp_updL (J3 25) (nI ((60 * wi) + i) : Int32).toNatClampNeg (V2 i 0)))) := ⟨_, rfl⟩
      have hS : zS (zA w sz) D w1 s.heap H locs := by rw [ew1]; exact hS
      have h1_ad25 : w1 (ad 25) = some (eJ cs (600) (vp_updL (J3 25) (nI ((60 * wi) + i) : Int32).toNatClampNeg (V2 i 0))) := by rw [ew1]; exact va_up_self _ _ _
      have h1_mm : w1 (mm) = some (mo ad (0) (tb) (nI nd) (nI nw) (br) (yr) (wd)) := by rw [ew1]; exact (va_up_ne _ _ (zne h_m h_25x (by intro q9; first | cases q9 | simp at q9))).trans h_m
      have h1_ad19 : w1 (ad 19) = some (eI cs (10) (K 19)) := by rw [ew1]; exact (va_up_ne _ _ (hinj 19 25 (by decide))).trans h_19
      have h1_ad43 : w1 (ad 43) = some (eJ cs (60) (J3 43)) := by rw [ew1]; exact (va_up_ne _ _ (hinj 43 25 (by decide))).trans h_43
      have h1_ad44 : w1 (ad 44) = some (eJ cs (60) (J3 44)) := by rw [ew1]; exact (va_up_ne _ _ (hinj 44 25 (by decide))).trans h_44
      have h1_ad25 : w1 (ad 25) = some (eJ cs (600) (vp_updL (J3 25) (((60 * wi) + i)) (V2 i 0))) := by rw [nI_clamp (by omega)] at h1_ad25; exact h1_ad25
      rw [show (eJ cs (600) (vp_updL (J3 25) (((60 * wi) + i)) (V2 i 0))) = (eJ cs (600) (vp_updL (J 25) (60 * wi + i) (V2 i 0))) from (by rw [e25a])] at h1_ad25
      have hex4 : zEx u w1 [(mm, (mo ad (0) (tb) (nI nd) (nI nw) (br) (yr) (wd))), (ad 25, (eJ cs (600) (vp_updL (J 25) (60 * wi + i) (V2 i 0))))] := ⟨(zm1 h1_mm (zm1 h1_ad25 zm0)), fun a9 h9 => by rw [ew1, va_up_ne _ _ (show a9 ≠ ad 25 from h9 (ad 25, (eJ cs (600) (vp_updL (J 25) (60 * wi + i) (V2 i 0)))) (List.mem_of_getElem? (i := 1) rfl))]⟩
      obtain ⟨J4, eJ4⟩ : ∃ z, z = va_up J3 25 (vp_updL (J 25) (60 * wi + i) (V2 i 0)) := ⟨_, rfl⟩
      have hq4 : zMQ cs w w1 ad mm (mo ad (0) (tb) (nI nd) (nI nw) (br) (yr) (wd)) J4 K := by rw [eJ4]; exact hq3.trans (zMQ.of [25] (by decide) hq3.2.1 hq3.1 hinj hex4 (fun s hs => va_up_ne _ _ (fun e => hs (by rw [e]; decide))) (fun _ _ => rfl))
      have hW4 : mTb J4 K nb tn FF GF ∧ mDd J4 K nd de so si ca bs ∧ mPy J4 K wi n bo rb pe me re cr ex en tx V2 nb := by
            have g : ∀ s ∈ [1, 8, 9, 10, 32, 33, 34], J4 s = J s := fun s hs => by
              rw [eJ4, va_up_ne _ _ (fun q9 => by rw [q9] at hs; exact absurd hs (by decide))]
              exact eo3 s (fun q9 => by revert hs q9; simp only [List.mem_cons]; rintro (q | q | q | q | q | q | q | q) <;> subst_eqs <;> simp_all)
            exact ⟨hTb.of (g 1 (by decide)) rfl rfl, hDd.of (g 8 (by decide)) (g 9 (by decide)) (g 10 (by decide)) rfl rfl, hP.put (by rw [eJ4]; exact va_up_self _ _ _) (g 32 (by decide)) (g 33 (by decide)) (g 34 (by decide)) hV2⟩
      refine lv_aload_n hx hb dX7_correct_128 rfl (lv_at hl 1 rfl) ?_
      refine lv_iload_n hx hb dX7_correct_129 rfl (lv_at hl 2 rfl) ?_
      refine lv_aload_n hx hb dX7_correct_130 rfl (lv_at hl 1 rfl) ?_
      refine z_get (C := RX7) (T := TX7) (N := 45) (v := .ref (ad 19)) hx hb hts (by decide +kernel) hown hK hS h1_mm rfl 19 (by decide) (hts (.fieldLink RX7 60 "PayLedgerModel" "many" "[I") (by decide +kernel)) rfl dX7_correct_131 ?_
      refine lv_iload_n hx hb dX7_correct_134 rfl (lv_at hl 2 rfl) ?_
      refine z_iald hx hb hK hS h1_ad19 (vp_in_nI (by omega) (by decide)) dX7_correct_135 ?_
      refine z_ti (y := ((K 19) (wi))) (congrArg _ (nI_clamp (by omega))) ?_
      refine z_ti (y := nI n) h19 ?_
      refine z_invV (As := [.int (nI wi), .int (nI n)]) (rest := []) (n := 2) ⟨hx, hb, hml, hown, hts⟩ (c_X7_works l D cs w1 H.size mm ad J4 K 0 tb (nI nw) br yr wd wi bo rb pe me re cr ex en tx V2 P2 nb tn FF GF nd de so si ca bs n hinj hq4.2.1 hW4.1 hW4.2.1 hW4.2.2 hw hn hWk2 h1_mm) gX7_correct_X7_works rfl ⟨rfl, by decide +kernel, by decide +kernel, by decide +kernel⟩ ⟨Nat.le_of_ble_eq_true rfl, Nat.le_of_ble_eq_true rfl⟩ hK hE hS rfl h1_mm rfl hl.1 rfl (Nat.le_of_ble_eq_true rfl) dX7_correct_136 ⟨Nat.le_of_ble_eq_true rfl, Nat.le_of_ble_eq_true rfl⟩ (fun v9 u2 H locs hq hS => ?_)
      obtain ⟨rfl, J5, ho5, hz5, hA5⟩ := hq
      have hq5 := zMQ.w hq4.2.1 hq4.1 hinj hz5 ho5
      have h_m5 : u2 mm = some (mo ad (0) (tb) (nI nd) (nI nw) (br) (yr) (wd)) := hq5.1
      have h_195 : u2 (ad 19) = some (eI cs (10) (K 19)) := hq5.2.1 19 (by decide)
      have h_435 : u2 (ad 43) = some (eJ cs (60) (J5 43)) := hq5.2.1 43 (by decide)
      have h_445 : u2 (ad 44) = some (eJ cs (60) (J5 44)) := hq5.2.1 44 (by decide)
      refine W.eq (g2 := F0 m 139 ls []) rfl ?_
      refine lv_aload_n hx hb dX7_correct_139 rfl (lv_at hl 1 rfl) ?_
      refine lv_dup hx hb dX7_correct_140 rfl ?_
      refine z_get (C := RX7) (T := TX7) (N := 45) (v := .int (wd)) hx hb hts (by decide +kernel) hown hK hS h_m5 rfl 24 (by decide) (hts (.fieldLink RX7 240 "PayLedgerModel" "worked" "I") (by decide +kernel)) rfl dX7_correct_141 ?_
      refine lv_aload_n hx hb dX7_correct_144 rfl (lv_at hl 1 rfl) ?_
      refine z_get (C := RX7) (T := TX7) (N := 45) (v := .ref (ad 19)) hx hb hts (by decide +kernel) hown hK hS h_m5 rfl 19 (by decide) (hts (.fieldLink RX7 60 "PayLedgerModel" "many" "[I") (by decide +kernel)) rfl dX7_correct_145 ?_
      refine lv_iload_n hx hb dX7_correct_148 rfl (lv_at hl 2 rfl) ?_
      refine z_iald hx hb hK hS h_195 (vp_in_nI (by omega) (by decide)) dX7_correct_149 ?_
      refine z_ti (y := ((K 19) (wi))) (congrArg _ (nI_clamp (by omega))) ?_
      refine z_ti (y := nI n) h19 ?_
      refine lv_iload_n hx hb dX7_correct_150 rfl (lv_at hl 3 rfl) ?_
      refine lv_isub hx hb dX7_correct_151 ?_
      refine lv_iadd hx hb dX7_correct_152 ?_
      refine z_put (C := RX7) (T := TX7) (N := 45) (v := .int ((wd + (nI n - nI i)))) hx hb hts (by decide +kernel) tyX7 tyX7_ok nmX7 hown hK hS h_m5 rfl 24 (by decide) (hts (.fieldLink RX7 240 "PayLedgerModel" "worked" "I") (by decide +kernel)) rfl rfl rfl (Nat.le_of_ble_eq_true rfl) dX7_correct_153 (fun H locs hS => ?_)
      obtain ⟨w3, ew3⟩ : ∃ z : zw, z = va_up u2 (mm) (some (mo ad (0) (tb) (nI nd) (nI nw) (br) (yr) ((wd + (nI n - nI i))))) := ⟨_, rfl⟩
      have hS : zS (zA w sz) D w3 s.heap H locs := by rw [ew3]; exact hS
      have h3_mm : w3 (mm) = some (mo ad (0) (tb) (nI nd) (nI nw) (br) (yr) ((wd + (nI n - nI i)))) := by rw [ew3]; exact va_up_self _ _ _
      have h3_ad19 : w3 (ad 19) = some (eI cs (10) (K 19)) := by rw [ew3]; exact (va_up_ne _ _ (zne h_195 h_m5 (by intro q9; first | cases q9 | simp at q9))).trans h_195
      have h3_ad43 : w3 (ad 43) = some (eJ cs (60) (J5 43)) := by rw [ew3]; exact (va_up_ne _ _ (zne h_435 h_m5 (by intro q9; first | cases q9 | simp at q9))).trans h_435
      have h3_ad44 : w3 (ad 44) = some (eJ cs (60) (J5 44)) := by rw [ew3]; exact (va_up_ne _ _ (zne h_445 h_m5 (by intro q9; first | cases q9 | simp at q9))).trans h_445
      refine lv_iconst (v := 0) hx hb dX7_correct_156 (by decide) ?_
      refine lv_istore (lv' := [(5, .int (0)), (0, .ref (mm)), (1, .int (nI wi)), (2, .int (nI i)), (3, .long (V2 i 0))]) hx hb dX7_correct_157 hl (by decide) rfl (fun ls hl => ?_)
      have hex6 : zEx u2 w3 [(mm, (mo ad (0) (tb) (nI nd) (nI nw) (br) (yr) ((wd + (nI n - nI i)))))] := ⟨(zm1 h3_mm zm0), fun a9 h9 => by rw [ew3, va_up_ne _ _ (show a9 ≠ mm from h9 (mm, (mo ad (0) (tb) (nI nd) (nI nw) (br) (yr) ((wd + (nI n - nI i))))) (List.mem_of_getElem? (i := 0) rfl))]⟩
      refine lv_iconst (v := 0) hx hb dX7_correct_159 (by decide) ?_
      refine lv_istore (lv' := [(6, .int (0)), (5, .int (0)), (0, .ref (mm)), (1, .int (nI wi)), (2, .int (nI i)), (3, .long (V2 i 0))]) hx hb dX7_correct_160 hl (by decide) rfl (fun ls hl => ?_)
      exact L162 0 _ J5 (by omega) (by rw [ho5 25 (by decide), eJ4]; exact va_up_self _ _ _) (fun s hs => by rw [ho5 s (fun q9 => hs (by revert q9; simp only [List.mem_cons]; rintro (q | q | q | q | q | q | q | q) <;> simp_all)), eJ4, va_up_ne _ _ (fun q9 => hs (by rw [q9]; decide)), eo3 s (fun q9 => hs (List.mem_cons_of_mem _ q9))]) (hq4.trans (hq5.trans (zMQ.o hq5.2.1 hq5.1 hinj hex6))) (fun j hj => by rw [ho5 44 (by decide), eJ4, va_up_ne _ _ (by decide)]; exact e44 j (by omega)) (fun j hj => ((hA5 j hj).1).2.2.2.2.2) h3_mm h3_ad19 h3_ad43 h3_ad44 _ _ _ hS (lv_sub hl [0, 1, 2, 3, 4, 5] rfl)
    · have c93 : k < n := by rcases Nat.lt_or_ge k (n) with q | q; exact q; exact absurd (nI_le (a := n) q (by omega)) c93
      refine lv_aload_n hx hb dX7_correct_96 rfl (lv_at hl 1 rfl) ?_
      refine z_get (C := RX7) (T := TX7) (N := 45) (v := .ref (ad 44)) hx hb hts (by decide +kernel) hown hK hS h_m rfl 44 (by decide) (hts (.fieldLink RX7 123 "PayLedgerModel" "before" "[J") (by decide +kernel)) rfl dX7_correct_97 ?_
      refine lv_iload hx hb dX7_correct_100 (lv_at hl 0 rfl) ?_
      refine lv_aload_n hx hb dX7_correct_102 rfl (lv_at hl 1 rfl) ?_
      refine z_get (C := RX7) (T := TX7) (N := 45) (v := .ref (ad 43)) hx hb hts (by decide +kernel) hown hK hS h_m rfl 43 (by decide) (hts (.fieldLink RX7 120 "PayLedgerModel" "nets" "[J") (by decide +kernel)) rfl dX7_correct_103 ?_
      refine lv_iload hx hb dX7_correct_106 (lv_at hl 0 rfl) ?_
      refine z_lald hx hb hK hS h_43 (vp_in_nI (by omega) (by decide)) dX7_correct_108 ?_
      refine z_tl (y := ((J3 43) (k))) (congrArg _ (nI_clamp (by omega))) ?_
      refine z_tl (y := V k 6) (e43 k c93) ?_
      refine z_last hx hb hK hS h_44 (vp_in_nI (by omega) (by decide)) dX7_correct_109 (fun H locs hS => ?_)
      obtain ⟨w4, ew4⟩ : ∃ z : zw, z = va_up u (ad 44) (some (eJ cs (60) (vp_updL (J3 44) (nI k : Int32).toNatClampNeg (V k 6)))) := ⟨_, rfl⟩
      have hS : zS (zA w sz) D w4 s.heap H locs := by rw [ew4]; exact hS
      have h4_ad44 : w4 (ad 44) = some (eJ cs (60) (vp_updL (J3 44) (nI k : Int32).toNatClampNeg (V k 6))) := by rw [ew4]; exact va_up_self _ _ _
      have h4_mm : w4 (mm) = some (mo ad (0) (tb) (nI nd) (nI nw) (br) (yr) (wd)) := by rw [ew4]; exact (va_up_ne _ _ (zne h_m h_44 (by intro q9; first | cases q9 | simp at q9))).trans h_m
      have h4_ad19 : w4 (ad 19) = some (eI cs (10) (K 19)) := by rw [ew4]; exact (va_up_ne _ _ (hinj 19 44 (by decide))).trans h_19
      have h4_ad43 : w4 (ad 43) = some (eJ cs (60) (J3 43)) := by rw [ew4]; exact (va_up_ne _ _ (hinj 43 44 (by decide))).trans h_43
      have h4_ad44 : w4 (ad 44) = some (eJ cs (60) (vp_updL (J3 44) (k) (V k 6))) := by rw [nI_clamp (by omega)] at h4_ad44; exact h4_ad44
      refine lv_iinc (v := nI (k + 1)) (lv' := [(5, .int (nI (k + 1))), (0, .ref (mm)), (1, .int (nI wi)), (2, .int (nI i)), (3, .long (V2 i 0))]) hx hb dX7_correct_110 hl (k := 0) rfl (nI_1 _) (by decide) rfl (fun ls hl => ?_)
      have hex7 : zEx u w4 [(mm, (mo ad (0) (tb) (nI nd) (nI nw) (br) (yr) (wd))), (ad 44, (eJ cs (60) (vp_updL (J3 44) (k) (V k 6))))] := ⟨(zm1 h4_mm (zm1 h4_ad44 zm0)), fun a9 h9 => by rw [ew4, va_up_ne _ _ (show a9 ≠ ad 44 from h9 (ad 44, (eJ cs (60) (vp_updL (J3 44) (k) (V k 6)))) (List.mem_of_getElem? (i := 1) rfl))]⟩
      refine lv_goto (tgt := 85) hx hb dX7_correct_113 (by decide) ?_
      exact ih c93 _ (va_up J3 44 (vp_updL (J3 44) k (V k 6))) (by omega) (fun s hs => (va_up_ne _ _ (fun q9 => hs (by rw [q9]; decide))).trans (eo3 s hs)) (hq3.trans (zMQ.of [44] (by decide) hq3.2.1 hq3.1 hinj hex7 (fun s hs => va_up_ne _ _ (fun e => hs (by rw [e]; decide))) (fun _ _ => rfl))) (fun j hj => by rw [va_up_ne _ _ (by decide)]; exact e43 j hj) (fun j hj => by rw [va_up_self]; exact zUpdUpto (f := fun j => V j 6) e44 j hj) h4_mm h4_ad19 h4_ad43 h4_ad44 _ _ _ hS (lv_sub hl [0, 1, 2, 3, 4] rfl)
  refine lv_aload_n hx hb dX7_correct_0 rfl (lv_at hl 0 rfl) ?_
  refine lv_iconst (v := 0) hx hb dX7_correct_1 (by decide) ?_
  refine z_put (C := RX7) (T := TX7) (N := 45) (v := .int (0)) hx hb hts (by decide +kernel) tyX7 tyX7_ok nmX7 hown hK hS h_m rfl 0 (by decide) (hts (.fieldLink RX7 126 "PayLedgerModel" "thrown" "I") (by decide +kernel)) rfl rfl rfl (Nat.le_of_ble_eq_true rfl) dX7_correct_2 (fun H locs hS => ?_)
  obtain ⟨w5, ew5⟩ : ∃ z : zw, z = va_up w (mm) (some (mo ad (0) (tb) (nI nd) (nI nw) (br) (yr) (wd))) := ⟨_, rfl⟩
  have hS : zS (zA w sz) D w5 s.heap H locs := by rw [ew5]; exact hS
  have h5_mm : w5 (mm) = some (mo ad (0) (tb) (nI nd) (nI nw) (br) (yr) (wd)) := by rw [ew5]; exact va_up_self _ _ _
  have h5_ad19 : w5 (ad 19) = some (eI cs (10) (K 19)) := by rw [ew5]; exact (va_up_ne _ _ (zne h_19 h_m (by intro q9; first | cases q9 | simp at q9))).trans h_19
  refine lv_aload_n hx hb dX7_correct_5 rfl (lv_at hl 0 rfl) ?_
  refine lv_aload_n hx hb dX7_correct_6 rfl (lv_at hl 0 rfl) ?_
  refine lv_iload_n hx hb dX7_correct_7 rfl (lv_at hl 1 rfl) ?_
  refine z_rV (As := [.int (nI wi)]) (rest := [.ref (mm)]) (n := 1) ⟨hx, hb, hml, hown, hts⟩ (c_X7_noWorker l D cs w5 H.size mm ad (0) (tb) (nI nd) (br) (yr) (wd) nw wi (by omega) hwi h5_mm) gX7_correct_X7_noWorker rfl ⟨rfl, by decide +kernel, by decide +kernel, by decide +kernel⟩ ⟨Nat.le_of_ble_eq_true rfl, Nat.le_of_ble_eq_true rfl⟩ hK hE hS rfl h5_mm rfl hl.1 rfl (Nat.le_of_ble_eq_true rfl) dX7_correct_8 ⟨Nat.le_of_ble_eq_true rfl, Nat.le_of_ble_eq_true rfl⟩ (fun H locs hS => ?_)
  refine lv_iconst (v := 1) hx hb dX7_correct_11 (by decide) ?_
  refine z_rV (As := [.int (0), .int (1)]) (rest := []) (n := 2) ⟨hx, hb, hml, hown, hts⟩ (c0_X7_throwsIf l D cs w5 H.size mm ad (0) (tb) (nI nd) (nI nw) (br) (yr) (wd) 1 h5_mm) gX7_correct_X7_throwsIf rfl ⟨rfl, by decide +kernel, by decide +kernel, by decide +kernel⟩ ⟨Nat.le_of_ble_eq_true rfl, Nat.le_of_ble_eq_true rfl⟩ hK hE hS rfl h5_mm rfl hl.1 rfl (Nat.le_of_ble_eq_true rfl) dX7_correct_12 ⟨Nat.le_of_ble_eq_true rfl, Nat.le_of_ble_eq_true rfl⟩ (fun H locs hS => ?_)
  refine lv_if_ne (tgt := 69) hx hb dX7_correct_15 (by decide) (fun cq9 => absurd rfl cq9) (fun _ => ?_)
  refine lv_aload_n hx hb dX7_correct_18 rfl (lv_at hl 0 rfl) ?_
  refine lv_iload_n hx hb dX7_correct_19 rfl (lv_at hl 2 rfl) ?_
  refine lv_if_lt (tgt := 33) hx hb dX7_correct_20 (by decide) (fun cq9 => absurd cq9 (nI_pos (by omega))) (fun _ => ?_)
  refine lv_iload_n hx hb dX7_correct_23 rfl (lv_at hl 2 rfl) ?_
  refine lv_aload_n hx hb dX7_correct_24 rfl (lv_at hl 0 rfl) ?_
  refine z_get (C := RX7) (T := TX7) (N := 45) (v := .ref (ad 19)) hx hb hts (by decide +kernel) hown hK hS h5_mm rfl 19 (by decide) (hts (.fieldLink RX7 60 "PayLedgerModel" "many" "[I") (by decide +kernel)) rfl dX7_correct_25 ?_
  refine lv_iload_n hx hb dX7_correct_28 rfl (lv_at hl 1 rfl) ?_
  refine z_iald hx hb hK hS h5_ad19 (vp_in_nI (by omega) (by decide)) dX7_correct_29 ?_
  refine z_ti (y := ((K 19) (wi))) (congrArg _ (nI_clamp (by omega))) ?_
  refine z_ti (y := nI n) h19 ?_
  refine lv_icmp_lt (tgt := 37) hx hb dX7_correct_30 (by decide) (fun _ => ?_) (fun cq9 => absurd (nI_lt hi (by omega)) cq9)
  refine lv_iconst (v := 0) hx hb dX7_correct_37 (by decide) ?_
  refine lv_iconst (v := 2) hx hb dX7_correct_38 (by decide) ?_
  refine z_rV (As := [.int (0), .int (2)]) (rest := []) (n := 2) ⟨hx, hb, hml, hown, hts⟩ (c0_X7_throwsIf l D cs w5 H.size mm ad (0) (tb) (nI nd) (nI nw) (br) (yr) (wd) 2 h5_mm) gX7_correct_X7_throwsIf rfl ⟨rfl, by decide +kernel, by decide +kernel, by decide +kernel⟩ ⟨Nat.le_of_ble_eq_true rfl, Nat.le_of_ble_eq_true rfl⟩ hK hE hS rfl h5_mm rfl hl.1 rfl (Nat.le_of_ble_eq_true rfl) dX7_correct_39 ⟨Nat.le_of_ble_eq_true rfl, Nat.le_of_ble_eq_true rfl⟩ (fun H locs hS => ?_)
  refine lv_if_ne (tgt := 69) hx hb dX7_correct_42 (by decide) (fun cq9 => absurd rfl cq9) (fun _ => ?_)
  refine lv_aload_n hx hb dX7_correct_45 rfl (lv_at hl 0 rfl) ?_
  refine lv_lload_n hx hb dX7_correct_46 rfl (lv_at hl 3 rfl) ?_
  refine lv_lconst (v := 0) hx hb dX7_correct_47 (by decide) ?_
  refine lv_ldc2 (v := 1000000000) hx hb hown (hts (.constantLong RX7 212 (1000000000)) (by decide +kernel)) dX7_correct_48 ?_
  refine z_rS (As := [.long (V2 i 0), .long (0), .long (1000000000)]) (rest := [.ref (mm)]) (n := 3) ⟨hx, hb, hml, hown, hts⟩ (c_X7_in l D cs w5 H.size (V2 i 0) (0) (1000000000)) gX7_correct_X7_in rfl ⟨by decide +kernel, by decide +kernel, by decide +kernel⟩ ⟨Nat.le_of_ble_eq_true rfl, Nat.le_of_ble_eq_true rfl⟩ hK hE hS rfl hl.1 rfl (Nat.le_of_ble_eq_true rfl) dX7_correct_51 ⟨Nat.le_of_ble_eq_true rfl, Nat.le_of_ble_eq_true rfl⟩ (fun H locs hS => ?_)
  refine lv_if_ne (tgt := 61) hx hb dX7_correct_54 (by decide) (fun _ => ?_) (fun cq9 => absurd cq9 (by rw [show mIn (V2 i 0) 0 1000000000 = 1 from hv]; decide))
  refine lv_iconst (v := 0) hx hb dX7_correct_61 (by decide) ?_
  refine lv_iconst (v := 3) hx hb dX7_correct_62 (by decide) ?_
  refine z_rV (As := [.int (0), .int (3)]) (rest := []) (n := 2) ⟨hx, hb, hml, hown, hts⟩ (c0_X7_throwsIf l D cs w5 H.size mm ad (0) (tb) (nI nd) (nI nw) (br) (yr) (wd) 3 h5_mm) gX7_correct_X7_throwsIf rfl ⟨rfl, by decide +kernel, by decide +kernel, by decide +kernel⟩ ⟨Nat.le_of_ble_eq_true rfl, Nat.le_of_ble_eq_true rfl⟩ hK hE hS rfl h5_mm rfl hl.1 rfl (Nat.le_of_ble_eq_true rfl) dX7_correct_63 ⟨Nat.le_of_ble_eq_true rfl, Nat.le_of_ble_eq_true rfl⟩ (fun H locs hS => ?_)
  refine lv_if_eq (tgt := 71) hx hb dX7_correct_66 (by decide) (fun _ => ?_) (fun cq9 => absurd rfl cq9)
  refine lv_aload_n hx hb dX7_correct_71 rfl (lv_at hl 0 rfl) ?_
  refine lv_iload_n hx hb dX7_correct_72 rfl (lv_at hl 1 rfl) ?_
  refine lv_aload_n hx hb dX7_correct_73 rfl (lv_at hl 0 rfl) ?_
  refine z_get (C := RX7) (T := TX7) (N := 45) (v := .ref (ad 19)) hx hb hts (by decide +kernel) hown hK hS h5_mm rfl 19 (by decide) (hts (.fieldLink RX7 60 "PayLedgerModel" "many" "[I") (by decide +kernel)) rfl dX7_correct_74 ?_
  refine lv_iload_n hx hb dX7_correct_77 rfl (lv_at hl 1 rfl) ?_
  refine z_iald hx hb hK hS h5_ad19 (vp_in_nI (by omega) (by decide)) dX7_correct_78 ?_
  refine z_ti (y := ((K 19) (wi))) (congrArg _ (nI_clamp (by omega))) ?_
  refine z_ti (y := nI n) h19 ?_
  have hex1 : zEx w w5 [(mm, (mo ad (0) (tb) (nI nd) (nI nw) (br) (yr) (wd)))] := ⟨(zm1 h5_mm zm0), fun a9 h9 => by rw [ew5, va_up_ne _ _ (show a9 ≠ mm from h9 (mm, (mo ad (0) (tb) (nI nd) (nI nw) (br) (yr) (wd))) (List.mem_of_getElem? (i := 0) rfl))]⟩
  have hq1 : zMQ cs w w5 ad mm (mo ad (0) (tb) (nI nd) (nI nw) (br) (yr) (wd)) J K := zMQ.o hM h_m hinj hex1
  refine z_invV (As := [.int (nI wi), .int (nI n)]) (rest := []) (n := 2) ⟨hx, hb, hml, hown, hts⟩ (c_X7_works l D cs w5 H.size mm ad J K 0 tb (nI nw) br yr wd wi bo rb pe me re cr ex en tx V P nb tn FF GF nd de so si ca bs n hinj hq1.2.1 hTb hDd hP hw hn hWk h5_mm) gX7_correct_X7_works rfl ⟨rfl, by decide +kernel, by decide +kernel, by decide +kernel⟩ ⟨Nat.le_of_ble_eq_true rfl, Nat.le_of_ble_eq_true rfl⟩ hK hE hS rfl h5_mm rfl hl.1 rfl (Nat.le_of_ble_eq_true rfl) dX7_correct_79 ⟨Nat.le_of_ble_eq_true rfl, Nat.le_of_ble_eq_true rfl⟩ (fun v9 u6 H locs hq hS => ?_)
  obtain ⟨rfl, J2, ho, hz, hA2⟩ := hq
  have hq2 := zMQ.w hq1.2.1 hq1.1 hinj hz ho
  have h_m3 : u6 mm = some (mo ad (0) (tb) (nI nd) (nI nw) (br) (yr) (wd)) := hq2.1
  have h_193 : u6 (ad 19) = some (eI cs (10) (K 19)) := hq2.2.1 19 (by decide)
  have h_433 : u6 (ad 43) = some (eJ cs (60) (J2 43)) := hq2.2.1 43 (by decide)
  have h_443 : u6 (ad 44) = some (eJ cs (60) (J2 44)) := hq2.2.1 44 (by decide)
  refine W.eq (g2 := F0 m 82 ls []) rfl ?_
  refine lv_iconst (v := 0) hx hb dX7_correct_82 (by decide) ?_
  refine lv_istore (lv' := [(5, .int (0)), (0, .ref (mm)), (1, .int (nI wi)), (2, .int (nI i)), (3, .long (V2 i 0))]) hx hb dX7_correct_83 hl (by decide) rfl (fun ls hl => ?_)
  exact L85 0 _ J2 (by omega) (fun s hs => ho s (fun q9 => hs (by revert q9; simp only [List.mem_cons]; rintro (q | q | q | q | q | q | q | q) <;> simp_all))) (hq1.trans hq2) (fun j hj => ((hA2 j hj).1).2.2.2.2.2) (fun j hj => absurd hj (by omega)) h_m3 h_193 h_433 h_443 _ _ _ hS (lv_sub hl [0, 1, 2, 3, 4] rfl)
set_option maxHeartbeats 4000000 in
set_option maxRecDepth 100000 in
theorem t1_X7_close (l : Launch) (D : va_G) (cs : Nat → ClassId) (w : zw) (sz : Nat) (mm : Nat) (ad : Nat → Nat) (J : Nat → Nat → Int64) (K : Nat → Nat → Int32) (th tb br wd : Int32) (bo rb pe me : Nat → Nat → Int32) (re cr ex : Nat → Nat → Int64) (en : Nat → Nat → Int32) (tx : Nat → Nat → Nat) (V P : Nat → Nat → Nat → Int64) (nb : Nat) (tn : Nat → Nat) (FF : Nat → Nat → Int64) (GF : Nat → Nat → Int32) (nd : Nat) (de so : Nat → Int32) (si ca bs : Nat → Int64) (hd : Nat → Nat) (nw : Nat) (y : Nat) (hinj : ∀ i j : Nat, i ≠ j → ad i ≠ ad j) (hM : zMA cs w ad J K) (hWs : ∀ k : Nat, k < nw → mWr J K k (bo k) (rb k) (pe k) (me k) (re k) (cr k) (ex k) (en k) (tx k) (V k) (P k) nb tn FF GF nd de so si ca bs (hd k)) (hnw : nw ≤ 10) (hy : y ≤ 6) (hbad : ¬ (∀ k : Nat, k < nw → zTotal (bo k) (V k) (hd k) (J 20 k) (10) = 0)) (h_m : w (mm) = some (mo ad (th) (tb) (nI nd) (nI nw) (br) (nI y) (wd))) : zM l D cs yX7_close wsX7_close 9 0 0 w sz [.ref (mm)] (fun r w2 => r = some (.int 0) ∧ ∃ J' : Nat → Nat → Int64, mOut J J' ∧ zMQ cs w w2 ad mm (mo ad (1) (tb) (nI nd) (nI nw) (br) (nI y) (wd)) J' K) := by
  refine z_met (cc := cX7_close) (maxL := 5) (ret := (some .int)) (by decide) rfl (Nat.le_of_ble_eq_true rfl) ?_
  intro p e s m below meth c hx hb hr hml hown hts hlocks hnm hsz hK hE hS ls hl
  have hl : lv_has ls 5 [(0, .ref (mm))] := hl
  have L9 : ∀ (i : Nat), ∀ (u : zw) (J2 : Nat → Nat → Int64) (b : Int32), (hi : i ≤ nw) → (ho : mOut J J2) → (hq2 : zMQ cs w u ad mm (mo ad (0) (tb) (nI nd) (nI nw) (br) (nI y) (wd)) J2 K) → (hb9 : b = 1 ∧ (∀ k : Nat, k < i → zTotal (bo k) (V k) (hd k) (J 20 k) (10) = 0) ∨ b = 0 ∧ ¬ (∀ k : Nat, k < i → zTotal (bo k) (V k) (hd k) (J 20 k) (10) = 0)) → (h_m : u (mm) = some (mo ad (0) (tb) (nI nd) (nI nw) (br) (nI y) (wd))) → ∀ (H : Heap) (locs : List Loc) (ls : Array Slot), zS (zA w sz) D u s.heap H locs → lv_has ls 5 [(2, .int (nI i)), (1, .int (b)), (0, .ref (mm))] → W p l e (zR 9 0 0) s m [.ref (mm)].toArray below meth c H locs 0 0 (MQ below (zQ D w sz (fun r w2 => r = some (.int 0) ∧ ∃ J' : Nat → Nat → Int64, mOut J J' ∧ zMQ cs w w2 ad mm (mo ad (1) (tb) (nI nd) (nI nw) (br) (nI y) (wd)) J' K)) [.ref (mm)].toArray s 0 0 (zA w sz)) (F0 m 9 ls []) := by
    refine zloopU (P := fun i => ∀ (u : zw) (J2 : Nat → Nat → Int64) (b : Int32), (hi : i ≤ nw) → (ho : mOut J J2) → (hq2 : zMQ cs w u ad mm (mo ad (0) (tb) (nI nd) (nI nw) (br) (nI y) (wd)) J2 K) → (hb9 : b = 1 ∧ (∀ k : Nat, k < i → zTotal (bo k) (V k) (hd k) (J 20 k) (10) = 0) ∨ b = 0 ∧ ¬ (∀ k : Nat, k < i → zTotal (bo k) (V k) (hd k) (J 20 k) (10) = 0)) → (h_m : u (mm) = some (mo ad (0) (tb) (nI nd) (nI nw) (br) (nI y) (wd))) → ∀ (H : Heap) (locs : List Loc) (ls : Array Slot), zS (zA w sz) D u s.heap H locs → lv_has ls 5 [(2, .int (nI i)), (1, .int (b)), (0, .ref (mm))] → W p l e (zR 9 0 0) s m [.ref (mm)].toArray below meth c H locs 0 0 (MQ below (zQ D w sz (fun r w2 => r = some (.int 0) ∧ ∃ J' : Nat → Nat → Int64, mOut J J' ∧ zMQ cs w w2 ad mm (mo ad (1) (tb) (nI nd) (nI nw) (br) (nI y) (wd)) J' K)) [.ref (mm)].toArray s 0 0 (zA w sz)) (F0 m 9 ls [])) nw (fun i ih => ?_)
    intro u J2 b hi ho hq2 hb9 h_m H locs ls hS hl
    refine lv_iload_n hx hb dX7_close_9 rfl (lv_at hl 0 rfl) ?_
    refine lv_aload_n hx hb dX7_close_10 rfl (lv_at hl 2 rfl) ?_
    refine z_get (C := RX7) (T := TX7) (N := 45) (v := .int (nI nw)) hx hb hts (by decide +kernel) hown hK hS h_m rfl 21 (by decide) (hts (.fieldLink RX7 183 "PayLedgerModel" "workers" "I") (by decide +kernel)) rfl dX7_close_11 ?_
    refine lv_icmp_ge (tgt := 45) hx hb dX7_close_14 (by decide) (fun c14 => ?_) (fun c14 => ?_)
    · have hi9 : i = nw := by rcases Nat.lt_or_ge i (nw) with q | q; exact absurd c14 (nI_ge (b := nw) q (by omega)); omega
      refine lv_aload_n hx hb dX7_close_45 rfl (lv_at hl 2 rfl) ?_
      refine lv_iload_n hx hb dX7_close_46 rfl (lv_at hl 1 rfl) ?_
      refine lv_if_ne (tgt := 54) hx hb dX7_close_47 (by decide) (fun cq9 => absurd (by rcases hb9 with q9 | q9; exact absurd (fun k hk => q9.2 k (by omega)) hbad; exact q9.1) cq9) (fun _ => ?_)
      refine lv_iconst (v := 1) hx hb dX7_close_50 (by decide) ?_
      refine lv_goto (tgt := 55) hx hb dX7_close_51 (by decide) ?_
      refine lv_iconst (v := 1) hx hb dX7_close_55 (by decide) ?_
      refine z_invV (As := [.int (1), .int (1)]) (rest := []) (n := 2) ⟨hx, hb, hml, hown, hts⟩ (c1_X7_throwsIf l D cs u H.size mm ad (0) (tb) (nI nd) (nI nw) (br) (nI y) (wd) 1 h_m) gX7_close_X7_throwsIf rfl ⟨rfl, by decide +kernel, by decide +kernel, by decide +kernel⟩ ⟨Nat.le_of_ble_eq_true rfl, Nat.le_of_ble_eq_true rfl⟩ hK hE hS rfl h_m rfl hl.1 rfl (Nat.le_of_ble_eq_true rfl) dX7_close_56 ⟨Nat.le_of_ble_eq_true rfl, Nat.le_of_ble_eq_true rfl⟩ (fun v9 u1 H locs hq hS => ?_)
      obtain ⟨rfl, hx1⟩ := hq
      have h2_mm : u1 (mm) = some (mo ad (1) (tb) (nI nd) (nI nw) (br) (nI y) (wd)) := hx1.at 0 rfl
      refine W.eq (g2 := F0 m 59 ls [.int (1)]) rfl ?_
      refine lv_if_ne (tgt := 84) hx hb dX7_close_59 (by decide) (fun _ => ?_) (fun cq9 => absurd cq9 (by decide))
      refine lv_iconst (v := 0) hx hb dX7_close_84 (by decide) ?_
      have hex : zEx u u1 [(mm, (mo ad (1) (tb) (nI nd) (nI nw) (br) (nI y) (wd)))] := ⟨(zm1 h2_mm zm0), fun a9 h9 => by rw [hx1.2 a9 (zm1 (show a9 ≠ mm from h9 (mm, (mo ad (1) (tb) (nI nd) (nI nw) (br) (nI y) (wd))) (List.mem_of_getElem? (i := 0) rfl)) zm0)]⟩
      exact z_iret hx hb hr hlocks hS (Nat.le_of_ble_eq_true rfl) (Nat.le_of_ble_eq_true rfl) dX7_close_85 ⟨rfl, J2, ho, hq2.trans (zMQ.o hq2.2.1 hq2.1 hinj hex)⟩
    · have c14 : i < nw := by rcases Nat.lt_or_ge i (nw) with q | q; exact q; exact absurd (nI_le (a := nw) q (by omega)) c14
      refine lv_iload_n hx hb dX7_close_17 rfl (lv_at hl 1 rfl) ?_
      refine lv_if_eq (tgt := 37) hx hb dX7_close_18 (by decide) (fun c18 => ?_) (fun c18 => ?_)
      · have hb8 := hb9.resolve_left (fun q9 => by rw [q9.1] at c18; cases c18)
        refine lv_iconst (v := 0) hx hb dX7_close_37 (by decide) ?_
        refine lv_istore_n (lv' := [(1, .int (0)), (2, .int (nI i)), (0, .ref (mm))]) hx hb dX7_close_38 rfl hl (by decide) rfl (fun ls hl => ?_)
        refine lv_iinc (v := nI (i + 1)) (lv' := [(2, .int (nI (i + 1))), (1, .int (0)), (0, .ref (mm))]) hx hb dX7_close_39 hl (k := 1) rfl (nI_1 _) (by decide) rfl (fun ls hl => ?_)
        refine lv_goto (tgt := 9) hx hb dX7_close_42 (by decide) ?_
        exact ih c14 _ J2 0 (by omega) ho hq2 (Or.inr ⟨rfl, fun q9 => hb8.2 (fun k hk => q9 k (by omega))⟩) h_m _ _ _ hS (lv_sub hl [0, 1, 2] rfl)
      · have hb8 := hb9.resolve_right (fun q9 => c18 q9.1)
        refine lv_aload_n hx hb dX7_close_21 rfl (lv_at hl 2 rfl) ?_
        refine lv_iload_n hx hb dX7_close_22 rfl (lv_at hl 0 rfl) ?_
        refine lv_bipush (v := 10) hx hb dX7_close_23 (by decide) ?_
        refine z_invV (As := [.int (nI i), .int (10)]) (rest := []) (n := 2) ⟨hx, hb, hml, hown, hts⟩ (c_X7_sums l D cs u H.size mm ad J2 K 0 tb (nI nw) br (nI y) wd i (bo i) (rb i) (pe i) (me i) (re i) (cr i) (ex i) (en i) (tx i) (V i) (P i) nb tn FF GF nd de so si ca bs (hd i) (10) hinj hq2.2.1 ((hWs i c14).out ho) h_m) gX7_close_X7_sums rfl ⟨rfl, by decide +kernel, by decide +kernel, by decide +kernel⟩ ⟨Nat.le_of_ble_eq_true rfl, Nat.le_of_ble_eq_true rfl⟩ hK hE hS rfl h_m rfl hl.1 rfl (Nat.le_of_ble_eq_true rfl) dX7_close_25 ⟨Nat.le_of_ble_eq_true rfl, Nat.le_of_ble_eq_true rfl⟩ (fun v9 u3 H locs hq hS => ?_)
        obtain ⟨rfl, J3, ho3, hz3⟩ := hq
        have hq3 := zMQ.w hq2.2.1 hq2.1 hinj hz3 ho3
        have h_m3 : u3 mm = some (mo ad (0) (tb) (nI nd) (nI nw) (br) (nI y) (wd)) := hq3.1
        refine W.eq (g2 := F0 m 28 ls [.long (zTotal (bo i) (V i) (hd i) (J2 20 i) (10))]) rfl ?_
        refine z_tl (y := zTotal (bo i) (V i) (hd i) (J 20 i) (10)) (by rw [ho 20 (by decide)]) ?_
        refine lv_lconst (v := 0) hx hb dX7_close_28 (by decide) ?_
        refine z_lif_ne (tgt := 37) hx hb dX7_close_29 dX7_close_30 (by decide) (fun c29 => ?_) (fun c29 => ?_)
        · refine lv_iconst (v := 0) hx hb dX7_close_37 (by decide) ?_
          refine lv_istore_n (lv' := [(1, .int (0)), (2, .int (nI i)), (0, .ref (mm))]) hx hb dX7_close_38 rfl hl (by decide) rfl (fun ls hl => ?_)
          refine lv_iinc (v := nI (i + 1)) (lv' := [(2, .int (nI (i + 1))), (1, .int (0)), (0, .ref (mm))]) hx hb dX7_close_39 hl (k := 1) rfl (nI_1 _) (by decide) rfl (fun ls hl => ?_)
          refine lv_goto (tgt := 9) hx hb dX7_close_42 (by decide) ?_
          exact ih c14 _ J3 0 (by omega) (ho.trans ho3) (hq2.trans hq3) (Or.inr ⟨rfl, fun q9 => c29 (q9 i (by omega))⟩) h_m3 _ _ _ hS (lv_sub hl [0, 1, 2] rfl)
        · refine lv_iconst (v := 1) hx hb dX7_close_33 (by decide) ?_
          refine lv_goto (tgt := 38) hx hb dX7_close_34 (by decide) ?_
          refine lv_istore_n (lv' := [(1, .int (1)), (2, .int (nI i)), (0, .ref (mm))]) hx hb dX7_close_38 rfl hl (by decide) rfl (fun ls hl => ?_)
          refine lv_iinc (v := nI (i + 1)) (lv' := [(2, .int (nI (i + 1))), (1, .int (1)), (0, .ref (mm))]) hx hb dX7_close_39 hl (k := 1) rfl (nI_1 _) (by decide) rfl (fun ls hl => ?_)
          refine lv_goto (tgt := 9) hx hb dX7_close_42 (by decide) ?_
          exact ih c14 _ J3 1 (by omega) (ho.trans ho3) (hq2.trans hq3) (Or.inl ⟨rfl, fun k hk => (Nat.lt_succ_iff_lt_or_eq.mp hk).elim (fun h => hb8.2 k h) (fun h => by rw [h]; exact c29)⟩) h_m3 _ _ _ hS (lv_sub hl [0, 1, 2] rfl)
  refine lv_aload_n hx hb dX7_close_0 rfl (lv_at hl 0 rfl) ?_
  refine lv_iconst (v := 0) hx hb dX7_close_1 (by decide) ?_
  refine z_put (C := RX7) (T := TX7) (N := 45) (v := .int (0)) hx hb hts (by decide +kernel) tyX7 tyX7_ok nmX7 hown hK hS h_m rfl 0 (by decide) (hts (.fieldLink RX7 126 "PayLedgerModel" "thrown" "I") (by decide +kernel)) rfl rfl rfl (Nat.le_of_ble_eq_true rfl) dX7_close_2 (fun H locs hS => ?_)
  obtain ⟨w4, ew4⟩ : ∃ z : zw, z = va_up w (mm) (some (mo ad (0) (tb) (nI nd) (nI nw) (br) (nI y) (wd))) := ⟨_, rfl⟩
  have hS : zS (zA w sz) D w4 s.heap H locs := by rw [ew4]; exact hS
  have h4_mm : w4 (mm) = some (mo ad (0) (tb) (nI nd) (nI nw) (br) (nI y) (wd)) := by rw [ew4]; exact va_up_self _ _ _
  have hex1 : zEx w w4 [(mm, (mo ad (0) (tb) (nI nd) (nI nw) (br) (nI y) (wd)))] := ⟨(zm1 h4_mm zm0), fun a9 h9 => by rw [ew4, va_up_ne _ _ (show a9 ≠ mm from h9 (mm, (mo ad (0) (tb) (nI nd) (nI nw) (br) (nI y) (wd))) (List.mem_of_getElem? (i := 0) rfl))]⟩
  have hq1 : zMQ cs w w4 ad mm (mo ad (0) (tb) (nI nd) (nI nw) (br) (nI y) (wd)) J K := zMQ.o hM h_m hinj hex1
  refine lv_iconst (v := 1) hx hb dX7_close_5 (by decide) ?_
  refine lv_istore_n (lv' := [(1, .int (1)), (0, .ref (mm))]) hx hb dX7_close_6 rfl hl (by decide) rfl (fun ls hl => ?_)
  refine lv_iconst (v := 0) hx hb dX7_close_7 (by decide) ?_
  refine lv_istore_n (lv' := [(2, .int (0)), (1, .int (1)), (0, .ref (mm))]) hx hb dX7_close_8 rfl hl (by decide) rfl (fun ls hl => ?_)
  exact L9 0 _ J 1 (by omega) mOut.refl hq1 (Or.inl ⟨rfl, fun k hk => absurd hk (by omega)⟩) h4_mm _ _ _ hS (lv_sub hl [0, 1, 2] rfl)
set_option maxHeartbeats 4000000 in
set_option maxRecDepth 100000 in
theorem t2_X7_close (l : Launch) (D : va_G) (cs : Nat → ClassId) (w : zw) (sz : Nat) (mm : Nat) (ad : Nat → Nat) (J : Nat → Nat → Int64) (K : Nat → Nat → Int32) (th tb br wd : Int32) (bo rb pe me : Nat → Nat → Int32) (re cr ex : Nat → Nat → Int64) (en : Nat → Nat → Int32) (tx : Nat → Nat → Nat) (V P : Nat → Nat → Nat → Int64) (nb : Nat) (tn : Nat → Nat) (FF : Nat → Nat → Int64) (GF : Nat → Nat → Int32) (nd : Nat) (de so : Nat → Int32) (si ca bs : Nat → Int64) (hd : Nat → Nat) (nw : Nat) (y : Nat) (hinj : ∀ i j : Nat, i ≠ j → ad i ≠ ad j) (hM : zMA cs w ad J K) (hWs : ∀ k : Nat, k < nw → mWr J K k (bo k) (rb k) (pe k) (me k) (re k) (cr k) (ex k) (en k) (tx k) (V k) (P k) nb tn FF GF nd de so si ca bs (hd k)) (hnw : nw ≤ 10) (hy : y ≤ 6) (hev : ∀ k : Nat, k < nw → zTotal (bo k) (V k) (hd k) (J 20 k) (10) = 0) (hy6 : y = 6) (h_m : w (mm) = some (mo ad (th) (tb) (nI nd) (nI nw) (br) (nI y) (wd))) : zM l D cs yX7_close wsX7_close 9 0 0 w sz [.ref (mm)] (fun r w2 => r = some (.int 0) ∧ ∃ J' : Nat → Nat → Int64, mOut J J' ∧ zMQ cs w w2 ad mm (mo ad (2) (tb) (nI nd) (nI nw) (br) (nI y) (wd)) J' K) := by
  refine z_met (cc := cX7_close) (maxL := 5) (ret := (some .int)) (by decide) rfl (Nat.le_of_ble_eq_true rfl) ?_
  intro p e s m below meth c hx hb hr hml hown hts hlocks hnm hsz hK hE hS ls hl
  have hl : lv_has ls 5 [(0, .ref (mm))] := hl
  have L9 : ∀ (i : Nat), ∀ (u : zw) (J2 : Nat → Nat → Int64) (b : Int32), (hi : i ≤ nw) → (ho : mOut J J2) → (hq2 : zMQ cs w u ad mm (mo ad (0) (tb) (nI nd) (nI nw) (br) (nI y) (wd)) J2 K) → (hb9 : b = 1 ∧ (∀ k : Nat, k < i → zTotal (bo k) (V k) (hd k) (J 20 k) (10) = 0) ∨ b = 0 ∧ ¬ (∀ k : Nat, k < i → zTotal (bo k) (V k) (hd k) (J 20 k) (10) = 0)) → (h_m : u (mm) = some (mo ad (0) (tb) (nI nd) (nI nw) (br) (nI y) (wd))) → ∀ (H : Heap) (locs : List Loc) (ls : Array Slot), zS (zA w sz) D u s.heap H locs → lv_has ls 5 [(2, .int (nI i)), (1, .int (b)), (0, .ref (mm))] → W p l e (zR 9 0 0) s m [.ref (mm)].toArray below meth c H locs 0 0 (MQ below (zQ D w sz (fun r w2 => r = some (.int 0) ∧ ∃ J' : Nat → Nat → Int64, mOut J J' ∧ zMQ cs w w2 ad mm (mo ad (2) (tb) (nI nd) (nI nw) (br) (nI y) (wd)) J' K)) [.ref (mm)].toArray s 0 0 (zA w sz)) (F0 m 9 ls []) := by
    refine zloopU (P := fun i => ∀ (u : zw) (J2 : Nat → Nat → Int64) (b : Int32), (hi : i ≤ nw) → (ho : mOut J J2) → (hq2 : zMQ cs w u ad mm (mo ad (0) (tb) (nI nd) (nI nw) (br) (nI y) (wd)) J2 K) → (hb9 : b = 1 ∧ (∀ k : Nat, k < i → zTotal (bo k) (V k) (hd k) (J 20 k) (10) = 0) ∨ b = 0 ∧ ¬ (∀ k : Nat, k < i → zTotal (bo k) (V k) (hd k) (J 20 k) (10) = 0)) → (h_m : u (mm) = some (mo ad (0) (tb) (nI nd) (nI nw) (br) (nI y) (wd))) → ∀ (H : Heap) (locs : List Loc) (ls : Array Slot), zS (zA w sz) D u s.heap H locs → lv_has ls 5 [(2, .int (nI i)), (1, .int (b)), (0, .ref (mm))] → W p l e (zR 9 0 0) s m [.ref (mm)].toArray below meth c H locs 0 0 (MQ below (zQ D w sz (fun r w2 => r = some (.int 0) ∧ ∃ J' : Nat → Nat → Int64, mOut J J' ∧ zMQ cs w w2 ad mm (mo ad (2) (tb) (nI nd) (nI nw) (br) (nI y) (wd)) J' K)) [.ref (mm)].toArray s 0 0 (zA w sz)) (F0 m 9 ls [])) nw (fun i ih => ?_)
    intro u J2 b hi ho hq2 hb9 h_m H locs ls hS hl
    refine lv_iload_n hx hb dX7_close_9 rfl (lv_at hl 0 rfl) ?_
    refine lv_aload_n hx hb dX7_close_10 rfl (lv_at hl 2 rfl) ?_
    refine z_get (C := RX7) (T := TX7) (N := 45) (v := .int (nI nw)) hx hb hts (by decide +kernel) hown hK hS h_m rfl 21 (by decide) (hts (.fieldLink RX7 183 "PayLedgerModel" "workers" "I") (by decide +kernel)) rfl dX7_close_11 ?_
    refine lv_icmp_ge (tgt := 45) hx hb dX7_close_14 (by decide) (fun c14 => ?_) (fun c14 => ?_)
    · have hi9 : i = nw := by rcases Nat.lt_or_ge i (nw) with q | q; exact absurd c14 (nI_ge (b := nw) q (by omega)); omega
      refine lv_aload_n hx hb dX7_close_45 rfl (lv_at hl 2 rfl) ?_
      refine lv_iload_n hx hb dX7_close_46 rfl (lv_at hl 1 rfl) ?_
      refine lv_if_ne (tgt := 54) hx hb dX7_close_47 (by decide) (fun _ => ?_) (fun cq9 => absurd cq9 (by rcases hb9 with q9 | q9; rw [q9.1]; decide; exact absurd (fun k hk => hev k (by omega)) q9.2))
      refine lv_iconst (v := 0) hx hb dX7_close_54 (by decide) ?_
      refine lv_iconst (v := 1) hx hb dX7_close_55 (by decide) ?_
      refine z_rV (As := [.int (0), .int (1)]) (rest := []) (n := 2) ⟨hx, hb, hml, hown, hts⟩ (c0_X7_throwsIf l D cs u H.size mm ad (0) (tb) (nI nd) (nI nw) (br) (nI y) (wd) 1 h_m) gX7_close_X7_throwsIf rfl ⟨rfl, by decide +kernel, by decide +kernel, by decide +kernel⟩ ⟨Nat.le_of_ble_eq_true rfl, Nat.le_of_ble_eq_true rfl⟩ hK hE hS rfl h_m rfl hl.1 rfl (Nat.le_of_ble_eq_true rfl) dX7_close_56 ⟨Nat.le_of_ble_eq_true rfl, Nat.le_of_ble_eq_true rfl⟩ (fun H locs hS => ?_)
      refine lv_if_ne (tgt := 84) hx hb dX7_close_59 (by decide) (fun cq9 => absurd rfl cq9) (fun _ => ?_)
      refine lv_aload_n hx hb dX7_close_62 rfl (lv_at hl 2 rfl) ?_
      refine lv_aload_n hx hb dX7_close_63 rfl (lv_at hl 2 rfl) ?_
      refine z_get (C := RX7) (T := TX7) (N := 45) (v := .int (nI y)) hx hb hts (by decide +kernel) hown hK hS h_m rfl 23 (by decide) (hts (.fieldLink RX7 251 "PayLedgerModel" "year" "I") (by decide +kernel)) rfl dX7_close_64 ?_
      refine lv_bipush (v := 6) hx hb dX7_close_67 (by decide) ?_
      refine lv_icmp_ne (tgt := 76) hx hb dX7_close_69 (by decide) (fun cq9 => absurd (by rw [hy6]; rfl) cq9) (fun _ => ?_)
      refine lv_iconst (v := 1) hx hb dX7_close_72 (by decide) ?_
      refine lv_goto (tgt := 77) hx hb dX7_close_73 (by decide) ?_
      refine lv_iconst (v := 2) hx hb dX7_close_77 (by decide) ?_
      refine z_invV (As := [.int (1), .int (2)]) (rest := []) (n := 2) ⟨hx, hb, hml, hown, hts⟩ (c1_X7_throwsIf l D cs u H.size mm ad (0) (tb) (nI nd) (nI nw) (br) (nI y) (wd) 2 h_m) gX7_close_X7_throwsIf rfl ⟨rfl, by decide +kernel, by decide +kernel, by decide +kernel⟩ ⟨Nat.le_of_ble_eq_true rfl, Nat.le_of_ble_eq_true rfl⟩ hK hE hS rfl h_m rfl hl.1 rfl (Nat.le_of_ble_eq_true rfl) dX7_close_78 ⟨Nat.le_of_ble_eq_true rfl, Nat.le_of_ble_eq_true rfl⟩ (fun v9 u1 H locs hq hS => ?_)
      obtain ⟨rfl, hx1⟩ := hq
      have h2_mm : u1 (mm) = some (mo ad (2) (tb) (nI nd) (nI nw) (br) (nI y) (wd)) := hx1.at 0 rfl
      refine W.eq (g2 := F0 m 81 ls [.int (1)]) rfl ?_
      refine lv_if_eq (tgt := 86) hx hb dX7_close_81 (by decide) (fun cq9 => absurd cq9 (by decide)) (fun _ => ?_)
      refine lv_iconst (v := 0) hx hb dX7_close_84 (by decide) ?_
      have hex : zEx u u1 [(mm, (mo ad (2) (tb) (nI nd) (nI nw) (br) (nI y) (wd)))] := ⟨(zm1 h2_mm zm0), fun a9 h9 => by rw [hx1.2 a9 (zm1 (show a9 ≠ mm from h9 (mm, (mo ad (2) (tb) (nI nd) (nI nw) (br) (nI y) (wd))) (List.mem_of_getElem? (i := 0) rfl)) zm0)]⟩
      exact z_iret hx hb hr hlocks hS (Nat.le_of_ble_eq_true rfl) (Nat.le_of_ble_eq_true rfl) dX7_close_85 ⟨rfl, J2, ho, hq2.trans (zMQ.o hq2.2.1 hq2.1 hinj hex)⟩
    · have c14 : i < nw := by rcases Nat.lt_or_ge i (nw) with q | q; exact q; exact absurd (nI_le (a := nw) q (by omega)) c14
      refine lv_iload_n hx hb dX7_close_17 rfl (lv_at hl 1 rfl) ?_
      refine lv_if_eq (tgt := 37) hx hb dX7_close_18 (by decide) (fun c18 => ?_) (fun c18 => ?_)
      · have hb8 := hb9.resolve_left (fun q9 => by rw [q9.1] at c18; cases c18)
        refine lv_iconst (v := 0) hx hb dX7_close_37 (by decide) ?_
        refine lv_istore_n (lv' := [(1, .int (0)), (2, .int (nI i)), (0, .ref (mm))]) hx hb dX7_close_38 rfl hl (by decide) rfl (fun ls hl => ?_)
        refine lv_iinc (v := nI (i + 1)) (lv' := [(2, .int (nI (i + 1))), (1, .int (0)), (0, .ref (mm))]) hx hb dX7_close_39 hl (k := 1) rfl (nI_1 _) (by decide) rfl (fun ls hl => ?_)
        refine lv_goto (tgt := 9) hx hb dX7_close_42 (by decide) ?_
        exact ih c14 _ J2 0 (by omega) ho hq2 (Or.inr ⟨rfl, fun q9 => hb8.2 (fun k hk => q9 k (by omega))⟩) h_m _ _ _ hS (lv_sub hl [0, 1, 2] rfl)
      · have hb8 := hb9.resolve_right (fun q9 => c18 q9.1)
        refine lv_aload_n hx hb dX7_close_21 rfl (lv_at hl 2 rfl) ?_
        refine lv_iload_n hx hb dX7_close_22 rfl (lv_at hl 0 rfl) ?_
        refine lv_bipush (v := 10) hx hb dX7_close_23 (by decide) ?_
        refine z_invV (As := [.int (nI i), .int (10)]) (rest := []) (n := 2) ⟨hx, hb, hml, hown, hts⟩ (c_X7_sums l D cs u H.size mm ad J2 K 0 tb (nI nw) br (nI y) wd i (bo i) (rb i) (pe i) (me i) (re i) (cr i) (ex i) (en i) (tx i) (V i) (P i) nb tn FF GF nd de so si ca bs (hd i) (10) hinj hq2.2.1 ((hWs i c14).out ho) h_m) gX7_close_X7_sums rfl ⟨rfl, by decide +kernel, by decide +kernel, by decide +kernel⟩ ⟨Nat.le_of_ble_eq_true rfl, Nat.le_of_ble_eq_true rfl⟩ hK hE hS rfl h_m rfl hl.1 rfl (Nat.le_of_ble_eq_true rfl) dX7_close_25 ⟨Nat.le_of_ble_eq_true rfl, Nat.le_of_ble_eq_true rfl⟩ (fun v9 u3 H locs hq hS => ?_)
        obtain ⟨rfl, J3, ho3, hz3⟩ := hq
        have hq3 := zMQ.w hq2.2.1 hq2.1 hinj hz3 ho3
        have h_m3 : u3 mm = some (mo ad (0) (tb) (nI nd) (nI nw) (br) (nI y) (wd)) := hq3.1
        refine W.eq (g2 := F0 m 28 ls [.long (zTotal (bo i) (V i) (hd i) (J2 20 i) (10))]) rfl ?_
        refine z_tl (y := zTotal (bo i) (V i) (hd i) (J 20 i) (10)) (by rw [ho 20 (by decide)]) ?_
        refine lv_lconst (v := 0) hx hb dX7_close_28 (by decide) ?_
        refine z_lif_ne (tgt := 37) hx hb dX7_close_29 dX7_close_30 (by decide) (fun c29 => ?_) (fun c29 => ?_)
        · refine lv_iconst (v := 0) hx hb dX7_close_37 (by decide) ?_
          refine lv_istore_n (lv' := [(1, .int (0)), (2, .int (nI i)), (0, .ref (mm))]) hx hb dX7_close_38 rfl hl (by decide) rfl (fun ls hl => ?_)
          refine lv_iinc (v := nI (i + 1)) (lv' := [(2, .int (nI (i + 1))), (1, .int (0)), (0, .ref (mm))]) hx hb dX7_close_39 hl (k := 1) rfl (nI_1 _) (by decide) rfl (fun ls hl => ?_)
          refine lv_goto (tgt := 9) hx hb dX7_close_42 (by decide) ?_
          exact ih c14 _ J3 0 (by omega) (ho.trans ho3) (hq2.trans hq3) (Or.inr ⟨rfl, fun q9 => c29 (q9 i (by omega))⟩) h_m3 _ _ _ hS (lv_sub hl [0, 1, 2] rfl)
        · refine lv_iconst (v := 1) hx hb dX7_close_33 (by decide) ?_
          refine lv_goto (tgt := 38) hx hb dX7_close_34 (by decide) ?_
          refine lv_istore_n (lv' := [(1, .int (1)), (2, .int (nI i)), (0, .ref (mm))]) hx hb dX7_close_38 rfl hl (by decide) rfl (fun ls hl => ?_)
          refine lv_iinc (v := nI (i + 1)) (lv' := [(2, .int (nI (i + 1))), (1, .int (1)), (0, .ref (mm))]) hx hb dX7_close_39 hl (k := 1) rfl (nI_1 _) (by decide) rfl (fun ls hl => ?_)
          refine lv_goto (tgt := 9) hx hb dX7_close_42 (by decide) ?_
          exact ih c14 _ J3 1 (by omega) (ho.trans ho3) (hq2.trans hq3) (Or.inl ⟨rfl, fun k hk => (Nat.lt_succ_iff_lt_or_eq.mp hk).elim (fun h => hb8.2 k h) (fun h => by rw [h]; exact c29)⟩) h_m3 _ _ _ hS (lv_sub hl [0, 1, 2] rfl)
  refine lv_aload_n hx hb dX7_close_0 rfl (lv_at hl 0 rfl) ?_
  refine lv_iconst (v := 0) hx hb dX7_close_1 (by decide) ?_
  refine z_put (C := RX7) (T := TX7) (N := 45) (v := .int (0)) hx hb hts (by decide +kernel) tyX7 tyX7_ok nmX7 hown hK hS h_m rfl 0 (by decide) (hts (.fieldLink RX7 126 "PayLedgerModel" "thrown" "I") (by decide +kernel)) rfl rfl rfl (Nat.le_of_ble_eq_true rfl) dX7_close_2 (fun H locs hS => ?_)
  obtain ⟨w4, ew4⟩ : ∃ z : zw, z = va_up w (mm) (some (mo ad (0) (tb) (nI nd) (nI nw) (br) (nI y) (wd))) := ⟨_, rfl⟩
  have hS : zS (zA w sz) D w4 s.heap H locs := by rw [ew4]; exact hS
  have h4_mm : w4 (mm) = some (mo ad (0) (tb) (nI nd) (nI nw) (br) (nI y) (wd)) := by rw [ew4]; exact va_up_self _ _ _
  have hex1 : zEx w w4 [(mm, (mo ad (0) (tb) (nI nd) (nI nw) (br) (nI y) (wd)))] := ⟨(zm1 h4_mm zm0), fun a9 h9 => by rw [ew4, va_up_ne _ _ (show a9 ≠ mm from h9 (mm, (mo ad (0) (tb) (nI nd) (nI nw) (br) (nI y) (wd))) (List.mem_of_getElem? (i := 0) rfl))]⟩
  have hq1 : zMQ cs w w4 ad mm (mo ad (0) (tb) (nI nd) (nI nw) (br) (nI y) (wd)) J K := zMQ.o hM h_m hinj hex1
  refine lv_iconst (v := 1) hx hb dX7_close_5 (by decide) ?_
  refine lv_istore_n (lv' := [(1, .int (1)), (0, .ref (mm))]) hx hb dX7_close_6 rfl hl (by decide) rfl (fun ls hl => ?_)
  refine lv_iconst (v := 0) hx hb dX7_close_7 (by decide) ?_
  refine lv_istore_n (lv' := [(2, .int (0)), (1, .int (1)), (0, .ref (mm))]) hx hb dX7_close_8 rfl hl (by decide) rfl (fun ls hl => ?_)
  exact L9 0 _ J 1 (by omega) mOut.refl hq1 (Or.inl ⟨rfl, fun k hk => absurd hk (by omega)⟩) h4_mm _ _ _ hS (lv_sub hl [0, 1, 2] rfl)
set_option maxHeartbeats 8000000 in
set_option maxRecDepth 100000 in
theorem c_X7_close (l : Launch) (D : va_G) (cs : Nat → ClassId) (w : zw) (sz : Nat) (mm : Nat) (ad : Nat → Nat) (J : Nat → Nat → Int64) (K : Nat → Nat → Int32) (th tb br wd : Int32) (bo rb pe me : Nat → Nat → Int32) (re cr ex : Nat → Nat → Int64) (en : Nat → Nat → Int32) (tx : Nat → Nat → Nat) (V P : Nat → Nat → Nat → Int64) (nb : Nat) (tn : Nat → Nat) (FF : Nat → Nat → Int64) (GF : Nat → Nat → Int32) (nd : Nat) (de so : Nat → Int32) (si ca bs : Nat → Int64) (hd : Nat → Nat) (nw : Nat) (y : Nat) (tw : Nat → Nat) (hinj : ∀ i j : Nat, i ≠ j → ad i ≠ ad j) (hM : zMA cs w ad J K) (hWs : ∀ k : Nat, k < nw → mWr J K k (bo k) (rb k) (pe k) (me k) (re k) (cr k) (ex k) (en k) (tx k) (V k) (P k) nb tn FF GF nd de so si ca bs (hd k)) (hnw : nw ≤ 10) (hy : y ≤ 6) (hev : ∀ k : Nat, k < nw → zTotal (bo k) (V k) (hd k) (J 20 k) (10) = 0) (hy6 : y < 6) (h12 : ∀ k : Nat, k < nw → K 12 k = nI (tw k) ∧ tw k < nb) (h_m : w (mm) = some (mo ad (th) (tb) (nI nd) (nI nw) (br) (nI y) (wd))) : zM l D cs yX7_close wsX7_close 10 0 0 w sz [.ref (mm)] (fun r w2 => r = some (.int (nI y)) ∧ ∃ (J' : Nat → Nat → Int64) (K' : Nat → Nat → Int32), (∀ s : Nat, s ∉ [20, 36, 37, 38, 39, 40, 41, 42, 43] → J' s = J s) ∧ (∀ s : Nat, s ≠ 19 → K' s = K s) ∧ (∀ k : Nat, k < nw → K' 19 k = 0 ∧ J' 20 k = 0) ∧ mSts (J 36) (J' 36) y nw (fun k q => mStm (bo k) (V k) (hd k) (J 20 k) (mDuty (FF (tw k)) (GF (tw k)) (tn (tw k)) (J 16 k) (J 17 k) (zTot (bo k) (V k) (hd k) 2)) q) nw 0 ∧ zMQ cs w w2 ad mm (mo ad (0) (tb) (nI nd) (nI nw) (br) (nI (y + 1)) (wd)) J' K') := by
  refine z_met (cc := cX7_close) (maxL := 5) (ret := (some .int)) (by decide) rfl (Nat.le_of_ble_eq_true rfl) ?_
  intro p e s m below meth c hx hb hr hml hown hts hlocks hnm hsz hK hE hS ls hl
  have hl : lv_has ls 5 [(0, .ref (mm))] := hl
  have L199 : ∀ (i : Nat), ∀ (u : zw) (J7 : Nat → Nat → Int64) (K7 : Nat → Nat → Int32), (hi : i ≤ nw) → (eo7 : ∀ s : Nat, s ∉ [20, 36, 37, 38, 39, 40, 41, 42, 43] → J7 s = J s) → (ek7 : ∀ s : Nat, s ≠ 19 → K7 s = K s) → (e0 : ∀ k : Nat, k < i → K7 19 k = 0 ∧ J7 20 k = 0) → (hst : mSts (J 36) (J7 36) y nw (fun k q => mStm (bo k) (V k) (hd k) (J 20 k) (mDuty (FF (tw k)) (GF (tw k)) (tn (tw k)) (J 16 k) (J 17 k) (zTot (bo k) (V k) (hd k) 2)) q) nw 0) → (hq7 : zMQ cs w u ad mm (mo ad (0) (tb) (nI nd) (nI nw) (br) (nI y) (wd)) J7 K7) → (h_m : u (mm) = some (mo ad (0) (tb) (nI nd) (nI nw) (br) (nI y) (wd))) → (h_19 : u (ad 19) = some (eI cs (10) (K7 19))) → (h_20 : u (ad 20) = some (eJ cs (10) (J7 20))) → ∀ (H : Heap) (locs : List Loc) (ls : Array Slot), zS (zA w sz) D u s.heap H locs → lv_has ls 5 [(2, .int (nI i)), (0, .ref (mm))] → W p l e (zR 10 0 0) s m [.ref (mm)].toArray below meth c H locs 0 0 (MQ below (zQ D w sz (fun r w2 => r = some (.int (nI y)) ∧ ∃ (J' : Nat → Nat → Int64) (K' : Nat → Nat → Int32), (∀ s : Nat, s ∉ [20, 36, 37, 38, 39, 40, 41, 42, 43] → J' s = J s) ∧ (∀ s : Nat, s ≠ 19 → K' s = K s) ∧ (∀ k : Nat, k < nw → K' 19 k = 0 ∧ J' 20 k = 0) ∧ mSts (J 36) (J' 36) y nw (fun k q => mStm (bo k) (V k) (hd k) (J 20 k) (mDuty (FF (tw k)) (GF (tw k)) (tn (tw k)) (J 16 k) (J 17 k) (zTot (bo k) (V k) (hd k) 2)) q) nw 0 ∧ zMQ cs w w2 ad mm (mo ad (0) (tb) (nI nd) (nI nw) (br) (nI (y + 1)) (wd)) J' K')) [.ref (mm)].toArray s 0 0 (zA w sz)) (F0 m 199 ls []) := by
    refine zloopU (P := fun i => ∀ (u : zw) (J7 : Nat → Nat → Int64) (K7 : Nat → Nat → Int32), (hi : i ≤ nw) → (eo7 : ∀ s : Nat, s ∉ [20, 36, 37, 38, 39, 40, 41, 42, 43] → J7 s = J s) → (ek7 : ∀ s : Nat, s ≠ 19 → K7 s = K s) → (e0 : ∀ k : Nat, k < i → K7 19 k = 0 ∧ J7 20 k = 0) → (hst : mSts (J 36) (J7 36) y nw (fun k q => mStm (bo k) (V k) (hd k) (J 20 k) (mDuty (FF (tw k)) (GF (tw k)) (tn (tw k)) (J 16 k) (J 17 k) (zTot (bo k) (V k) (hd k) 2)) q) nw 0) → (hq7 : zMQ cs w u ad mm (mo ad (0) (tb) (nI nd) (nI nw) (br) (nI y) (wd)) J7 K7) → (h_m : u (mm) = some (mo ad (0) (tb) (nI nd) (nI nw) (br) (nI y) (wd))) → (h_19 : u (ad 19) = some (eI cs (10) (K7 19))) → (h_20 : u (ad 20) = some (eJ cs (10) (J7 20))) → ∀ (H : Heap) (locs : List Loc) (ls : Array Slot), zS (zA w sz) D u s.heap H locs → lv_has ls 5 [(2, .int (nI i)), (0, .ref (mm))] → W p l e (zR 10 0 0) s m [.ref (mm)].toArray below meth c H locs 0 0 (MQ below (zQ D w sz (fun r w2 => r = some (.int (nI y)) ∧ ∃ (J' : Nat → Nat → Int64) (K' : Nat → Nat → Int32), (∀ s : Nat, s ∉ [20, 36, 37, 38, 39, 40, 41, 42, 43] → J' s = J s) ∧ (∀ s : Nat, s ≠ 19 → K' s = K s) ∧ (∀ k : Nat, k < nw → K' 19 k = 0 ∧ J' 20 k = 0) ∧ mSts (J 36) (J' 36) y nw (fun k q => mStm (bo k) (V k) (hd k) (J 20 k) (mDuty (FF (tw k)) (GF (tw k)) (tn (tw k)) (J 16 k) (J 17 k) (zTot (bo k) (V k) (hd k) 2)) q) nw 0 ∧ zMQ cs w w2 ad mm (mo ad (0) (tb) (nI nd) (nI nw) (br) (nI (y + 1)) (wd)) J' K')) [.ref (mm)].toArray s 0 0 (zA w sz)) (F0 m 199 ls [])) nw (fun i ih => ?_)
    intro u J7 K7 hi eo7 ek7 e0 hst hq7 h_m h_19 h_20 H locs ls hS hl
    refine lv_iload_n hx hb dX7_close_199 rfl (lv_at hl 0 rfl) ?_
    refine lv_aload_n hx hb dX7_close_200 rfl (lv_at hl 1 rfl) ?_
    refine z_get (C := RX7) (T := TX7) (N := 45) (v := .int (nI nw)) hx hb hts (by decide +kernel) hown hK hS h_m rfl 21 (by decide) (hts (.fieldLink RX7 183 "PayLedgerModel" "workers" "I") (by decide +kernel)) rfl dX7_close_201 ?_
    refine lv_icmp_ge (tgt := 227) hx hb dX7_close_204 (by decide) (fun c204 => ?_) (fun c204 => ?_)
    · have hi9 : i = nw := by rcases Nat.lt_or_ge i (nw) with q | q; exact absurd c204 (nI_ge (b := nw) q (by omega)); omega
      refine lv_aload_n hx hb dX7_close_227 rfl (lv_at hl 1 rfl) ?_
      refine lv_dup hx hb dX7_close_228 rfl ?_
      refine z_get (C := RX7) (T := TX7) (N := 45) (v := .int (nI y)) hx hb hts (by decide +kernel) hown hK hS h_m rfl 23 (by decide) (hts (.fieldLink RX7 251 "PayLedgerModel" "year" "I") (by decide +kernel)) rfl dX7_close_229 ?_
      refine lv_iconst (v := 1) hx hb dX7_close_232 (by decide) ?_
      refine lv_iadd hx hb dX7_close_233 ?_
      refine z_ti (y := nI (y + 1)) (nI_add (y) (1)) ?_
      refine z_put (C := RX7) (T := TX7) (N := 45) (v := .int (nI (y + 1))) hx hb hts (by decide +kernel) tyX7 tyX7_ok nmX7 hown hK hS h_m rfl 23 (by decide) (hts (.fieldLink RX7 251 "PayLedgerModel" "year" "I") (by decide +kernel)) rfl rfl rfl (Nat.le_of_ble_eq_true rfl) dX7_close_234 (fun H locs hS => ?_)
      obtain ⟨w1, ew1⟩ : ∃ z : zw, z = va_up u (mm) (some (mo ad (0) (tb) (nI nd) (nI nw) (br) (nI (y + 1)) (wd))) := ⟨_, rfl⟩
      have hS : zS (zA w sz) D w1 s.heap H locs := by rw [ew1]; exact hS
      have h1_mm : w1 (mm) = some (mo ad (0) (tb) (nI nd) (nI nw) (br) (nI (y + 1)) (wd)) := by rw [ew1]; exact va_up_self _ _ _
      have h1_ad19 : w1 (ad 19) = some (eI cs (10) (K7 19)) := by rw [ew1]; exact (va_up_ne _ _ (zne h_19 h_m (by intro q9; first | cases q9 | simp at q9))).trans h_19
      have h1_ad20 : w1 (ad 20) = some (eJ cs (10) (J7 20)) := by rw [ew1]; exact (va_up_ne _ _ (zne h_20 h_m (by intro q9; first | cases q9 | simp at q9))).trans h_20
      refine lv_aload_n hx hb dX7_close_237 rfl (lv_at hl 1 rfl) ?_
      refine z_get (C := RX7) (T := TX7) (N := 45) (v := .int (nI (y + 1))) hx hb hts (by decide +kernel) hown hK hS h1_mm rfl 23 (by decide) (hts (.fieldLink RX7 251 "PayLedgerModel" "year" "I") (by decide +kernel)) rfl dX7_close_238 ?_
      refine lv_iconst (v := 1) hx hb dX7_close_241 (by decide) ?_
      refine lv_isub hx hb dX7_close_242 ?_
      refine z_ti (y := nI y) (nI_pred y) ?_
      have hex : zEx u w1 [(mm, (mo ad (0) (tb) (nI nd) (nI nw) (br) (nI (y + 1)) (wd)))] := ⟨(zm1 h1_mm zm0), fun a9 h9 => by rw [ew1, va_up_ne _ _ (show a9 ≠ mm from h9 (mm, (mo ad (0) (tb) (nI nd) (nI nw) (br) (nI (y + 1)) (wd))) (List.mem_of_getElem? (i := 0) rfl))]⟩
      exact z_iret hx hb hr hlocks hS (Nat.le_of_ble_eq_true rfl) (Nat.le_of_ble_eq_true rfl) dX7_close_243 ⟨rfl, J7, K7, eo7, ek7, (fun k hk => e0 k (by omega)), hst, hq7.trans (zMQ.o hq7.2.1 hq7.1 hinj hex)⟩
    · have c204 : i < nw := by rcases Nat.lt_or_ge i (nw) with q | q; exact q; exact absurd (nI_le (a := nw) q (by omega)) c204
      refine lv_aload_n hx hb dX7_close_207 rfl (lv_at hl 1 rfl) ?_
      refine z_get (C := RX7) (T := TX7) (N := 45) (v := .ref (ad 19)) hx hb hts (by decide +kernel) hown hK hS h_m rfl 19 (by decide) (hts (.fieldLink RX7 60 "PayLedgerModel" "many" "[I") (by decide +kernel)) rfl dX7_close_208 ?_
      refine lv_iload_n hx hb dX7_close_211 rfl (lv_at hl 0 rfl) ?_
      refine lv_iconst (v := 0) hx hb dX7_close_212 (by decide) ?_
      refine z_iast hx hb hK hS h_19 (vp_in_nI (by omega) (by decide)) dX7_close_213 (fun H locs hS => ?_)
      obtain ⟨w2, ew2⟩ : ∃ z : zw, z = va_up u (ad 19) (some (eI cs (10) (upd (K7 19) (nI i : Int32).toNatClampNeg (0)))) := ⟨_, rfl⟩
      have hS : zS (zA w sz) D w2 s.heap H locs := by rw [ew2]; exact hS
      have h2_ad19 : w2 (ad 19) = some (eI cs (10) (upd (K7 19) (nI i : Int32).toNatClampNeg (0))) := by rw [ew2]; exact va_up_self _ _ _
      have h2_mm : w2 (mm) = some (mo ad (0) (tb) (nI nd) (nI nw) (br) (nI y) (wd)) := by rw [ew2]; exact (va_up_ne _ _ (zne h_m h_19 (by intro q9; first | cases q9 | simp at q9))).trans h_m
      have h2_ad20 : w2 (ad 20) = some (eJ cs (10) (J7 20)) := by rw [ew2]; exact (va_up_ne _ _ (hinj 20 19 (by decide))).trans h_20
      have h2_ad19 : w2 (ad 19) = some (eI cs (10) (upd (K7 19) (i) (0))) := by rw [nI_clamp (by omega)] at h2_ad19; exact h2_ad19
      refine lv_aload_n hx hb dX7_close_214 rfl (lv_at hl 1 rfl) ?_
      refine z_get (C := RX7) (T := TX7) (N := 45) (v := .ref (ad 20)) hx hb hts (by decide +kernel) hown hK hS h2_mm rfl 20 (by decide) (hts (.fieldLink RX7 63 "PayLedgerModel" "settled" "[J") (by decide +kernel)) rfl dX7_close_215 ?_
      refine lv_iload_n hx hb dX7_close_218 rfl (lv_at hl 0 rfl) ?_
      refine lv_lconst (v := 0) hx hb dX7_close_219 (by decide) ?_
      refine z_last hx hb hK hS h2_ad20 (vp_in_nI (by omega) (by decide)) dX7_close_220 (fun H locs hS => ?_)
      obtain ⟨w3, ew3⟩ : ∃ z : zw, z = va_up w2 (ad 20) (some (eJ cs (10) (vp_updL (J7 20) (nI i : Int32).toNatClampNeg (0)))) := ⟨_, rfl⟩
      have hS : zS (zA w sz) D w3 s.heap H locs := by rw [ew3]; exact hS
      have h3_ad20 : w3 (ad 20) = some (eJ cs (10) (vp_updL (J7 20) (nI i : Int32).toNatClampNeg (0))) := by rw [ew3]; exact va_up_self _ _ _
      have h3_mm : w3 (mm) = some (mo ad (0) (tb) (nI nd) (nI nw) (br) (nI y) (wd)) := by rw [ew3]; exact (va_up_ne _ _ (zne h2_mm h2_ad20 (by intro q9; first | cases q9 | simp at q9))).trans h2_mm
      have h3_ad19 : w3 (ad 19) = some (eI cs (10) (upd (K7 19) (i) (0))) := by rw [ew3]; exact (va_up_ne _ _ (hinj 19 20 (by decide))).trans h2_ad19
      have h3_ad20 : w3 (ad 20) = some (eJ cs (10) (vp_updL (J7 20) (i) (0))) := by rw [nI_clamp (by omega)] at h3_ad20; exact h3_ad20
      refine lv_iinc (v := nI (i + 1)) (lv' := [(2, .int (nI (i + 1))), (0, .ref (mm))]) hx hb dX7_close_221 hl (k := 0) rfl (nI_1 _) (by decide) rfl (fun ls hl => ?_)
      have hex8 : zEx u w3 [(mm, (mo ad (0) (tb) (nI nd) (nI nw) (br) (nI y) (wd))), (ad 19, (eI cs (10) (upd (K7 19) (i) (0)))), (ad 20, (eJ cs (10) (vp_updL (J7 20) (i) (0))))] := ⟨(zm1 h3_mm (zm1 h3_ad19 (zm1 h3_ad20 zm0))), fun a9 h9 => by rw [ew3, va_up_ne _ _ (show a9 ≠ ad 20 from h9 (ad 20, (eJ cs (10) (vp_updL (J7 20) (i) (0)))) (List.mem_of_getElem? (i := 2) rfl)), ew2, va_up_ne _ _ (show a9 ≠ ad 19 from h9 (ad 19, (eI cs (10) (upd (K7 19) (i) (0)))) (List.mem_of_getElem? (i := 1) rfl))]⟩
      refine lv_goto (tgt := 199) hx hb dX7_close_224 (by decide) ?_
      exact ih c204 _ (va_up J7 20 (vp_updL (J7 20) i 0)) (va_up K7 19 (upd (K7 19) i 0)) (by omega) (fun s hs => (va_up_ne _ _ (fun q9 => hs (by rw [q9]; decide))).trans (eo7 s hs)) (fun s hs => (va_up_ne _ _ hs).trans (ek7 s hs)) (fun k hk => by rw [va_up_self, va_up_self]; exact ⟨zUpdUptoI (f := fun _ => 0) (fun j hj => (e0 j hj).1) k hk, zUpdUpto (f := fun _ => 0) (fun j hj => (e0 j hj).2) k hk⟩) (by rw [va_up_ne _ _ (by decide)]; exact hst) (hq7.trans (zMQ.of [19, 20] (by decide) hq7.2.1 hq7.1 hinj hex8 (fun s hs => va_up_ne _ _ (fun e => hs (by rw [e]; decide))) (fun s hs => va_up_ne _ _ (fun e => hs (by rw [e]; decide))))) h3_mm h3_ad19 h3_ad20 _ _ _ hS (lv_sub hl [0, 1] rfl)
  have L112 : ∀ (q : Nat), ∀ (i : Nat) (v2 : zw) (J5 : Nat → Nat → Int64), (hin : i < nw) → (hq : q ≤ 9) → (eo5 : ∀ s : Nat, s ∉ [36, 37, 38, 39, 40, 41, 42, 43] → J5 s = J s) → (hst5 : mSts (J 36) (J5 36) y nw (fun k q => mStm (bo k) (V k) (hd k) (J 20 k) (mDuty (FF (tw k)) (GF (tw k)) (tn (tw k)) (J 16 k) (J 17 k) (zTot (bo k) (V k) (hd k) 2)) q) i q) → (hq5 : zMQ cs w v2 ad mm (mo ad (0) (tb) (nI nd) (nI nw) (br) (nI y) (wd)) J5 K) → (h_m : v2 (mm) = some (mo ad (0) (tb) (nI nd) (nI nw) (br) (nI y) (wd))) → (h_36 : v2 (ad 36) = some (eJ cs (660) (J5 36))) → (kk : ∀ (v3 : zw) (J6 : Nat → Nat → Int64), (eo6 : ∀ s : Nat, s ∉ [36, 37, 38, 39, 40, 41, 42, 43] → J6 s = J s) → (hst6 : mSts (J 36) (J6 36) y nw (fun k q => mStm (bo k) (V k) (hd k) (J 20 k) (mDuty (FF (tw k)) (GF (tw k)) (tn (tw k)) (J 16 k) (J 17 k) (zTot (bo k) (V k) (hd k) 2)) q) i 9) → (hq6 : zMQ cs w v3 ad mm (mo ad (0) (tb) (nI nd) (nI nw) (br) (nI y) (wd)) J6 K) → ∀ (H : Heap) (locs : List Loc) (ls : Array Slot), zS (zA w sz) D v3 s.heap H locs → lv_has ls 5 [(3, .int (nI (11 * (10 * y + i)))), (2, .int (nI i)), (0, .ref (mm))] → W p l e (zR 10 0 0) s m [.ref (mm)].toArray below meth c H locs 0 0 (MQ below (zQ D w sz (fun r w2 => r = some (.int (nI y)) ∧ ∃ (J' : Nat → Nat → Int64) (K' : Nat → Nat → Int32), (∀ s : Nat, s ∉ [20, 36, 37, 38, 39, 40, 41, 42, 43] → J' s = J s) ∧ (∀ s : Nat, s ≠ 19 → K' s = K s) ∧ (∀ k : Nat, k < nw → K' 19 k = 0 ∧ J' 20 k = 0) ∧ mSts (J 36) (J' 36) y nw (fun k q => mStm (bo k) (V k) (hd k) (J 20 k) (mDuty (FF (tw k)) (GF (tw k)) (tn (tw k)) (J 16 k) (J 17 k) (zTot (bo k) (V k) (hd k) 2)) q) nw 0 ∧ zMQ cs w w2 ad mm (mo ad (0) (tb) (nI nd) (nI nw) (br) (nI (y + 1)) (wd)) J' K')) [.ref (mm)].toArray s 0 0 (zA w sz)) (F0 m 141 ls [])) → ∀ (H : Heap) (locs : List Loc) (ls : Array Slot), zS (zA w sz) D v2 s.heap H locs → lv_has ls 5 [(4, .int (nI q)), (3, .int (nI (11 * (10 * y + i)))), (2, .int (nI i)), (0, .ref (mm))] → W p l e (zR 10 0 0) s m [.ref (mm)].toArray below meth c H locs 0 0 (MQ below (zQ D w sz (fun r w2 => r = some (.int (nI y)) ∧ ∃ (J' : Nat → Nat → Int64) (K' : Nat → Nat → Int32), (∀ s : Nat, s ∉ [20, 36, 37, 38, 39, 40, 41, 42, 43] → J' s = J s) ∧ (∀ s : Nat, s ≠ 19 → K' s = K s) ∧ (∀ k : Nat, k < nw → K' 19 k = 0 ∧ J' 20 k = 0) ∧ mSts (J 36) (J' 36) y nw (fun k q => mStm (bo k) (V k) (hd k) (J 20 k) (mDuty (FF (tw k)) (GF (tw k)) (tn (tw k)) (J 16 k) (J 17 k) (zTot (bo k) (V k) (hd k) 2)) q) nw 0 ∧ zMQ cs w w2 ad mm (mo ad (0) (tb) (nI nd) (nI nw) (br) (nI (y + 1)) (wd)) J' K')) [.ref (mm)].toArray s 0 0 (zA w sz)) (F0 m 112 ls []) := by
    refine zloopU (P := fun q => ∀ (i : Nat) (v2 : zw) (J5 : Nat → Nat → Int64), (hin : i < nw) → (hq : q ≤ 9) → (eo5 : ∀ s : Nat, s ∉ [36, 37, 38, 39, 40, 41, 42, 43] → J5 s = J s) → (hst5 : mSts (J 36) (J5 36) y nw (fun k q => mStm (bo k) (V k) (hd k) (J 20 k) (mDuty (FF (tw k)) (GF (tw k)) (tn (tw k)) (J 16 k) (J 17 k) (zTot (bo k) (V k) (hd k) 2)) q) i q) → (hq5 : zMQ cs w v2 ad mm (mo ad (0) (tb) (nI nd) (nI nw) (br) (nI y) (wd)) J5 K) → (h_m : v2 (mm) = some (mo ad (0) (tb) (nI nd) (nI nw) (br) (nI y) (wd))) → (h_36 : v2 (ad 36) = some (eJ cs (660) (J5 36))) → (kk : ∀ (v3 : zw) (J6 : Nat → Nat → Int64), (eo6 : ∀ s : Nat, s ∉ [36, 37, 38, 39, 40, 41, 42, 43] → J6 s = J s) → (hst6 : mSts (J 36) (J6 36) y nw (fun k q => mStm (bo k) (V k) (hd k) (J 20 k) (mDuty (FF (tw k)) (GF (tw k)) (tn (tw k)) (J 16 k) (J 17 k) (zTot (bo k) (V k) (hd k) 2)) q) i 9) → (hq6 : zMQ cs w v3 ad mm (mo ad (0) (tb) (nI nd) (nI nw) (br) (nI y) (wd)) J6 K) → ∀ (H : Heap) (locs : List Loc) (ls : Array Slot), zS (zA w sz) D v3 s.heap H locs → lv_has ls 5 [(3, .int (nI (11 * (10 * y + i)))), (2, .int (nI i)), (0, .ref (mm))] → W p l e (zR 10 0 0) s m [.ref (mm)].toArray below meth c H locs 0 0 (MQ below (zQ D w sz (fun r w2 => r = some (.int (nI y)) ∧ ∃ (J' : Nat → Nat → Int64) (K' : Nat → Nat → Int32), (∀ s : Nat, s ∉ [20, 36, 37, 38, 39, 40, 41, 42, 43] → J' s = J s) ∧ (∀ s : Nat, s ≠ 19 → K' s = K s) ∧ (∀ k : Nat, k < nw → K' 19 k = 0 ∧ J' 20 k = 0) ∧ mSts (J 36) (J' 36) y nw (fun k q => mStm (bo k) (V k) (hd k) (J 20 k) (mDuty (FF (tw k)) (GF (tw k)) (tn (tw k)) (J 16 k) (J 17 k) (zTot (bo k) (V k) (hd k) 2)) q) nw 0 ∧ zMQ cs w w2 ad mm (mo ad (0) (tb) (nI nd) (nI nw) (br) (nI (y + 1)) (wd)) J' K')) [.ref (mm)].toArray s 0 0 (zA w sz)) (F0 m 141 ls [])) → ∀ (H : Heap) (locs : List Loc) (ls : Array Slot), zS (zA w sz) D v2 s.heap H locs → lv_has ls 5 [(4, .int (nI q)), (3, .int (nI (11 * (10 * y + i)))), (2, .int (nI i)), (0, .ref (mm))] → W p l e (zR 10 0 0) s m [.ref (mm)].toArray below meth c H locs 0 0 (MQ below (zQ D w sz (fun r w2 => r = some (.int (nI y)) ∧ ∃ (J' : Nat → Nat → Int64) (K' : Nat → Nat → Int32), (∀ s : Nat, s ∉ [20, 36, 37, 38, 39, 40, 41, 42, 43] → J' s = J s) ∧ (∀ s : Nat, s ≠ 19 → K' s = K s) ∧ (∀ k : Nat, k < nw → K' 19 k = 0 ∧ J' 20 k = 0) ∧ mSts (J 36) (J' 36) y nw (fun k q => mStm (bo k) (V k) (hd k) (J 20 k) (mDuty (FF (tw k)) (GF (tw k)) (tn (tw k)) (J 16 k) (J 17 k) (zTot (bo k) (V k) (hd k) 2)) q) nw 0 ∧ zMQ cs w w2 ad mm (mo ad (0) (tb) (nI nd) (nI nw) (br) (nI (y + 1)) (wd)) J' K')) [.ref (mm)].toArray s 0 0 (zA w sz)) (F0 m 112 ls [])) 9 (fun q ih => ?_)
    intro i v2 J5 hin hq eo5 hst5 hq5 h_m h_36 kk H locs ls hS hl
    refine lv_iload hx hb dX7_close_112 (lv_at hl 0 rfl) ?_
    refine lv_bipush (v := 9) hx hb dX7_close_114 (by decide) ?_
    refine lv_icmp_ge (tgt := 141) hx hb dX7_close_116 (by decide) (fun c116 => ?_) (fun c116 => ?_)
    · have hi9 : q = 9 := by rcases Nat.lt_or_ge q (9) with q | q; exact absurd c116 (nI_ge (b := 9) q (by omega)); omega
      exact kk _ J5 eo5 (by rw [hi9] at hst5; exact hst5) hq5 _ _ _ hS (lv_sub hl [1, 2, 3] rfl)
    · have c116 : q < 9 := by rcases Nat.lt_or_ge q (9) with q | q; exact q; exact absurd (nI_le (a := 9) q (by omega)) c116
      refine lv_aload_n hx hb dX7_close_119 rfl (lv_at hl 3 rfl) ?_
      refine z_get (C := RX7) (T := TX7) (N := 45) (v := .ref (ad 36)) hx hb hts (by decide +kernel) hown hK hS h_m rfl 36 (by decide) (hts (.fieldLink RX7 99 "PayLedgerModel" "statements" "[J") (by decide +kernel)) rfl dX7_close_120 ?_
      refine lv_iload_n hx hb dX7_close_123 rfl (lv_at hl 1 rfl) ?_
      refine lv_iload hx hb dX7_close_124 (lv_at hl 0 rfl) ?_
      refine lv_iadd hx hb dX7_close_126 ?_
      refine z_ti (y := nI ((11 * (10 * y + i)) + q)) (nI_add ((11 * (10 * y + i))) (q)) ?_
      refine lv_aload_n hx hb dX7_close_127 rfl (lv_at hl 3 rfl) ?_
      refine lv_iload_n hx hb dX7_close_128 rfl (lv_at hl 2 rfl) ?_
      refine lv_iload hx hb dX7_close_129 (lv_at hl 0 rfl) ?_
      refine z_invV (As := [.int (nI i), .int (nI q)]) (rest := [.int (nI ((11 * (10 * y + i)) + q)), .ref (ad 36)]) (n := 2) ⟨hx, hb, hml, hown, hts⟩ (c_X7_sums l D cs v2 H.size mm ad J5 K 0 tb (nI nw) br (nI y) wd i (bo i) (rb i) (pe i) (me i) (re i) (cr i) (ex i) (en i) (tx i) (V i) (P i) nb tn FF GF nd de so si ca bs (hd i) (nI q) hinj hq5.2.1 (((hWs i hin).of (fun s hs => eo5 s ((by decide : ∀ s ∈ [1, 8, 9, 10, 25, 32, 33, 34, 35], s ∉ [36, 37, 38, 39, 40, 41, 42, 43]) s hs)))) h_m) gX7_close_X7_sums rfl ⟨rfl, by decide +kernel, by decide +kernel, by decide +kernel⟩ ⟨Nat.le_of_ble_eq_true rfl, Nat.le_of_ble_eq_true rfl⟩ hK hE hS rfl h_m rfl hl.1 rfl (Nat.le_of_ble_eq_true rfl) dX7_close_131 ⟨Nat.le_of_ble_eq_true rfl, Nat.le_of_ble_eq_true rfl⟩ (fun v9 u4 H locs hq hS => ?_)
      obtain ⟨rfl, J8, ho8, hz8⟩ := hq
      have hq8 := zMQ.w hq5.2.1 hq5.1 hinj hz8 ho8
      have h_m8 : u4 mm = some (mo ad (0) (tb) (nI nd) (nI nw) (br) (nI y) (wd)) := hq8.1
      have h_368 : u4 (ad 36) = some (eJ cs (660) (J8 36)) := hq8.2.1 36 (by decide)
      refine W.eq (g2 := F0 m 134 ls [.long (zTotal (bo i) (V i) (hd i) (J5 20 i) (nI q)), .int (nI ((11 * (10 * y + i)) + q)), .ref (ad 36)]) rfl ?_
      refine z_tl (y := zTotal (bo i) (V i) (hd i) (J 20 i) (nI q)) (by rw [eo5 20 (by decide)]) ?_
      refine z_last hx hb hK hS h_368 (vp_in_nI (by omega) (by decide)) dX7_close_134 (fun H locs hS => ?_)
      obtain ⟨w5, ew5⟩ : ∃ z : zw, z = va_up u4 (ad 36) (some (eJ cs (660) (vp_updL (J8 36) (nI ((11 * (10 * y + i)) + q) : Int32).toNatClampNeg (zTotal (bo i) (V i) (hd i) (J 20 i) (nI q))))) := ⟨_, rfl⟩
      have hS : zS (zA w sz) D w5 s.heap H locs := by rw [ew5]; exact hS
      have h5_ad36 : w5 (ad 36) = some (eJ cs (660) (vp_updL (J8 36) (nI ((11 * (10 * y + i)) + q) : Int32).toNatClampNeg (zTotal (bo i) (V i) (hd i) (J 20 i) (nI q)))) := by rw [ew5]; exact va_up_self _ _ _
      have h5_mm : w5 (mm) = some (mo ad (0) (tb) (nI nd) (nI nw) (br) (nI y) (wd)) := by rw [ew5]; exact (va_up_ne _ _ (zne h_m8 h_368 (by intro q9; first | cases q9 | simp at q9))).trans h_m8
      have h5_ad36 : w5 (ad 36) = some (eJ cs (660) (vp_updL (J8 36) (((11 * (10 * y + i)) + q)) (zTotal (bo i) (V i) (hd i) (J 20 i) (nI q)))) := by rw [nI_clamp (by omega)] at h5_ad36; exact h5_ad36
      refine lv_iinc (v := nI (q + 1)) (lv' := [(4, .int (nI (q + 1))), (3, .int (nI (11 * (10 * y + i)))), (2, .int (nI i)), (0, .ref (mm))]) hx hb dX7_close_135 hl (k := 0) rfl (nI_1 _) (by decide) rfl (fun ls hl => ?_)
      have hexA : zEx u4 w5 [(mm, (mo ad (0) (tb) (nI nd) (nI nw) (br) (nI y) (wd))), (ad 36, (eJ cs (660) (vp_updL (J8 36) (((11 * (10 * y + i)) + q)) (zTotal (bo i) (V i) (hd i) (J 20 i) (nI q)))))] := ⟨(zm1 h5_mm (zm1 h5_ad36 zm0)), fun a9 h9 => by rw [ew5, va_up_ne _ _ (show a9 ≠ ad 36 from h9 (ad 36, (eJ cs (660) (vp_updL (J8 36) (((11 * (10 * y + i)) + q)) (zTotal (bo i) (V i) (hd i) (J 20 i) (nI q))))) (List.mem_of_getElem? (i := 1) rfl))]⟩
      refine lv_goto (tgt := 112) hx hb dX7_close_138 (by decide) ?_
      exact ih c116 i _ (va_up J8 36 (vp_updL (J8 36) (11 * (10 * y + i) + q) (zTotal (bo i) (V i) (hd i) (J 20 i) (nI q)))) hin (by omega) (fun s hs => by rw [va_up_ne _ _ (fun q9 => hs (by rw [q9]; decide)), ho8 s (fun q9 => hs (List.mem_cons_of_mem _ q9)), eo5 s hs]) (by rw [va_up_self, ho8 36 (by decide)]; exact hst5.put hin (by omega) (mStm_lt c116).symm) (hq5.trans (hq8.trans (zMQ.of [36] (by decide) hq8.2.1 hq8.1 hinj hexA (fun s hs => va_up_ne _ _ (fun e => hs (by rw [e]; decide))) (fun _ _ => rfl)))) h5_mm h5_ad36 kk _ _ _ hS (lv_sub hl [0, 1, 2, 3] rfl)
  have L88 : ∀ (i : Nat), ∀ (u : zw) (J4 : Nat → Nat → Int64), (hi : i ≤ nw) → (eo4 : ∀ s : Nat, s ∉ [36, 37, 38, 39, 40, 41, 42, 43] → J4 s = J s) → (hst4 : mSts (J 36) (J4 36) y nw (fun k q => mStm (bo k) (V k) (hd k) (J 20 k) (mDuty (FF (tw k)) (GF (tw k)) (tn (tw k)) (J 16 k) (J 17 k) (zTot (bo k) (V k) (hd k) 2)) q) i 0) → (hq4 : zMQ cs w u ad mm (mo ad (0) (tb) (nI nd) (nI nw) (br) (nI y) (wd)) J4 K) → (h_m : u (mm) = some (mo ad (0) (tb) (nI nd) (nI nw) (br) (nI y) (wd))) → (h_36 : u (ad 36) = some (eJ cs (660) (J4 36))) → ∀ (H : Heap) (locs : List Loc) (ls : Array Slot), zS (zA w sz) D u s.heap H locs → lv_has ls 5 [(2, .int (nI i)), (0, .ref (mm))] → W p l e (zR 10 0 0) s m [.ref (mm)].toArray below meth c H locs 0 0 (MQ below (zQ D w sz (fun r w2 => r = some (.int (nI y)) ∧ ∃ (J' : Nat → Nat → Int64) (K' : Nat → Nat → Int32), (∀ s : Nat, s ∉ [20, 36, 37, 38, 39, 40, 41, 42, 43] → J' s = J s) ∧ (∀ s : Nat, s ≠ 19 → K' s = K s) ∧ (∀ k : Nat, k < nw → K' 19 k = 0 ∧ J' 20 k = 0) ∧ mSts (J 36) (J' 36) y nw (fun k q => mStm (bo k) (V k) (hd k) (J 20 k) (mDuty (FF (tw k)) (GF (tw k)) (tn (tw k)) (J 16 k) (J 17 k) (zTot (bo k) (V k) (hd k) 2)) q) nw 0 ∧ zMQ cs w w2 ad mm (mo ad (0) (tb) (nI nd) (nI nw) (br) (nI (y + 1)) (wd)) J' K')) [.ref (mm)].toArray s 0 0 (zA w sz)) (F0 m 88 ls []) := by
    refine zloopU (P := fun i => ∀ (u : zw) (J4 : Nat → Nat → Int64), (hi : i ≤ nw) → (eo4 : ∀ s : Nat, s ∉ [36, 37, 38, 39, 40, 41, 42, 43] → J4 s = J s) → (hst4 : mSts (J 36) (J4 36) y nw (fun k q => mStm (bo k) (V k) (hd k) (J 20 k) (mDuty (FF (tw k)) (GF (tw k)) (tn (tw k)) (J 16 k) (J 17 k) (zTot (bo k) (V k) (hd k) 2)) q) i 0) → (hq4 : zMQ cs w u ad mm (mo ad (0) (tb) (nI nd) (nI nw) (br) (nI y) (wd)) J4 K) → (h_m : u (mm) = some (mo ad (0) (tb) (nI nd) (nI nw) (br) (nI y) (wd))) → (h_36 : u (ad 36) = some (eJ cs (660) (J4 36))) → ∀ (H : Heap) (locs : List Loc) (ls : Array Slot), zS (zA w sz) D u s.heap H locs → lv_has ls 5 [(2, .int (nI i)), (0, .ref (mm))] → W p l e (zR 10 0 0) s m [.ref (mm)].toArray below meth c H locs 0 0 (MQ below (zQ D w sz (fun r w2 => r = some (.int (nI y)) ∧ ∃ (J' : Nat → Nat → Int64) (K' : Nat → Nat → Int32), (∀ s : Nat, s ∉ [20, 36, 37, 38, 39, 40, 41, 42, 43] → J' s = J s) ∧ (∀ s : Nat, s ≠ 19 → K' s = K s) ∧ (∀ k : Nat, k < nw → K' 19 k = 0 ∧ J' 20 k = 0) ∧ mSts (J 36) (J' 36) y nw (fun k q => mStm (bo k) (V k) (hd k) (J 20 k) (mDuty (FF (tw k)) (GF (tw k)) (tn (tw k)) (J 16 k) (J 17 k) (zTot (bo k) (V k) (hd k) 2)) q) nw 0 ∧ zMQ cs w w2 ad mm (mo ad (0) (tb) (nI nd) (nI nw) (br) (nI (y + 1)) (wd)) J' K')) [.ref (mm)].toArray s 0 0 (zA w sz)) (F0 m 88 ls [])) nw (fun i ih => ?_)
    intro u J4 hi eo4 hst4 hq4 h_m h_36 H locs ls hS hl
    refine lv_iload_n hx hb dX7_close_88 rfl (lv_at hl 0 rfl) ?_
    refine lv_aload_n hx hb dX7_close_89 rfl (lv_at hl 1 rfl) ?_
    refine z_get (C := RX7) (T := TX7) (N := 45) (v := .int (nI nw)) hx hb hts (by decide +kernel) hown hK hS h_m rfl 21 (by decide) (hts (.fieldLink RX7 183 "PayLedgerModel" "workers" "I") (by decide +kernel)) rfl dX7_close_90 ?_
    refine lv_icmp_ge (tgt := 197) hx hb dX7_close_93 (by decide) (fun c93 => ?_) (fun c93 => ?_)
    · have hi9 : i = nw := by rcases Nat.lt_or_ge i (nw) with q | q; exact absurd c93 (nI_ge (b := nw) q (by omega)); omega
      have h_19x : u (ad 19) = some (eI cs (10) (K 19)) := hq4.2.1 19 (by decide)
      have h_20x : u (ad 20) = some (eJ cs (10) (J4 20)) := hq4.2.1 20 (by decide)
      refine lv_iconst (v := 0) hx hb dX7_close_197 (by decide) ?_
      refine lv_istore_n (lv' := [(2, .int (0)), (0, .ref (mm))]) hx hb dX7_close_198 rfl hl (by decide) rfl (fun ls hl => ?_)
      exact L199 0 _ J4 K (by omega) (fun s hs => eo4 s (fun q9 => hs (List.mem_cons_of_mem _ q9))) (fun _ _ => rfl) (fun k hk => absurd hk (by omega)) (by rw [hi9] at hst4; exact hst4) hq4 h_m h_19x h_20x _ _ _ hS (lv_sub hl [0, 1] rfl)
    · have c93 : i < nw := by rcases Nat.lt_or_ge i (nw) with q | q; exact q; exact absurd (nI_le (a := nw) q (by omega)) c93
      refine lv_bipush (v := 11) hx hb dX7_close_96 (by decide) ?_
      refine lv_bipush (v := 10) hx hb dX7_close_98 (by decide) ?_
      refine lv_aload_n hx hb dX7_close_100 rfl (lv_at hl 1 rfl) ?_
      refine z_get (C := RX7) (T := TX7) (N := 45) (v := .int (nI y)) hx hb hts (by decide +kernel) hown hK hS h_m rfl 23 (by decide) (hts (.fieldLink RX7 251 "PayLedgerModel" "year" "I") (by decide +kernel)) rfl dX7_close_101 ?_
      refine lv_imul hx hb dX7_close_104 ?_
      refine z_ti (y := nI (10 * y)) (zI_mul (10) (y)) ?_
      refine lv_iload_n hx hb dX7_close_105 rfl (lv_at hl 0 rfl) ?_
      refine lv_iadd hx hb dX7_close_106 ?_
      refine z_ti (y := nI ((10 * y) + i)) (nI_add ((10 * y)) (i)) ?_
      refine lv_imul hx hb dX7_close_107 ?_
      refine z_ti (y := nI (11 * ((10 * y) + i))) (zI_mul (11) (((10 * y) + i))) ?_
      refine lv_istore_n (lv' := [(3, .int (nI (11 * ((10 * y) + i)))), (2, .int (nI i)), (0, .ref (mm))]) hx hb dX7_close_108 rfl hl (by decide) rfl (fun ls hl => ?_)
      refine lv_iconst (v := 0) hx hb dX7_close_109 (by decide) ?_
      refine lv_istore (lv' := [(4, .int (0)), (3, .int (nI (11 * ((10 * y) + i)))), (2, .int (nI i)), (0, .ref (mm))]) hx hb dX7_close_110 hl (by decide) rfl (fun ls hl => ?_)
      refine L112 0 i _ J4 c93 (by omega) eo4 hst4 hq4 h_m h_36 (fun v3 J6 eo6 hst6 hq6 H locs ls hS hl => ?_) _ _ _ hS (lv_sub hl [0, 1, 2, 3] rfl)
      have h_m9 : v3 mm = some (mo ad (0) (tb) (nI nd) (nI nw) (br) (nI y) (wd)) := hq6.1
      have h_369 : v3 (ad 36) = some (eJ cs (660) (J6 36)) := hq6.2.1 36 (by decide)
      refine lv_aload_n hx hb dX7_close_141 rfl (lv_at hl 2 rfl) ?_
      refine z_get (C := RX7) (T := TX7) (N := 45) (v := .ref (ad 36)) hx hb hts (by decide +kernel) hown hK hS h_m9 rfl 36 (by decide) (hts (.fieldLink RX7 99 "PayLedgerModel" "statements" "[J") (by decide +kernel)) rfl dX7_close_142 ?_
      refine lv_iload_n hx hb dX7_close_145 rfl (lv_at hl 0 rfl) ?_
      refine lv_bipush (v := 9) hx hb dX7_close_146 (by decide) ?_
      refine lv_iadd hx hb dX7_close_148 ?_
      refine z_ti (y := nI ((11 * (10 * y + i)) + 9)) (nI_add ((11 * (10 * y + i))) (9)) ?_
      refine lv_aload_n hx hb dX7_close_149 rfl (lv_at hl 2 rfl) ?_
      refine lv_iload_n hx hb dX7_close_150 rfl (lv_at hl 1 rfl) ?_
      refine z_invV (As := [.int (nI i)]) (rest := [.int (nI ((11 * (10 * y + i)) + 9)), .ref (ad 36)]) (n := 1) ⟨hx, hb, hml, hown, hts⟩ (c_X7_dutyOf l D cs v3 H.size mm ad J6 K 0 tb (nI nw) br (nI y) wd i (bo i) (rb i) (pe i) (me i) (re i) (cr i) (ex i) (en i) (tx i) (V i) (P i) nb tn FF GF nd de so si ca bs (hd i) (tw i) hinj hq6.2.1 ((hWs i c93).of (fun s hs => eo6 s ((by decide : ∀ s ∈ [1, 8, 9, 10, 25, 32, 33, 34, 35], s ∉ [36, 37, 38, 39, 40, 41, 42, 43]) s hs))) (h12 i c93).1 (h12 i c93).2 h_m9) gX7_close_X7_dutyOf rfl ⟨rfl, by decide +kernel, by decide +kernel, by decide +kernel⟩ ⟨Nat.le_of_ble_eq_true rfl, Nat.le_of_ble_eq_true rfl⟩ hK hE hS rfl h_m9 rfl hl.1 rfl (Nat.le_of_ble_eq_true rfl) dX7_close_151 ⟨Nat.le_of_ble_eq_true rfl, Nat.le_of_ble_eq_true rfl⟩ (fun v9 u6 H locs hq hS => ?_)
      obtain ⟨rfl, J8, ho8, hz8⟩ := hq
      have hq8 := zMQ.w hq6.2.1 hq6.1 hinj hz8 ho8
      have h_m8 : u6 mm = some (mo ad (0) (tb) (nI nd) (nI nw) (br) (nI y) (wd)) := hq8.1
      have h_368 : u6 (ad 36) = some (eJ cs (660) (J8 36)) := hq8.2.1 36 (by decide)
      refine W.eq (g2 := F0 m 154 ls [.long (mDuty (FF (tw i)) (GF (tw i)) (tn (tw i)) (J6 16 i) (J6 17 i) (zTot (bo i) (V i) (hd i) 2)), .int (nI ((11 * (10 * y + i)) + 9)), .ref (ad 36)]) rfl ?_
      refine z_tl (y := mDuty (FF (tw i)) (GF (tw i)) (tn (tw i)) (J 16 i) (J 17 i) (zTot (bo i) (V i) (hd i) 2)) (by rw [eo6 16 (by decide), eo6 17 (by decide)]) ?_
      refine z_last hx hb hK hS h_368 (vp_in_nI (by omega) (by decide)) dX7_close_154 (fun H locs hS => ?_)
      obtain ⟨w7, ew7⟩ : ∃ z : zw, z = va_up u6 (ad 36) (some (eJ cs (660) (vp_updL (J8 36) (nI ((11 * (10 * y + i)) + 9) : Int32).toNatClampNeg (mDuty (FF (tw i)) (GF (tw i)) (tn (tw i)) (J 16 i) (J 17 i) (zTot (bo i) (V i) (hd i) 2))))) := ⟨_, rfl⟩
      have hS : zS (zA w sz) D w7 s.heap H locs := by rw [ew7]; exact hS
      have h7_ad36 : w7 (ad 36) = some (eJ cs (660) (vp_updL (J8 36) (nI ((11 * (10 * y + i)) + 9) : Int32).toNatClampNeg (mDuty (FF (tw i)) (GF (tw i)) (tn (tw i)) (J 16 i) (J 17 i) (zTot (bo i) (V i) (hd i) 2)))) := by rw [ew7]; exact va_up_self _ _ _
      have h7_mm : w7 (mm) = some (mo ad (0) (tb) (nI nd) (nI nw) (br) (nI y) (wd)) := by rw [ew7]; exact (va_up_ne _ _ (zne h_m8 h_368 (by intro q9; first | cases q9 | simp at q9))).trans h_m8
      have h7_ad36 : w7 (ad 36) = some (eJ cs (660) (vp_updL (J8 36) (((11 * (10 * y + i)) + 9)) (mDuty (FF (tw i)) (GF (tw i)) (tn (tw i)) (J 16 i) (J 17 i) (zTot (bo i) (V i) (hd i) 2)))) := by rw [nI_clamp (by omega)] at h7_ad36; exact h7_ad36
      refine lv_aload_n hx hb dX7_close_155 rfl (lv_at hl 2 rfl) ?_
      refine z_get (C := RX7) (T := TX7) (N := 45) (v := .ref (ad 36)) hx hb hts (by decide +kernel) hown hK hS h7_mm rfl 36 (by decide) (hts (.fieldLink RX7 99 "PayLedgerModel" "statements" "[J") (by decide +kernel)) rfl dX7_close_156 ?_
      refine lv_iload_n hx hb dX7_close_159 rfl (lv_at hl 0 rfl) ?_
      refine lv_bipush (v := 10) hx hb dX7_close_160 (by decide) ?_
      refine lv_iadd hx hb dX7_close_162 ?_
      refine z_ti (y := nI ((11 * (10 * y + i)) + 10)) (nI_add ((11 * (10 * y + i))) (10)) ?_
      refine lv_aload_n hx hb dX7_close_163 rfl (lv_at hl 2 rfl) ?_
      refine z_get (C := RX7) (T := TX7) (N := 45) (v := .ref (ad 36)) hx hb hts (by decide +kernel) hown hK hS h7_mm rfl 36 (by decide) (hts (.fieldLink RX7 99 "PayLedgerModel" "statements" "[J") (by decide +kernel)) rfl dX7_close_164 ?_
      refine lv_iload_n hx hb dX7_close_167 rfl (lv_at hl 0 rfl) ?_
      refine lv_iconst (v := 3) hx hb dX7_close_168 (by decide) ?_
      refine lv_iadd hx hb dX7_close_169 ?_
      refine z_ti (y := nI ((11 * (10 * y + i)) + 3)) (nI_add ((11 * (10 * y + i))) (3)) ?_
      refine z_lald hx hb hK hS h7_ad36 (vp_in_nI (by omega) (by decide)) dX7_close_170 ?_
      refine z_tl (y := ((vp_updL (J8 36) (((11 * (10 * y + i)) + 9)) (mDuty (FF (tw i)) (GF (tw i)) (tn (tw i)) (J 16 i) (J 17 i) (zTot (bo i) (V i) (hd i) 2))) (((11 * (10 * y + i)) + 3)))) (congrArg _ (nI_clamp (by omega))) ?_
      refine z_tl (y := zTotal (bo i) (V i) (hd i) (J 20 i) (3)) (by rw [vpL_ne _ _ (by omega), ho8 36 (by decide), hst6.2.1 3 (by decide)]; exact mStm_lt (q := 3) (by decide)) ?_
      refine lv_aload_n hx hb dX7_close_171 rfl (lv_at hl 2 rfl) ?_
      refine z_get (C := RX7) (T := TX7) (N := 45) (v := .ref (ad 36)) hx hb hts (by decide +kernel) hown hK hS h7_mm rfl 36 (by decide) (hts (.fieldLink RX7 99 "PayLedgerModel" "statements" "[J") (by decide +kernel)) rfl dX7_close_172 ?_
      refine lv_iload_n hx hb dX7_close_175 rfl (lv_at hl 0 rfl) ?_
      refine lv_iconst (v := 4) hx hb dX7_close_176 (by decide) ?_
      refine lv_iadd hx hb dX7_close_177 ?_
      refine z_ti (y := nI ((11 * (10 * y + i)) + 4)) (nI_add ((11 * (10 * y + i))) (4)) ?_
      refine z_lald hx hb hK hS h7_ad36 (vp_in_nI (by omega) (by decide)) dX7_close_178 ?_
      refine z_tl (y := ((vp_updL (J8 36) (((11 * (10 * y + i)) + 9)) (mDuty (FF (tw i)) (GF (tw i)) (tn (tw i)) (J 16 i) (J 17 i) (zTot (bo i) (V i) (hd i) 2))) (((11 * (10 * y + i)) + 4)))) (congrArg _ (nI_clamp (by omega))) ?_
      refine z_tl (y := zTotal (bo i) (V i) (hd i) (J 20 i) (4)) (by rw [vpL_ne _ _ (by omega), ho8 36 (by decide), hst6.2.1 4 (by decide)]; exact mStm_lt (q := 4) (by decide)) ?_
      refine lv_ladd hx hb dX7_close_179 ?_
      refine lv_aload_n hx hb dX7_close_180 rfl (lv_at hl 2 rfl) ?_
      refine z_get (C := RX7) (T := TX7) (N := 45) (v := .ref (ad 36)) hx hb hts (by decide +kernel) hown hK hS h7_mm rfl 36 (by decide) (hts (.fieldLink RX7 99 "PayLedgerModel" "statements" "[J") (by decide +kernel)) rfl dX7_close_181 ?_
      refine lv_iload_n hx hb dX7_close_184 rfl (lv_at hl 0 rfl) ?_
      refine lv_bipush (v := 9) hx hb dX7_close_185 (by decide) ?_
      refine lv_iadd hx hb dX7_close_187 ?_
      refine z_ti (y := nI ((11 * (10 * y + i)) + 9)) (nI_add ((11 * (10 * y + i))) (9)) ?_
      refine z_lald hx hb hK hS h7_ad36 (vp_in_nI (by omega) (by decide)) dX7_close_188 ?_
      refine z_tl (y := ((vp_updL (J8 36) (((11 * (10 * y + i)) + 9)) (mDuty (FF (tw i)) (GF (tw i)) (tn (tw i)) (J 16 i) (J 17 i) (zTot (bo i) (V i) (hd i) 2))) (((11 * (10 * y + i)) + 9)))) (congrArg _ (nI_clamp (by omega))) ?_
      refine z_tl (y := mDuty (FF (tw i)) (GF (tw i)) (tn (tw i)) (J 16 i) (J 17 i) (zTot (bo i) (V i) (hd i) 2)) (vpL_self _ _ _) ?_
      refine lv_lsub hx hb dX7_close_189 ?_
      refine z_last hx hb hK hS h7_ad36 (vp_in_nI (by omega) (by decide)) dX7_close_190 (fun H locs hS => ?_)
      obtain ⟨w8, ew8⟩ : ∃ z : zw, z = va_up w7 (ad 36) (some (eJ cs (660) (vp_updL (vp_updL (J8 36) (((11 * (10 * y + i)) + 9)) (mDuty (FF (tw i)) (GF (tw i)) (tn (tw i)) (J 16 i) (J 17 i) (zTot (bo i) (V i) (hd i) 2))) (nI ((11 * (10 * y + i)) + 10) : Int32).toNatClampNeg (((zTotal (bo i) (V i) (hd i) (J 20 i) (3) + zTotal (bo i) (V i) (hd i) (J 20 i) (4)) - mDuty (FF (tw i)) (GF (tw i)) (tn (tw i)) (J 16 i) (J 17 i) (zTot (bo i) (V i) (hd i) 2)))))) := ⟨_, rfl⟩
      have hS : zS (zA w sz) D w8 s.heap H locs := by rw [ew8]; exact hS
      have h8_ad36 : w8 (ad 36) = some (eJ cs (660) (vp_updL (vp_updL (J8 36) (((11 * (10 * y + i)) + 9)) (mDuty (FF (tw i)) (GF (tw i)) (tn (tw i)) (J 16 i) (J 17 i) (zTot (bo i) (V i) (hd i) 2))) (nI ((11 * (10 * y + i)) + 10) : Int32).toNatClampNeg (((zTotal (bo i) (V i) (hd i) (J 20 i) (3) + zTotal (bo i) (V i) (hd i) (J 20 i) (4)) - mDuty (FF (tw i)) (GF (tw i)) (tn (tw i)) (J 16 i) (J 17 i) (zTot (bo i) (V i) (hd i) 2))))) := by rw [ew8]; exact va_up_self _ _ _
      have h8_mm : w8 (mm) = some (mo ad (0) (tb) (nI nd) (nI nw) (br) (nI y) (wd)) := by rw [ew8]; exact (va_up_ne _ _ (zne h7_mm h7_ad36 (by intro q9; first | cases q9 | simp at q9))).trans h7_mm
      have h8_ad36 : w8 (ad 36) = some (eJ cs (660) (vp_updL (vp_updL (J8 36) (((11 * (10 * y + i)) + 9)) (mDuty (FF (tw i)) (GF (tw i)) (tn (tw i)) (J 16 i) (J 17 i) (zTot (bo i) (V i) (hd i) 2))) (((11 * (10 * y + i)) + 10)) (((zTotal (bo i) (V i) (hd i) (J 20 i) (3) + zTotal (bo i) (V i) (hd i) (J 20 i) (4)) - mDuty (FF (tw i)) (GF (tw i)) (tn (tw i)) (J 16 i) (J 17 i) (zTot (bo i) (V i) (hd i) 2))))) := by rw [nI_clamp (by omega)] at h8_ad36; exact h8_ad36
      refine lv_iinc (v := nI (i + 1)) (lv' := [(2, .int (nI (i + 1))), (3, .int (nI (11 * (10 * y + i)))), (0, .ref (mm))]) hx hb dX7_close_191 hl (k := 1) rfl (nI_1 _) (by decide) rfl (fun ls hl => ?_)
      have hexB : zEx u6 w8 [(mm, (mo ad (0) (tb) (nI nd) (nI nw) (br) (nI y) (wd))), (ad 36, (eJ cs (660) (vp_updL (vp_updL (J8 36) (((11 * (10 * y + i)) + 9)) (mDuty (FF (tw i)) (GF (tw i)) (tn (tw i)) (J 16 i) (J 17 i) (zTot (bo i) (V i) (hd i) 2))) (((11 * (10 * y + i)) + 10)) (((zTotal (bo i) (V i) (hd i) (J 20 i) (3) + zTotal (bo i) (V i) (hd i) (J 20 i) (4)) - mDuty (FF (tw i)) (GF (tw i)) (tn (tw i)) (J 16 i) (J 17 i) (zTot (bo i) (V i) (hd i) 2))))))] := ⟨(zm1 h8_mm (zm1 h8_ad36 zm0)), fun a9 h9 => by rw [ew8, va_up_ne _ _ (show a9 ≠ ad 36 from h9 (ad 36, (eJ cs (660) (vp_updL (vp_updL (J8 36) (((11 * (10 * y + i)) + 9)) (mDuty (FF (tw i)) (GF (tw i)) (tn (tw i)) (J 16 i) (J 17 i) (zTot (bo i) (V i) (hd i) 2))) (((11 * (10 * y + i)) + 10)) (((zTotal (bo i) (V i) (hd i) (J 20 i) (3) + zTotal (bo i) (V i) (hd i) (J 20 i) (4)) - mDuty (FF (tw i)) (GF (tw i)) (tn (tw i)) (J 16 i) (J 17 i) (zTot (bo i) (V i) (hd i) 2)))))) (List.mem_of_getElem? (i := 1) rfl)), ew7, va_up_ne _ _ (show a9 ≠ ad 36 from h9 (ad 36, (eJ cs (660) (vp_updL (vp_updL (J8 36) (((11 * (10 * y + i)) + 9)) (mDuty (FF (tw i)) (GF (tw i)) (tn (tw i)) (J 16 i) (J 17 i) (zTot (bo i) (V i) (hd i) 2))) (((11 * (10 * y + i)) + 10)) (((zTotal (bo i) (V i) (hd i) (J 20 i) (3) + zTotal (bo i) (V i) (hd i) (J 20 i) (4)) - mDuty (FF (tw i)) (GF (tw i)) (tn (tw i)) (J 16 i) (J 17 i) (zTot (bo i) (V i) (hd i) 2)))))) (List.mem_of_getElem? (i := 1) rfl))]⟩
      refine lv_goto (tgt := 88) hx hb dX7_close_194 (by decide) ?_
      exact ih c93 _ (va_up J8 36 (vp_updL (vp_updL (J8 36) (11 * (10 * y + i) + 9) (mDuty (FF (tw i)) (GF (tw i)) (tn (tw i)) (J 16 i) (J 17 i) (zTot (bo i) (V i) (hd i) 2))) (11 * (10 * y + i) + 10) (zTotal (bo i) (V i) (hd i) (J 20 i) (3) + zTotal (bo i) (V i) (hd i) (J 20 i) (4) - mDuty (FF (tw i)) (GF (tw i)) (tn (tw i)) (J 16 i) (J 17 i) (zTot (bo i) (V i) (hd i) 2)))) (by omega) (fun s hs => by rw [va_up_ne _ _ (fun q9 => hs (by rw [q9]; decide)), ho8 s (fun q9 => hs (List.mem_cons_of_mem _ q9)), eo6 s hs]) (by rw [va_up_self, ho8 36 (by decide)]; exact ((hst6.put c93 (by omega) mStm_9.symm).put c93 (by omega) mStm_10.symm).next) (hq6.trans (hq8.trans (zMQ.of [36] (by decide) hq8.2.1 hq8.1 hinj hexB (fun s hs => va_up_ne _ _ (fun e => hs (by rw [e]; decide))) (fun _ _ => rfl)))) h8_mm h8_ad36 _ _ _ hS (lv_sub hl [0, 2] rfl)
  have L9 : ∀ (i : Nat), ∀ (u : zw) (J2 : Nat → Nat → Int64) (b : Int32), (hi : i ≤ nw) → (ho : mOut J J2) → (hq2 : zMQ cs w u ad mm (mo ad (0) (tb) (nI nd) (nI nw) (br) (nI y) (wd)) J2 K) → (hb9 : b = 1 ∧ (∀ k : Nat, k < i → zTotal (bo k) (V k) (hd k) (J 20 k) (10) = 0) ∨ b = 0 ∧ ¬ (∀ k : Nat, k < i → zTotal (bo k) (V k) (hd k) (J 20 k) (10) = 0)) → (h_m : u (mm) = some (mo ad (0) (tb) (nI nd) (nI nw) (br) (nI y) (wd))) → ∀ (H : Heap) (locs : List Loc) (ls : Array Slot), zS (zA w sz) D u s.heap H locs → lv_has ls 5 [(2, .int (nI i)), (1, .int (b)), (0, .ref (mm))] → W p l e (zR 10 0 0) s m [.ref (mm)].toArray below meth c H locs 0 0 (MQ below (zQ D w sz (fun r w2 => r = some (.int (nI y)) ∧ ∃ (J' : Nat → Nat → Int64) (K' : Nat → Nat → Int32), (∀ s : Nat, s ∉ [20, 36, 37, 38, 39, 40, 41, 42, 43] → J' s = J s) ∧ (∀ s : Nat, s ≠ 19 → K' s = K s) ∧ (∀ k : Nat, k < nw → K' 19 k = 0 ∧ J' 20 k = 0) ∧ mSts (J 36) (J' 36) y nw (fun k q => mStm (bo k) (V k) (hd k) (J 20 k) (mDuty (FF (tw k)) (GF (tw k)) (tn (tw k)) (J 16 k) (J 17 k) (zTot (bo k) (V k) (hd k) 2)) q) nw 0 ∧ zMQ cs w w2 ad mm (mo ad (0) (tb) (nI nd) (nI nw) (br) (nI (y + 1)) (wd)) J' K')) [.ref (mm)].toArray s 0 0 (zA w sz)) (F0 m 9 ls []) := by
    refine zloopU (P := fun i => ∀ (u : zw) (J2 : Nat → Nat → Int64) (b : Int32), (hi : i ≤ nw) → (ho : mOut J J2) → (hq2 : zMQ cs w u ad mm (mo ad (0) (tb) (nI nd) (nI nw) (br) (nI y) (wd)) J2 K) → (hb9 : b = 1 ∧ (∀ k : Nat, k < i → zTotal (bo k) (V k) (hd k) (J 20 k) (10) = 0) ∨ b = 0 ∧ ¬ (∀ k : Nat, k < i → zTotal (bo k) (V k) (hd k) (J 20 k) (10) = 0)) → (h_m : u (mm) = some (mo ad (0) (tb) (nI nd) (nI nw) (br) (nI y) (wd))) → ∀ (H : Heap) (locs : List Loc) (ls : Array Slot), zS (zA w sz) D u s.heap H locs → lv_has ls 5 [(2, .int (nI i)), (1, .int (b)), (0, .ref (mm))] → W p l e (zR 10 0 0) s m [.ref (mm)].toArray below meth c H locs 0 0 (MQ below (zQ D w sz (fun r w2 => r = some (.int (nI y)) ∧ ∃ (J' : Nat → Nat → Int64) (K' : Nat → Nat → Int32), (∀ s : Nat, s ∉ [20, 36, 37, 38, 39, 40, 41, 42, 43] → J' s = J s) ∧ (∀ s : Nat, s ≠ 19 → K' s = K s) ∧ (∀ k : Nat, k < nw → K' 19 k = 0 ∧ J' 20 k = 0) ∧ mSts (J 36) (J' 36) y nw (fun k q => mStm (bo k) (V k) (hd k) (J 20 k) (mDuty (FF (tw k)) (GF (tw k)) (tn (tw k)) (J 16 k) (J 17 k) (zTot (bo k) (V k) (hd k) 2)) q) nw 0 ∧ zMQ cs w w2 ad mm (mo ad (0) (tb) (nI nd) (nI nw) (br) (nI (y + 1)) (wd)) J' K')) [.ref (mm)].toArray s 0 0 (zA w sz)) (F0 m 9 ls [])) nw (fun i ih => ?_)
    intro u J2 b hi ho hq2 hb9 h_m H locs ls hS hl
    refine lv_iload_n hx hb dX7_close_9 rfl (lv_at hl 0 rfl) ?_
    refine lv_aload_n hx hb dX7_close_10 rfl (lv_at hl 2 rfl) ?_
    refine z_get (C := RX7) (T := TX7) (N := 45) (v := .int (nI nw)) hx hb hts (by decide +kernel) hown hK hS h_m rfl 21 (by decide) (hts (.fieldLink RX7 183 "PayLedgerModel" "workers" "I") (by decide +kernel)) rfl dX7_close_11 ?_
    refine lv_icmp_ge (tgt := 45) hx hb dX7_close_14 (by decide) (fun c14 => ?_) (fun c14 => ?_)
    · have hi9 : i = nw := by rcases Nat.lt_or_ge i (nw) with q | q; exact absurd c14 (nI_ge (b := nw) q (by omega)); omega
      refine lv_aload_n hx hb dX7_close_45 rfl (lv_at hl 2 rfl) ?_
      refine lv_iload_n hx hb dX7_close_46 rfl (lv_at hl 1 rfl) ?_
      refine lv_if_ne (tgt := 54) hx hb dX7_close_47 (by decide) (fun _ => ?_) (fun cq9 => absurd cq9 (by rcases hb9 with q9 | q9; rw [q9.1]; decide; exact absurd (fun k hk => hev k (by omega)) q9.2))
      refine lv_iconst (v := 0) hx hb dX7_close_54 (by decide) ?_
      refine lv_iconst (v := 1) hx hb dX7_close_55 (by decide) ?_
      refine z_rV (As := [.int (0), .int (1)]) (rest := []) (n := 2) ⟨hx, hb, hml, hown, hts⟩ (c0_X7_throwsIf l D cs u H.size mm ad (0) (tb) (nI nd) (nI nw) (br) (nI y) (wd) 1 h_m) gX7_close_X7_throwsIf rfl ⟨rfl, by decide +kernel, by decide +kernel, by decide +kernel⟩ ⟨Nat.le_of_ble_eq_true rfl, Nat.le_of_ble_eq_true rfl⟩ hK hE hS rfl h_m rfl hl.1 rfl (Nat.le_of_ble_eq_true rfl) dX7_close_56 ⟨Nat.le_of_ble_eq_true rfl, Nat.le_of_ble_eq_true rfl⟩ (fun H locs hS => ?_)
      refine lv_if_ne (tgt := 84) hx hb dX7_close_59 (by decide) (fun cq9 => absurd rfl cq9) (fun _ => ?_)
      refine lv_aload_n hx hb dX7_close_62 rfl (lv_at hl 2 rfl) ?_
      refine lv_aload_n hx hb dX7_close_63 rfl (lv_at hl 2 rfl) ?_
      refine z_get (C := RX7) (T := TX7) (N := 45) (v := .int (nI y)) hx hb hts (by decide +kernel) hown hK hS h_m rfl 23 (by decide) (hts (.fieldLink RX7 251 "PayLedgerModel" "year" "I") (by decide +kernel)) rfl dX7_close_64 ?_
      refine lv_bipush (v := 6) hx hb dX7_close_67 (by decide) ?_
      refine lv_icmp_ne (tgt := 76) hx hb dX7_close_69 (by decide) (fun _ => ?_) (fun cq9 => absurd cq9 (fun q9 => by have := (nI_eq (a := y) (b := 6) (by omega) (by omega)).mp q9; omega))
      refine lv_iconst (v := 0) hx hb dX7_close_76 (by decide) ?_
      refine lv_iconst (v := 2) hx hb dX7_close_77 (by decide) ?_
      refine z_rV (As := [.int (0), .int (2)]) (rest := []) (n := 2) ⟨hx, hb, hml, hown, hts⟩ (c0_X7_throwsIf l D cs u H.size mm ad (0) (tb) (nI nd) (nI nw) (br) (nI y) (wd) 2 h_m) gX7_close_X7_throwsIf rfl ⟨rfl, by decide +kernel, by decide +kernel, by decide +kernel⟩ ⟨Nat.le_of_ble_eq_true rfl, Nat.le_of_ble_eq_true rfl⟩ hK hE hS rfl h_m rfl hl.1 rfl (Nat.le_of_ble_eq_true rfl) dX7_close_78 ⟨Nat.le_of_ble_eq_true rfl, Nat.le_of_ble_eq_true rfl⟩ (fun H locs hS => ?_)
      refine lv_if_eq (tgt := 86) hx hb dX7_close_81 (by decide) (fun _ => ?_) (fun cq9 => absurd rfl cq9)
      have h_36x : u (ad 36) = some (eJ cs (660) (J2 36)) := hq2.2.1 36 (by decide)
      refine lv_iconst (v := 0) hx hb dX7_close_86 (by decide) ?_
      refine lv_istore_n (lv' := [(2, .int (0)), (1, .int (b)), (0, .ref (mm))]) hx hb dX7_close_87 rfl hl (by decide) rfl (fun ls hl => ?_)
      exact L88 0 _ J2 (by omega) (fun s hs => ho s (fun q9 => hs (List.mem_cons_of_mem _ q9))) (by rw [ho 36 (by decide)]; exact mSts.zero) hq2 h_m h_36x _ _ _ hS (lv_sub hl [0, 2] rfl)
    · have c14 : i < nw := by rcases Nat.lt_or_ge i (nw) with q | q; exact q; exact absurd (nI_le (a := nw) q (by omega)) c14
      refine lv_iload_n hx hb dX7_close_17 rfl (lv_at hl 1 rfl) ?_
      refine lv_if_eq (tgt := 37) hx hb dX7_close_18 (by decide) (fun c18 => ?_) (fun c18 => ?_)
      · have hb8 := hb9.resolve_left (fun q9 => by rw [q9.1] at c18; cases c18)
        refine lv_iconst (v := 0) hx hb dX7_close_37 (by decide) ?_
        refine lv_istore_n (lv' := [(1, .int (0)), (2, .int (nI i)), (0, .ref (mm))]) hx hb dX7_close_38 rfl hl (by decide) rfl (fun ls hl => ?_)
        refine lv_iinc (v := nI (i + 1)) (lv' := [(2, .int (nI (i + 1))), (1, .int (0)), (0, .ref (mm))]) hx hb dX7_close_39 hl (k := 1) rfl (nI_1 _) (by decide) rfl (fun ls hl => ?_)
        refine lv_goto (tgt := 9) hx hb dX7_close_42 (by decide) ?_
        exact ih c14 _ J2 0 (by omega) ho hq2 (Or.inr ⟨rfl, fun q9 => hb8.2 (fun k hk => q9 k (by omega))⟩) h_m _ _ _ hS (lv_sub hl [0, 1, 2] rfl)
      · have hb8 := hb9.resolve_right (fun q9 => c18 q9.1)
        refine lv_aload_n hx hb dX7_close_21 rfl (lv_at hl 2 rfl) ?_
        refine lv_iload_n hx hb dX7_close_22 rfl (lv_at hl 0 rfl) ?_
        refine lv_bipush (v := 10) hx hb dX7_close_23 (by decide) ?_
        refine z_invV (As := [.int (nI i), .int (10)]) (rest := []) (n := 2) ⟨hx, hb, hml, hown, hts⟩ (c_X7_sums l D cs u H.size mm ad J2 K 0 tb (nI nw) br (nI y) wd i (bo i) (rb i) (pe i) (me i) (re i) (cr i) (ex i) (en i) (tx i) (V i) (P i) nb tn FF GF nd de so si ca bs (hd i) (10) hinj hq2.2.1 ((hWs i c14).out ho) h_m) gX7_close_X7_sums rfl ⟨rfl, by decide +kernel, by decide +kernel, by decide +kernel⟩ ⟨Nat.le_of_ble_eq_true rfl, Nat.le_of_ble_eq_true rfl⟩ hK hE hS rfl h_m rfl hl.1 rfl (Nat.le_of_ble_eq_true rfl) dX7_close_25 ⟨Nat.le_of_ble_eq_true rfl, Nat.le_of_ble_eq_true rfl⟩ (fun v9 u9 H locs hq hS => ?_)
        obtain ⟨rfl, J3, ho3, hz3⟩ := hq
        have hq3 := zMQ.w hq2.2.1 hq2.1 hinj hz3 ho3
        have h_m3 : u9 mm = some (mo ad (0) (tb) (nI nd) (nI nw) (br) (nI y) (wd)) := hq3.1
        refine W.eq (g2 := F0 m 28 ls [.long (zTotal (bo i) (V i) (hd i) (J2 20 i) (10))]) rfl ?_
        refine z_tl (y := zTotal (bo i) (V i) (hd i) (J 20 i) (10)) (by rw [ho 20 (by decide)]) ?_
        refine lv_lconst (v := 0) hx hb dX7_close_28 (by decide) ?_
        refine z_lif_ne (tgt := 37) hx hb dX7_close_29 dX7_close_30 (by decide) (fun c29 => ?_) (fun c29 => ?_)
        · refine lv_iconst (v := 0) hx hb dX7_close_37 (by decide) ?_
          refine lv_istore_n (lv' := [(1, .int (0)), (2, .int (nI i)), (0, .ref (mm))]) hx hb dX7_close_38 rfl hl (by decide) rfl (fun ls hl => ?_)
          refine lv_iinc (v := nI (i + 1)) (lv' := [(2, .int (nI (i + 1))), (1, .int (0)), (0, .ref (mm))]) hx hb dX7_close_39 hl (k := 1) rfl (nI_1 _) (by decide) rfl (fun ls hl => ?_)
          refine lv_goto (tgt := 9) hx hb dX7_close_42 (by decide) ?_
          exact ih c14 _ J3 0 (by omega) (ho.trans ho3) (hq2.trans hq3) (Or.inr ⟨rfl, fun q9 => c29 (q9 i (by omega))⟩) h_m3 _ _ _ hS (lv_sub hl [0, 1, 2] rfl)
        · refine lv_iconst (v := 1) hx hb dX7_close_33 (by decide) ?_
          refine lv_goto (tgt := 38) hx hb dX7_close_34 (by decide) ?_
          refine lv_istore_n (lv' := [(1, .int (1)), (2, .int (nI i)), (0, .ref (mm))]) hx hb dX7_close_38 rfl hl (by decide) rfl (fun ls hl => ?_)
          refine lv_iinc (v := nI (i + 1)) (lv' := [(2, .int (nI (i + 1))), (1, .int (1)), (0, .ref (mm))]) hx hb dX7_close_39 hl (k := 1) rfl (nI_1 _) (by decide) rfl (fun ls hl => ?_)
          refine lv_goto (tgt := 9) hx hb dX7_close_42 (by decide) ?_
          exact ih c14 _ J3 1 (by omega) (ho.trans ho3) (hq2.trans hq3) (Or.inl ⟨rfl, fun k hk => (Nat.lt_succ_iff_lt_or_eq.mp hk).elim (fun h => hb8.2 k h) (fun h => by rw [h]; exact c29)⟩) h_m3 _ _ _ hS (lv_sub hl [0, 1, 2] rfl)
  refine lv_aload_n hx hb dX7_close_0 rfl (lv_at hl 0 rfl) ?_
  refine lv_iconst (v := 0) hx hb dX7_close_1 (by decide) ?_
  refine z_put (C := RX7) (T := TX7) (N := 45) (v := .int (0)) hx hb hts (by decide +kernel) tyX7 tyX7_ok nmX7 hown hK hS h_m rfl 0 (by decide) (hts (.fieldLink RX7 126 "PayLedgerModel" "thrown" "I") (by decide +kernel)) rfl rfl rfl (Nat.le_of_ble_eq_true rfl) dX7_close_2 (fun H locs hS => ?_)
  obtain ⟨w10, ew10⟩ : ∃ z : zw, z = va_up w (mm) (some (mo ad (0) (tb) (nI nd) (nI nw) (br) (nI y) (wd))) := ⟨_, rfl⟩
  have hS : zS (zA w sz) D w10 s.heap H locs := by rw [ew10]; exact hS
  have h10_mm : w10 (mm) = some (mo ad (0) (tb) (nI nd) (nI nw) (br) (nI y) (wd)) := by rw [ew10]; exact va_up_self _ _ _
  have hex1 : zEx w w10 [(mm, (mo ad (0) (tb) (nI nd) (nI nw) (br) (nI y) (wd)))] := ⟨(zm1 h10_mm zm0), fun a9 h9 => by rw [ew10, va_up_ne _ _ (show a9 ≠ mm from h9 (mm, (mo ad (0) (tb) (nI nd) (nI nw) (br) (nI y) (wd))) (List.mem_of_getElem? (i := 0) rfl))]⟩
  have hq1 : zMQ cs w w10 ad mm (mo ad (0) (tb) (nI nd) (nI nw) (br) (nI y) (wd)) J K := zMQ.o hM h_m hinj hex1
  refine lv_iconst (v := 1) hx hb dX7_close_5 (by decide) ?_
  refine lv_istore_n (lv' := [(1, .int (1)), (0, .ref (mm))]) hx hb dX7_close_6 rfl hl (by decide) rfl (fun ls hl => ?_)
  refine lv_iconst (v := 0) hx hb dX7_close_7 (by decide) ?_
  refine lv_istore_n (lv' := [(2, .int (0)), (1, .int (1)), (0, .ref (mm))]) hx hb dX7_close_8 rfl hl (by decide) rfl (fun ls hl => ?_)
  exact L9 0 _ J 1 (by omega) mOut.refl hq1 (Or.inl ⟨rfl, fun k hk => absurd hk (by omega)⟩) h10_mm _ _ _ hS (lv_sub hl [0, 1, 2] rfl)
