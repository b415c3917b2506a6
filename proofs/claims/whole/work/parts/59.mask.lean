/-! ===== the model: line .. count ===== -/
set_option maxHeartbeats 4000000 in
set_option maxRecDepth 100000 in
theorem t1_X7_line (l : Launch) (D : va_G) (cs : Nat → ClassId) (w : zw) (sz : Nat) (mm : Nat) (ad : Nat → Nat) (J : Nat → Nat → Int64) (K : Nat → Nat → Int32) (th tb dd br yr wd : Int32) (nw : Nat) (x i what : Int32) (hinj : ∀ i j : Nat, i ≠ j → ad i ≠ ad j) (hM : zMA cs w ad J K) (hnw : nw ≤ 10) (hx9 : ∀ k : Nat, k < nw → x ≠ nI k) (h_m : w (mm) = some (mo ad (th) (tb) (dd) (nI nw) (br) (yr) (wd))) : zM l D cs yX7_line wsX7_line 3 0 0 w sz [.ref (mm), .int (x), .int (i), .int (what)] (fun r w2 => r = some (.long 0) ∧ zMQ cs w w2 ad mm (mo ad (1) (tb) (dd) (nI nw) (br) (yr) (wd)) J K) := by
  refine z_met (cc := cX7_line) (maxL := 4) (ret := (some .long)) (by decide) rfl (Nat.le_of_ble_eq_true rfl) ?_
  intro p e s m below meth c hx hb hr hml hown hts hlocks hnm hsz hK hE hS ls hl
  have hl : lv_has ls 4 [(0, .ref (mm)), (1, .int (x)), (2, .int (i)), (3, .int (what))] := hl
  refine lv_aload_n hx hb dX7_line_0 rfl (lv_at hl 0 rfl) ?_
  refine lv_iconst (v := 0) hx hb dX7_line_1 (by decide) ?_
  refine z_put (C := RX7) (T := TX7) (N := 45) (v := .int (0)) hx hb hts (by decide +kernel) tyX7 tyX7_ok nmX7 hown hK hS h_m rfl 0 (by decide) (hts (.fieldLink RX7 126 "PayLedgerModel" "thrown" "I") (by decide +kernel)) rfl rfl rfl (Nat.le_of_ble_eq_true rfl) dX7_line_2 (fun H locs hS => ?_)
  obtain ⟨w1, ew1⟩ : ∃ z : zw, z = va_up w (mm) (some (mo ad (0) (tb) (dd) (nI nw) (br) (yr) (wd))) := ⟨_, rfl⟩
  have hS : zS (zA w sz) D w1 s.heap H locs := by rw [ew1]; exact hS
  have h1_mm : w1 (mm) = some (mo ad (0) (tb) (dd) (nI nw) (br) (yr) (wd)) := by rw [ew1]; exact va_up_self _ _ _
  refine lv_aload_n hx hb dX7_line_5 rfl (lv_at hl 0 rfl) ?_
  refine lv_aload_n hx hb dX7_line_6 rfl (lv_at hl 0 rfl) ?_
  refine lv_iload_n hx hb dX7_line_7 rfl (lv_at hl 1 rfl) ?_
  refine z_rV (As := [.int (x)]) (rest := [.ref (mm)]) (n := 1) ⟨hx, hb, hml, hown, hts⟩ (n_X7_noWorker l D cs w1 H.size mm ad (0) (tb) (dd) (br) (yr) (wd) nw x (by omega) hx9 h1_mm) gX7_line_X7_noWorker rfl ⟨rfl, by decide +kernel, by decide +kernel, by decide +kernel⟩ ⟨Nat.le_of_ble_eq_true rfl, Nat.le_of_ble_eq_true rfl⟩ hK hE hS rfl h1_mm rfl hl.1 rfl (Nat.le_of_ble_eq_true rfl) dX7_line_8 ⟨Nat.le_of_ble_eq_true rfl, Nat.le_of_ble_eq_true rfl⟩ (fun H locs hS => ?_)
  refine lv_iconst (v := 1) hx hb dX7_line_11 (by decide) ?_
  refine z_invV (As := [.int (1), .int (1)]) (rest := []) (n := 2) ⟨hx, hb, hml, hown, hts⟩ (c1_X7_throwsIf l D cs w1 H.size mm ad (0) (tb) (dd) (nI nw) (br) (yr) (wd) 1 h1_mm) gX7_line_X7_throwsIf rfl ⟨rfl, by decide +kernel, by decide +kernel, by decide +kernel⟩ ⟨Nat.le_of_ble_eq_true rfl, Nat.le_of_ble_eq_true rfl⟩ hK hE hS rfl h1_mm rfl hl.1 rfl (Nat.le_of_ble_eq_true rfl) dX7_line_12 ⟨Nat.le_of_ble_eq_true rfl, Nat.le_of_ble_eq_true rfl⟩ (fun v9 u2 H locs hq hS => ?_)
  obtain ⟨rfl, hx2⟩ := hq
  have h3_mm : u2 (mm) = some (mo ad (1) (tb) (dd) (nI nw) (br) (yr) (wd)) := hx2.at 0 rfl
  refine W.eq (g2 := F0 m 15 ls [.int (1)]) rfl ?_
  refine lv_if_ne (tgt := 70) hx hb dX7_line_15 (by decide) (fun _ => ?_) (fun cq9 => absurd cq9 (by decide))
  refine lv_lconst (v := 0) hx hb dX7_line_70 (by decide) ?_
  have hex : zEx w u2 [(mm, (mo ad (1) (tb) (dd) (nI nw) (br) (yr) (wd)))] := ⟨(zm1 h3_mm zm0), fun a9 h9 => by rw [hx2.2 a9 (zm1 (show a9 ≠ mm from h9 (mm, (mo ad (1) (tb) (dd) (nI nw) (br) (yr) (wd))) (List.mem_of_getElem? (i := 0) rfl)) zm0), ew1, va_up_ne _ _ (show a9 ≠ mm from h9 (mm, (mo ad (1) (tb) (dd) (nI nw) (br) (yr) (wd))) (List.mem_of_getElem? (i := 0) rfl))]⟩
  exact z_lret hx hb hr hlocks hS (Nat.le_of_ble_eq_true rfl) (Nat.le_of_ble_eq_true rfl) dX7_line_71 ⟨rfl, zMQ.o hM h_m hinj hex⟩
set_option maxHeartbeats 4000000 in
set_option maxRecDepth 100000 in
theorem t2_X7_line (l : Launch) (D : va_G) (cs : Nat → ClassId) (w : zw) (sz : Nat) (mm : Nat) (ad : Nat → Nat) (J : Nat → Nat → Int64) (K : Nat → Nat → Int32) (th tb dd br yr wd : Int32) (nw wi n : Nat) (i what : Int32) (hinj : ∀ i j : Nat, i ≠ j → ad i ≠ ad j) (hM : zMA cs w ad J K) (hnw : nw ≤ 10) (hwi : wi < nw) (h19 : K 19 wi = nI n) (hn : n ≤ 60) (hi9 : ∀ k : Nat, k < n → i ≠ nI k) (h_m : w (mm) = some (mo ad (th) (tb) (dd) (nI nw) (br) (yr) (wd))) : zM l D cs yX7_line wsX7_line 3 0 0 w sz [.ref (mm), .int (nI wi), .int (i), .int (what)] (fun r w2 => r = some (.long 0) ∧ zMQ cs w w2 ad mm (mo ad (2) (tb) (dd) (nI nw) (br) (yr) (wd)) J K) := by
  refine z_met (cc := cX7_line) (maxL := 4) (ret := (some .long)) (by decide) rfl (Nat.le_of_ble_eq_true rfl) ?_
  intro p e s m below meth c hx hb hr hml hown hts hlocks hnm hsz hK hE hS ls hl
  have hl : lv_has ls 4 [(0, .ref (mm)), (1, .int (nI wi)), (2, .int (i)), (3, .int (what))] := hl
  have h_19 : w (ad 19) = some (eI cs (10) (K 19)) := hM 19 (by decide)
  refine lv_aload_n hx hb dX7_line_0 rfl (lv_at hl 0 rfl) ?_
  refine lv_iconst (v := 0) hx hb dX7_line_1 (by decide) ?_
  refine z_put (C := RX7) (T := TX7) (N := 45) (v := .int (0)) hx hb hts (by decide +kernel) tyX7 tyX7_ok nmX7 hown hK hS h_m rfl 0 (by decide) (hts (.fieldLink RX7 126 "PayLedgerModel" "thrown" "I") (by decide +kernel)) rfl rfl rfl (Nat.le_of_ble_eq_true rfl) dX7_line_2 (fun H locs hS => ?_)
  obtain ⟨w1, ew1⟩ : ∃ z : zw, z = va_up w (mm) (some (mo ad (0) (tb) (dd) (nI nw) (br) (yr) (wd))) := ⟨_, rfl⟩
  have hS : zS (zA w sz) D w1 s.heap H locs := by rw [ew1]; exact hS
  have h1_mm : w1 (mm) = some (mo ad (0) (tb) (dd) (nI nw) (br) (yr) (wd)) := by rw [ew1]; exact va_up_self _ _ _
  have h1_ad19 : w1 (ad 19) = some (eI cs (10) (K 19)) := by rw [ew1]; exact (va_up_ne _ _ (zne h_19 h_m (by intro q9; first | cases q9 | simp at q9))).trans h_19
  refine lv_aload_n hx hb dX7_line_5 rfl (lv_at hl 0 rfl) ?_
  refine lv_aload_n hx hb dX7_line_6 rfl (lv_at hl 0 rfl) ?_
  refine lv_iload_n hx hb dX7_line_7 rfl (lv_at hl 1 rfl) ?_
  refine z_rV (As := [.int (nI wi)]) (rest := [.ref (mm)]) (n := 1) ⟨hx, hb, hml, hown, hts⟩ (c_X7_noWorker l D cs w1 H.size mm ad (0) (tb) (dd) (br) (yr) (wd) nw wi (by omega) hwi h1_mm) gX7_line_X7_noWorker rfl ⟨rfl, by decide +kernel, by decide +kernel, by decide +kernel⟩ ⟨Nat.le_of_ble_eq_true rfl, Nat.le_of_ble_eq_true rfl⟩ hK hE hS rfl h1_mm rfl hl.1 rfl (Nat.le_of_ble_eq_true rfl) dX7_line_8 ⟨Nat.le_of_ble_eq_true rfl, Nat.le_of_ble_eq_true rfl⟩ (fun H locs hS => ?_)
  refine lv_iconst (v := 1) hx hb dX7_line_11 (by decide) ?_
  refine z_rV (As := [.int (0), .int (1)]) (rest := []) (n := 2) ⟨hx, hb, hml, hown, hts⟩ (c0_X7_throwsIf l D cs w1 H.size mm ad (0) (tb) (dd) (nI nw) (br) (yr) (wd) 1 h1_mm) gX7_line_X7_throwsIf rfl ⟨rfl, by decide +kernel, by decide +kernel, by decide +kernel⟩ ⟨Nat.le_of_ble_eq_true rfl, Nat.le_of_ble_eq_true rfl⟩ hK hE hS rfl h1_mm rfl hl.1 rfl (Nat.le_of_ble_eq_true rfl) dX7_line_12 ⟨Nat.le_of_ble_eq_true rfl, Nat.le_of_ble_eq_true rfl⟩ (fun H locs hS => ?_)
  refine lv_if_ne (tgt := 70) hx hb dX7_line_15 (by decide) (fun cq9 => absurd rfl cq9) (fun _ => ?_)
  refine lv_aload_n hx hb dX7_line_18 rfl (lv_at hl 0 rfl) ?_
  refine lv_iload_n hx hb dX7_line_19 rfl (lv_at hl 2 rfl) ?_
  refine lv_if_lt (tgt := 33) hx hb dX7_line_20 (by decide) (fun c20 => ?_) (fun c20 => ?_)
  · refine lv_iconst (v := 1) hx hb dX7_line_33 (by decide) ?_
    refine lv_goto (tgt := 38) hx hb dX7_line_34 (by decide) ?_
    refine lv_iconst (v := 2) hx hb dX7_line_38 (by decide) ?_
    refine z_invV (As := [.int (1), .int (2)]) (rest := []) (n := 2) ⟨hx, hb, hml, hown, hts⟩ (c1_X7_throwsIf l D cs w1 H.size mm ad (0) (tb) (dd) (nI nw) (br) (yr) (wd) 2 h1_mm) gX7_line_X7_throwsIf rfl ⟨rfl, by decide +kernel, by decide +kernel, by decide +kernel⟩ ⟨Nat.le_of_ble_eq_true rfl, Nat.le_of_ble_eq_true rfl⟩ hK hE hS rfl h1_mm rfl hl.1 rfl (Nat.le_of_ble_eq_true rfl) dX7_line_39 ⟨Nat.le_of_ble_eq_true rfl, Nat.le_of_ble_eq_true rfl⟩ (fun v9 u2 H locs hq hS => ?_)
    obtain ⟨rfl, hx2⟩ := hq
    have h3_mm : u2 (mm) = some (mo ad (2) (tb) (dd) (nI nw) (br) (yr) (wd)) := hx2.at 0 rfl
    have h3_ad19 : u2 (ad 19) = some (eI cs (10) (K 19)) := hx2.old h1_ad19 (zm1 (zne h1_ad19 h1_mm (by intro q9; first | cases q9 | simp at q9)) zm0)
    refine W.eq (g2 := F0 m 42 ls [.int (1)]) rfl ?_
    refine lv_if_ne (tgt := 70) hx hb dX7_line_42 (by decide) (fun _ => ?_) (fun cq9 => absurd cq9 (by decide))
    refine lv_lconst (v := 0) hx hb dX7_line_70 (by decide) ?_
    have hex : zEx w u2 [(mm, (mo ad (2) (tb) (dd) (nI nw) (br) (yr) (wd)))] := ⟨(zm1 h3_mm zm0), fun a9 h9 => by rw [hx2.2 a9 (zm1 (show a9 ≠ mm from h9 (mm, (mo ad (2) (tb) (dd) (nI nw) (br) (yr) (wd))) (List.mem_of_getElem? (i := 0) rfl)) zm0), ew1, va_up_ne _ _ (show a9 ≠ mm from h9 (mm, (mo ad (2) (tb) (dd) (nI nw) (br) (yr) (wd))) (List.mem_of_getElem? (i := 0) rfl))]⟩
    exact z_lret hx hb hr hlocks hS (Nat.le_of_ble_eq_true rfl) (Nat.le_of_ble_eq_true rfl) dX7_line_71 ⟨rfl, zMQ.o hM h_m hinj hex⟩
  · refine lv_iload_n hx hb dX7_line_23 rfl (lv_at hl 2 rfl) ?_
    refine lv_aload_n hx hb dX7_line_24 rfl (lv_at hl 0 rfl) ?_
    refine z_get (C := RX7) (T := TX7) (N := 45) (v := .ref (ad 19)) hx hb hts (by decide +kernel) hown hK hS h1_mm rfl 19 (by decide) (hts (.fieldLink RX7 60 "PayLedgerModel" "many" "[I") (by decide +kernel)) rfl dX7_line_25 ?_
    refine lv_iload_n hx hb dX7_line_28 rfl (lv_at hl 1 rfl) ?_
    refine z_iald hx hb hK hS h1_ad19 (vp_in_nI (by omega) (by decide)) dX7_line_29 ?_
    refine z_ti (y := ((K 19) (wi))) (congrArg _ (nI_clamp (by omega))) ?_
    refine z_ti (y := nI n) h19 ?_
    refine lv_icmp_lt (tgt := 37) hx hb dX7_line_30 (by decide) (fun cq9 => absurd cq9 (fun q9 => by obtain ⟨j9, h91, h92⟩ := zI32_of c20 q9 (by omega); exact hi9 j9 h91 h92)) (fun _ => ?_)
    refine lv_iconst (v := 1) hx hb dX7_line_33 (by decide) ?_
    refine lv_goto (tgt := 38) hx hb dX7_line_34 (by decide) ?_
    refine lv_iconst (v := 2) hx hb dX7_line_38 (by decide) ?_
    refine z_invV (As := [.int (1), .int (2)]) (rest := []) (n := 2) ⟨hx, hb, hml, hown, hts⟩ (c1_X7_throwsIf l D cs w1 H.size mm ad (0) (tb) (dd) (nI nw) (br) (yr) (wd) 2 h1_mm) gX7_line_X7_throwsIf rfl ⟨rfl, by decide +kernel, by decide +kernel, by decide +kernel⟩ ⟨Nat.le_of_ble_eq_true rfl, Nat.le_of_ble_eq_true rfl⟩ hK hE hS rfl h1_mm rfl hl.1 rfl (Nat.le_of_ble_eq_true rfl) dX7_line_39 ⟨Nat.le_of_ble_eq_true rfl, Nat.le_of_ble_eq_true rfl⟩ (fun v9 u4 H locs hq hS => ?_)
    obtain ⟨rfl, hx4⟩ := hq
    have h5_mm : u4 (mm) = some (mo ad (2) (tb) (dd) (nI nw) (br) (yr) (wd)) := hx4.at 0 rfl
    have h5_ad19 : u4 (ad 19) = some (eI cs (10) (K 19)) := hx4.old h1_ad19 (zm1 (zne h1_ad19 h1_mm (by intro q9; first | cases q9 | simp at q9)) zm0)
    refine W.eq (g2 := F0 m 42 ls [.int (1)]) rfl ?_
    refine lv_if_ne (tgt := 70) hx hb dX7_line_42 (by decide) (fun _ => ?_) (fun cq9 => absurd cq9 (by decide))
    refine lv_lconst (v := 0) hx hb dX7_line_70 (by decide) ?_
    have hex : zEx w u4 [(mm, (mo ad (2) (tb) (dd) (nI nw) (br) (yr) (wd)))] := ⟨(zm1 h5_mm zm0), fun a9 h9 => by rw [hx4.2 a9 (zm1 (show a9 ≠ mm from h9 (mm, (mo ad (2) (tb) (dd) (nI nw) (br) (yr) (wd))) (List.mem_of_getElem? (i := 0) rfl)) zm0), ew1, va_up_ne _ _ (show a9 ≠ mm from h9 (mm, (mo ad (2) (tb) (dd) (nI nw) (br) (yr) (wd))) (List.mem_of_getElem? (i := 0) rfl))]⟩
    exact z_lret hx hb hr hlocks hS (Nat.le_of_ble_eq_true rfl) (Nat.le_of_ble_eq_true rfl) dX7_line_71 ⟨rfl, zMQ.o hM h_m hinj hex⟩
set_option maxHeartbeats 4000000 in
set_option maxRecDepth 100000 in
theorem t3_X7_line (l : Launch) (D : va_G) (cs : Nat → ClassId) (w : zw) (sz : Nat) (mm : Nat) (ad : Nat → Nat) (J : Nat → Nat → Int64) (K : Nat → Nat → Int32) (th tb dd br yr wd : Int32) (nw wi n i : Nat) (what : Int32) (hinj : ∀ i j : Nat, i ≠ j → ad i ≠ ad j) (hM : zMA cs w ad J K) (hnw : nw ≤ 10) (hwi : wi < nw) (h19 : K 19 wi = nI n) (hn : n ≤ 60) (hi : i < n) (hwh : zUpTo what.toInt64 8 = 0) (h_m : w (mm) = some (mo ad (th) (tb) (dd) (nI nw) (br) (yr) (wd))) : zM l D cs yX7_line wsX7_line 3 0 0 w sz [.ref (mm), .int (nI wi), .int (nI i), .int (what)] (fun r w2 => r = some (.long 0) ∧ zMQ cs w w2 ad mm (mo ad (3) (tb) (dd) (nI nw) (br) (yr) (wd)) J K) := by
  refine z_met (cc := cX7_line) (maxL := 4) (ret := (some .long)) (by decide) rfl (Nat.le_of_ble_eq_true rfl) ?_
  intro p e s m below meth c hx hb hr hml hown hts hlocks hnm hsz hK hE hS ls hl
  have hl : lv_has ls 4 [(0, .ref (mm)), (1, .int (nI wi)), (2, .int (nI i)), (3, .int (what))] := hl
  have h_19 : w (ad 19) = some (eI cs (10) (K 19)) := hM 19 (by decide)
  refine lv_aload_n hx hb dX7_line_0 rfl (lv_at hl 0 rfl) ?_
  refine lv_iconst (v := 0) hx hb dX7_line_1 (by decide) ?_
  refine z_put (C := RX7) (T := TX7) (N := 45) (v := .int (0)) hx hb hts (by decide +kernel) tyX7 tyX7_ok nmX7 hown hK hS h_m rfl 0 (by decide) (hts (.fieldLink RX7 126 "PayLedgerModel" "thrown" "I") (by decide +kernel)) rfl rfl rfl (Nat.le_of_ble_eq_true rfl) dX7_line_2 (fun H locs hS => ?_)
  obtain ⟨w1, ew1⟩ : ∃ z : zw, z = va_up w (mm) (some (mo ad (0) (tb) (dd) (nI nw) (br) (yr) (wd))) := ⟨_, rfl⟩
  have hS : zS (zA w sz) D w1 s.heap H locs := by rw [ew1]; exact hS
  have h1_mm : w1 (mm) = some (mo ad (0) (tb) (dd) (nI nw) (br) (yr) (wd)) := by rw [ew1]; exact va_up_self _ _ _
  have h1_ad19 : w1 (ad 19) = some (eI cs (10) (K 19)) := by rw [ew1]; exact (va_up_ne _ _ (zne h_19 h_m (by intro q9; first | cases q9 | simp at q9))).trans h_19
  refine lv_aload_n hx hb dX7_line_5 rfl (lv_at hl 0 rfl) ?_
  refine lv_aload_n hx hb dX7_line_6 rfl (lv_at hl 0 rfl) ?_
  refine lv_iload_n hx hb dX7_line_7 rfl (lv_at hl 1 rfl) ?_
  refine z_rV (As := [.int (nI wi)]) (rest := [.ref (mm)]) (n := 1) ⟨hx, hb, hml, hown, hts⟩ (c_X7_noWorker l D cs w1 H.size mm ad (0) (tb) (dd) (br) (yr) (wd) nw wi (by omega) hwi h1_mm) gX7_line_X7_noWorker rfl ⟨rfl, by decide +kernel, by decide +kernel, by decide +kernel⟩ ⟨Nat.le_of_ble_eq_true rfl, Nat.le_of_ble_eq_true rfl⟩ hK hE hS rfl h1_mm rfl hl.1 rfl (Nat.le_of_ble_eq_true rfl) dX7_line_8 ⟨Nat.le_of_ble_eq_true rfl, Nat.le_of_ble_eq_true rfl⟩ (fun H locs hS => ?_)
  refine lv_iconst (v := 1) hx hb dX7_line_11 (by decide) ?_
  refine z_rV (As := [.int (0), .int (1)]) (rest := []) (n := 2) ⟨hx, hb, hml, hown, hts⟩ (c0_X7_throwsIf l D cs w1 H.size mm ad (0) (tb) (dd) (nI nw) (br) (yr) (wd) 1 h1_mm) gX7_line_X7_throwsIf rfl ⟨rfl, by decide +kernel, by decide +kernel, by decide +kernel⟩ ⟨Nat.le_of_ble_eq_true rfl, Nat.le_of_ble_eq_true rfl⟩ hK hE hS rfl h1_mm rfl hl.1 rfl (Nat.le_of_ble_eq_true rfl) dX7_line_12 ⟨Nat.le_of_ble_eq_true rfl, Nat.le_of_ble_eq_true rfl⟩ (fun H locs hS => ?_)
  refine lv_if_ne (tgt := 70) hx hb dX7_line_15 (by decide) (fun cq9 => absurd rfl cq9) (fun _ => ?_)
  refine lv_aload_n hx hb dX7_line_18 rfl (lv_at hl 0 rfl) ?_
  refine lv_iload_n hx hb dX7_line_19 rfl (lv_at hl 2 rfl) ?_
  refine lv_if_lt (tgt := 33) hx hb dX7_line_20 (by decide) (fun cq9 => absurd cq9 (nI_pos (by omega))) (fun _ => ?_)
  refine lv_iload_n hx hb dX7_line_23 rfl (lv_at hl 2 rfl) ?_
  refine lv_aload_n hx hb dX7_line_24 rfl (lv_at hl 0 rfl) ?_
  refine z_get (C := RX7) (T := TX7) (N := 45) (v := .ref (ad 19)) hx hb hts (by decide +kernel) hown hK hS h1_mm rfl 19 (by decide) (hts (.fieldLink RX7 60 "PayLedgerModel" "many" "[I") (by decide +kernel)) rfl dX7_line_25 ?_
  refine lv_iload_n hx hb dX7_line_28 rfl (lv_at hl 1 rfl) ?_
  refine z_iald hx hb hK hS h1_ad19 (vp_in_nI (by omega) (by decide)) dX7_line_29 ?_
  refine z_ti (y := ((K 19) (wi))) (congrArg _ (nI_clamp (by omega))) ?_
  refine z_ti (y := nI n) h19 ?_
  refine lv_icmp_lt (tgt := 37) hx hb dX7_line_30 (by decide) (fun _ => ?_) (fun cq9 => absurd (nI_lt hi (by omega)) cq9)
  refine lv_iconst (v := 0) hx hb dX7_line_37 (by decide) ?_
  refine lv_iconst (v := 2) hx hb dX7_line_38 (by decide) ?_
  refine z_rV (As := [.int (0), .int (2)]) (rest := []) (n := 2) ⟨hx, hb, hml, hown, hts⟩ (c0_X7_throwsIf l D cs w1 H.size mm ad (0) (tb) (dd) (nI nw) (br) (yr) (wd) 2 h1_mm) gX7_line_X7_throwsIf rfl ⟨rfl, by decide +kernel, by decide +kernel, by decide +kernel⟩ ⟨Nat.le_of_ble_eq_true rfl, Nat.le_of_ble_eq_true rfl⟩ hK hE hS rfl h1_mm rfl hl.1 rfl (Nat.le_of_ble_eq_true rfl) dX7_line_39 ⟨Nat.le_of_ble_eq_true rfl, Nat.le_of_ble_eq_true rfl⟩ (fun H locs hS => ?_)
  refine lv_if_ne (tgt := 70) hx hb dX7_line_42 (by decide) (fun cq9 => absurd rfl cq9) (fun _ => ?_)
  refine lv_aload_n hx hb dX7_line_45 rfl (lv_at hl 0 rfl) ?_
  refine lv_iload_n hx hb dX7_line_46 rfl (lv_at hl 3 rfl) ?_
  refine lv_i2l (v := ((what : Int32).toInt64)) hx hb dX7_line_47 rfl ?_
  refine lv_lconst (v := 0) hx hb dX7_line_48 (by decide) ?_
  refine lv_ldc2 (v := 8) hx hb hown (hts (.constantLong RX7 243 (8)) (by decide +kernel)) dX7_line_49 ?_
  refine z_rS (As := [.long (((what : Int32).toInt64)), .long (0), .long (8)]) (rest := [.ref (mm)]) (n := 3) ⟨hx, hb, hml, hown, hts⟩ (c_X7_in l D cs w1 H.size (what.toInt64) (0) (8)) gX7_line_X7_in rfl ⟨by decide +kernel, by decide +kernel, by decide +kernel⟩ ⟨Nat.le_of_ble_eq_true rfl, Nat.le_of_ble_eq_true rfl⟩ hK hE hS rfl hl.1 rfl (Nat.le_of_ble_eq_true rfl) dX7_line_52 ⟨Nat.le_of_ble_eq_true rfl, Nat.le_of_ble_eq_true rfl⟩ (fun H locs hS => ?_)
  refine lv_if_ne (tgt := 62) hx hb dX7_line_55 (by decide) (fun cq9 => absurd hwh cq9) (fun _ => ?_)
  refine lv_iconst (v := 1) hx hb dX7_line_58 (by decide) ?_
  refine lv_goto (tgt := 63) hx hb dX7_line_59 (by decide) ?_
  refine lv_iconst (v := 3) hx hb dX7_line_63 (by decide) ?_
  refine z_invV (As := [.int (1), .int (3)]) (rest := []) (n := 2) ⟨hx, hb, hml, hown, hts⟩ (c1_X7_throwsIf l D cs w1 H.size mm ad (0) (tb) (dd) (nI nw) (br) (yr) (wd) 3 h1_mm) gX7_line_X7_throwsIf rfl ⟨rfl, by decide +kernel, by decide +kernel, by decide +kernel⟩ ⟨Nat.le_of_ble_eq_true rfl, Nat.le_of_ble_eq_true rfl⟩ hK hE hS rfl h1_mm rfl hl.1 rfl (Nat.le_of_ble_eq_true rfl) dX7_line_64 ⟨Nat.le_of_ble_eq_true rfl, Nat.le_of_ble_eq_true rfl⟩ (fun v9 u2 H locs hq hS => ?_)
  obtain ⟨rfl, hx2⟩ := hq
  have h3_mm : u2 (mm) = some (mo ad (3) (tb) (dd) (nI nw) (br) (yr) (wd)) := hx2.at 0 rfl
  have h3_ad19 : u2 (ad 19) = some (eI cs (10) (K 19)) := hx2.old h1_ad19 (zm1 (zne h1_ad19 h1_mm (by intro q9; first | cases q9 | simp at q9)) zm0)
  refine W.eq (g2 := F0 m 67 ls [.int (1)]) rfl ?_
  refine lv_if_eq (tgt := 72) hx hb dX7_line_67 (by decide) (fun cq9 => absurd cq9 (by decide)) (fun _ => ?_)
  refine lv_lconst (v := 0) hx hb dX7_line_70 (by decide) ?_
  have hex : zEx w u2 [(mm, (mo ad (3) (tb) (dd) (nI nw) (br) (yr) (wd)))] := ⟨(zm1 h3_mm zm0), fun a9 h9 => by rw [hx2.2 a9 (zm1 (show a9 ≠ mm from h9 (mm, (mo ad (3) (tb) (dd) (nI nw) (br) (yr) (wd))) (List.mem_of_getElem? (i := 0) rfl)) zm0), ew1, va_up_ne _ _ (show a9 ≠ mm from h9 (mm, (mo ad (3) (tb) (dd) (nI nw) (br) (yr) (wd))) (List.mem_of_getElem? (i := 0) rfl))]⟩
  exact z_lret hx hb hr hlocks hS (Nat.le_of_ble_eq_true rfl) (Nat.le_of_ble_eq_true rfl) dX7_line_71 ⟨rfl, zMQ.o hM h_m hinj hex⟩
set_option maxHeartbeats 4000000 in
set_option maxRecDepth 100000 in
theorem c_X7_line (l : Launch) (D : va_G) (cs : Nat → ClassId) (w : zw) (sz : Nat) (mm : Nat) (ad : Nat → Nat) (J : Nat → Nat → Int64) (K : Nat → Nat → Int32) (th tb br yr wd : Int32) (wi : Nat) (bo rb pe me : Nat → Int32) (re cr ex : Nat → Int64) (en : Nat → Int32) (tx : Nat → Nat) (V P : Nat → Nat → Int64) (nb : Nat) (tn : Nat → Nat) (FF : Nat → Nat → Int64) (GF : Nat → Nat → Int32) (nd : Nat) (de so : Nat → Int32) (si ca bs : Nat → Int64) (n : Nat) (nw : Nat) (i : Nat) (what : Int32) (hinj : ∀ i j : Nat, i ≠ j → ad i ≠ ad j) (hM : zMA cs w ad J K) (hW : mWr J K wi bo rb pe me re cr ex en tx V P nb tn FF GF nd de so si ca bs n) (hnw : nw ≤ 10) (hwi : wi < nw) (hi : i < n) (hwh : zUpTo what.toInt64 8 = 1) (h_m : w (mm) = some (mo ad (th) (tb) (nI nd) (nI nw) (br) (yr) (wd))) : zM l D cs yX7_line wsX7_line 7 0 0 w sz [.ref (mm), .int (nI wi), .int (nI i), .int (what)] (fun r w2 => r = some (.long (zLine what (bo i) (V i))) ∧ ∃ J' : Nat → Nat → Int64, mOut J J' ∧ zMQ cs w w2 ad mm (mo ad (0) (tb) (nI nd) (nI nw) (br) (yr) (wd)) J' K) := by
  refine z_met (cc := cX7_line) (maxL := 4) (ret := (some .long)) (by decide) rfl (Nat.le_of_ble_eq_true rfl) ?_
  intro p e s m below meth c hx hb hr hml hown hts hlocks hnm hsz hK hE hS ls hl
  have hl : lv_has ls 4 [(0, .ref (mm)), (1, .int (nI wi)), (2, .int (nI i)), (3, .int (what))] := hl
  have h19 := hW.2.2.2.2.2.2.1
  have h35 := hW.2.2.2.2.2.2.2
  have hP := hW.2.2.1
  have hw := hW.2.2.2.1
  have hn := hW.2.2.2.2.1
  have hTb := hW.1
  have hDd := hW.2.1
  have hWk := hW.2.2.2.2.2.1
  have h_19 : w (ad 19) = some (eI cs (10) (K 19)) := hM 19 (by decide)
  refine lv_aload_n hx hb dX7_line_0 rfl (lv_at hl 0 rfl) ?_
  refine lv_iconst (v := 0) hx hb dX7_line_1 (by decide) ?_
  refine z_put (C := RX7) (T := TX7) (N := 45) (v := .int (0)) hx hb hts (by decide +kernel) tyX7 tyX7_ok nmX7 hown hK hS h_m rfl 0 (by decide) (hts (.fieldLink RX7 126 "PayLedgerModel" "thrown" "I") (by decide +kernel)) rfl rfl rfl (Nat.le_of_ble_eq_true rfl) dX7_line_2 (fun H locs hS => ?_)
  obtain ⟨w1, ew1⟩ : ∃ z : zw, z = va_up w (mm) (some (mo ad (0) (tb) (nI nd) (nI nw) (br) (yr) (wd))) := ⟨_, rfl⟩
  have hS : zS (zA w sz) D w1 s.heap H locs := by rw [ew1]; exact hS
  have h1_mm : w1 (mm) = some (mo ad (0) (tb) (nI nd) (nI nw) (br) (yr) (wd)) := by rw [ew1]; exact va_up_self _ _ _
  have h1_ad19 : w1 (ad 19) = some (eI cs (10) (K 19)) := by rw [ew1]; exact (va_up_ne _ _ (zne h_19 h_m (by intro q9; first | cases q9 | simp at q9))).trans h_19
  refine lv_aload_n hx hb dX7_line_5 rfl (lv_at hl 0 rfl) ?_
  refine lv_aload_n hx hb dX7_line_6 rfl (lv_at hl 0 rfl) ?_
  refine lv_iload_n hx hb dX7_line_7 rfl (lv_at hl 1 rfl) ?_
  refine z_rV (As := [.int (nI wi)]) (rest := [.ref (mm)]) (n := 1) ⟨hx, hb, hml, hown, hts⟩ (c_X7_noWorker l D cs w1 H.size mm ad (0) (tb) (nI nd) (br) (yr) (wd) nw wi (by omega) hwi h1_mm) gX7_line_X7_noWorker rfl ⟨rfl, by decide +kernel, by decide +kernel, by decide +kernel⟩ ⟨Nat.le_of_ble_eq_true rfl, Nat.le_of_ble_eq_true rfl⟩ hK hE hS rfl h1_mm rfl hl.1 rfl (Nat.le_of_ble_eq_true rfl) dX7_line_8 ⟨Nat.le_of_ble_eq_true rfl, Nat.le_of_ble_eq_true rfl⟩ (fun H locs hS => ?_)
  refine lv_iconst (v := 1) hx hb dX7_line_11 (by decide) ?_
  refine z_rV (As := [.int (0), .int (1)]) (rest := []) (n := 2) ⟨hx, hb, hml, hown, hts⟩ (c0_X7_throwsIf l D cs w1 H.size mm ad (0) (tb) (nI nd) (nI nw) (br) (yr) (wd) 1 h1_mm) gX7_line_X7_throwsIf rfl ⟨rfl, by decide +kernel, by decide +kernel, by decide +kernel⟩ ⟨Nat.le_of_ble_eq_true rfl, Nat.le_of_ble_eq_true rfl⟩ hK hE hS rfl h1_mm rfl hl.1 rfl (Nat.le_of_ble_eq_true rfl) dX7_line_12 ⟨Nat.le_of_ble_eq_true rfl, Nat.le_of_ble_eq_true rfl⟩ (fun H locs hS => ?_)
  refine lv_if_ne (tgt := 70) hx hb dX7_line_15 (by decide) (fun cq9 => absurd rfl cq9) (fun _ => ?_)
  refine lv_aload_n hx hb dX7_line_18 rfl (lv_at hl 0 rfl) ?_
  refine lv_iload_n hx hb dX7_line_19 rfl (lv_at hl 2 rfl) ?_
  refine lv_if_lt (tgt := 33) hx hb dX7_line_20 (by decide) (fun cq9 => absurd cq9 (nI_pos (by omega))) (fun _ => ?_)
  refine lv_iload_n hx hb dX7_line_23 rfl (lv_at hl 2 rfl) ?_
  refine lv_aload_n hx hb dX7_line_24 rfl (lv_at hl 0 rfl) ?_
  refine z_get (C := RX7) (T := TX7) (N := 45) (v := .ref (ad 19)) hx hb hts (by decide +kernel) hown hK hS h1_mm rfl 19 (by decide) (hts (.fieldLink RX7 60 "PayLedgerModel" "many" "[I") (by decide +kernel)) rfl dX7_line_25 ?_
  refine lv_iload_n hx hb dX7_line_28 rfl (lv_at hl 1 rfl) ?_
  refine z_iald hx hb hK hS h1_ad19 (vp_in_nI (by omega) (by decide)) dX7_line_29 ?_
  refine z_ti (y := ((K 19) (wi))) (congrArg _ (nI_clamp (by omega))) ?_
  refine z_ti (y := nI n) h19 ?_
  refine lv_icmp_lt (tgt := 37) hx hb dX7_line_30 (by decide) (fun _ => ?_) (fun cq9 => absurd (nI_lt hi (by omega)) cq9)
  refine lv_iconst (v := 0) hx hb dX7_line_37 (by decide) ?_
  refine lv_iconst (v := 2) hx hb dX7_line_38 (by decide) ?_
  refine z_rV (As := [.int (0), .int (2)]) (rest := []) (n := 2) ⟨hx, hb, hml, hown, hts⟩ (c0_X7_throwsIf l D cs w1 H.size mm ad (0) (tb) (nI nd) (nI nw) (br) (yr) (wd) 2 h1_mm) gX7_line_X7_throwsIf rfl ⟨rfl, by decide +kernel, by decide +kernel, by decide +kernel⟩ ⟨Nat.le_of_ble_eq_true rfl, Nat.le_of_ble_eq_true rfl⟩ hK hE hS rfl h1_mm rfl hl.1 rfl (Nat.le_of_ble_eq_true rfl) dX7_line_39 ⟨Nat.le_of_ble_eq_true rfl, Nat.le_of_ble_eq_true rfl⟩ (fun H locs hS => ?_)
  refine lv_if_ne (tgt := 70) hx hb dX7_line_42 (by decide) (fun cq9 => absurd rfl cq9) (fun _ => ?_)
  refine lv_aload_n hx hb dX7_line_45 rfl (lv_at hl 0 rfl) ?_
  refine lv_iload_n hx hb dX7_line_46 rfl (lv_at hl 3 rfl) ?_
  refine lv_i2l (v := ((what : Int32).toInt64)) hx hb dX7_line_47 rfl ?_
  refine lv_lconst (v := 0) hx hb dX7_line_48 (by decide) ?_
  refine lv_ldc2 (v := 8) hx hb hown (hts (.constantLong RX7 243 (8)) (by decide +kernel)) dX7_line_49 ?_
  refine z_rS (As := [.long (((what : Int32).toInt64)), .long (0), .long (8)]) (rest := [.ref (mm)]) (n := 3) ⟨hx, hb, hml, hown, hts⟩ (c_X7_in l D cs w1 H.size (what.toInt64) (0) (8)) gX7_line_X7_in rfl ⟨by decide +kernel, by decide +kernel, by decide +kernel⟩ ⟨Nat.le_of_ble_eq_true rfl, Nat.le_of_ble_eq_true rfl⟩ hK hE hS rfl hl.1 rfl (Nat.le_of_ble_eq_true rfl) dX7_line_52 ⟨Nat.le_of_ble_eq_true rfl, Nat.le_of_ble_eq_true rfl⟩ (fun H locs hS => ?_)
  refine lv_if_ne (tgt := 62) hx hb dX7_line_55 (by decide) (fun _ => ?_) (fun cq9 => absurd cq9 (by rw [show mIn (what.toInt64) 0 8 = 1 from hwh]; decide))
  refine lv_iconst (v := 0) hx hb dX7_line_62 (by decide) ?_
  refine lv_iconst (v := 3) hx hb dX7_line_63 (by decide) ?_
  refine z_rV (As := [.int (0), .int (3)]) (rest := []) (n := 2) ⟨hx, hb, hml, hown, hts⟩ (c0_X7_throwsIf l D cs w1 H.size mm ad (0) (tb) (nI nd) (nI nw) (br) (yr) (wd) 3 h1_mm) gX7_line_X7_throwsIf rfl ⟨rfl, by decide +kernel, by decide +kernel, by decide +kernel⟩ ⟨Nat.le_of_ble_eq_true rfl, Nat.le_of_ble_eq_true rfl⟩ hK hE hS rfl h1_mm rfl hl.1 rfl (Nat.le_of_ble_eq_true rfl) dX7_line_64 ⟨Nat.le_of_ble_eq_true rfl, Nat.le_of_ble_eq_true rfl⟩ (fun H locs hS => ?_)
  refine lv_if_eq (tgt := 72) hx hb dX7_line_67 (by decide) (fun _ => ?_) (fun cq9 => absurd rfl cq9)
  refine lv_aload_n hx hb dX7_line_72 rfl (lv_at hl 0 rfl) ?_
  refine lv_iload_n hx hb dX7_line_73 rfl (lv_at hl 1 rfl) ?_
  refine lv_aload_n hx hb dX7_line_74 rfl (lv_at hl 0 rfl) ?_
  refine z_get (C := RX7) (T := TX7) (N := 45) (v := .ref (ad 19)) hx hb hts (by decide +kernel) hown hK hS h1_mm rfl 19 (by decide) (hts (.fieldLink RX7 60 "PayLedgerModel" "many" "[I") (by decide +kernel)) rfl dX7_line_75 ?_
  refine lv_iload_n hx hb dX7_line_78 rfl (lv_at hl 1 rfl) ?_
  refine z_iald hx hb hK hS h1_ad19 (vp_in_nI (by omega) (by decide)) dX7_line_79 ?_
  refine z_ti (y := ((K 19) (wi))) (congrArg _ (nI_clamp (by omega))) ?_
  refine z_ti (y := nI n) h19 ?_
  have hex1 : zEx w w1 [(mm, (mo ad (0) (tb) (nI nd) (nI nw) (br) (yr) (wd)))] := ⟨(zm1 h1_mm zm0), fun a9 h9 => by rw [ew1, va_up_ne _ _ (show a9 ≠ mm from h9 (mm, (mo ad (0) (tb) (nI nd) (nI nw) (br) (yr) (wd))) (List.mem_of_getElem? (i := 0) rfl))]⟩
  have hq1 : zMQ cs w w1 ad mm (mo ad (0) (tb) (nI nd) (nI nw) (br) (yr) (wd)) J K := zMQ.o hM h_m hinj hex1
  refine z_invV (As := [.int (nI wi), .int (nI n)]) (rest := []) (n := 2) ⟨hx, hb, hml, hown, hts⟩ (c_X7_works l D cs w1 H.size mm ad J K 0 tb (nI nw) br yr wd wi bo rb pe me re cr ex en tx V P nb tn FF GF nd de so si ca bs n hinj hq1.2.1 hTb hDd hP hw hn hWk h1_mm) gX7_line_X7_works rfl ⟨rfl, by decide +kernel, by decide +kernel, by decide +kernel⟩ ⟨Nat.le_of_ble_eq_true rfl, Nat.le_of_ble_eq_true rfl⟩ hK hE hS rfl h1_mm rfl hl.1 rfl (Nat.le_of_ble_eq_true rfl) dX7_line_80 ⟨Nat.le_of_ble_eq_true rfl, Nat.le_of_ble_eq_true rfl⟩ (fun v9 u2 H locs hq hS => ?_)
  obtain ⟨rfl, J2, ho, hz, hA2⟩ := hq
  have hq2 := zMQ.w hq1.2.1 hq1.1 hinj hz ho
  have h_m3 : u2 mm = some (mo ad (0) (tb) (nI nd) (nI nw) (br) (yr) (wd)) := hq2.1
  have h_253 : u2 (ad 25) = some (eJ cs (600) (J2 25)) := hq2.2.1 25 (by decide)
  have h_263 : u2 (ad 26) = some (eZ cs (600) (K 26)) := hq2.2.1 26 (by decide)
  have h_353 : u2 (ad 35) = some (eJ cs (600) (J2 35)) := hq2.2.1 35 (by decide)
  have h_383 : u2 (ad 38) = some (eJ cs (60) (J2 38)) := hq2.2.1 38 (by decide)
  have h_393 : u2 (ad 39) = some (eJ cs (60) (J2 39)) := hq2.2.1 39 (by decide)
  have h_403 : u2 (ad 40) = some (eJ cs (60) (J2 40)) := hq2.2.1 40 (by decide)
  have h_413 : u2 (ad 41) = some (eJ cs (60) (J2 41)) := hq2.2.1 41 (by decide)
  have h_423 : u2 (ad 42) = some (eJ cs (60) (J2 42)) := hq2.2.1 42 (by decide)
  have h_433 : u2 (ad 43) = some (eJ cs (60) (J2 43)) := hq2.2.1 43 (by decide)
  refine W.eq (g2 := F0 m 83 ls []) rfl ?_
  refine lv_aload_n hx hb dX7_line_83 rfl (lv_at hl 0 rfl) ?_
  refine lv_iload_n hx hb dX7_line_84 rfl (lv_at hl 1 rfl) ?_
  refine lv_iload_n hx hb dX7_line_85 rfl (lv_at hl 2 rfl) ?_
  refine lv_iload_n hx hb dX7_line_86 rfl (lv_at hl 3 rfl) ?_
  refine z_rV (As := [.int (nI wi), .int (nI i), .int (what)]) (rest := []) (n := 3) ⟨hx, hb, hml, hown, hts⟩ (c_X7_told l D cs u2 H.size mm ad J2 K 0 tb (nI nd) (nI nw) br yr wd wi i (bo i) what (V i) hw (by omega) (hP i hi).2.1 (by rw [ho 25 (by decide)]; exact (hP i hi).1) ((hA2 i hi).1).1 ((hA2 i hi).1).2.1 ((hA2 i hi).1).2.2.1 ((hA2 i hi).1).2.2.2.1 ((hA2 i hi).1).2.2.2.2.1 ((hA2 i hi).1).2.2.2.2.2 (by rw [ho 35 (by decide)]; exact h35 i hi) h_m3 h_253 h_263 h_353 h_383 h_393 h_403 h_413 h_423 h_433) gX7_line_X7_told rfl ⟨rfl, by decide +kernel, by decide +kernel, by decide +kernel⟩ ⟨Nat.le_of_ble_eq_true rfl, Nat.le_of_ble_eq_true rfl⟩ hK hE hS rfl h_m3 rfl hl.1 rfl (Nat.le_of_ble_eq_true rfl) dX7_line_87 ⟨Nat.le_of_ble_eq_true rfl, Nat.le_of_ble_eq_true rfl⟩ (fun H locs hS => ?_)
  exact z_lret hx hb hr hlocks hS (Nat.le_of_ble_eq_true rfl) (Nat.le_of_ble_eq_true rfl) dX7_line_90 ⟨rfl, J2, ho, hq1.trans hq2⟩
set_option maxHeartbeats 4000000 in
set_option maxRecDepth 100000 in
theorem t1_X7_part (l : Launch) (D : va_G) (cs : Nat → ClassId) (w : zw) (sz : Nat) (mm : Nat) (ad : Nat → Nat) (J : Nat → Nat → Int64) (K : Nat → Nat → Int32) (th tb dd br yr wd : Int32) (nw : Nat) (x i y : Int32) (hinj : ∀ i j : Nat, i ≠ j → ad i ≠ ad j) (hM : zMA cs w ad J K) (hnw : nw ≤ 10) (hx9 : ∀ k : Nat, k < nw → x ≠ nI k) (h_m : w (mm) = some (mo ad (th) (tb) (dd) (nI nw) (br) (yr) (wd))) : zM l D cs yX7_part wsX7_part 3 0 0 w sz [.ref (mm), .int (x), .int (i), .int (y)] (fun r w2 => r = some (.long 0) ∧ zMQ cs w w2 ad mm (mo ad (1) (tb) (dd) (nI nw) (br) (yr) (wd)) J K) := by
  refine z_met (cc := cX7_part) (maxL := 4) (ret := (some .long)) (by decide) rfl (Nat.le_of_ble_eq_true rfl) ?_
  intro p e s m below meth c hx hb hr hml hown hts hlocks hnm hsz hK hE hS ls hl
  have hl : lv_has ls 4 [(0, .ref (mm)), (1, .int (x)), (2, .int (i)), (3, .int (y))] := hl
  refine lv_aload_n hx hb dX7_part_0 rfl (lv_at hl 0 rfl) ?_
  refine lv_iconst (v := 0) hx hb dX7_part_1 (by decide) ?_
  refine z_put (C := RX7) (T := TX7) (N := 45) (v := .int (0)) hx hb hts (by decide +kernel) tyX7 tyX7_ok nmX7 hown hK hS h_m rfl 0 (by decide) (hts (.fieldLink RX7 126 "PayLedgerModel" "thrown" "I") (by decide +kernel)) rfl rfl rfl (Nat.le_of_ble_eq_true rfl) dX7_part_2 (fun H locs hS => ?_)
  obtain ⟨w1, ew1⟩ : ∃ z : zw, z = va_up w (mm) (some (mo ad (0) (tb) (dd) (nI nw) (br) (yr) (wd))) := ⟨_, rfl⟩
  have hS : zS (zA w sz) D w1 s.heap H locs := by rw [ew1]; exact hS
  have h1_mm : w1 (mm) = some (mo ad (0) (tb) (dd) (nI nw) (br) (yr) (wd)) := by rw [ew1]; exact va_up_self _ _ _
  refine lv_aload_n hx hb dX7_part_5 rfl (lv_at hl 0 rfl) ?_
  refine lv_aload_n hx hb dX7_part_6 rfl (lv_at hl 0 rfl) ?_
  refine lv_iload_n hx hb dX7_part_7 rfl (lv_at hl 1 rfl) ?_
  refine z_rV (As := [.int (x)]) (rest := [.ref (mm)]) (n := 1) ⟨hx, hb, hml, hown, hts⟩ (n_X7_noWorker l D cs w1 H.size mm ad (0) (tb) (dd) (br) (yr) (wd) nw x (by omega) hx9 h1_mm) gX7_part_X7_noWorker rfl ⟨rfl, by decide +kernel, by decide +kernel, by decide +kernel⟩ ⟨Nat.le_of_ble_eq_true rfl, Nat.le_of_ble_eq_true rfl⟩ hK hE hS rfl h1_mm rfl hl.1 rfl (Nat.le_of_ble_eq_true rfl) dX7_part_8 ⟨Nat.le_of_ble_eq_true rfl, Nat.le_of_ble_eq_true rfl⟩ (fun H locs hS => ?_)
  refine lv_if_ne (tgt := 22) hx hb dX7_part_11 (by decide) (fun _ => ?_) (fun cq9 => absurd cq9 (by decide))
  refine lv_iconst (v := 1) hx hb dX7_part_22 (by decide) ?_
  refine lv_goto (tgt := 27) hx hb dX7_part_23 (by decide) ?_
  refine lv_iconst (v := 1) hx hb dX7_part_27 (by decide) ?_
  refine z_invV (As := [.int (1), .int (1)]) (rest := []) (n := 2) ⟨hx, hb, hml, hown, hts⟩ (c1_X7_throwsIf l D cs w1 H.size mm ad (0) (tb) (dd) (nI nw) (br) (yr) (wd) 1 h1_mm) gX7_part_X7_throwsIf rfl ⟨rfl, by decide +kernel, by decide +kernel, by decide +kernel⟩ ⟨Nat.le_of_ble_eq_true rfl, Nat.le_of_ble_eq_true rfl⟩ hK hE hS rfl h1_mm rfl hl.1 rfl (Nat.le_of_ble_eq_true rfl) dX7_part_28 ⟨Nat.le_of_ble_eq_true rfl, Nat.le_of_ble_eq_true rfl⟩ (fun v9 u2 H locs hq hS => ?_)
  obtain ⟨rfl, hx2⟩ := hq
  have h3_mm : u2 (mm) = some (mo ad (1) (tb) (dd) (nI nw) (br) (yr) (wd)) := hx2.at 0 rfl
  refine W.eq (g2 := F0 m 31 ls [.int (1)]) rfl ?_
  refine lv_if_ne (tgt := 61) hx hb dX7_part_31 (by decide) (fun _ => ?_) (fun cq9 => absurd cq9 (by decide))
  refine lv_lconst (v := 0) hx hb dX7_part_61 (by decide) ?_
  have hex : zEx w u2 [(mm, (mo ad (1) (tb) (dd) (nI nw) (br) (yr) (wd)))] := ⟨(zm1 h3_mm zm0), fun a9 h9 => by rw [hx2.2 a9 (zm1 (show a9 ≠ mm from h9 (mm, (mo ad (1) (tb) (dd) (nI nw) (br) (yr) (wd))) (List.mem_of_getElem? (i := 0) rfl)) zm0), ew1, va_up_ne _ _ (show a9 ≠ mm from h9 (mm, (mo ad (1) (tb) (dd) (nI nw) (br) (yr) (wd))) (List.mem_of_getElem? (i := 0) rfl))]⟩
  exact z_lret hx hb hr hlocks hS (Nat.le_of_ble_eq_true rfl) (Nat.le_of_ble_eq_true rfl) dX7_part_62 ⟨rfl, zMQ.o hM h_m hinj hex⟩
set_option maxHeartbeats 4000000 in
set_option maxRecDepth 100000 in
theorem t2_X7_part (l : Launch) (D : va_G) (cs : Nat → ClassId) (w : zw) (sz : Nat) (mm : Nat) (ad : Nat → Nat) (J : Nat → Nat → Int64) (K : Nat → Nat → Int32) (th tb br yr wd : Int32) (nw wi nd : Nat) (i y : Int32) (hinj : ∀ i j : Nat, i ≠ j → ad i ≠ ad j) (hM : zMA cs w ad J K) (hnw : nw ≤ 10) (hwi : wi < nw) (hnd : nd ≤ 8) (hy9 : ∀ k : Nat, k < nd → y ≠ nI k) (h_m : w (mm) = some (mo ad (th) (tb) (nI nd) (nI nw) (br) (yr) (wd))) : zM l D cs yX7_part wsX7_part 3 0 0 w sz [.ref (mm), .int (nI wi), .int (i), .int (y)] (fun r w2 => r = some (.long 0) ∧ zMQ cs w w2 ad mm (mo ad (1) (tb) (nI nd) (nI nw) (br) (yr) (wd)) J K) := by
  refine z_met (cc := cX7_part) (maxL := 4) (ret := (some .long)) (by decide) rfl (Nat.le_of_ble_eq_true rfl) ?_
  intro p e s m below meth c hx hb hr hml hown hts hlocks hnm hsz hK hE hS ls hl
  have hl : lv_has ls 4 [(0, .ref (mm)), (1, .int (nI wi)), (2, .int (i)), (3, .int (y))] := hl
  refine lv_aload_n hx hb dX7_part_0 rfl (lv_at hl 0 rfl) ?_
  refine lv_iconst (v := 0) hx hb dX7_part_1 (by decide) ?_
  refine z_put (C := RX7) (T := TX7) (N := 45) (v := .int (0)) hx hb hts (by decide +kernel) tyX7 tyX7_ok nmX7 hown hK hS h_m rfl 0 (by decide) (hts (.fieldLink RX7 126 "PayLedgerModel" "thrown" "I") (by decide +kernel)) rfl rfl rfl (Nat.le_of_ble_eq_true rfl) dX7_part_2 (fun H locs hS => ?_)
  obtain ⟨w1, ew1⟩ : ∃ z : zw, z = va_up w (mm) (some (mo ad (0) (tb) (nI nd) (nI nw) (br) (yr) (wd))) := ⟨_, rfl⟩
  have hS : zS (zA w sz) D w1 s.heap H locs := by rw [ew1]; exact hS
  have h1_mm : w1 (mm) = some (mo ad (0) (tb) (nI nd) (nI nw) (br) (yr) (wd)) := by rw [ew1]; exact va_up_self _ _ _
  refine lv_aload_n hx hb dX7_part_5 rfl (lv_at hl 0 rfl) ?_
  refine lv_aload_n hx hb dX7_part_6 rfl (lv_at hl 0 rfl) ?_
  refine lv_iload_n hx hb dX7_part_7 rfl (lv_at hl 1 rfl) ?_
  refine z_rV (As := [.int (nI wi)]) (rest := [.ref (mm)]) (n := 1) ⟨hx, hb, hml, hown, hts⟩ (c_X7_noWorker l D cs w1 H.size mm ad (0) (tb) (nI nd) (br) (yr) (wd) nw wi (by omega) hwi h1_mm) gX7_part_X7_noWorker rfl ⟨rfl, by decide +kernel, by decide +kernel, by decide +kernel⟩ ⟨Nat.le_of_ble_eq_true rfl, Nat.le_of_ble_eq_true rfl⟩ hK hE hS rfl h1_mm rfl hl.1 rfl (Nat.le_of_ble_eq_true rfl) dX7_part_8 ⟨Nat.le_of_ble_eq_true rfl, Nat.le_of_ble_eq_true rfl⟩ (fun H locs hS => ?_)
  refine lv_if_ne (tgt := 22) hx hb dX7_part_11 (by decide) (fun cq9 => absurd rfl cq9) (fun _ => ?_)
  refine lv_aload_n hx hb dX7_part_14 rfl (lv_at hl 0 rfl) ?_
  refine lv_iload_n hx hb dX7_part_15 rfl (lv_at hl 3 rfl) ?_
  refine z_rV (As := [.int (y)]) (rest := [.ref (mm)]) (n := 1) ⟨hx, hb, hml, hown, hts⟩ (n_X7_noDeduction l D cs w1 H.size mm ad (0) (tb) (nI nw) (br) (yr) (wd) nd y (by omega) hy9 h1_mm) gX7_part_X7_noDeduction rfl ⟨rfl, by decide +kernel, by decide +kernel, by decide +kernel⟩ ⟨Nat.le_of_ble_eq_true rfl, Nat.le_of_ble_eq_true rfl⟩ hK hE hS rfl h1_mm rfl hl.1 rfl (Nat.le_of_ble_eq_true rfl) dX7_part_16 ⟨Nat.le_of_ble_eq_true rfl, Nat.le_of_ble_eq_true rfl⟩ (fun H locs hS => ?_)
  refine lv_if_eq (tgt := 26) hx hb dX7_part_19 (by decide) (fun cq9 => absurd cq9 (by decide)) (fun _ => ?_)
  refine lv_iconst (v := 1) hx hb dX7_part_22 (by decide) ?_
  refine lv_goto (tgt := 27) hx hb dX7_part_23 (by decide) ?_
  refine lv_iconst (v := 1) hx hb dX7_part_27 (by decide) ?_
  refine z_invV (As := [.int (1), .int (1)]) (rest := []) (n := 2) ⟨hx, hb, hml, hown, hts⟩ (c1_X7_throwsIf l D cs w1 H.size mm ad (0) (tb) (nI nd) (nI nw) (br) (yr) (wd) 1 h1_mm) gX7_part_X7_throwsIf rfl ⟨rfl, by decide +kernel, by decide +kernel, by decide +kernel⟩ ⟨Nat.le_of_ble_eq_true rfl, Nat.le_of_ble_eq_true rfl⟩ hK hE hS rfl h1_mm rfl hl.1 rfl (Nat.le_of_ble_eq_true rfl) dX7_part_28 ⟨Nat.le_of_ble_eq_true rfl, Nat.le_of_ble_eq_true rfl⟩ (fun v9 u2 H locs hq hS => ?_)
  obtain ⟨rfl, hx2⟩ := hq
  have h3_mm : u2 (mm) = some (mo ad (1) (tb) (nI nd) (nI nw) (br) (yr) (wd)) := hx2.at 0 rfl
  refine W.eq (g2 := F0 m 31 ls [.int (1)]) rfl ?_
  refine lv_if_ne (tgt := 61) hx hb dX7_part_31 (by decide) (fun _ => ?_) (fun cq9 => absurd cq9 (by decide))
  refine lv_lconst (v := 0) hx hb dX7_part_61 (by decide) ?_
  have hex : zEx w u2 [(mm, (mo ad (1) (tb) (nI nd) (nI nw) (br) (yr) (wd)))] := ⟨(zm1 h3_mm zm0), fun a9 h9 => by rw [hx2.2 a9 (zm1 (show a9 ≠ mm from h9 (mm, (mo ad (1) (tb) (nI nd) (nI nw) (br) (yr) (wd))) (List.mem_of_getElem? (i := 0) rfl)) zm0), ew1, va_up_ne _ _ (show a9 ≠ mm from h9 (mm, (mo ad (1) (tb) (nI nd) (nI nw) (br) (yr) (wd))) (List.mem_of_getElem? (i := 0) rfl))]⟩
  exact z_lret hx hb hr hlocks hS (Nat.le_of_ble_eq_true rfl) (Nat.le_of_ble_eq_true rfl) dX7_part_62 ⟨rfl, zMQ.o hM h_m hinj hex⟩
set_option maxHeartbeats 4000000 in
set_option maxRecDepth 100000 in
theorem t3_X7_part (l : Launch) (D : va_G) (cs : Nat → ClassId) (w : zw) (sz : Nat) (mm : Nat) (ad : Nat → Nat) (J : Nat → Nat → Int64) (K : Nat → Nat → Int32) (th tb br yr wd : Int32) (nw wi nd n d : Nat) (i : Int32) (hinj : ∀ i j : Nat, i ≠ j → ad i ≠ ad j) (hM : zMA cs w ad J K) (hnw : nw ≤ 10) (hwi : wi < nw) (hnd : nd ≤ 8) (hd : d < nd) (h19 : K 19 wi = nI n) (hn : n ≤ 60) (hi9 : ∀ k : Nat, k < n → i ≠ nI k) (h_m : w (mm) = some (mo ad (th) (tb) (nI nd) (nI nw) (br) (yr) (wd))) : zM l D cs yX7_part wsX7_part 3 0 0 w sz [.ref (mm), .int (nI wi), .int (i), .int (nI d)] (fun r w2 => r = some (.long 0) ∧ zMQ cs w w2 ad mm (mo ad (2) (tb) (nI nd) (nI nw) (br) (yr) (wd)) J K) := by
  refine z_met (cc := cX7_part) (maxL := 4) (ret := (some .long)) (by decide) rfl (Nat.le_of_ble_eq_true rfl) ?_
  intro p e s m below meth c hx hb hr hml hown hts hlocks hnm hsz hK hE hS ls hl
  have hl : lv_has ls 4 [(0, .ref (mm)), (1, .int (nI wi)), (2, .int (i)), (3, .int (nI d))] := hl
  have h_19 : w (ad 19) = some (eI cs (10) (K 19)) := hM 19 (by decide)
  refine lv_aload_n hx hb dX7_part_0 rfl (lv_at hl 0 rfl) ?_
  refine lv_iconst (v := 0) hx hb dX7_part_1 (by decide) ?_
  refine z_put (C := RX7) (T := TX7) (N := 45) (v := .int (0)) hx hb hts (by decide +kernel) tyX7 tyX7_ok nmX7 hown hK hS h_m rfl 0 (by decide) (hts (.fieldLink RX7 126 "PayLedgerModel" "thrown" "I") (by decide +kernel)) rfl rfl rfl (Nat.le_of_ble_eq_true rfl) dX7_part_2 (fun H locs hS => ?_)
  obtain ⟨w1, ew1⟩ : ∃ z : zw, z = va_up w (mm) (some (mo ad (0) (tb) (nI nd) (nI nw) (br) (yr) (wd))) := ⟨_, rfl⟩
  have hS : zS (zA w sz) D w1 s.heap H locs := by rw [ew1]; exact hS
  have h1_mm : w1 (mm) = some (mo ad (0) (tb) (nI nd) (nI nw) (br) (yr) (wd)) := by rw [ew1]; exact va_up_self _ _ _
  have h1_ad19 : w1 (ad 19) = some (eI cs (10) (K 19)) := by rw [ew1]; exact (va_up_ne _ _ (zne h_19 h_m (by intro q9; first | cases q9 | simp at q9))).trans h_19
  refine lv_aload_n hx hb dX7_part_5 rfl (lv_at hl 0 rfl) ?_
  refine lv_aload_n hx hb dX7_part_6 rfl (lv_at hl 0 rfl) ?_
  refine lv_iload_n hx hb dX7_part_7 rfl (lv_at hl 1 rfl) ?_
  refine z_rV (As := [.int (nI wi)]) (rest := [.ref (mm)]) (n := 1) ⟨hx, hb, hml, hown, hts⟩ (c_X7_noWorker l D cs w1 H.size mm ad (0) (tb) (nI nd) (br) (yr) (wd) nw wi (by omega) hwi h1_mm) gX7_part_X7_noWorker rfl ⟨rfl, by decide +kernel, by decide +kernel, by decide +kernel⟩ ⟨Nat.le_of_ble_eq_true rfl, Nat.le_of_ble_eq_true rfl⟩ hK hE hS rfl h1_mm rfl hl.1 rfl (Nat.le_of_ble_eq_true rfl) dX7_part_8 ⟨Nat.le_of_ble_eq_true rfl, Nat.le_of_ble_eq_true rfl⟩ (fun H locs hS => ?_)
  refine lv_if_ne (tgt := 22) hx hb dX7_part_11 (by decide) (fun cq9 => absurd rfl cq9) (fun _ => ?_)
  refine lv_aload_n hx hb dX7_part_14 rfl (lv_at hl 0 rfl) ?_
  refine lv_iload_n hx hb dX7_part_15 rfl (lv_at hl 3 rfl) ?_
  refine z_rV (As := [.int (nI d)]) (rest := [.ref (mm)]) (n := 1) ⟨hx, hb, hml, hown, hts⟩ (c_X7_noDeduction l D cs w1 H.size mm ad (0) (tb) (nI nw) (br) (yr) (wd) nd d (by omega) hd h1_mm) gX7_part_X7_noDeduction rfl ⟨rfl, by decide +kernel, by decide +kernel, by decide +kernel⟩ ⟨Nat.le_of_ble_eq_true rfl, Nat.le_of_ble_eq_true rfl⟩ hK hE hS rfl h1_mm rfl hl.1 rfl (Nat.le_of_ble_eq_true rfl) dX7_part_16 ⟨Nat.le_of_ble_eq_true rfl, Nat.le_of_ble_eq_true rfl⟩ (fun H locs hS => ?_)
  refine lv_if_eq (tgt := 26) hx hb dX7_part_19 (by decide) (fun _ => ?_) (fun cq9 => absurd rfl cq9)
  refine lv_iconst (v := 0) hx hb dX7_part_26 (by decide) ?_
  refine lv_iconst (v := 1) hx hb dX7_part_27 (by decide) ?_
  refine z_rV (As := [.int (0), .int (1)]) (rest := []) (n := 2) ⟨hx, hb, hml, hown, hts⟩ (c0_X7_throwsIf l D cs w1 H.size mm ad (0) (tb) (nI nd) (nI nw) (br) (yr) (wd) 1 h1_mm) gX7_part_X7_throwsIf rfl ⟨rfl, by decide +kernel, by decide +kernel, by decide +kernel⟩ ⟨Nat.le_of_ble_eq_true rfl, Nat.le_of_ble_eq_true rfl⟩ hK hE hS rfl h1_mm rfl hl.1 rfl (Nat.le_of_ble_eq_true rfl) dX7_part_28 ⟨Nat.le_of_ble_eq_true rfl, Nat.le_of_ble_eq_true rfl⟩ (fun H locs hS => ?_)
  refine lv_if_ne (tgt := 61) hx hb dX7_part_31 (by decide) (fun cq9 => absurd rfl cq9) (fun _ => ?_)
  refine lv_aload_n hx hb dX7_part_34 rfl (lv_at hl 0 rfl) ?_
  refine lv_iload_n hx hb dX7_part_35 rfl (lv_at hl 2 rfl) ?_
  refine lv_if_lt (tgt := 49) hx hb dX7_part_36 (by decide) (fun c36 => ?_) (fun c36 => ?_)
  · refine lv_iconst (v := 1) hx hb dX7_part_49 (by decide) ?_
    refine lv_goto (tgt := 54) hx hb dX7_part_50 (by decide) ?_
    refine lv_iconst (v := 2) hx hb dX7_part_54 (by decide) ?_
    refine z_invV (As := [.int (1), .int (2)]) (rest := []) (n := 2) ⟨hx, hb, hml, hown, hts⟩ (c1_X7_throwsIf l D cs w1 H.size mm ad (0) (tb) (nI nd) (nI nw) (br) (yr) (wd) 2 h1_mm) gX7_part_X7_throwsIf rfl ⟨rfl, by decide +kernel, by decide +kernel, by decide +kernel⟩ ⟨Nat.le_of_ble_eq_true rfl, Nat.le_of_ble_eq_true rfl⟩ hK hE hS rfl h1_mm rfl hl.1 rfl (Nat.le_of_ble_eq_true rfl) dX7_part_55 ⟨Nat.le_of_ble_eq_true rfl, Nat.le_of_ble_eq_true rfl⟩ (fun v9 u2 H locs hq hS => ?_)
    obtain ⟨rfl, hx2⟩ := hq
    have h3_mm : u2 (mm) = some (mo ad (2) (tb) (nI nd) (nI nw) (br) (yr) (wd)) := hx2.at 0 rfl
    have h3_ad19 : u2 (ad 19) = some (eI cs (10) (K 19)) := hx2.old h1_ad19 (zm1 (zne h1_ad19 h1_mm (by intro q9; first | cases q9 | simp at q9)) zm0)
    refine W.eq (g2 := F0 m 58 ls [.int (1)]) rfl ?_
    refine lv_if_eq (tgt := 63) hx hb dX7_part_58 (by decide) (fun cq9 => absurd cq9 (by decide)) (fun _ => ?_)
    refine lv_lconst (v := 0) hx hb dX7_part_61 (by decide) ?_
    have hex : zEx w u2 [(mm, (mo ad (2) (tb) (nI nd) (nI nw) (br) (yr) (wd)))] := ⟨(zm1 h3_mm zm0), fun a9 h9 => by rw [hx2.2 a9 (zm1 (show a9 ≠ mm from h9 (mm, (mo ad (2) (tb) (nI nd) (nI nw) (br) (yr) (wd))) (List.mem_of_getElem? (i := 0) rfl)) zm0), ew1, va_up_ne _ _ (show a9 ≠ mm from h9 (mm, (mo ad (2) (tb) (nI nd) (nI nw) (br) (yr) (wd))) (List.mem_of_getElem? (i := 0) rfl))]⟩
    exact z_lret hx hb hr hlocks hS (Nat.le_of_ble_eq_true rfl) (Nat.le_of_ble_eq_true rfl) dX7_part_62 ⟨rfl, zMQ.o hM h_m hinj hex⟩
  · refine lv_iload_n hx hb dX7_part_39 rfl (lv_at hl 2 rfl) ?_
    refine lv_aload_n hx hb dX7_part_40 rfl (lv_at hl 0 rfl) ?_
    refine z_get (C := RX7) (T := TX7) (N := 45) (v := .ref (ad 19)) hx hb hts (by decide +kernel) hown hK hS h1_mm rfl 19 (by decide) (hts (.fieldLink RX7 60 "PayLedgerModel" "many" "[I") (by decide +kernel)) rfl dX7_part_41 ?_
    refine lv_iload_n hx hb dX7_part_44 rfl (lv_at hl 1 rfl) ?_
    refine z_iald hx hb hK hS h1_ad19 (vp_in_nI (by omega) (by decide)) dX7_part_45 ?_
    refine z_ti (y := ((K 19) (wi))) (congrArg _ (nI_clamp (by omega))) ?_
    refine z_ti (y := nI n) h19 ?_
    refine lv_icmp_lt (tgt := 53) hx hb dX7_part_46 (by decide) (fun cq9 => absurd cq9 (fun q9 => by obtain ⟨j9, h91, h92⟩ := zI32_of c36 q9 (by omega); exact hi9 j9 h91 h92)) (fun _ => ?_)
    refine lv_iconst (v := 1) hx hb dX7_part_49 (by decide) ?_
    refine lv_goto (tgt := 54) hx hb dX7_part_50 (by decide) ?_
    refine lv_iconst (v := 2) hx hb dX7_part_54 (by decide) ?_
    refine z_invV (As := [.int (1), .int (2)]) (rest := []) (n := 2) ⟨hx, hb, hml, hown, hts⟩ (c1_X7_throwsIf l D cs w1 H.size mm ad (0) (tb) (nI nd) (nI nw) (br) (yr) (wd) 2 h1_mm) gX7_part_X7_throwsIf rfl ⟨rfl, by decide +kernel, by decide +kernel, by decide +kernel⟩ ⟨Nat.le_of_ble_eq_true rfl, Nat.le_of_ble_eq_true rfl⟩ hK hE hS rfl h1_mm rfl hl.1 rfl (Nat.le_of_ble_eq_true rfl) dX7_part_55 ⟨Nat.le_of_ble_eq_true rfl, Nat.le_of_ble_eq_true rfl⟩ (fun v9 u4 H locs hq hS => ?_)
    obtain ⟨rfl, hx4⟩ := hq
    have h5_mm : u4 (mm) = some (mo ad (2) (tb) (nI nd) (nI nw) (br) (yr) (wd)) := hx4.at 0 rfl
    have h5_ad19 : u4 (ad 19) = some (eI cs (10) (K 19)) := hx4.old h1_ad19 (zm1 (zne h1_ad19 h1_mm (by intro q9; first | cases q9 | simp at q9)) zm0)
    refine W.eq (g2 := F0 m 58 ls [.int (1)]) rfl ?_
    refine lv_if_eq (tgt := 63) hx hb dX7_part_58 (by decide) (fun cq9 => absurd cq9 (by decide)) (fun _ => ?_)
    refine lv_lconst (v := 0) hx hb dX7_part_61 (by decide) ?_
    have hex : zEx w u4 [(mm, (mo ad (2) (tb) (nI nd) (nI nw) (br) (yr) (wd)))] := ⟨(zm1 h5_mm zm0), fun a9 h9 => by rw [hx4.2 a9 (zm1 (show a9 ≠ mm from h9 (mm, (mo ad (2) (tb) (nI nd) (nI nw) (br) (yr) (wd))) (List.mem_of_getElem? (i := 0) rfl)) zm0), ew1, va_up_ne _ _ (show a9 ≠ mm from h9 (mm, (mo ad (2) (tb) (nI nd) (nI nw) (br) (yr) (wd))) (List.mem_of_getElem? (i := 0) rfl))]⟩
    exact z_lret hx hb hr hlocks hS (Nat.le_of_ble_eq_true rfl) (Nat.le_of_ble_eq_true rfl) dX7_part_62 ⟨rfl, zMQ.o hM h_m hinj hex⟩
set_option maxHeartbeats 4000000 in
set_option maxRecDepth 100000 in
theorem c_X7_part (l : Launch) (D : va_G) (cs : Nat → ClassId) (w : zw) (sz : Nat) (mm : Nat) (ad : Nat → Nat) (J : Nat → Nat → Int64) (K : Nat → Nat → Int32) (th tb br yr wd : Int32) (wi : Nat) (bo rb pe me : Nat → Int32) (re cr ex : Nat → Int64) (en : Nat → Int32) (tx : Nat → Nat) (V P : Nat → Nat → Int64) (nb : Nat) (tn : Nat → Nat) (FF : Nat → Nat → Int64) (GF : Nat → Nat → Int32) (nd : Nat) (de so : Nat → Int32) (si ca bs : Nat → Int64) (n : Nat) (nw : Nat) (i d : Nat) (hinj : ∀ i j : Nat, i ≠ j → ad i ≠ ad j) (hM : zMA cs w ad J K) (hW : mWr J K wi bo rb pe me re cr ex en tx V P nb tn FF GF nd de so si ca bs n) (hnw : nw ≤ 10) (hwi : wi < nw) (hi : i < n) (hd : d < nd) (h_m : w (mm) = some (mo ad (th) (tb) (nI nd) (nI nw) (br) (yr) (wd))) : zM l D cs yX7_part wsX7_part 7 0 0 w sz [.ref (mm), .int (nI wi), .int (nI i), .int (nI d)] (fun r w2 => r = some (.long (P i d)) ∧ ∃ J' : Nat → Nat → Int64, mOut J J' ∧ zMQ cs w w2 ad mm (mo ad (0) (tb) (nI nd) (nI nw) (br) (yr) (wd)) J' K) := by
  refine z_met (cc := cX7_part) (maxL := 4) (ret := (some .long)) (by decide) rfl (Nat.le_of_ble_eq_true rfl) ?_
  intro p e s m below meth c hx hb hr hml hown hts hlocks hnm hsz hK hE hS ls hl
  have hl : lv_has ls 4 [(0, .ref (mm)), (1, .int (nI wi)), (2, .int (nI i)), (3, .int (nI d))] := hl
  have h19 := hW.2.2.2.2.2.2.1
  have h35 := hW.2.2.2.2.2.2.2
  have hP := hW.2.2.1
  have hw := hW.2.2.2.1
  have hn := hW.2.2.2.2.1
  have hTb := hW.1
  have hDd := hW.2.1
  have hWk := hW.2.2.2.2.2.1
  have hnd := hDd.1
  have h_19 : w (ad 19) = some (eI cs (10) (K 19)) := hM 19 (by decide)
  refine lv_aload_n hx hb dX7_part_0 rfl (lv_at hl 0 rfl) ?_
  refine lv_iconst (v := 0) hx hb dX7_part_1 (by decide) ?_
  refine z_put (C := RX7) (T := TX7) (N := 45) (v := .int (0)) hx hb hts (by decide +kernel) tyX7 tyX7_ok nmX7 hown hK hS h_m rfl 0 (by decide) (hts (.fieldLink RX7 126 "PayLedgerModel" "thrown" "I") (by decide +kernel)) rfl rfl rfl (Nat.le_of_ble_eq_true rfl) dX7_part_2 (fun H locs hS => ?_)
  obtain ⟨w1, ew1⟩ : ∃ z : zw, z = va_up w (mm) (some (mo ad (0) (tb) (nI nd) (nI nw) (br) (yr) (wd))) := ⟨_, rfl⟩
  have hS : zS (zA w sz) D w1 s.heap H locs := by rw [ew1]; exact hS
  have h1_mm : w1 (mm) = some (mo ad (0) (tb) (nI nd) (nI nw) (br) (yr) (wd)) := by rw [ew1]; exact va_up_self _ _ _
  have h1_ad19 : w1 (ad 19) = some (eI cs (10) (K 19)) := by rw [ew1]; exact (va_up_ne _ _ (zne h_19 h_m (by intro q9; first | cases q9 | simp at q9))).trans h_19
  refine lv_aload_n hx hb dX7_part_5 rfl (lv_at hl 0 rfl) ?_
  refine lv_aload_n hx hb dX7_part_6 rfl (lv_at hl 0 rfl) ?_
  refine lv_iload_n hx hb dX7_part_7 rfl (lv_at hl 1 rfl) ?_
  refine z_rV (As := [.int (nI wi)]) (rest := [.ref (mm)]) (n := 1) ⟨hx, hb, hml, hown, hts⟩ (c_X7_noWorker l D cs w1 H.size mm ad (0) (tb) (nI nd) (br) (yr) (wd) nw wi (by omega) hwi h1_mm) gX7_part_X7_noWorker rfl ⟨rfl, by decide +kernel, by decide +kernel, by decide +kernel⟩ ⟨Nat.le_of_ble_eq_true rfl, Nat.le_of_ble_eq_true rfl⟩ hK hE hS rfl h1_mm rfl hl.1 rfl (Nat.le_of_ble_eq_true rfl) dX7_part_8 ⟨Nat.le_of_ble_eq_true rfl, Nat.le_of_ble_eq_true rfl⟩ (fun H locs hS => ?_)
  refine lv_if_ne (tgt := 22) hx hb dX7_part_11 (by decide) (fun cq9 => absurd rfl cq9) (fun _ => ?_)
  refine lv_aload_n hx hb dX7_part_14 rfl (lv_at hl 0 rfl) ?_
  refine lv_iload_n hx hb dX7_part_15 rfl (lv_at hl 3 rfl) ?_
  refine z_rV (As := [.int (nI d)]) (rest := [.ref (mm)]) (n := 1) ⟨hx, hb, hml, hown, hts⟩ (c_X7_noDeduction l D cs w1 H.size mm ad (0) (tb) (nI nw) (br) (yr) (wd) nd d (by omega) hd h1_mm) gX7_part_X7_noDeduction rfl ⟨rfl, by decide +kernel, by decide +kernel, by decide +kernel⟩ ⟨Nat.le_of_ble_eq_true rfl, Nat.le_of_ble_eq_true rfl⟩ hK hE hS rfl h1_mm rfl hl.1 rfl (Nat.le_of_ble_eq_true rfl) dX7_part_16 ⟨Nat.le_of_ble_eq_true rfl, Nat.le_of_ble_eq_true rfl⟩ (fun H locs hS => ?_)
  refine lv_if_eq (tgt := 26) hx hb dX7_part_19 (by decide) (fun _ => ?_) (fun cq9 => absurd rfl cq9)
  refine lv_iconst (v := 0) hx hb dX7_part_26 (by decide) ?_
  refine lv_iconst (v := 1) hx hb dX7_part_27 (by decide) ?_
  refine z_rV (As := [.int (0), .int (1)]) (rest := []) (n := 2) ⟨hx, hb, hml, hown, hts⟩ (c0_X7_throwsIf l D cs w1 H.size mm ad (0) (tb) (nI nd) (nI nw) (br) (yr) (wd) 1 h1_mm) gX7_part_X7_throwsIf rfl ⟨rfl, by decide +kernel, by decide +kernel, by decide +kernel⟩ ⟨Nat.le_of_ble_eq_true rfl, Nat.le_of_ble_eq_true rfl⟩ hK hE hS rfl h1_mm rfl hl.1 rfl (Nat.le_of_ble_eq_true rfl) dX7_part_28 ⟨Nat.le_of_ble_eq_true rfl, Nat.le_of_ble_eq_true rfl⟩ (fun H locs hS => ?_)
  refine lv_if_ne (tgt := 61) hx hb dX7_part_31 (by decide) (fun cq9 => absurd rfl cq9) (fun _ => ?_)
  refine lv_aload_n hx hb dX7_part_34 rfl (lv_at hl 0 rfl) ?_
  refine lv_iload_n hx hb dX7_part_35 rfl (lv_at hl 2 rfl) ?_
  refine lv_if_lt (tgt := 49) hx hb dX7_part_36 (by decide) (fun cq9 => absurd cq9 (nI_pos (by omega))) (fun _ => ?_)
  refine lv_iload_n hx hb dX7_part_39 rfl (lv_at hl 2 rfl) ?_
  refine lv_aload_n hx hb dX7_part_40 rfl (lv_at hl 0 rfl) ?_
  refine z_get (C := RX7) (T := TX7) (N := 45) (v := .ref (ad 19)) hx hb hts (by decide +kernel) hown hK hS h1_mm rfl 19 (by decide) (hts (.fieldLink RX7 60 "PayLedgerModel" "many" "[I") (by decide +kernel)) rfl dX7_part_41 ?_
  refine lv_iload_n hx hb dX7_part_44 rfl (lv_at hl 1 rfl) ?_
  refine z_iald hx hb hK hS h1_ad19 (vp_in_nI (by omega) (by decide)) dX7_part_45 ?_
  refine z_ti (y := ((K 19) (wi))) (congrArg _ (nI_clamp (by omega))) ?_
  refine z_ti (y := nI n) h19 ?_
  refine lv_icmp_lt (tgt := 53) hx hb dX7_part_46 (by decide) (fun _ => ?_) (fun cq9 => absurd (nI_lt hi (by omega)) cq9)
  refine lv_iconst (v := 0) hx hb dX7_part_53 (by decide) ?_
  refine lv_iconst (v := 2) hx hb dX7_part_54 (by decide) ?_
  refine z_rV (As := [.int (0), .int (2)]) (rest := []) (n := 2) ⟨hx, hb, hml, hown, hts⟩ (c0_X7_throwsIf l D cs w1 H.size mm ad (0) (tb) (nI nd) (nI nw) (br) (yr) (wd) 2 h1_mm) gX7_part_X7_throwsIf rfl ⟨rfl, by decide +kernel, by decide +kernel, by decide +kernel⟩ ⟨Nat.le_of_ble_eq_true rfl, Nat.le_of_ble_eq_true rfl⟩ hK hE hS rfl h1_mm rfl hl.1 rfl (Nat.le_of_ble_eq_true rfl) dX7_part_55 ⟨Nat.le_of_ble_eq_true rfl, Nat.le_of_ble_eq_true rfl⟩ (fun H locs hS => ?_)
  refine lv_if_eq (tgt := 63) hx hb dX7_part_58 (by decide) (fun _ => ?_) (fun cq9 => absurd rfl cq9)
  refine lv_aload_n hx hb dX7_part_63 rfl (lv_at hl 0 rfl) ?_
  refine lv_iload_n hx hb dX7_part_64 rfl (lv_at hl 1 rfl) ?_
  refine lv_aload_n hx hb dX7_part_65 rfl (lv_at hl 0 rfl) ?_
  refine z_get (C := RX7) (T := TX7) (N := 45) (v := .ref (ad 19)) hx hb hts (by decide +kernel) hown hK hS h1_mm rfl 19 (by decide) (hts (.fieldLink RX7 60 "PayLedgerModel" "many" "[I") (by decide +kernel)) rfl dX7_part_66 ?_
  refine lv_iload_n hx hb dX7_part_69 rfl (lv_at hl 1 rfl) ?_
  refine z_iald hx hb hK hS h1_ad19 (vp_in_nI (by omega) (by decide)) dX7_part_70 ?_
  refine z_ti (y := ((K 19) (wi))) (congrArg _ (nI_clamp (by omega))) ?_
  refine z_ti (y := nI n) h19 ?_
  have hex1 : zEx w w1 [(mm, (mo ad (0) (tb) (nI nd) (nI nw) (br) (yr) (wd)))] := ⟨(zm1 h1_mm zm0), fun a9 h9 => by rw [ew1, va_up_ne _ _ (show a9 ≠ mm from h9 (mm, (mo ad (0) (tb) (nI nd) (nI nw) (br) (yr) (wd))) (List.mem_of_getElem? (i := 0) rfl))]⟩
  have hq1 : zMQ cs w w1 ad mm (mo ad (0) (tb) (nI nd) (nI nw) (br) (yr) (wd)) J K := zMQ.o hM h_m hinj hex1
  refine z_invV (As := [.int (nI wi), .int (nI n)]) (rest := []) (n := 2) ⟨hx, hb, hml, hown, hts⟩ (c_X7_works l D cs w1 H.size mm ad J K 0 tb (nI nw) br yr wd wi bo rb pe me re cr ex en tx V P nb tn FF GF nd de so si ca bs n hinj hq1.2.1 hTb hDd hP hw hn hWk h1_mm) gX7_part_X7_works rfl ⟨rfl, by decide +kernel, by decide +kernel, by decide +kernel⟩ ⟨Nat.le_of_ble_eq_true rfl, Nat.le_of_ble_eq_true rfl⟩ hK hE hS rfl h1_mm rfl hl.1 rfl (Nat.le_of_ble_eq_true rfl) dX7_part_71 ⟨Nat.le_of_ble_eq_true rfl, Nat.le_of_ble_eq_true rfl⟩ (fun v9 u2 H locs hq hS => ?_)
  obtain ⟨rfl, J2, ho, hz, hA2⟩ := hq
  have hq2 := zMQ.w hq1.2.1 hq1.1 hinj hz ho
  have h_m3 : u2 mm = some (mo ad (0) (tb) (nI nd) (nI nw) (br) (yr) (wd)) := hq2.1
  have h_373 : u2 (ad 37) = some (eJ cs (480) (J2 37)) := hq2.2.1 37 (by decide)
  refine W.eq (g2 := F0 m 74 ls []) rfl ?_
  refine lv_aload_n hx hb dX7_part_74 rfl (lv_at hl 0 rfl) ?_
  refine z_get (C := RX7) (T := TX7) (N := 45) (v := .ref (ad 37)) hx hb hts (by decide +kernel) hown hK hS h_m3 rfl 37 (by decide) (hts (.fieldLink RX7 102 "PayLedgerModel" "parts" "[J") (by decide +kernel)) rfl dX7_part_75 ?_
  refine lv_bipush (v := 8) hx hb dX7_part_78 (by decide) ?_
  refine lv_iload_n hx hb dX7_part_80 rfl (lv_at hl 2 rfl) ?_
  refine lv_imul hx hb dX7_part_81 ?_
  refine z_ti (y := nI (8 * i)) (zI_mul (8) (i)) ?_
  refine lv_iload_n hx hb dX7_part_82 rfl (lv_at hl 3 rfl) ?_
  refine lv_iadd hx hb dX7_part_83 ?_
  refine z_ti (y := nI ((8 * i) + d)) (nI_add ((8 * i)) (d)) ?_
  refine z_lald hx hb hK hS h_373 (vp_in_nI (by omega) (by decide)) dX7_part_84 ?_
  refine z_tl (y := ((J2 37) (((8 * i) + d)))) (congrArg _ (nI_clamp (by omega))) ?_
  refine z_tl (y := P i d) ((hA2 i hi).2 d (by omega)) ?_
  exact z_lret hx hb hr hlocks hS (Nat.le_of_ble_eq_true rfl) (Nat.le_of_ble_eq_true rfl) dX7_part_85 ⟨rfl, J2, ho, hq1.trans hq2⟩
set_option maxHeartbeats 4000000 in
set_option maxRecDepth 100000 in
theorem t1_X7_sum (l : Launch) (D : va_G) (cs : Nat → ClassId) (w : zw) (sz : Nat) (mm : Nat) (ad : Nat → Nat) (J : Nat → Nat → Int64) (K : Nat → Nat → Int32) (th tb dd br yr wd : Int32) (nw : Nat) (x what : Int32) (hinj : ∀ i j : Nat, i ≠ j → ad i ≠ ad j) (hM : zMA cs w ad J K) (hnw : nw ≤ 10) (hx9 : ∀ k : Nat, k < nw → x ≠ nI k) (h_m : w (mm) = some (mo ad (th) (tb) (dd) (nI nw) (br) (yr) (wd))) : zM l D cs yX7_sum wsX7_sum 3 0 0 w sz [.ref (mm), .int (x), .int (what)] (fun r w2 => r = some (.long 0) ∧ zMQ cs w w2 ad mm (mo ad (1) (tb) (dd) (nI nw) (br) (yr) (wd)) J K) := by
  refine z_met (cc := cX7_sum) (maxL := 3) (ret := (some .long)) (by decide) rfl (Nat.le_of_ble_eq_true rfl) ?_
  intro p e s m below meth c hx hb hr hml hown hts hlocks hnm hsz hK hE hS ls hl
  have hl : lv_has ls 3 [(0, .ref (mm)), (1, .int (x)), (2, .int (what))] := hl
  refine lv_aload_n hx hb dX7_sum_0 rfl (lv_at hl 0 rfl) ?_
  refine lv_iconst (v := 0) hx hb dX7_sum_1 (by decide) ?_
  refine z_put (C := RX7) (T := TX7) (N := 45) (v := .int (0)) hx hb hts (by decide +kernel) tyX7 tyX7_ok nmX7 hown hK hS h_m rfl 0 (by decide) (hts (.fieldLink RX7 126 "PayLedgerModel" "thrown" "I") (by decide +kernel)) rfl rfl rfl (Nat.le_of_ble_eq_true rfl) dX7_sum_2 (fun H locs hS => ?_)
  obtain ⟨w1, ew1⟩ : ∃ z : zw, z = va_up w (mm) (some (mo ad (0) (tb) (dd) (nI nw) (br) (yr) (wd))) := ⟨_, rfl⟩
  have hS : zS (zA w sz) D w1 s.heap H locs := by rw [ew1]; exact hS
  have h1_mm : w1 (mm) = some (mo ad (0) (tb) (dd) (nI nw) (br) (yr) (wd)) := by rw [ew1]; exact va_up_self _ _ _
  refine lv_aload_n hx hb dX7_sum_5 rfl (lv_at hl 0 rfl) ?_
  refine lv_aload_n hx hb dX7_sum_6 rfl (lv_at hl 0 rfl) ?_
  refine lv_iload_n hx hb dX7_sum_7 rfl (lv_at hl 1 rfl) ?_
  refine z_rV (As := [.int (x)]) (rest := [.ref (mm)]) (n := 1) ⟨hx, hb, hml, hown, hts⟩ (n_X7_noWorker l D cs w1 H.size mm ad (0) (tb) (dd) (br) (yr) (wd) nw x (by omega) hx9 h1_mm) gX7_sum_X7_noWorker rfl ⟨rfl, by decide +kernel, by decide +kernel, by decide +kernel⟩ ⟨Nat.le_of_ble_eq_true rfl, Nat.le_of_ble_eq_true rfl⟩ hK hE hS rfl h1_mm rfl hl.1 rfl (Nat.le_of_ble_eq_true rfl) dX7_sum_8 ⟨Nat.le_of_ble_eq_true rfl, Nat.le_of_ble_eq_true rfl⟩ (fun H locs hS => ?_)
  refine lv_iconst (v := 1) hx hb dX7_sum_11 (by decide) ?_
  refine z_invV (As := [.int (1), .int (1)]) (rest := []) (n := 2) ⟨hx, hb, hml, hown, hts⟩ (c1_X7_throwsIf l D cs w1 H.size mm ad (0) (tb) (dd) (nI nw) (br) (yr) (wd) 1 h1_mm) gX7_sum_X7_throwsIf rfl ⟨rfl, by decide +kernel, by decide +kernel, by decide +kernel⟩ ⟨Nat.le_of_ble_eq_true rfl, Nat.le_of_ble_eq_true rfl⟩ hK hE hS rfl h1_mm rfl hl.1 rfl (Nat.le_of_ble_eq_true rfl) dX7_sum_12 ⟨Nat.le_of_ble_eq_true rfl, Nat.le_of_ble_eq_true rfl⟩ (fun v9 u2 H locs hq hS => ?_)
  obtain ⟨rfl, hx2⟩ := hq
  have h3_mm : u2 (mm) = some (mo ad (1) (tb) (dd) (nI nw) (br) (yr) (wd)) := hx2.at 0 rfl
  refine W.eq (g2 := F0 m 15 ls [.int (1)]) rfl ?_
  refine lv_if_ne (tgt := 43) hx hb dX7_sum_15 (by decide) (fun _ => ?_) (fun cq9 => absurd cq9 (by decide))
  refine lv_lconst (v := 0) hx hb dX7_sum_43 (by decide) ?_
  have hex : zEx w u2 [(mm, (mo ad (1) (tb) (dd) (nI nw) (br) (yr) (wd)))] := ⟨(zm1 h3_mm zm0), fun a9 h9 => by rw [hx2.2 a9 (zm1 (show a9 ≠ mm from h9 (mm, (mo ad (1) (tb) (dd) (nI nw) (br) (yr) (wd))) (List.mem_of_getElem? (i := 0) rfl)) zm0), ew1, va_up_ne _ _ (show a9 ≠ mm from h9 (mm, (mo ad (1) (tb) (dd) (nI nw) (br) (yr) (wd))) (List.mem_of_getElem? (i := 0) rfl))]⟩
  exact z_lret hx hb hr hlocks hS (Nat.le_of_ble_eq_true rfl) (Nat.le_of_ble_eq_true rfl) dX7_sum_44 ⟨rfl, zMQ.o hM h_m hinj hex⟩
set_option maxHeartbeats 4000000 in
set_option maxRecDepth 100000 in
theorem t2_X7_sum (l : Launch) (D : va_G) (cs : Nat → ClassId) (w : zw) (sz : Nat) (mm : Nat) (ad : Nat → Nat) (J : Nat → Nat → Int64) (K : Nat → Nat → Int32) (th tb dd br yr wd : Int32) (nw wi : Nat) (what : Int32) (hinj : ∀ i j : Nat, i ≠ j → ad i ≠ ad j) (hM : zMA cs w ad J K) (hnw : nw ≤ 10) (hwi : wi < nw) (hwh : zUpTo what.toInt64 10 = 0) (h_m : w (mm) = some (mo ad (th) (tb) (dd) (nI nw) (br) (yr) (wd))) : zM l D cs yX7_sum wsX7_sum 3 0 0 w sz [.ref (mm), .int (nI wi), .int (what)] (fun r w2 => r = some (.long 0) ∧ zMQ cs w w2 ad mm (mo ad (2) (tb) (dd) (nI nw) (br) (yr) (wd)) J K) := by
  refine z_met (cc := cX7_sum) (maxL := 3) (ret := (some .long)) (by decide) rfl (Nat.le_of_ble_eq_true rfl) ?_
  intro p e s m below meth c hx hb hr hml hown hts hlocks hnm hsz hK hE hS ls hl
  have hl : lv_has ls 3 [(0, .ref (mm)), (1, .int (nI wi)), (2, .int (what))] := hl
  refine lv_aload_n hx hb dX7_sum_0 rfl (lv_at hl 0 rfl) ?_
  refine lv_iconst (v := 0) hx hb dX7_sum_1 (by decide) ?_
  refine z_put (C := RX7) (T := TX7) (N := 45) (v := .int (0)) hx hb hts (by decide +kernel) tyX7 tyX7_ok nmX7 hown hK hS h_m rfl 0 (by decide) (hts (.fieldLink RX7 126 "PayLedgerModel" "thrown" "I") (by decide +kernel)) rfl rfl rfl (Nat.le_of_ble_eq_true rfl) dX7_sum_2 (fun H locs hS => ?_)
  obtain ⟨w1, ew1⟩ : ∃ z : zw, z = va_up w (mm) (some (mo ad (0) (tb) (dd) (nI nw) (br) (yr) (wd))) := ⟨_, rfl⟩
  have hS : zS (zA w sz) D w1 s.heap H locs := by rw [ew1]; exact hS
  have h1_mm : w1 (mm) = some (mo ad (0) (tb) (dd) (nI nw) (br) (yr) (wd)) := by rw [ew1]; exact va_up_self _ _ _
  refine lv_aload_n hx hb dX7_sum_5 rfl (lv_at hl 0 rfl) ?_
  refine lv_aload_n hx hb dX7_sum_6 rfl (lv_at hl 0 rfl) ?_
  refine lv_iload_n hx hb dX7_sum_7 rfl (lv_at hl 1 rfl) ?_
  refine z_rV (As := [.int (nI wi)]) (rest := [.ref (mm)]) (n := 1) ⟨hx, hb, hml, hown, hts⟩ (c_X7_noWorker l D cs w1 H.size mm ad (0) (tb) (dd) (br) (yr) (wd) nw wi (by omega) hwi h1_mm) gX7_sum_X7_noWorker rfl ⟨rfl, by decide +kernel, by decide +kernel, by decide +kernel⟩ ⟨Nat.le_of_ble_eq_true rfl, Nat.le_of_ble_eq_true rfl⟩ hK hE hS rfl h1_mm rfl hl.1 rfl (Nat.le_of_ble_eq_true rfl) dX7_sum_8 ⟨Nat.le_of_ble_eq_true rfl, Nat.le_of_ble_eq_true rfl⟩ (fun H locs hS => ?_)
  refine lv_iconst (v := 1) hx hb dX7_sum_11 (by decide) ?_
  refine z_rV (As := [.int (0), .int (1)]) (rest := []) (n := 2) ⟨hx, hb, hml, hown, hts⟩ (c0_X7_throwsIf l D cs w1 H.size mm ad (0) (tb) (dd) (nI nw) (br) (yr) (wd) 1 h1_mm) gX7_sum_X7_throwsIf rfl ⟨rfl, by decide +kernel, by decide +kernel, by decide +kernel⟩ ⟨Nat.le_of_ble_eq_true rfl, Nat.le_of_ble_eq_true rfl⟩ hK hE hS rfl h1_mm rfl hl.1 rfl (Nat.le_of_ble_eq_true rfl) dX7_sum_12 ⟨Nat.le_of_ble_eq_true rfl, Nat.le_of_ble_eq_true rfl⟩ (fun H locs hS => ?_)
  refine lv_if_ne (tgt := 43) hx hb dX7_sum_15 (by decide) (fun cq9 => absurd rfl cq9) (fun _ => ?_)
  refine lv_aload_n hx hb dX7_sum_18 rfl (lv_at hl 0 rfl) ?_
  refine lv_iload_n hx hb dX7_sum_19 rfl (lv_at hl 2 rfl) ?_
  refine lv_i2l (v := ((what : Int32).toInt64)) hx hb dX7_sum_20 rfl ?_
  refine lv_lconst (v := 0) hx hb dX7_sum_21 (by decide) ?_
  refine lv_ldc2 (v := 10) hx hb hown (hts (.constantLong RX7 245 (10)) (by decide +kernel)) dX7_sum_22 ?_
  refine z_rS (As := [.long (((what : Int32).toInt64)), .long (0), .long (10)]) (rest := [.ref (mm)]) (n := 3) ⟨hx, hb, hml, hown, hts⟩ (c_X7_in l D cs w1 H.size (what.toInt64) (0) (10)) gX7_sum_X7_in rfl ⟨by decide +kernel, by decide +kernel, by decide +kernel⟩ ⟨Nat.le_of_ble_eq_true rfl, Nat.le_of_ble_eq_true rfl⟩ hK hE hS rfl hl.1 rfl (Nat.le_of_ble_eq_true rfl) dX7_sum_25 ⟨Nat.le_of_ble_eq_true rfl, Nat.le_of_ble_eq_true rfl⟩ (fun H locs hS => ?_)
  refine lv_if_ne (tgt := 35) hx hb dX7_sum_28 (by decide) (fun cq9 => absurd hwh cq9) (fun _ => ?_)
  refine lv_iconst (v := 1) hx hb dX7_sum_31 (by decide) ?_
  refine lv_goto (tgt := 36) hx hb dX7_sum_32 (by decide) ?_
  refine lv_iconst (v := 2) hx hb dX7_sum_36 (by decide) ?_
  refine z_invV (As := [.int (1), .int (2)]) (rest := []) (n := 2) ⟨hx, hb, hml, hown, hts⟩ (c1_X7_throwsIf l D cs w1 H.size mm ad (0) (tb) (dd) (nI nw) (br) (yr) (wd) 2 h1_mm) gX7_sum_X7_throwsIf rfl ⟨rfl, by decide +kernel, by decide +kernel, by decide +kernel⟩ ⟨Nat.le_of_ble_eq_true rfl, Nat.le_of_ble_eq_true rfl⟩ hK hE hS rfl h1_mm rfl hl.1 rfl (Nat.le_of_ble_eq_true rfl) dX7_sum_37 ⟨Nat.le_of_ble_eq_true rfl, Nat.le_of_ble_eq_true rfl⟩ (fun v9 u2 H locs hq hS => ?_)
  obtain ⟨rfl, hx2⟩ := hq
  have h3_mm : u2 (mm) = some (mo ad (2) (tb) (dd) (nI nw) (br) (yr) (wd)) := hx2.at 0 rfl
  refine W.eq (g2 := F0 m 40 ls [.int (1)]) rfl ?_
  refine lv_if_eq (tgt := 45) hx hb dX7_sum_40 (by decide) (fun cq9 => absurd cq9 (by decide)) (fun _ => ?_)
  refine lv_lconst (v := 0) hx hb dX7_sum_43 (by decide) ?_
  have hex : zEx w u2 [(mm, (mo ad (2) (tb) (dd) (nI nw) (br) (yr) (wd)))] := ⟨(zm1 h3_mm zm0), fun a9 h9 => by rw [hx2.2 a9 (zm1 (show a9 ≠ mm from h9 (mm, (mo ad (2) (tb) (dd) (nI nw) (br) (yr) (wd))) (List.mem_of_getElem? (i := 0) rfl)) zm0), ew1, va_up_ne _ _ (show a9 ≠ mm from h9 (mm, (mo ad (2) (tb) (dd) (nI nw) (br) (yr) (wd))) (List.mem_of_getElem? (i := 0) rfl))]⟩
  exact z_lret hx hb hr hlocks hS (Nat.le_of_ble_eq_true rfl) (Nat.le_of_ble_eq_true rfl) dX7_sum_44 ⟨rfl, zMQ.o hM h_m hinj hex⟩
set_option maxHeartbeats 4000000 in
set_option maxRecDepth 100000 in
theorem c_X7_sum (l : Launch) (D : va_G) (cs : Nat → ClassId) (w : zw) (sz : Nat) (mm : Nat) (ad : Nat → Nat) (J : Nat → Nat → Int64) (K : Nat → Nat → Int32) (th tb br yr wd : Int32) (wi : Nat) (bo rb pe me : Nat → Int32) (re cr ex : Nat → Int64) (en : Nat → Int32) (tx : Nat → Nat) (V P : Nat → Nat → Int64) (nb : Nat) (tn : Nat → Nat) (FF : Nat → Nat → Int64) (GF : Nat → Nat → Int32) (nd : Nat) (de so : Nat → Int32) (si ca bs : Nat → Int64) (n : Nat) (nw : Nat) (what : Int32) (hinj : ∀ i j : Nat, i ≠ j → ad i ≠ ad j) (hM : zMA cs w ad J K) (hW : mWr J K wi bo rb pe me re cr ex en tx V P nb tn FF GF nd de so si ca bs n) (hnw : nw ≤ 10) (hwi : wi < nw) (hwh : zUpTo what.toInt64 10 = 1) (h_m : w (mm) = some (mo ad (th) (tb) (nI nd) (nI nw) (br) (yr) (wd))) : zM l D cs yX7_sum wsX7_sum 9 0 0 w sz [.ref (mm), .int (nI wi), .int (what)] (fun r w2 => r = some (.long (zTotal bo V n (J 20 wi) what)) ∧ ∃ J' : Nat → Nat → Int64, mOut J J' ∧ zMQ cs w w2 ad mm (mo ad (0) (tb) (nI nd) (nI nw) (br) (yr) (wd)) J' K) := by
  refine z_met (cc := cX7_sum) (maxL := 3) (ret := (some .long)) (by decide) rfl (Nat.le_of_ble_eq_true rfl) ?_
  intro p e s m below meth c hx hb hr hml hown hts hlocks hnm hsz hK hE hS ls hl
  have hl : lv_has ls 3 [(0, .ref (mm)), (1, .int (nI wi)), (2, .int (what))] := hl
  refine lv_aload_n hx hb dX7_sum_0 rfl (lv_at hl 0 rfl) ?_
  refine lv_iconst (v := 0) hx hb dX7_sum_1 (by decide) ?_
  refine z_put (C := RX7) (T := TX7) (N := 45) (v := .int (0)) hx hb hts (by decide +kernel) tyX7 tyX7_ok nmX7 hown hK hS h_m rfl 0 (by decide) (hts (.fieldLink RX7 126 "PayLedgerModel" "thrown" "I") (by decide +kernel)) rfl rfl rfl (Nat.le_of_ble_eq_true rfl) dX7_sum_2 (fun H locs hS => ?_)
  obtain ⟨w1, ew1⟩ : ∃ z : zw, z = va_up w (mm) (some (mo ad (0) (tb) (nI nd) (nI nw) (br) (yr) (wd))) := ⟨_, rfl⟩
  have hS : zS (zA w sz) D w1 s.heap H locs := by rw [ew1]; exact hS
  have h1_mm : w1 (mm) = some (mo ad (0) (tb) (nI nd) (nI nw) (br) (yr) (wd)) := by rw [ew1]; exact va_up_self _ _ _
  refine lv_aload_n hx hb dX7_sum_5 rfl (lv_at hl 0 rfl) ?_
  refine lv_aload_n hx hb dX7_sum_6 rfl (lv_at hl 0 rfl) ?_
  refine lv_iload_n hx hb dX7_sum_7 rfl (lv_at hl 1 rfl) ?_
  refine z_rV (As := [.int (nI wi)]) (rest := [.ref (mm)]) (n := 1) ⟨hx, hb, hml, hown, hts⟩ (c_X7_noWorker l D cs w1 H.size mm ad (0) (tb) (nI nd) (br) (yr) (wd) nw wi (by omega) hwi h1_mm) gX7_sum_X7_noWorker rfl ⟨rfl, by decide +kernel, by decide +kernel, by decide +kernel⟩ ⟨Nat.le_of_ble_eq_true rfl, Nat.le_of_ble_eq_true rfl⟩ hK hE hS rfl h1_mm rfl hl.1 rfl (Nat.le_of_ble_eq_true rfl) dX7_sum_8 ⟨Nat.le_of_ble_eq_true rfl, Nat.le_of_ble_eq_true rfl⟩ (fun H locs hS => ?_)
  refine lv_iconst (v := 1) hx hb dX7_sum_11 (by decide) ?_
  refine z_rV (As := [.int (0), .int (1)]) (rest := []) (n := 2) ⟨hx, hb, hml, hown, hts⟩ (c0_X7_throwsIf l D cs w1 H.size mm ad (0) (tb) (nI nd) (nI nw) (br) (yr) (wd) 1 h1_mm) gX7_sum_X7_throwsIf rfl ⟨rfl, by decide +kernel, by decide +kernel, by decide +kernel⟩ ⟨Nat.le_of_ble_eq_true rfl, Nat.le_of_ble_eq_true rfl⟩ hK hE hS rfl h1_mm rfl hl.1 rfl (Nat.le_of_ble_eq_true rfl) dX7_sum_12 ⟨Nat.le_of_ble_eq_true rfl, Nat.le_of_ble_eq_true rfl⟩ (fun H locs hS => ?_)
  refine lv_if_ne (tgt := 43) hx hb dX7_sum_15 (by decide) (fun cq9 => absurd rfl cq9) (fun _ => ?_)
  refine lv_aload_n hx hb dX7_sum_18 rfl (lv_at hl 0 rfl) ?_
  refine lv_iload_n hx hb dX7_sum_19 rfl (lv_at hl 2 rfl) ?_
  refine lv_i2l (v := ((what : Int32).toInt64)) hx hb dX7_sum_20 rfl ?_
  refine lv_lconst (v := 0) hx hb dX7_sum_21 (by decide) ?_
  refine lv_ldc2 (v := 10) hx hb hown (hts (.constantLong RX7 245 (10)) (by decide +kernel)) dX7_sum_22 ?_
  refine z_rS (As := [.long (((what : Int32).toInt64)), .long (0), .long (10)]) (rest := [.ref (mm)]) (n := 3) ⟨hx, hb, hml, hown, hts⟩ (c_X7_in l D cs w1 H.size (what.toInt64) (0) (10)) gX7_sum_X7_in rfl ⟨by decide +kernel, by decide +kernel, by decide +kernel⟩ ⟨Nat.le_of_ble_eq_true rfl, Nat.le_of_ble_eq_true rfl⟩ hK hE hS rfl hl.1 rfl (Nat.le_of_ble_eq_true rfl) dX7_sum_25 ⟨Nat.le_of_ble_eq_true rfl, Nat.le_of_ble_eq_true rfl⟩ (fun H locs hS => ?_)
  refine lv_if_ne (tgt := 35) hx hb dX7_sum_28 (by decide) (fun _ => ?_) (fun cq9 => absurd cq9 (by rw [show mIn (what.toInt64) 0 10 = 1 from hwh]; decide))
  refine lv_iconst (v := 0) hx hb dX7_sum_35 (by decide) ?_
  refine lv_iconst (v := 2) hx hb dX7_sum_36 (by decide) ?_
  refine z_rV (As := [.int (0), .int (2)]) (rest := []) (n := 2) ⟨hx, hb, hml, hown, hts⟩ (c0_X7_throwsIf l D cs w1 H.size mm ad (0) (tb) (nI nd) (nI nw) (br) (yr) (wd) 2 h1_mm) gX7_sum_X7_throwsIf rfl ⟨rfl, by decide +kernel, by decide +kernel, by decide +kernel⟩ ⟨Nat.le_of_ble_eq_true rfl, Nat.le_of_ble_eq_true rfl⟩ hK hE hS rfl h1_mm rfl hl.1 rfl (Nat.le_of_ble_eq_true rfl) dX7_sum_37 ⟨Nat.le_of_ble_eq_true rfl, Nat.le_of_ble_eq_true rfl⟩ (fun H locs hS => ?_)
  refine lv_if_eq (tgt := 45) hx hb dX7_sum_40 (by decide) (fun _ => ?_) (fun cq9 => absurd rfl cq9)
  refine lv_aload_n hx hb dX7_sum_45 rfl (lv_at hl 0 rfl) ?_
  refine lv_iload_n hx hb dX7_sum_46 rfl (lv_at hl 1 rfl) ?_
  refine lv_iload_n hx hb dX7_sum_47 rfl (lv_at hl 2 rfl) ?_
  have hex1 : zEx w w1 [(mm, (mo ad (0) (tb) (nI nd) (nI nw) (br) (yr) (wd)))] := ⟨(zm1 h1_mm zm0), fun a9 h9 => by rw [ew1, va_up_ne _ _ (show a9 ≠ mm from h9 (mm, (mo ad (0) (tb) (nI nd) (nI nw) (br) (yr) (wd))) (List.mem_of_getElem? (i := 0) rfl))]⟩
  have hq1 : zMQ cs w w1 ad mm (mo ad (0) (tb) (nI nd) (nI nw) (br) (yr) (wd)) J K := zMQ.o hM h_m hinj hex1
  refine z_invV (As := [.int (nI wi), .int (what)]) (rest := []) (n := 2) ⟨hx, hb, hml, hown, hts⟩ (c_X7_sums l D cs w1 H.size mm ad J K 0 tb (nI nw) br yr wd wi bo rb pe me re cr ex en tx V P nb tn FF GF nd de so si ca bs n (what) hinj hq1.2.1 hW h1_mm) gX7_sum_X7_sums rfl ⟨rfl, by decide +kernel, by decide +kernel, by decide +kernel⟩ ⟨Nat.le_of_ble_eq_true rfl, Nat.le_of_ble_eq_true rfl⟩ hK hE hS rfl h1_mm rfl hl.1 rfl (Nat.le_of_ble_eq_true rfl) dX7_sum_48 ⟨Nat.le_of_ble_eq_true rfl, Nat.le_of_ble_eq_true rfl⟩ (fun v9 u2 H locs hq hS => ?_)
  obtain ⟨rfl, J2, ho, hz⟩ := hq
  have hq2 := zMQ.w hq1.2.1 hq1.1 hinj hz ho
  have h_m3 : u2 mm = some (mo ad (0) (tb) (nI nd) (nI nw) (br) (yr) (wd)) := hq2.1
  refine W.eq (g2 := F0 m 51 ls [.long (zTotal bo V n (J 20 wi) what)]) rfl ?_
  exact z_lret hx hb hr hlocks hS (Nat.le_of_ble_eq_true rfl) (Nat.le_of_ble_eq_true rfl) dX7_sum_51 ⟨rfl, J2, ho, hq1.trans hq2⟩
set_option maxHeartbeats 4000000 in
set_option maxRecDepth 100000 in
theorem t1_X7_deducted (l : Launch) (D : va_G) (cs : Nat → ClassId) (w : zw) (sz : Nat) (mm : Nat) (ad : Nat → Nat) (J : Nat → Nat → Int64) (K : Nat → Nat → Int32) (th tb dd br yr wd : Int32) (nw : Nat) (x y : Int32) (hinj : ∀ i j : Nat, i ≠ j → ad i ≠ ad j) (hM : zMA cs w ad J K) (hnw : nw ≤ 10) (hx9 : ∀ k : Nat, k < nw → x ≠ nI k) (h_m : w (mm) = some (mo ad (th) (tb) (dd) (nI nw) (br) (yr) (wd))) : zM l D cs yX7_deducted wsX7_deducted 3 0 0 w sz [.ref (mm), .int (x), .int (y)] (fun r w2 => r = some (.long 0) ∧ zMQ cs w w2 ad mm (mo ad (1) (tb) (dd) (nI nw) (br) (yr) (wd)) J K) := by
  refine z_met (cc := cX7_deducted) (maxL := 6) (ret := (some .long)) (by decide) rfl (Nat.le_of_ble_eq_true rfl) ?_
  intro p e s m below meth c hx hb hr hml hown hts hlocks hnm hsz hK hE hS ls hl
  have hl : lv_has ls 6 [(0, .ref (mm)), (1, .int (x)), (2, .int (y))] := hl
  refine lv_aload_n hx hb dX7_deducted_0 rfl (lv_at hl 0 rfl) ?_
  refine lv_iconst (v := 0) hx hb dX7_deducted_1 (by decide) ?_
  refine z_put (C := RX7) (T := TX7) (N := 45) (v := .int (0)) hx hb hts (by decide +kernel) tyX7 tyX7_ok nmX7 hown hK hS h_m rfl 0 (by decide) (hts (.fieldLink RX7 126 "PayLedgerModel" "thrown" "I") (by decide +kernel)) rfl rfl rfl (Nat.le_of_ble_eq_true rfl) dX7_deducted_2 (fun H locs hS => ?_)
  obtain ⟨w1, ew1⟩ : ∃ z : zw, z = va_up w (mm) (some (mo ad (0) (tb) (dd) (nI nw) (br) (yr) (wd))) := ⟨_, rfl⟩
  have hS : zS (zA w sz) D w1 s.heap H locs := by rw [ew1]; exact hS
  have h1_mm : w1 (mm) = some (mo ad (0) (tb) (dd) (nI nw) (br) (yr) (wd)) := by rw [ew1]; exact va_up_self _ _ _
  refine lv_aload_n hx hb dX7_deducted_5 rfl (lv_at hl 0 rfl) ?_
  refine lv_aload_n hx hb dX7_deducted_6 rfl (lv_at hl 0 rfl) ?_
  refine lv_iload_n hx hb dX7_deducted_7 rfl (lv_at hl 1 rfl) ?_
  refine z_rV (As := [.int (x)]) (rest := [.ref (mm)]) (n := 1) ⟨hx, hb, hml, hown, hts⟩ (n_X7_noWorker l D cs w1 H.size mm ad (0) (tb) (dd) (br) (yr) (wd) nw x (by omega) hx9 h1_mm) gX7_deducted_X7_noWorker rfl ⟨rfl, by decide +kernel, by decide +kernel, by decide +kernel⟩ ⟨Nat.le_of_ble_eq_true rfl, Nat.le_of_ble_eq_true rfl⟩ hK hE hS rfl h1_mm rfl hl.1 rfl (Nat.le_of_ble_eq_true rfl) dX7_deducted_8 ⟨Nat.le_of_ble_eq_true rfl, Nat.le_of_ble_eq_true rfl⟩ (fun H locs hS => ?_)
  refine lv_if_ne (tgt := 22) hx hb dX7_deducted_11 (by decide) (fun _ => ?_) (fun cq9 => absurd cq9 (by decide))
  refine lv_iconst (v := 1) hx hb dX7_deducted_22 (by decide) ?_
  refine lv_goto (tgt := 27) hx hb dX7_deducted_23 (by decide) ?_
  refine lv_iconst (v := 1) hx hb dX7_deducted_27 (by decide) ?_
  refine z_invV (As := [.int (1), .int (1)]) (rest := []) (n := 2) ⟨hx, hb, hml, hown, hts⟩ (c1_X7_throwsIf l D cs w1 H.size mm ad (0) (tb) (dd) (nI nw) (br) (yr) (wd) 1 h1_mm) gX7_deducted_X7_throwsIf rfl ⟨rfl, by decide +kernel, by decide +kernel, by decide +kernel⟩ ⟨Nat.le_of_ble_eq_true rfl, Nat.le_of_ble_eq_true rfl⟩ hK hE hS rfl h1_mm rfl hl.1 rfl (Nat.le_of_ble_eq_true rfl) dX7_deducted_28 ⟨Nat.le_of_ble_eq_true rfl, Nat.le_of_ble_eq_true rfl⟩ (fun v9 u2 H locs hq hS => ?_)
  obtain ⟨rfl, hx2⟩ := hq
  have h3_mm : u2 (mm) = some (mo ad (1) (tb) (dd) (nI nw) (br) (yr) (wd)) := hx2.at 0 rfl
  refine W.eq (g2 := F0 m 31 ls [.int (1)]) rfl ?_
  refine lv_if_eq (tgt := 36) hx hb dX7_deducted_31 (by decide) (fun cq9 => absurd cq9 (by decide)) (fun _ => ?_)
  refine lv_lconst (v := 0) hx hb dX7_deducted_34 (by decide) ?_
  have hex : zEx w u2 [(mm, (mo ad (1) (tb) (dd) (nI nw) (br) (yr) (wd)))] := ⟨(zm1 h3_mm zm0), fun a9 h9 => by rw [hx2.2 a9 (zm1 (show a9 ≠ mm from h9 (mm, (mo ad (1) (tb) (dd) (nI nw) (br) (yr) (wd))) (List.mem_of_getElem? (i := 0) rfl)) zm0), ew1, va_up_ne _ _ (show a9 ≠ mm from h9 (mm, (mo ad (1) (tb) (dd) (nI nw) (br) (yr) (wd))) (List.mem_of_getElem? (i := 0) rfl))]⟩
  exact z_lret hx hb hr hlocks hS (Nat.le_of_ble_eq_true rfl) (Nat.le_of_ble_eq_true rfl) dX7_deducted_35 ⟨rfl, zMQ.o hM h_m hinj hex⟩
set_option maxHeartbeats 4000000 in
set_option maxRecDepth 100000 in
theorem t2_X7_deducted (l : Launch) (D : va_G) (cs : Nat → ClassId) (w : zw) (sz : Nat) (mm : Nat) (ad : Nat → Nat) (J : Nat → Nat → Int64) (K : Nat → Nat → Int32) (th tb br yr wd : Int32) (nw wi nd : Nat) (y : Int32) (hinj : ∀ i j : Nat, i ≠ j → ad i ≠ ad j) (hM : zMA cs w ad J K) (hnw : nw ≤ 10) (hwi : wi < nw) (hnd : nd ≤ 8) (hy9 : ∀ k : Nat, k < nd → y ≠ nI k) (h_m : w (mm) = some (mo ad (th) (tb) (nI nd) (nI nw) (br) (yr) (wd))) : zM l D cs yX7_deducted wsX7_deducted 3 0 0 w sz [.ref (mm), .int (nI wi), .int (y)] (fun r w2 => r = some (.long 0) ∧ zMQ cs w w2 ad mm (mo ad (1) (tb) (nI nd) (nI nw) (br) (yr) (wd)) J K) := by
  refine z_met (cc := cX7_deducted) (maxL := 6) (ret := (some .long)) (by decide) rfl (Nat.le_of_ble_eq_true rfl) ?_
  intro p e s m below meth c hx hb hr hml hown hts hlocks hnm hsz hK hE hS ls hl
  have hl : lv_has ls 6 [(0, .ref (mm)), (1, .int (nI wi)), (2, .int (y))] := hl
  refine lv_aload_n hx hb dX7_deducted_0 rfl (lv_at hl 0 rfl) ?_
  refine lv_iconst (v := 0) hx hb dX7_deducted_1 (by decide) ?_
  refine z_put (C := RX7) (T := TX7) (N := 45) (v := .int (0)) hx hb hts (by decide +kernel) tyX7 tyX7_ok nmX7 hown hK hS h_m rfl 0 (by decide) (hts (.fieldLink RX7 126 "PayLedgerModel" "thrown" "I") (by decide +kernel)) rfl rfl rfl (Nat.le_of_ble_eq_true rfl) dX7_deducted_2 (fun H locs hS => ?_)
  obtain ⟨w1, ew1⟩ : ∃ z : zw, z = va_up w (mm) (some (mo ad (0) (tb) (nI nd) (nI nw) (br) (yr) (wd))) := ⟨_, rfl⟩
  have hS : zS (zA w sz) D w1 s.heap H locs := by rw [ew1]; exact hS
  have h1_mm : w1 (mm) = some (mo ad (0) (tb) (nI nd) (nI nw) (br) (yr) (wd)) := by rw [ew1]; exact va_up_self _ _ _
  refine lv_aload_n hx hb dX7_deducted_5 rfl (lv_at hl 0 rfl) ?_
  refine lv_aload_n hx hb dX7_deducted_6 rfl (lv_at hl 0 rfl) ?_
  refine lv_iload_n hx hb dX7_deducted_7 rfl (lv_at hl 1 rfl) ?_
  refine z_rV (As := [.int (nI wi)]) (rest := [.ref (mm)]) (n := 1) ⟨hx, hb, hml, hown, hts⟩ (c_X7_noWorker l D cs w1 H.size mm ad (0) (tb) (nI nd) (br) (yr) (wd) nw wi (by omega) hwi h1_mm) gX7_deducted_X7_noWorker rfl ⟨rfl, by decide +kernel, by decide +kernel, by decide +kernel⟩ ⟨Nat.le_of_ble_eq_true rfl, Nat.le_of_ble_eq_true rfl⟩ hK hE hS rfl h1_mm rfl hl.1 rfl (Nat.le_of_ble_eq_true rfl) dX7_deducted_8 ⟨Nat.le_of_ble_eq_true rfl, Nat.le_of_ble_eq_true rfl⟩ (fun H locs hS => ?_)
  refine lv_if_ne (tgt := 22) hx hb dX7_deducted_11 (by decide) (fun cq9 => absurd rfl cq9) (fun _ => ?_)
  refine lv_aload_n hx hb dX7_deducted_14 rfl (lv_at hl 0 rfl) ?_
  refine lv_iload_n hx hb dX7_deducted_15 rfl (lv_at hl 2 rfl) ?_
  refine z_rV (As := [.int (y)]) (rest := [.ref (mm)]) (n := 1) ⟨hx, hb, hml, hown, hts⟩ (n_X7_noDeduction l D cs w1 H.size mm ad (0) (tb) (nI nw) (br) (yr) (wd) nd y (by omega) hy9 h1_mm) gX7_deducted_X7_noDeduction rfl ⟨rfl, by decide +kernel, by decide +kernel, by decide +kernel⟩ ⟨Nat.le_of_ble_eq_true rfl, Nat.le_of_ble_eq_true rfl⟩ hK hE hS rfl h1_mm rfl hl.1 rfl (Nat.le_of_ble_eq_true rfl) dX7_deducted_16 ⟨Nat.le_of_ble_eq_true rfl, Nat.le_of_ble_eq_true rfl⟩ (fun H locs hS => ?_)
  refine lv_if_eq (tgt := 26) hx hb dX7_deducted_19 (by decide) (fun cq9 => absurd cq9 (by decide)) (fun _ => ?_)
  refine lv_iconst (v := 1) hx hb dX7_deducted_22 (by decide) ?_
  refine lv_goto (tgt := 27) hx hb dX7_deducted_23 (by decide) ?_
  refine lv_iconst (v := 1) hx hb dX7_deducted_27 (by decide) ?_
  refine z_invV (As := [.int (1), .int (1)]) (rest := []) (n := 2) ⟨hx, hb, hml, hown, hts⟩ (c1_X7_throwsIf l D cs w1 H.size mm ad (0) (tb) (nI nd) (nI nw) (br) (yr) (wd) 1 h1_mm) gX7_deducted_X7_throwsIf rfl ⟨rfl, by decide +kernel, by decide +kernel, by decide +kernel⟩ ⟨Nat.le_of_ble_eq_true rfl, Nat.le_of_ble_eq_true rfl⟩ hK hE hS rfl h1_mm rfl hl.1 rfl (Nat.le_of_ble_eq_true rfl) dX7_deducted_28 ⟨Nat.le_of_ble_eq_true rfl, Nat.le_of_ble_eq_true rfl⟩ (fun v9 u2 H locs hq hS => ?_)
  obtain ⟨rfl, hx2⟩ := hq
  have h3_mm : u2 (mm) = some (mo ad (1) (tb) (nI nd) (nI nw) (br) (yr) (wd)) := hx2.at 0 rfl
  refine W.eq (g2 := F0 m 31 ls [.int (1)]) rfl ?_
  refine lv_if_eq (tgt := 36) hx hb dX7_deducted_31 (by decide) (fun cq9 => absurd cq9 (by decide)) (fun _ => ?_)
  refine lv_lconst (v := 0) hx hb dX7_deducted_34 (by decide) ?_
  have hex : zEx w u2 [(mm, (mo ad (1) (tb) (nI nd) (nI nw) (br) (yr) (wd)))] := ⟨(zm1 h3_mm zm0), fun a9 h9 => by rw [hx2.2 a9 (zm1 (show a9 ≠ mm from h9 (mm, (mo ad (1) (tb) (nI nd) (nI nw) (br) (yr) (wd))) (List.mem_of_getElem? (i := 0) rfl)) zm0), ew1, va_up_ne _ _ (show a9 ≠ mm from h9 (mm, (mo ad (1) (tb) (nI nd) (nI nw) (br) (yr) (wd))) (List.mem_of_getElem? (i := 0) rfl))]⟩
  exact z_lret hx hb hr hlocks hS (Nat.le_of_ble_eq_true rfl) (Nat.le_of_ble_eq_true rfl) dX7_deducted_35 ⟨rfl, zMQ.o hM h_m hinj hex⟩
set_option maxHeartbeats 4000000 in
set_option maxRecDepth 100000 in
theorem c_X7_deducted (l : Launch) (D : va_G) (cs : Nat → ClassId) (w : zw) (sz : Nat) (mm : Nat) (ad : Nat → Nat) (J : Nat → Nat → Int64) (K : Nat → Nat → Int32) (th tb br yr wd : Int32) (wi : Nat) (bo rb pe me : Nat → Int32) (re cr ex : Nat → Int64) (en : Nat → Int32) (tx : Nat → Nat) (V P : Nat → Nat → Int64) (nb : Nat) (tn : Nat → Nat) (FF : Nat → Nat → Int64) (GF : Nat → Nat → Int32) (nd : Nat) (de so : Nat → Int32) (si ca bs : Nat → Int64) (n : Nat) (nw : Nat) (d : Nat) (hinj : ∀ i j : Nat, i ≠ j → ad i ≠ ad j) (hM : zMA cs w ad J K) (hW : mWr J K wi bo rb pe me re cr ex en tx V P nb tn FF GF nd de so si ca bs n) (hnw : nw ≤ 10) (hwi : wi < nw) (hd : d < nd) (h_m : w (mm) = some (mo ad (th) (tb) (nI nd) (nI nw) (br) (yr) (wd))) : zM l D cs yX7_deducted wsX7_deducted 7 0 0 w sz [.ref (mm), .int (nI wi), .int (nI d)] (fun r w2 => r = some (.long (zSum (fun j => P j d) n)) ∧ ∃ J' : Nat → Nat → Int64, mOut J J' ∧ zMQ cs w w2 ad mm (mo ad (0) (tb) (nI nd) (nI nw) (br) (yr) (wd)) J' K) := by
  refine z_met (cc := cX7_deducted) (maxL := 6) (ret := (some .long)) (by decide) rfl (Nat.le_of_ble_eq_true rfl) ?_
  intro p e s m below meth c hx hb hr hml hown hts hlocks hnm hsz hK hE hS ls hl
  have hl : lv_has ls 6 [(0, .ref (mm)), (1, .int (nI wi)), (2, .int (nI d))] := hl
  have h19 := hW.2.2.2.2.2.2.1
  have h35 := hW.2.2.2.2.2.2.2
  have hP := hW.2.2.1
  have hw := hW.2.2.2.1
  have hn := hW.2.2.2.2.1
  have hTb := hW.1
  have hDd := hW.2.1
  have hWk := hW.2.2.2.2.2.1
  have hnd := hDd.1
  have h_19 : w (ad 19) = some (eI cs (10) (K 19)) := hM 19 (by decide)
  have L52 : ∀ (i : Nat), ∀ (u : zw) (J2 : Nat → Nat → Int64) (acc : Int64), (hi : i ≤ n) → (ho : mOut J J2) → (hq2 : zMQ cs w u ad mm (mo ad (0) (tb) (nI nd) (nI nw) (br) (yr) (wd)) J2 K) → (hA2 : mAh J2 n V P) → (hacc : acc = zSum (fun j => P j d) i) → (h_m : u (mm) = some (mo ad (0) (tb) (nI nd) (nI nw) (br) (yr) (wd))) → (h_19 : u (ad 19) = some (eI cs (10) (K 19))) → (h_37 : u (ad 37) = some (eJ cs (480) (J2 37))) → ∀ (H : Heap) (locs : List Loc) (ls : Array Slot), zS (zA w sz) D u s.heap H locs → lv_has ls 6 [(5, .int (nI i)), (3, .long (acc)), (0, .ref (mm)), (1, .int (nI wi)), (2, .int (nI d))] → W p l e (zR 7 0 0) s m [.ref (mm), .int (nI wi), .int (nI d)].toArray below meth c H locs 0 0 (MQ below (zQ D w sz (fun r w2 => r = some (.long (zSum (fun j => P j d) n)) ∧ ∃ J' : Nat → Nat → Int64, mOut J J' ∧ zMQ cs w w2 ad mm (mo ad (0) (tb) (nI nd) (nI nw) (br) (yr) (wd)) J' K)) [.ref (mm), .int (nI wi), .int (nI d)].toArray s 0 0 (zA w sz)) (F0 m 52 ls []) := by
    refine zloopU (P := fun i => ∀ (u : zw) (J2 : Nat → Nat → Int64) (acc : Int64), (hi : i ≤ n) → (ho : mOut J J2) → (hq2 : zMQ cs w u ad mm (mo ad (0) (tb) (nI nd) (nI nw) (br) (yr) (wd)) J2 K) → (hA2 : mAh J2 n V P) → (hacc : acc = zSum (fun j => P j d) i) → (h_m : u (mm) = some (mo ad (0) (tb) (nI nd) (nI nw) (br) (yr) (wd))) → (h_19 : u (ad 19) = some (eI cs (10) (K 19))) → (h_37 : u (ad 37) = some (eJ cs (480) (J2 37))) → ∀ (H : Heap) (locs : List Loc) (ls : Array Slot), zS (zA w sz) D u s.heap H locs → lv_has ls 6 [(5, .int (nI i)), (3, .long (acc)), (0, .ref (mm)), (1, .int (nI wi)), (2, .int (nI d))] → W p l e (zR 7 0 0) s m [.ref (mm), .int (nI wi), .int (nI d)].toArray below meth c H locs 0 0 (MQ below (zQ D w sz (fun r w2 => r = some (.long (zSum (fun j => P j d) n)) ∧ ∃ J' : Nat → Nat → Int64, mOut J J' ∧ zMQ cs w w2 ad mm (mo ad (0) (tb) (nI nd) (nI nw) (br) (yr) (wd)) J' K)) [.ref (mm), .int (nI wi), .int (nI d)].toArray s 0 0 (zA w sz)) (F0 m 52 ls [])) n (fun i ih => ?_)
    intro u J2 acc hi ho hq2 hA2 hacc h_m h_19 h_37 H locs ls hS hl
    refine lv_iload hx hb dX7_deducted_52 (lv_at hl 0 rfl) ?_
    refine lv_aload_n hx hb dX7_deducted_54 rfl (lv_at hl 2 rfl) ?_
    refine z_get (C := RX7) (T := TX7) (N := 45) (v := .ref (ad 19)) hx hb hts (by decide +kernel) hown hK hS h_m rfl 19 (by decide) (hts (.fieldLink RX7 60 "PayLedgerModel" "many" "[I") (by decide +kernel)) rfl dX7_deducted_55 ?_
    refine lv_iload_n hx hb dX7_deducted_58 rfl (lv_at hl 3 rfl) ?_
    refine z_iald hx hb hK hS h_19 (vp_in_nI (by omega) (by decide)) dX7_deducted_59 ?_
    refine z_ti (y := ((K 19) (wi))) (congrArg _ (nI_clamp (by omega))) ?_
    refine z_ti (y := nI n) h19 ?_
    refine lv_icmp_ge (tgt := 84) hx hb dX7_deducted_60 (by decide) (fun c60 => ?_) (fun c60 => ?_)
    · have hi9 : i = n := by rcases Nat.lt_or_ge i (n) with q | q; exact absurd c60 (nI_ge (b := n) q (by omega)); omega
      refine lv_lload_n hx hb dX7_deducted_84 rfl (lv_at hl 1 rfl) ?_
      exact z_lret hx hb hr hlocks hS (Nat.le_of_ble_eq_true rfl) (Nat.le_of_ble_eq_true rfl) dX7_deducted_85 ⟨by rw [hacc, hi9], J2, ho, hq2⟩
    · have c60 : i < n := by rcases Nat.lt_or_ge i (n) with q | q; exact q; exact absurd (nI_le (a := n) q (by omega)) c60
      refine lv_lload_n hx hb dX7_deducted_63 rfl (lv_at hl 1 rfl) ?_
      refine lv_aload_n hx hb dX7_deducted_64 rfl (lv_at hl 2 rfl) ?_
      refine z_get (C := RX7) (T := TX7) (N := 45) (v := .ref (ad 37)) hx hb hts (by decide +kernel) hown hK hS h_m rfl 37 (by decide) (hts (.fieldLink RX7 102 "PayLedgerModel" "parts" "[J") (by decide +kernel)) rfl dX7_deducted_65 ?_
      refine lv_bipush (v := 8) hx hb dX7_deducted_68 (by decide) ?_
      refine lv_iload hx hb dX7_deducted_70 (lv_at hl 0 rfl) ?_
      refine lv_imul hx hb dX7_deducted_72 ?_
      refine z_ti (y := nI (8 * i)) (zI_mul (8) (i)) ?_
      refine lv_iload_n hx hb dX7_deducted_73 rfl (lv_at hl 4 rfl) ?_
      refine lv_iadd hx hb dX7_deducted_74 ?_
      refine z_ti (y := nI ((8 * i) + d)) (nI_add ((8 * i)) (d)) ?_
      refine z_lald hx hb hK hS h_37 (vp_in_nI (by omega) (by decide)) dX7_deducted_75 ?_
      refine z_tl (y := ((J2 37) (((8 * i) + d)))) (congrArg _ (nI_clamp (by omega))) ?_
      refine z_tl (y := P i d) ((hA2 i c60).2 d (by omega)) ?_
      refine lv_ladd hx hb dX7_deducted_76 ?_
      refine lv_lstore_n (lv' := [(3, .long ((acc + P i d))), (5, .int (nI i)), (0, .ref (mm)), (1, .int (nI wi)), (2, .int (nI d))]) hx hb dX7_deducted_77 rfl hl (by decide) rfl (fun ls hl => ?_)
      refine lv_iinc (v := nI (i + 1)) (lv' := [(5, .int (nI (i + 1))), (3, .long ((acc + P i d))), (0, .ref (mm)), (1, .int (nI wi)), (2, .int (nI d))]) hx hb dX7_deducted_78 hl (k := 1) rfl (nI_1 _) (by decide) rfl (fun ls hl => ?_)
      refine lv_goto (tgt := 52) hx hb dX7_deducted_81 (by decide) ?_
      exact ih c60 _ J2 ((acc + P i d)) (by omega) ho hq2 hA2 (by rw [hacc]; rfl) h_m h_19 h_37 _ _ _ hS (lv_sub hl [0, 1, 2, 3, 4] rfl)
  refine lv_aload_n hx hb dX7_deducted_0 rfl (lv_at hl 0 rfl) ?_
  refine lv_iconst (v := 0) hx hb dX7_deducted_1 (by decide) ?_
  refine z_put (C := RX7) (T := TX7) (N := 45) (v := .int (0)) hx hb hts (by decide +kernel) tyX7 tyX7_ok nmX7 hown hK hS h_m rfl 0 (by decide) (hts (.fieldLink RX7 126 "PayLedgerModel" "thrown" "I") (by decide +kernel)) rfl rfl rfl (Nat.le_of_ble_eq_true rfl) dX7_deducted_2 (fun H locs hS => ?_)
  obtain ⟨w1, ew1⟩ : ∃ z : zw, z = va_up w (mm) (some (mo ad (0) (tb) (nI nd) (nI nw) (br) (yr) (wd))) := ⟨_, rfl⟩
  have hS : zS (zA w sz) D w1 s.heap H locs := by rw [ew1]; exact hS
  have h1_mm : w1 (mm) = some (mo ad (0) (tb) (nI nd) (nI nw) (br) (yr) (wd)) := by rw [ew1]; exact va_up_self _ _ _
  have h1_ad19 : w1 (ad 19) = some (eI cs (10) (K 19)) := by rw [ew1]; exact (va_up_ne _ _ (zne h_19 h_m (by intro q9; first | cases q9 | simp at q9))).trans h_19
  refine lv_aload_n hx hb dX7_deducted_5 rfl (lv_at hl 0 rfl) ?_
  refine lv_aload_n hx hb dX7_deducted_6 rfl (lv_at hl 0 rfl) ?_
  refine lv_iload_n hx hb dX7_deducted_7 rfl (lv_at hl 1 rfl) ?_
  refine z_rV (As := [.int (nI wi)]) (rest := [.ref (mm)]) (n := 1) ⟨hx, hb, hml, hown, hts⟩ (c_X7_noWorker l D cs w1 H.size mm ad (0) (tb) (nI nd) (br) (yr) (wd) nw wi (by omega) hwi h1_mm) gX7_deducted_X7_noWorker rfl ⟨rfl, by decide +kernel, by decide +kernel, by decide +kernel⟩ ⟨Nat.le_of_ble_eq_true rfl, Nat.le_of_ble_eq_true rfl⟩ hK hE hS rfl h1_mm rfl hl.1 rfl (Nat.le_of_ble_eq_true rfl) dX7_deducted_8 ⟨Nat.le_of_ble_eq_true rfl, Nat.le_of_ble_eq_true rfl⟩ (fun H locs hS => ?_)
  refine lv_if_ne (tgt := 22) hx hb dX7_deducted_11 (by decide) (fun cq9 => absurd rfl cq9) (fun _ => ?_)
  refine lv_aload_n hx hb dX7_deducted_14 rfl (lv_at hl 0 rfl) ?_
  refine lv_iload_n hx hb dX7_deducted_15 rfl (lv_at hl 2 rfl) ?_
  refine z_rV (As := [.int (nI d)]) (rest := [.ref (mm)]) (n := 1) ⟨hx, hb, hml, hown, hts⟩ (c_X7_noDeduction l D cs w1 H.size mm ad (0) (tb) (nI nw) (br) (yr) (wd) nd d (by omega) hd h1_mm) gX7_deducted_X7_noDeduction rfl ⟨rfl, by decide +kernel, by decide +kernel, by decide +kernel⟩ ⟨Nat.le_of_ble_eq_true rfl, Nat.le_of_ble_eq_true rfl⟩ hK hE hS rfl h1_mm rfl hl.1 rfl (Nat.le_of_ble_eq_true rfl) dX7_deducted_16 ⟨Nat.le_of_ble_eq_true rfl, Nat.le_of_ble_eq_true rfl⟩ (fun H locs hS => ?_)
  refine lv_if_eq (tgt := 26) hx hb dX7_deducted_19 (by decide) (fun _ => ?_) (fun cq9 => absurd rfl cq9)
  refine lv_iconst (v := 0) hx hb dX7_deducted_26 (by decide) ?_
  refine lv_iconst (v := 1) hx hb dX7_deducted_27 (by decide) ?_
  refine z_rV (As := [.int (0), .int (1)]) (rest := []) (n := 2) ⟨hx, hb, hml, hown, hts⟩ (c0_X7_throwsIf l D cs w1 H.size mm ad (0) (tb) (nI nd) (nI nw) (br) (yr) (wd) 1 h1_mm) gX7_deducted_X7_throwsIf rfl ⟨rfl, by decide +kernel, by decide +kernel, by decide +kernel⟩ ⟨Nat.le_of_ble_eq_true rfl, Nat.le_of_ble_eq_true rfl⟩ hK hE hS rfl h1_mm rfl hl.1 rfl (Nat.le_of_ble_eq_true rfl) dX7_deducted_28 ⟨Nat.le_of_ble_eq_true rfl, Nat.le_of_ble_eq_true rfl⟩ (fun H locs hS => ?_)
  refine lv_if_eq (tgt := 36) hx hb dX7_deducted_31 (by decide) (fun _ => ?_) (fun cq9 => absurd rfl cq9)
  refine lv_aload_n hx hb dX7_deducted_36 rfl (lv_at hl 0 rfl) ?_
  refine lv_iload_n hx hb dX7_deducted_37 rfl (lv_at hl 1 rfl) ?_
  refine lv_aload_n hx hb dX7_deducted_38 rfl (lv_at hl 0 rfl) ?_
  refine z_get (C := RX7) (T := TX7) (N := 45) (v := .ref (ad 19)) hx hb hts (by decide +kernel) hown hK hS h1_mm rfl 19 (by decide) (hts (.fieldLink RX7 60 "PayLedgerModel" "many" "[I") (by decide +kernel)) rfl dX7_deducted_39 ?_
  refine lv_iload_n hx hb dX7_deducted_42 rfl (lv_at hl 1 rfl) ?_
  refine z_iald hx hb hK hS h1_ad19 (vp_in_nI (by omega) (by decide)) dX7_deducted_43 ?_
  refine z_ti (y := ((K 19) (wi))) (congrArg _ (nI_clamp (by omega))) ?_
  refine z_ti (y := nI n) h19 ?_
  have hex1 : zEx w w1 [(mm, (mo ad (0) (tb) (nI nd) (nI nw) (br) (yr) (wd)))] := ⟨(zm1 h1_mm zm0), fun a9 h9 => by rw [ew1, va_up_ne _ _ (show a9 ≠ mm from h9 (mm, (mo ad (0) (tb) (nI nd) (nI nw) (br) (yr) (wd))) (List.mem_of_getElem? (i := 0) rfl))]⟩
  have hq1 : zMQ cs w w1 ad mm (mo ad (0) (tb) (nI nd) (nI nw) (br) (yr) (wd)) J K := zMQ.o hM h_m hinj hex1
  refine z_invV (As := [.int (nI wi), .int (nI n)]) (rest := []) (n := 2) ⟨hx, hb, hml, hown, hts⟩ (c_X7_works l D cs w1 H.size mm ad J K 0 tb (nI nw) br yr wd wi bo rb pe me re cr ex en tx V P nb tn FF GF nd de so si ca bs n hinj hq1.2.1 hTb hDd hP hw hn hWk h1_mm) gX7_deducted_X7_works rfl ⟨rfl, by decide +kernel, by decide +kernel, by decide +kernel⟩ ⟨Nat.le_of_ble_eq_true rfl, Nat.le_of_ble_eq_true rfl⟩ hK hE hS rfl h1_mm rfl hl.1 rfl (Nat.le_of_ble_eq_true rfl) dX7_deducted_44 ⟨Nat.le_of_ble_eq_true rfl, Nat.le_of_ble_eq_true rfl⟩ (fun v9 u2 H locs hq hS => ?_)
  obtain ⟨rfl, J2, ho, hz, hA2⟩ := hq
  have hq2 := zMQ.w hq1.2.1 hq1.1 hinj hz ho
  have h_m3 : u2 mm = some (mo ad (0) (tb) (nI nd) (nI nw) (br) (yr) (wd)) := hq2.1
  have h_193 : u2 (ad 19) = some (eI cs (10) (K 19)) := hq2.2.1 19 (by decide)
  have h_373 : u2 (ad 37) = some (eJ cs (480) (J2 37)) := hq2.2.1 37 (by decide)
  refine W.eq (g2 := F0 m 47 ls []) rfl ?_
  refine lv_lconst (v := 0) hx hb dX7_deducted_47 (by decide) ?_
  refine lv_lstore_n (lv' := [(3, .long (0)), (0, .ref (mm)), (1, .int (nI wi)), (2, .int (nI d))]) hx hb dX7_deducted_48 rfl hl (by decide) rfl (fun ls hl => ?_)
  refine lv_iconst (v := 0) hx hb dX7_deducted_49 (by decide) ?_
  refine lv_istore (lv' := [(5, .int (0)), (3, .long (0)), (0, .ref (mm)), (1, .int (nI wi)), (2, .int (nI d))]) hx hb dX7_deducted_50 hl (by decide) rfl (fun ls hl => ?_)
  exact L52 0 _ J2 0 (by omega) ho (hq1.trans hq2) hA2 rfl h_m3 h_193 h_373 _ _ _ hS (lv_sub hl [0, 1, 2, 3, 4] rfl)
set_option maxHeartbeats 4000000 in
set_option maxRecDepth 100000 in
theorem t1_X7_settle (l : Launch) (D : va_G) (cs : Nat → ClassId) (w : zw) (sz : Nat) (mm : Nat) (ad : Nat → Nat) (J : Nat → Nat → Int64) (K : Nat → Nat → Int32) (th tb dd br yr wd : Int32) (nw : Nat) (x : Int32) (hinj : ∀ i j : Nat, i ≠ j → ad i ≠ ad j) (hM : zMA cs w ad J K) (hnw : nw ≤ 10) (hx9 : ∀ k : Nat, k < nw → x ≠ nI k) (h_m : w (mm) = some (mo ad (th) (tb) (dd) (nI nw) (br) (yr) (wd))) : zM l D cs yX7_settle wsX7_settle 3 0 0 w sz [.ref (mm), .int (x)] (fun r w2 => r = some (.long 0) ∧ zMQ cs w w2 ad mm (mo ad (1) (tb) (dd) (nI nw) (br) (yr) (wd)) J K) := by
  refine z_met (cc := cX7_settle) (maxL := 4) (ret := (some .long)) (by decide) rfl (Nat.le_of_ble_eq_true rfl) ?_
  intro p e s m below meth c hx hb hr hml hown hts hlocks hnm hsz hK hE hS ls hl
  have hl : lv_has ls 4 [(0, .ref (mm)), (1, .int (x))] := hl
  refine lv_aload_n hx hb dX7_settle_0 rfl (lv_at hl 0 rfl) ?_
  refine lv_iconst (v := 0) hx hb dX7_settle_1 (by decide) ?_
  refine z_put (C := RX7) (T := TX7) (N := 45) (v := .int (0)) hx hb hts (by decide +kernel) tyX7 tyX7_ok nmX7 hown hK hS h_m rfl 0 (by decide) (hts (.fieldLink RX7 126 "PayLedgerModel" "thrown" "I") (by decide +kernel)) rfl rfl rfl (Nat.le_of_ble_eq_true rfl) dX7_settle_2 (fun H locs hS => ?_)
  obtain ⟨w1, ew1⟩ : ∃ z : zw, z = va_up w (mm) (some (mo ad (0) (tb) (dd) (nI nw) (br) (yr) (wd))) := ⟨_, rfl⟩
  have hS : zS (zA w sz) D w1 s.heap H locs := by rw [ew1]; exact hS
  have h1_mm : w1 (mm) = some (mo ad (0) (tb) (dd) (nI nw) (br) (yr) (wd)) := by rw [ew1]; exact va_up_self _ _ _
  refine lv_aload_n hx hb dX7_settle_5 rfl (lv_at hl 0 rfl) ?_
  refine lv_aload_n hx hb dX7_settle_6 rfl (lv_at hl 0 rfl) ?_
  refine lv_iload_n hx hb dX7_settle_7 rfl (lv_at hl 1 rfl) ?_
  refine z_rV (As := [.int (x)]) (rest := [.ref (mm)]) (n := 1) ⟨hx, hb, hml, hown, hts⟩ (n_X7_noWorker l D cs w1 H.size mm ad (0) (tb) (dd) (br) (yr) (wd) nw x (by omega) hx9 h1_mm) gX7_settle_X7_noWorker rfl ⟨rfl, by decide +kernel, by decide +kernel, by decide +kernel⟩ ⟨Nat.le_of_ble_eq_true rfl, Nat.le_of_ble_eq_true rfl⟩ hK hE hS rfl h1_mm rfl hl.1 rfl (Nat.le_of_ble_eq_true rfl) dX7_settle_8 ⟨Nat.le_of_ble_eq_true rfl, Nat.le_of_ble_eq_true rfl⟩ (fun H locs hS => ?_)
  refine lv_iconst (v := 1) hx hb dX7_settle_11 (by decide) ?_
  refine z_invV (As := [.int (1), .int (1)]) (rest := []) (n := 2) ⟨hx, hb, hml, hown, hts⟩ (c1_X7_throwsIf l D cs w1 H.size mm ad (0) (tb) (dd) (nI nw) (br) (yr) (wd) 1 h1_mm) gX7_settle_X7_throwsIf rfl ⟨rfl, by decide +kernel, by decide +kernel, by decide +kernel⟩ ⟨Nat.le_of_ble_eq_true rfl, Nat.le_of_ble_eq_true rfl⟩ hK hE hS rfl h1_mm rfl hl.1 rfl (Nat.le_of_ble_eq_true rfl) dX7_settle_12 ⟨Nat.le_of_ble_eq_true rfl, Nat.le_of_ble_eq_true rfl⟩ (fun v9 u2 H locs hq hS => ?_)
  obtain ⟨rfl, hx2⟩ := hq
  have h3_mm : u2 (mm) = some (mo ad (1) (tb) (dd) (nI nw) (br) (yr) (wd)) := hx2.at 0 rfl
  refine W.eq (g2 := F0 m 15 ls [.int (1)]) rfl ?_
  refine lv_if_eq (tgt := 20) hx hb dX7_settle_15 (by decide) (fun cq9 => absurd cq9 (by decide)) (fun _ => ?_)
  refine lv_lconst (v := 0) hx hb dX7_settle_18 (by decide) ?_
  have hex : zEx w u2 [(mm, (mo ad (1) (tb) (dd) (nI nw) (br) (yr) (wd)))] := ⟨(zm1 h3_mm zm0), fun a9 h9 => by rw [hx2.2 a9 (zm1 (show a9 ≠ mm from h9 (mm, (mo ad (1) (tb) (dd) (nI nw) (br) (yr) (wd))) (List.mem_of_getElem? (i := 0) rfl)) zm0), ew1, va_up_ne _ _ (show a9 ≠ mm from h9 (mm, (mo ad (1) (tb) (dd) (nI nw) (br) (yr) (wd))) (List.mem_of_getElem? (i := 0) rfl))]⟩
  exact z_lret hx hb hr hlocks hS (Nat.le_of_ble_eq_true rfl) (Nat.le_of_ble_eq_true rfl) dX7_settle_19 ⟨rfl, zMQ.o hM h_m hinj hex⟩
set_option maxHeartbeats 4000000 in
set_option maxRecDepth 100000 in
theorem c_X7_settle (l : Launch) (D : va_G) (cs : Nat → ClassId) (w : zw) (sz : Nat) (mm : Nat) (ad : Nat → Nat) (J : Nat → Nat → Int64) (K : Nat → Nat → Int32) (th tb br yr wd : Int32) (wi : Nat) (bo rb pe me : Nat → Int32) (re cr ex : Nat → Int64) (en : Nat → Int32) (tx : Nat → Nat) (V P : Nat → Nat → Int64) (nb : Nat) (tn : Nat → Nat) (FF : Nat → Nat → Int64) (GF : Nat → Nat → Int32) (nd : Nat) (de so : Nat → Int32) (si ca bs : Nat → Int64) (n : Nat) (nw : Nat) (hinj : ∀ i j : Nat, i ≠ j → ad i ≠ ad j) (hM : zMA cs w ad J K) (hW : mWr J K wi bo rb pe me re cr ex en tx V P nb tn FF GF nd de so si ca bs n) (hnw : nw ≤ 10) (hwi : wi < nw) (h_m : w (mm) = some (mo ad (th) (tb) (nI nd) (nI nw) (br) (yr) (wd))) : zM l D cs yX7_settle wsX7_settle 9 0 0 w sz [.ref (mm), .int (nI wi)] (fun r w2 => r = some (.long (zTotal bo V n (J 20 wi) 10)) ∧ ∃ J' : Nat → Nat → Int64, mOut J J' ∧ zMQ cs w w2 ad mm (mo ad (0) (tb) (nI nd) (nI nw) (br) (yr) (wd)) (va_up J' 20 (vp_updL (J' 20) wi (J' 20 wi + zTotal bo V n (J 20 wi) 10))) K) := by
  refine z_met (cc := cX7_settle) (maxL := 4) (ret := (some .long)) (by decide) rfl (Nat.le_of_ble_eq_true rfl) ?_
  intro p e s m below meth c hx hb hr hml hown hts hlocks hnm hsz hK hE hS ls hl
  have hl : lv_has ls 4 [(0, .ref (mm)), (1, .int (nI wi))] := hl
  refine lv_aload_n hx hb dX7_settle_0 rfl (lv_at hl 0 rfl) ?_
  refine lv_iconst (v := 0) hx hb dX7_settle_1 (by decide) ?_
  refine z_put (C := RX7) (T := TX7) (N := 45) (v := .int (0)) hx hb hts (by decide +kernel) tyX7 tyX7_ok nmX7 hown hK hS h_m rfl 0 (by decide) (hts (.fieldLink RX7 126 "PayLedgerModel" "thrown" "I") (by decide +kernel)) rfl rfl rfl (Nat.le_of_ble_eq_true rfl) dX7_settle_2 (fun H locs hS => ?_)
  obtain ⟨w1, ew1⟩ : ∃ z : zw, z = va_up w (mm) (some (mo ad (0) (tb) (nI nd) (nI nw) (br) (yr) (wd))) := ⟨_, rfl⟩
  have hS : zS (zA w sz) D w1 s.heap H locs := by rw [ew1]; exact hS
  have h1_mm : w1 (mm) = some (mo ad (0) (tb) (nI nd) (nI nw) (br) (yr) (wd)) := by rw [ew1]; exact va_up_self _ _ _
  refine lv_aload_n hx hb dX7_settle_5 rfl (lv_at hl 0 rfl) ?_
  refine lv_aload_n hx hb dX7_settle_6 rfl (lv_at hl 0 rfl) ?_
  refine lv_iload_n hx hb dX7_settle_7 rfl (lv_at hl 1 rfl) ?_
  refine z_rV (As := [.int (nI wi)]) (rest := [.ref (mm)]) (n := 1) ⟨hx, hb, hml, hown, hts⟩ (c_X7_noWorker l D cs w1 H.size mm ad (0) (tb) (nI nd) (br) (yr) (wd) nw wi (by omega) hwi h1_mm) gX7_settle_X7_noWorker rfl ⟨rfl, by decide +kernel, by decide +kernel, by decide +kernel⟩ ⟨Nat.le_of_ble_eq_true rfl, Nat.le_of_ble_eq_true rfl⟩ hK hE hS rfl h1_mm rfl hl.1 rfl (Nat.le_of_ble_eq_true rfl) dX7_settle_8 ⟨Nat.le_of_ble_eq_true rfl, Nat.le_of_ble_eq_true rfl⟩ (fun H locs hS => ?_)
  refine lv_iconst (v := 1) hx hb dX7_settle_11 (by decide) ?_
  refine z_rV (As := [.int (0), .int (1)]) (rest := []) (n := 2) ⟨hx, hb, hml, hown, hts⟩ (c0_X7_throwsIf l D cs w1 H.size mm ad (0) (tb) (nI nd) (nI nw) (br) (yr) (wd) 1 h1_mm) gX7_settle_X7_throwsIf rfl ⟨rfl, by decide +kernel, by decide +kernel, by decide +kernel⟩ ⟨Nat.le_of_ble_eq_true rfl, Nat.le_of_ble_eq_true rfl⟩ hK hE hS rfl h1_mm rfl hl.1 rfl (Nat.le_of_ble_eq_true rfl) dX7_settle_12 ⟨Nat.le_of_ble_eq_true rfl, Nat.le_of_ble_eq_true rfl⟩ (fun H locs hS => ?_)
  refine lv_if_eq (tgt := 20) hx hb dX7_settle_15 (by decide) (fun _ => ?_) (fun cq9 => absurd rfl cq9)
  refine lv_aload_n hx hb dX7_settle_20 rfl (lv_at hl 0 rfl) ?_
  refine lv_iload_n hx hb dX7_settle_21 rfl (lv_at hl 1 rfl) ?_
  refine lv_bipush (v := 10) hx hb dX7_settle_22 (by decide) ?_
  have hex1 : zEx w w1 [(mm, (mo ad (0) (tb) (nI nd) (nI nw) (br) (yr) (wd)))] := ⟨(zm1 h1_mm zm0), fun a9 h9 => by rw [ew1, va_up_ne _ _ (show a9 ≠ mm from h9 (mm, (mo ad (0) (tb) (nI nd) (nI nw) (br) (yr) (wd))) (List.mem_of_getElem? (i := 0) rfl))]⟩
  have hq1 : zMQ cs w w1 ad mm (mo ad (0) (tb) (nI nd) (nI nw) (br) (yr) (wd)) J K := zMQ.o hM h_m hinj hex1
  refine z_invV (As := [.int (nI wi), .int (10)]) (rest := []) (n := 2) ⟨hx, hb, hml, hown, hts⟩ (c_X7_sums l D cs w1 H.size mm ad J K 0 tb (nI nw) br yr wd wi bo rb pe me re cr ex en tx V P nb tn FF GF nd de so si ca bs n (10) hinj hq1.2.1 hW h1_mm) gX7_settle_X7_sums rfl ⟨rfl, by decide +kernel, by decide +kernel, by decide +kernel⟩ ⟨Nat.le_of_ble_eq_true rfl, Nat.le_of_ble_eq_true rfl⟩ hK hE hS rfl h1_mm rfl hl.1 rfl (Nat.le_of_ble_eq_true rfl) dX7_settle_24 ⟨Nat.le_of_ble_eq_true rfl, Nat.le_of_ble_eq_true rfl⟩ (fun v9 u2 H locs hq hS => ?_)
  obtain ⟨rfl, J2, ho, hz⟩ := hq
  have hq2 := zMQ.w hq1.2.1 hq1.1 hinj hz ho
  have h_m3 : u2 mm = some (mo ad (0) (tb) (nI nd) (nI nw) (br) (yr) (wd)) := hq2.1
  have h_203 : u2 (ad 20) = some (eJ cs (10) (J2 20)) := hq2.2.1 20 (by decide)
  refine W.eq (g2 := F0 m 27 ls [.long (zTotal bo V n (J 20 wi) 10)]) rfl ?_
  refine lv_lstore_n (lv' := [(2, .long (zTotal bo V n (J 20 wi) 10)), (0, .ref (mm)), (1, .int (nI wi))]) hx hb dX7_settle_27 rfl hl (by decide) rfl (fun ls hl => ?_)
  refine lv_aload_n hx hb dX7_settle_28 rfl (lv_at hl 1 rfl) ?_
  refine z_get (C := RX7) (T := TX7) (N := 45) (v := .ref (ad 20)) hx hb hts (by decide +kernel) hown hK hS h_m3 rfl 20 (by decide) (hts (.fieldLink RX7 63 "PayLedgerModel" "settled" "[J") (by decide +kernel)) rfl dX7_settle_29 ?_
  refine lv_iload_n hx hb dX7_settle_32 rfl (lv_at hl 2 rfl) ?_
  refine lv_dup2_11 hx hb dX7_settle_33 rfl rfl ?_
  refine z_lald hx hb hK hS h_203 (vp_in_nI (by omega) (by decide)) dX7_settle_34 ?_
  refine z_tl (y := ((J2 20) (wi))) (congrArg _ (nI_clamp (by omega))) ?_
  refine lv_lload_n hx hb dX7_settle_35 rfl (lv_at hl 0 rfl) ?_
  refine lv_ladd hx hb dX7_settle_36 ?_
  refine z_last hx hb hK hS h_203 (vp_in_nI (by omega) (by decide)) dX7_settle_37 (fun H locs hS => ?_)
  obtain ⟨w3, ew3⟩ : ∃ z : zw, z = va_up u2 (ad 20) (some (eJ cs (10) (vp_updL (J2 20) (nI wi : Int32).toNatClampNeg ((((J2 20) (wi)) + zTotal bo V n (J 20 wi) 10))))) := ⟨_, rfl⟩
  have hS : zS (zA w sz) D w3 s.heap H locs := by rw [ew3]; exact hS
  have h3_ad20 : w3 (ad 20) = some (eJ cs (10) (vp_updL (J2 20) (nI wi : Int32).toNatClampNeg ((((J2 20) (wi)) + zTotal bo V n (J 20 wi) 10)))) := by rw [ew3]; exact va_up_self _ _ _
  have h3_mm : w3 (mm) = some (mo ad (0) (tb) (nI nd) (nI nw) (br) (yr) (wd)) := by rw [ew3]; exact (va_up_ne _ _ (zne h_m3 h_203 (by intro q9; first | cases q9 | simp at q9))).trans h_m3
  have h3_ad20 : w3 (ad 20) = some (eJ cs (10) (vp_updL (J2 20) (wi) ((((J2 20) (wi)) + zTotal bo V n (J 20 wi) 10)))) := by rw [nI_clamp (by omega)] at h3_ad20; exact h3_ad20
  refine lv_lload_n hx hb dX7_settle_38 rfl (lv_at hl 0 rfl) ?_
  have hex : zEx u2 w3 [(mm, (mo ad (0) (tb) (nI nd) (nI nw) (br) (yr) (wd))), (ad 20, (eJ cs (10) (vp_updL (J2 20) (wi) ((((J2 20) (wi)) + zTotal bo V n (J 20 wi) 10)))))] := ⟨(zm1 h3_mm (zm1 h3_ad20 zm0)), fun a9 h9 => by rw [ew3, va_up_ne _ _ (show a9 ≠ ad 20 from h9 (ad 20, (eJ cs (10) (vp_updL (J2 20) (wi) ((((J2 20) (wi)) + zTotal bo V n (J 20 wi) 10))))) (List.mem_of_getElem? (i := 1) rfl))]⟩
  exact z_lret hx hb hr hlocks hS (Nat.le_of_ble_eq_true rfl) (Nat.le_of_ble_eq_true rfl) dX7_settle_39 ⟨rfl, J2, ho, hq1.trans (hq2.trans (zMQ.of [20] (by decide) hq2.2.1 hq2.1 hinj hex (fun s hs => va_up_ne _ _ (fun e => hs (by rw [e]; decide))) (fun _ _ => rfl)))⟩
set_option maxHeartbeats 4000000 in
set_option maxRecDepth 100000 in
theorem t1_X7_duty (l : Launch) (D : va_G) (cs : Nat → ClassId) (w : zw) (sz : Nat) (mm : Nat) (ad : Nat → Nat) (J : Nat → Nat → Int64) (K : Nat → Nat → Int32) (th tb dd br yr wd : Int32) (nw : Nat) (x : Int32) (hinj : ∀ i j : Nat, i ≠ j → ad i ≠ ad j) (hM : zMA cs w ad J K) (hnw : nw ≤ 10) (hx9 : ∀ k : Nat, k < nw → x ≠ nI k) (h_m : w (mm) = some (mo ad (th) (tb) (dd) (nI nw) (br) (yr) (wd))) : zM l D cs yX7_duty wsX7_duty 3 0 0 w sz [.ref (mm), .int (x)] (fun r w2 => r = some (.long 0) ∧ zMQ cs w w2 ad mm (mo ad (1) (tb) (dd) (nI nw) (br) (yr) (wd)) J K) := by
  refine z_met (cc := cX7_duty) (maxL := 2) (ret := (some .long)) (by decide) rfl (Nat.le_of_ble_eq_true rfl) ?_
  intro p e s m below meth c hx hb hr hml hown hts hlocks hnm hsz hK hE hS ls hl
  have hl : lv_has ls 2 [(0, .ref (mm)), (1, .int (x))] := hl
  refine lv_aload_n hx hb dX7_duty_0 rfl (lv_at hl 0 rfl) ?_
  refine lv_iconst (v := 0) hx hb dX7_duty_1 (by decide) ?_
  refine z_put (C := RX7) (T := TX7) (N := 45) (v := .int (0)) hx hb hts (by decide +kernel) tyX7 tyX7_ok nmX7 hown hK hS h_m rfl 0 (by decide) (hts (.fieldLink RX7 126 "PayLedgerModel" "thrown" "I") (by decide +kernel)) rfl rfl rfl (Nat.le_of_ble_eq_true rfl) dX7_duty_2 (fun H locs hS => ?_)
  obtain ⟨w1, ew1⟩ : ∃ z : zw, z = va_up w (mm) (some (mo ad (0) (tb) (dd) (nI nw) (br) (yr) (wd))) := ⟨_, rfl⟩
  have hS : zS (zA w sz) D w1 s.heap H locs := by rw [ew1]; exact hS
  have h1_mm : w1 (mm) = some (mo ad (0) (tb) (dd) (nI nw) (br) (yr) (wd)) := by rw [ew1]; exact va_up_self _ _ _
  refine lv_aload_n hx hb dX7_duty_5 rfl (lv_at hl 0 rfl) ?_
  refine lv_aload_n hx hb dX7_duty_6 rfl (lv_at hl 0 rfl) ?_
  refine lv_iload_n hx hb dX7_duty_7 rfl (lv_at hl 1 rfl) ?_
  refine z_rV (As := [.int (x)]) (rest := [.ref (mm)]) (n := 1) ⟨hx, hb, hml, hown, hts⟩ (n_X7_noWorker l D cs w1 H.size mm ad (0) (tb) (dd) (br) (yr) (wd) nw x (by omega) hx9 h1_mm) gX7_duty_X7_noWorker rfl ⟨rfl, by decide +kernel, by decide +kernel, by decide +kernel⟩ ⟨Nat.le_of_ble_eq_true rfl, Nat.le_of_ble_eq_true rfl⟩ hK hE hS rfl h1_mm rfl hl.1 rfl (Nat.le_of_ble_eq_true rfl) dX7_duty_8 ⟨Nat.le_of_ble_eq_true rfl, Nat.le_of_ble_eq_true rfl⟩ (fun H locs hS => ?_)
  refine lv_iconst (v := 1) hx hb dX7_duty_11 (by decide) ?_
  refine z_invV (As := [.int (1), .int (1)]) (rest := []) (n := 2) ⟨hx, hb, hml, hown, hts⟩ (c1_X7_throwsIf l D cs w1 H.size mm ad (0) (tb) (dd) (nI nw) (br) (yr) (wd) 1 h1_mm) gX7_duty_X7_throwsIf rfl ⟨rfl, by decide +kernel, by decide +kernel, by decide +kernel⟩ ⟨Nat.le_of_ble_eq_true rfl, Nat.le_of_ble_eq_true rfl⟩ hK hE hS rfl h1_mm rfl hl.1 rfl (Nat.le_of_ble_eq_true rfl) dX7_duty_12 ⟨Nat.le_of_ble_eq_true rfl, Nat.le_of_ble_eq_true rfl⟩ (fun v9 u2 H locs hq hS => ?_)
  obtain ⟨rfl, hx2⟩ := hq
  have h3_mm : u2 (mm) = some (mo ad (1) (tb) (dd) (nI nw) (br) (yr) (wd)) := hx2.at 0 rfl
  refine W.eq (g2 := F0 m 15 ls [.int (1)]) rfl ?_
  refine lv_if_eq (tgt := 20) hx hb dX7_duty_15 (by decide) (fun cq9 => absurd cq9 (by decide)) (fun _ => ?_)
  refine lv_lconst (v := 0) hx hb dX7_duty_18 (by decide) ?_
  have hex : zEx w u2 [(mm, (mo ad (1) (tb) (dd) (nI nw) (br) (yr) (wd)))] := ⟨(zm1 h3_mm zm0), fun a9 h9 => by rw [hx2.2 a9 (zm1 (show a9 ≠ mm from h9 (mm, (mo ad (1) (tb) (dd) (nI nw) (br) (yr) (wd))) (List.mem_of_getElem? (i := 0) rfl)) zm0), ew1, va_up_ne _ _ (show a9 ≠ mm from h9 (mm, (mo ad (1) (tb) (dd) (nI nw) (br) (yr) (wd))) (List.mem_of_getElem? (i := 0) rfl))]⟩
  exact z_lret hx hb hr hlocks hS (Nat.le_of_ble_eq_true rfl) (Nat.le_of_ble_eq_true rfl) dX7_duty_19 ⟨rfl, zMQ.o hM h_m hinj hex⟩
set_option maxHeartbeats 4000000 in
set_option maxRecDepth 100000 in
theorem c_X7_duty (l : Launch) (D : va_G) (cs : Nat → ClassId) (w : zw) (sz : Nat) (mm : Nat) (ad : Nat → Nat) (J : Nat → Nat → Int64) (K : Nat → Nat → Int32) (th tb br yr wd : Int32) (wi : Nat) (bo rb pe me : Nat → Int32) (re cr ex : Nat → Int64) (en : Nat → Int32) (tx : Nat → Nat) (V P : Nat → Nat → Int64) (nb : Nat) (tn : Nat → Nat) (FF : Nat → Nat → Int64) (GF : Nat → Nat → Int32) (nd : Nat) (de so : Nat → Int32) (si ca bs : Nat → Int64) (n : Nat) (nw : Nat) (t : Nat) (hinj : ∀ i j : Nat, i ≠ j → ad i ≠ ad j) (hM : zMA cs w ad J K) (hW : mWr J K wi bo rb pe me re cr ex en tx V P nb tn FF GF nd de so si ca bs n) (hnw : nw ≤ 10) (hwi : wi < nw) (h12 : K 12 wi = nI t) (ht : t < nb) (h_m : w (mm) = some (mo ad (th) (tb) (nI nd) (nI nw) (br) (yr) (wd))) : zM l D cs yX7_duty wsX7_duty 10 0 0 w sz [.ref (mm), .int (nI wi)] (fun r w2 => r = some (.long (mDuty (FF t) (GF t) (tn t) (J 16 wi) (J 17 wi) (zTot bo V n 2))) ∧ ∃ J' : Nat → Nat → Int64, mOut J J' ∧ zMQ cs w w2 ad mm (mo ad (0) (tb) (nI nd) (nI nw) (br) (yr) (wd)) J' K) := by
  refine z_met (cc := cX7_duty) (maxL := 2) (ret := (some .long)) (by decide) rfl (Nat.le_of_ble_eq_true rfl) ?_
  intro p e s m below meth c hx hb hr hml hown hts hlocks hnm hsz hK hE hS ls hl
  have hl : lv_has ls 2 [(0, .ref (mm)), (1, .int (nI wi))] := hl
  refine lv_aload_n hx hb dX7_duty_0 rfl (lv_at hl 0 rfl) ?_
  refine lv_iconst (v := 0) hx hb dX7_duty_1 (by decide) ?_
  refine z_put (C := RX7) (T := TX7) (N := 45) (v := .int (0)) hx hb hts (by decide +kernel) tyX7 tyX7_ok nmX7 hown hK hS h_m rfl 0 (by decide) (hts (.fieldLink RX7 126 "PayLedgerModel" "thrown" "I") (by decide +kernel)) rfl rfl rfl (Nat.le_of_ble_eq_true rfl) dX7_duty_2 (fun H locs hS => ?_)
  obtain ⟨w1, ew1⟩ : ∃ z : zw, z = va_up w (mm) (some (mo ad (0) (tb) (nI nd) (nI nw) (br) (yr) (wd))) := ⟨_, rfl⟩
  have hS : zS (zA w sz) D w1 s.heap H locs := by rw [ew1]; exact hS
  have h1_mm : w1 (mm) = some (mo ad (0) (tb) (nI nd) (nI nw) (br) (yr) (wd)) := by rw [ew1]; exact va_up_self _ _ _
  refine lv_aload_n hx hb dX7_duty_5 rfl (lv_at hl 0 rfl) ?_
  refine lv_aload_n hx hb dX7_duty_6 rfl (lv_at hl 0 rfl) ?_
  refine lv_iload_n hx hb dX7_duty_7 rfl (lv_at hl 1 rfl) ?_
  refine z_rV (As := [.int (nI wi)]) (rest := [.ref (mm)]) (n := 1) ⟨hx, hb, hml, hown, hts⟩ (c_X7_noWorker l D cs w1 H.size mm ad (0) (tb) (nI nd) (br) (yr) (wd) nw wi (by omega) hwi h1_mm) gX7_duty_X7_noWorker rfl ⟨rfl, by decide +kernel, by decide +kernel, by decide +kernel⟩ ⟨Nat.le_of_ble_eq_true rfl, Nat.le_of_ble_eq_true rfl⟩ hK hE hS rfl h1_mm rfl hl.1 rfl (Nat.le_of_ble_eq_true rfl) dX7_duty_8 ⟨Nat.le_of_ble_eq_true rfl, Nat.le_of_ble_eq_true rfl⟩ (fun H locs hS => ?_)
  refine lv_iconst (v := 1) hx hb dX7_duty_11 (by decide) ?_
  refine z_rV (As := [.int (0), .int (1)]) (rest := []) (n := 2) ⟨hx, hb, hml, hown, hts⟩ (c0_X7_throwsIf l D cs w1 H.size mm ad (0) (tb) (nI nd) (nI nw) (br) (yr) (wd) 1 h1_mm) gX7_duty_X7_throwsIf rfl ⟨rfl, by decide +kernel, by decide +kernel, by decide +kernel⟩ ⟨Nat.le_of_ble_eq_true rfl, Nat.le_of_ble_eq_true rfl⟩ hK hE hS rfl h1_mm rfl hl.1 rfl (Nat.le_of_ble_eq_true rfl) dX7_duty_12 ⟨Nat.le_of_ble_eq_true rfl, Nat.le_of_ble_eq_true rfl⟩ (fun H locs hS => ?_)
  refine lv_if_eq (tgt := 20) hx hb dX7_duty_15 (by decide) (fun _ => ?_) (fun cq9 => absurd rfl cq9)
  refine lv_aload_n hx hb dX7_duty_20 rfl (lv_at hl 0 rfl) ?_
  refine lv_iload_n hx hb dX7_duty_21 rfl (lv_at hl 1 rfl) ?_
  have hex1 : zEx w w1 [(mm, (mo ad (0) (tb) (nI nd) (nI nw) (br) (yr) (wd)))] := ⟨(zm1 h1_mm zm0), fun a9 h9 => by rw [ew1, va_up_ne _ _ (show a9 ≠ mm from h9 (mm, (mo ad (0) (tb) (nI nd) (nI nw) (br) (yr) (wd))) (List.mem_of_getElem? (i := 0) rfl))]⟩
  have hq1 : zMQ cs w w1 ad mm (mo ad (0) (tb) (nI nd) (nI nw) (br) (yr) (wd)) J K := zMQ.o hM h_m hinj hex1
  refine z_invV (As := [.int (nI wi)]) (rest := []) (n := 1) ⟨hx, hb, hml, hown, hts⟩ (c_X7_dutyOf l D cs w1 H.size mm ad J K 0 tb (nI nw) br yr wd wi bo rb pe me re cr ex en tx V P nb tn FF GF nd de so si ca bs n t hinj hq1.2.1 hW h12 ht h1_mm) gX7_duty_X7_dutyOf rfl ⟨rfl, by decide +kernel, by decide +kernel, by decide +kernel⟩ ⟨Nat.le_of_ble_eq_true rfl, Nat.le_of_ble_eq_true rfl⟩ hK hE hS rfl h1_mm rfl hl.1 rfl (Nat.le_of_ble_eq_true rfl) dX7_duty_22 ⟨Nat.le_of_ble_eq_true rfl, Nat.le_of_ble_eq_true rfl⟩ (fun v9 u2 H locs hq hS => ?_)
  obtain ⟨rfl, J2, ho, hz⟩ := hq
  have hq2 := zMQ.w hq1.2.1 hq1.1 hinj hz ho
  have h_m3 : u2 mm = some (mo ad (0) (tb) (nI nd) (nI nw) (br) (yr) (wd)) := hq2.1
  refine W.eq (g2 := F0 m 25 ls [.long (mDuty (FF t) (GF t) (tn t) (J 16 wi) (J 17 wi) (zTot bo V n 2))]) rfl ?_
  exact z_lret hx hb hr hlocks hS (Nat.le_of_ble_eq_true rfl) (Nat.le_of_ble_eq_true rfl) dX7_duty_25 ⟨rfl, J2, ho, hq1.trans hq2⟩
set_option maxHeartbeats 4000000 in
set_option maxRecDepth 100000 in
theorem t1_X7_statement (l : Launch) (D : va_G) (cs : Nat → ClassId) (w : zw) (sz : Nat) (mm : Nat) (ad : Nat → Nat) (J : Nat → Nat → Int64) (K : Nat → Nat → Int32) (th tb dd br yr wd : Int32) (nw : Nat) (x i what : Int32) (hinj : ∀ i j : Nat, i ≠ j → ad i ≠ ad j) (hM : zMA cs w ad J K) (hnw : nw ≤ 10) (hx9 : ∀ k : Nat, k < nw → x ≠ nI k) (h_m : w (mm) = some (mo ad (th) (tb) (dd) (nI nw) (br) (yr) (wd))) : zM l D cs yX7_statement wsX7_statement 3 0 0 w sz [.ref (mm), .int (x), .int (i), .int (what)] (fun r w2 => r = some (.long 0) ∧ zMQ cs w w2 ad mm (mo ad (1) (tb) (dd) (nI nw) (br) (yr) (wd)) J K) := by
  refine z_met (cc := cX7_statement) (maxL := 4) (ret := (some .long)) (by decide) rfl (Nat.le_of_ble_eq_true rfl) ?_
  intro p e s m below meth c hx hb hr hml hown hts hlocks hnm hsz hK hE hS ls hl
  have hl : lv_has ls 4 [(0, .ref (mm)), (1, .int (x)), (2, .int (i)), (3, .int (what))] := hl
  refine lv_aload_n hx hb dX7_statement_0 rfl (lv_at hl 0 rfl) ?_
  refine lv_iconst (v := 0) hx hb dX7_statement_1 (by decide) ?_
  refine z_put (C := RX7) (T := TX7) (N := 45) (v := .int (0)) hx hb hts (by decide +kernel) tyX7 tyX7_ok nmX7 hown hK hS h_m rfl 0 (by decide) (hts (.fieldLink RX7 126 "PayLedgerModel" "thrown" "I") (by decide +kernel)) rfl rfl rfl (Nat.le_of_ble_eq_true rfl) dX7_statement_2 (fun H locs hS => ?_)
  obtain ⟨w1, ew1⟩ : ∃ z : zw, z = va_up w (mm) (some (mo ad (0) (tb) (dd) (nI nw) (br) (yr) (wd))) := ⟨_, rfl⟩
  have hS : zS (zA w sz) D w1 s.heap H locs := by rw [ew1]; exact hS
  have h1_mm : w1 (mm) = some (mo ad (0) (tb) (dd) (nI nw) (br) (yr) (wd)) := by rw [ew1]; exact va_up_self _ _ _
  refine lv_aload_n hx hb dX7_statement_5 rfl (lv_at hl 0 rfl) ?_
  refine lv_aload_n hx hb dX7_statement_6 rfl (lv_at hl 0 rfl) ?_
  refine lv_iload_n hx hb dX7_statement_7 rfl (lv_at hl 1 rfl) ?_
  refine z_rV (As := [.int (x)]) (rest := [.ref (mm)]) (n := 1) ⟨hx, hb, hml, hown, hts⟩ (n_X7_noWorker l D cs w1 H.size mm ad (0) (tb) (dd) (br) (yr) (wd) nw x (by omega) hx9 h1_mm) gX7_statement_X7_noWorker rfl ⟨rfl, by decide +kernel, by decide +kernel, by decide +kernel⟩ ⟨Nat.le_of_ble_eq_true rfl, Nat.le_of_ble_eq_true rfl⟩ hK hE hS rfl h1_mm rfl hl.1 rfl (Nat.le_of_ble_eq_true rfl) dX7_statement_8 ⟨Nat.le_of_ble_eq_true rfl, Nat.le_of_ble_eq_true rfl⟩ (fun H locs hS => ?_)
  refine lv_iconst (v := 1) hx hb dX7_statement_11 (by decide) ?_
  refine z_invV (As := [.int (1), .int (1)]) (rest := []) (n := 2) ⟨hx, hb, hml, hown, hts⟩ (c1_X7_throwsIf l D cs w1 H.size mm ad (0) (tb) (dd) (nI nw) (br) (yr) (wd) 1 h1_mm) gX7_statement_X7_throwsIf rfl ⟨rfl, by decide +kernel, by decide +kernel, by decide +kernel⟩ ⟨Nat.le_of_ble_eq_true rfl, Nat.le_of_ble_eq_true rfl⟩ hK hE hS rfl h1_mm rfl hl.1 rfl (Nat.le_of_ble_eq_true rfl) dX7_statement_12 ⟨Nat.le_of_ble_eq_true rfl, Nat.le_of_ble_eq_true rfl⟩ (fun v9 u2 H locs hq hS => ?_)
  obtain ⟨rfl, hx2⟩ := hq
  have h3_mm : u2 (mm) = some (mo ad (1) (tb) (dd) (nI nw) (br) (yr) (wd)) := hx2.at 0 rfl
  refine W.eq (g2 := F0 m 15 ls [.int (1)]) rfl ?_
  refine lv_if_ne (tgt := 68) hx hb dX7_statement_15 (by decide) (fun _ => ?_) (fun cq9 => absurd cq9 (by decide))
  refine lv_lconst (v := 0) hx hb dX7_statement_68 (by decide) ?_
  have hex : zEx w u2 [(mm, (mo ad (1) (tb) (dd) (nI nw) (br) (yr) (wd)))] := ⟨(zm1 h3_mm zm0), fun a9 h9 => by rw [hx2.2 a9 (zm1 (show a9 ≠ mm from h9 (mm, (mo ad (1) (tb) (dd) (nI nw) (br) (yr) (wd))) (List.mem_of_getElem? (i := 0) rfl)) zm0), ew1, va_up_ne _ _ (show a9 ≠ mm from h9 (mm, (mo ad (1) (tb) (dd) (nI nw) (br) (yr) (wd))) (List.mem_of_getElem? (i := 0) rfl))]⟩
  exact z_lret hx hb hr hlocks hS (Nat.le_of_ble_eq_true rfl) (Nat.le_of_ble_eq_true rfl) dX7_statement_69 ⟨rfl, zMQ.o hM h_m hinj hex⟩
set_option maxHeartbeats 4000000 in
set_option maxRecDepth 100000 in
theorem t2_X7_statement (l : Launch) (D : va_G) (cs : Nat → ClassId) (w : zw) (sz : Nat) (mm : Nat) (ad : Nat → Nat) (J : Nat → Nat → Int64) (K : Nat → Nat → Int32) (th tb dd br wd : Int32) (nw wi ny : Nat) (i what : Int32) (hinj : ∀ i j : Nat, i ≠ j → ad i ≠ ad j) (hM : zMA cs w ad J K) (hnw : nw ≤ 10) (hwi : wi < nw) (hny : ny ≤ 6) (hi9 : ∀ k : Nat, k < ny → i ≠ nI k) (h_m : w (mm) = some (mo ad (th) (tb) (dd) (nI nw) (br) (nI ny) (wd))) : zM l D cs yX7_statement wsX7_statement 3 0 0 w sz [.ref (mm), .int (nI wi), .int (i), .int (what)] (fun r w2 => r = some (.long 0) ∧ zMQ cs w w2 ad mm (mo ad (2) (tb) (dd) (nI nw) (br) (nI ny) (wd)) J K) := by
  refine z_met (cc := cX7_statement) (maxL := 4) (ret := (some .long)) (by decide) rfl (Nat.le_of_ble_eq_true rfl) ?_
  intro p e s m below meth c hx hb hr hml hown hts hlocks hnm hsz hK hE hS ls hl
  have hl : lv_has ls 4 [(0, .ref (mm)), (1, .int (nI wi)), (2, .int (i)), (3, .int (what))] := hl
  refine lv_aload_n hx hb dX7_statement_0 rfl (lv_at hl 0 rfl) ?_
  refine lv_iconst (v := 0) hx hb dX7_statement_1 (by decide) ?_
  refine z_put (C := RX7) (T := TX7) (N := 45) (v := .int (0)) hx hb hts (by decide +kernel) tyX7 tyX7_ok nmX7 hown hK hS h_m rfl 0 (by decide) (hts (.fieldLink RX7 126 "PayLedgerModel" "thrown" "I") (by decide +kernel)) rfl rfl rfl (Nat.le_of_ble_eq_true rfl) dX7_statement_2 (fun H locs hS => ?_)
  obtain ⟨w1, ew1⟩ : ∃ z : zw, z = va_up w (mm) (some (mo ad (0) (tb) (dd) (nI nw) (br) (nI ny) (wd))) := ⟨_, rfl⟩
  have hS : zS (zA w sz) D w1 s.heap H locs := by rw [ew1]; exact hS
  have h1_mm : w1 (mm) = some (mo ad (0) (tb) (dd) (nI nw) (br) (nI ny) (wd)) := by rw [ew1]; exact va_up_self _ _ _
  refine lv_aload_n hx hb dX7_statement_5 rfl (lv_at hl 0 rfl) ?_
  refine lv_aload_n hx hb dX7_statement_6 rfl (lv_at hl 0 rfl) ?_
  refine lv_iload_n hx hb dX7_statement_7 rfl (lv_at hl 1 rfl) ?_
  refine z_rV (As := [.int (nI wi)]) (rest := [.ref (mm)]) (n := 1) ⟨hx, hb, hml, hown, hts⟩ (c_X7_noWorker l D cs w1 H.size mm ad (0) (tb) (dd) (br) (nI ny) (wd) nw wi (by omega) hwi h1_mm) gX7_statement_X7_noWorker rfl ⟨rfl, by decide +kernel, by decide +kernel, by decide +kernel⟩ ⟨Nat.le_of_ble_eq_true rfl, Nat.le_of_ble_eq_true rfl⟩ hK hE hS rfl h1_mm rfl hl.1 rfl (Nat.le_of_ble_eq_true rfl) dX7_statement_8 ⟨Nat.le_of_ble_eq_true rfl, Nat.le_of_ble_eq_true rfl⟩ (fun H locs hS => ?_)
  refine lv_iconst (v := 1) hx hb dX7_statement_11 (by decide) ?_
  refine z_rV (As := [.int (0), .int (1)]) (rest := []) (n := 2) ⟨hx, hb, hml, hown, hts⟩ (c0_X7_throwsIf l D cs w1 H.size mm ad (0) (tb) (dd) (nI nw) (br) (nI ny) (wd) 1 h1_mm) gX7_statement_X7_throwsIf rfl ⟨rfl, by decide +kernel, by decide +kernel, by decide +kernel⟩ ⟨Nat.le_of_ble_eq_true rfl, Nat.le_of_ble_eq_true rfl⟩ hK hE hS rfl h1_mm rfl hl.1 rfl (Nat.le_of_ble_eq_true rfl) dX7_statement_12 ⟨Nat.le_of_ble_eq_true rfl, Nat.le_of_ble_eq_true rfl⟩ (fun H locs hS => ?_)
  refine lv_if_ne (tgt := 68) hx hb dX7_statement_15 (by decide) (fun cq9 => absurd rfl cq9) (fun _ => ?_)
  refine lv_aload_n hx hb dX7_statement_18 rfl (lv_at hl 0 rfl) ?_
  refine lv_iload_n hx hb dX7_statement_19 rfl (lv_at hl 2 rfl) ?_
  refine lv_if_lt (tgt := 31) hx hb dX7_statement_20 (by decide) (fun c20 => ?_) (fun c20 => ?_)
  · refine lv_iconst (v := 1) hx hb dX7_statement_31 (by decide) ?_
    refine lv_goto (tgt := 36) hx hb dX7_statement_32 (by decide) ?_
    refine lv_iconst (v := 2) hx hb dX7_statement_36 (by decide) ?_
    refine z_invV (As := [.int (1), .int (2)]) (rest := []) (n := 2) ⟨hx, hb, hml, hown, hts⟩ (c1_X7_throwsIf l D cs w1 H.size mm ad (0) (tb) (dd) (nI nw) (br) (nI ny) (wd) 2 h1_mm) gX7_statement_X7_throwsIf rfl ⟨rfl, by decide +kernel, by decide +kernel, by decide +kernel⟩ ⟨Nat.le_of_ble_eq_true rfl, Nat.le_of_ble_eq_true rfl⟩ hK hE hS rfl h1_mm rfl hl.1 rfl (Nat.le_of_ble_eq_true rfl) dX7_statement_37 ⟨Nat.le_of_ble_eq_true rfl, Nat.le_of_ble_eq_true rfl⟩ (fun v9 u2 H locs hq hS => ?_)
    obtain ⟨rfl, hx2⟩ := hq
    have h3_mm : u2 (mm) = some (mo ad (2) (tb) (dd) (nI nw) (br) (nI ny) (wd)) := hx2.at 0 rfl
    refine W.eq (g2 := F0 m 40 ls [.int (1)]) rfl ?_
    refine lv_if_ne (tgt := 68) hx hb dX7_statement_40 (by decide) (fun _ => ?_) (fun cq9 => absurd cq9 (by decide))
    refine lv_lconst (v := 0) hx hb dX7_statement_68 (by decide) ?_
    have hex : zEx w u2 [(mm, (mo ad (2) (tb) (dd) (nI nw) (br) (nI ny) (wd)))] := ⟨(zm1 h3_mm zm0), fun a9 h9 => by rw [hx2.2 a9 (zm1 (show a9 ≠ mm from h9 (mm, (mo ad (2) (tb) (dd) (nI nw) (br) (nI ny) (wd))) (List.mem_of_getElem? (i := 0) rfl)) zm0), ew1, va_up_ne _ _ (show a9 ≠ mm from h9 (mm, (mo ad (2) (tb) (dd) (nI nw) (br) (nI ny) (wd))) (List.mem_of_getElem? (i := 0) rfl))]⟩
    exact z_lret hx hb hr hlocks hS (Nat.le_of_ble_eq_true rfl) (Nat.le_of_ble_eq_true rfl) dX7_statement_69 ⟨rfl, zMQ.o hM h_m hinj hex⟩
  · refine lv_iload_n hx hb dX7_statement_23 rfl (lv_at hl 2 rfl) ?_
    refine lv_aload_n hx hb dX7_statement_24 rfl (lv_at hl 0 rfl) ?_
    refine z_get (C := RX7) (T := TX7) (N := 45) (v := .int (nI ny)) hx hb hts (by decide +kernel) hown hK hS h1_mm rfl 23 (by decide) (hts (.fieldLink RX7 251 "PayLedgerModel" "year" "I") (by decide +kernel)) rfl dX7_statement_25 ?_
    refine lv_icmp_lt (tgt := 35) hx hb dX7_statement_28 (by decide) (fun cq9 => absurd cq9 (fun q9 => by obtain ⟨j9, h91, h92⟩ := zI32_of c20 q9 (by omega); exact hi9 j9 h91 h92)) (fun _ => ?_)
    refine lv_iconst (v := 1) hx hb dX7_statement_31 (by decide) ?_
    refine lv_goto (tgt := 36) hx hb dX7_statement_32 (by decide) ?_
    refine lv_iconst (v := 2) hx hb dX7_statement_36 (by decide) ?_
    refine z_invV (As := [.int (1), .int (2)]) (rest := []) (n := 2) ⟨hx, hb, hml, hown, hts⟩ (c1_X7_throwsIf l D cs w1 H.size mm ad (0) (tb) (dd) (nI nw) (br) (nI ny) (wd) 2 h1_mm) gX7_statement_X7_throwsIf rfl ⟨rfl, by decide +kernel, by decide +kernel, by decide +kernel⟩ ⟨Nat.le_of_ble_eq_true rfl, Nat.le_of_ble_eq_true rfl⟩ hK hE hS rfl h1_mm rfl hl.1 rfl (Nat.le_of_ble_eq_true rfl) dX7_statement_37 ⟨Nat.le_of_ble_eq_true rfl, Nat.le_of_ble_eq_true rfl⟩ (fun v9 u4 H locs hq hS => ?_)
    obtain ⟨rfl, hx4⟩ := hq
    have h5_mm : u4 (mm) = some (mo ad (2) (tb) (dd) (nI nw) (br) (nI ny) (wd)) := hx4.at 0 rfl
    refine W.eq (g2 := F0 m 40 ls [.int (1)]) rfl ?_
    refine lv_if_ne (tgt := 68) hx hb dX7_statement_40 (by decide) (fun _ => ?_) (fun cq9 => absurd cq9 (by decide))
    refine lv_lconst (v := 0) hx hb dX7_statement_68 (by decide) ?_
    have hex : zEx w u4 [(mm, (mo ad (2) (tb) (dd) (nI nw) (br) (nI ny) (wd)))] := ⟨(zm1 h5_mm zm0), fun a9 h9 => by rw [hx4.2 a9 (zm1 (show a9 ≠ mm from h9 (mm, (mo ad (2) (tb) (dd) (nI nw) (br) (nI ny) (wd))) (List.mem_of_getElem? (i := 0) rfl)) zm0), ew1, va_up_ne _ _ (show a9 ≠ mm from h9 (mm, (mo ad (2) (tb) (dd) (nI nw) (br) (nI ny) (wd))) (List.mem_of_getElem? (i := 0) rfl))]⟩
    exact z_lret hx hb hr hlocks hS (Nat.le_of_ble_eq_true rfl) (Nat.le_of_ble_eq_true rfl) dX7_statement_69 ⟨rfl, zMQ.o hM h_m hinj hex⟩
set_option maxHeartbeats 4000000 in
set_option maxRecDepth 100000 in
theorem t3_X7_statement (l : Launch) (D : va_G) (cs : Nat → ClassId) (w : zw) (sz : Nat) (mm : Nat) (ad : Nat → Nat) (J : Nat → Nat → Int64) (K : Nat → Nat → Int32) (th tb dd br wd : Int32) (nw wi ny y : Nat) (what : Int32) (hinj : ∀ i j : Nat, i ≠ j → ad i ≠ ad j) (hM : zMA cs w ad J K) (hnw : nw ≤ 10) (hwi : wi < nw) (hny : ny ≤ 6) (hy : y < ny) (hwh : zUpTo what.toInt64 10 = 0) (h_m : w (mm) = some (mo ad (th) (tb) (dd) (nI nw) (br) (nI ny) (wd))) : zM l D cs yX7_statement wsX7_statement 3 0 0 w sz [.ref (mm), .int (nI wi), .int (nI y), .int (what)] (fun r w2 => r = some (.long 0) ∧ zMQ cs w w2 ad mm (mo ad (3) (tb) (dd) (nI nw) (br) (nI ny) (wd)) J K) := by
  refine z_met (cc := cX7_statement) (maxL := 4) (ret := (some .long)) (by decide) rfl (Nat.le_of_ble_eq_true rfl) ?_
  intro p e s m below meth c hx hb hr hml hown hts hlocks hnm hsz hK hE hS ls hl
  have hl : lv_has ls 4 [(0, .ref (mm)), (1, .int (nI wi)), (2, .int (nI y)), (3, .int (what))] := hl
  refine lv_aload_n hx hb dX7_statement_0 rfl (lv_at hl 0 rfl) ?_
  refine lv_iconst (v := 0) hx hb dX7_statement_1 (by decide) ?_
  refine z_put (C := RX7) (T := TX7) (N := 45) (v := .int (0)) hx hb hts (by decide +kernel) tyX7 tyX7_ok nmX7 hown hK hS h_m rfl 0 (by decide) (hts (.fieldLink RX7 126 "PayLedgerModel" "thrown" "I") (by decide +kernel)) rfl rfl rfl (Nat.le_of_ble_eq_true rfl) dX7_statement_2 (fun H locs hS => ?_)
  obtain ⟨w1, ew1⟩ : ∃ z : zw, z = va_up w (mm) (some (mo ad (0) (tb) (dd) (nI nw) (br) (nI ny) (wd))) := ⟨_, rfl⟩
  have hS : zS (zA w sz) D w1 s.heap H locs := by rw [ew1]; exact hS
  have h1_mm : w1 (mm) = some (mo ad (0) (tb) (dd) (nI nw) (br) (nI ny) (wd)) := by rw [ew1]; exact va_up_self _ _ _
  refine lv_aload_n hx hb dX7_statement_5 rfl (lv_at hl 0 rfl) ?_
  refine lv_aload_n hx hb dX7_statement_6 rfl (lv_at hl 0 rfl) ?_
  refine lv_iload_n hx hb dX7_statement_7 rfl (lv_at hl 1 rfl) ?_
  refine z_rV (As := [.int (nI wi)]) (rest := [.ref (mm)]) (n := 1) ⟨hx, hb, hml, hown, hts⟩ (c_X7_noWorker l D cs w1 H.size mm ad (0) (tb) (dd) (br) (nI ny) (wd) nw wi (by omega) hwi h1_mm) gX7_statement_X7_noWorker rfl ⟨rfl, by decide +kernel, by decide +kernel, by decide +kernel⟩ ⟨Nat.le_of_ble_eq_true rfl, Nat.le_of_ble_eq_true rfl⟩ hK hE hS rfl h1_mm rfl hl.1 rfl (Nat.le_of_ble_eq_true rfl) dX7_statement_8 ⟨Nat.le_of_ble_eq_true rfl, Nat.le_of_ble_eq_true rfl⟩ (fun H locs hS => ?_)
  refine lv_iconst (v := 1) hx hb dX7_statement_11 (by decide) ?_
  refine z_rV (As := [.int (0), .int (1)]) (rest := []) (n := 2) ⟨hx, hb, hml, hown, hts⟩ (c0_X7_throwsIf l D cs w1 H.size mm ad (0) (tb) (dd) (nI nw) (br) (nI ny) (wd) 1 h1_mm) gX7_statement_X7_throwsIf rfl ⟨rfl, by decide +kernel, by decide +kernel, by decide +kernel⟩ ⟨Nat.le_of_ble_eq_true rfl, Nat.le_of_ble_eq_true rfl⟩ hK hE hS rfl h1_mm rfl hl.1 rfl (Nat.le_of_ble_eq_true rfl) dX7_statement_12 ⟨Nat.le_of_ble_eq_true rfl, Nat.le_of_ble_eq_true rfl⟩ (fun H locs hS => ?_)
  refine lv_if_ne (tgt := 68) hx hb dX7_statement_15 (by decide) (fun cq9 => absurd rfl cq9) (fun _ => ?_)
  refine lv_aload_n hx hb dX7_statement_18 rfl (lv_at hl 0 rfl) ?_
  refine lv_iload_n hx hb dX7_statement_19 rfl (lv_at hl 2 rfl) ?_
  refine lv_if_lt (tgt := 31) hx hb dX7_statement_20 (by decide) (fun cq9 => absurd cq9 (nI_pos (by omega))) (fun _ => ?_)
  refine lv_iload_n hx hb dX7_statement_23 rfl (lv_at hl 2 rfl) ?_
  refine lv_aload_n hx hb dX7_statement_24 rfl (lv_at hl 0 rfl) ?_
  refine z_get (C := RX7) (T := TX7) (N := 45) (v := .int (nI ny)) hx hb hts (by decide +kernel) hown hK hS h1_mm rfl 23 (by decide) (hts (.fieldLink RX7 251 "PayLedgerModel" "year" "I") (by decide +kernel)) rfl dX7_statement_25 ?_
  refine lv_icmp_lt (tgt := 35) hx hb dX7_statement_28 (by decide) (fun _ => ?_) (fun cq9 => absurd (nI_lt hy (by omega)) cq9)
  refine lv_iconst (v := 0) hx hb dX7_statement_35 (by decide) ?_
  refine lv_iconst (v := 2) hx hb dX7_statement_36 (by decide) ?_
  refine z_rV (As := [.int (0), .int (2)]) (rest := []) (n := 2) ⟨hx, hb, hml, hown, hts⟩ (c0_X7_throwsIf l D cs w1 H.size mm ad (0) (tb) (dd) (nI nw) (br) (nI ny) (wd) 2 h1_mm) gX7_statement_X7_throwsIf rfl ⟨rfl, by decide +kernel, by decide +kernel, by decide +kernel⟩ ⟨Nat.le_of_ble_eq_true rfl, Nat.le_of_ble_eq_true rfl⟩ hK hE hS rfl h1_mm rfl hl.1 rfl (Nat.le_of_ble_eq_true rfl) dX7_statement_37 ⟨Nat.le_of_ble_eq_true rfl, Nat.le_of_ble_eq_true rfl⟩ (fun H locs hS => ?_)
  refine lv_if_ne (tgt := 68) hx hb dX7_statement_40 (by decide) (fun cq9 => absurd rfl cq9) (fun _ => ?_)
  refine lv_aload_n hx hb dX7_statement_43 rfl (lv_at hl 0 rfl) ?_
  refine lv_iload_n hx hb dX7_statement_44 rfl (lv_at hl 3 rfl) ?_
  refine lv_i2l (v := ((what : Int32).toInt64)) hx hb dX7_statement_45 rfl ?_
  refine lv_lconst (v := 0) hx hb dX7_statement_46 (by decide) ?_
  refine lv_ldc2 (v := 10) hx hb hown (hts (.constantLong RX7 245 (10)) (by decide +kernel)) dX7_statement_47 ?_
  refine z_rS (As := [.long (((what : Int32).toInt64)), .long (0), .long (10)]) (rest := [.ref (mm)]) (n := 3) ⟨hx, hb, hml, hown, hts⟩ (c_X7_in l D cs w1 H.size (what.toInt64) (0) (10)) gX7_statement_X7_in rfl ⟨by decide +kernel, by decide +kernel, by decide +kernel⟩ ⟨Nat.le_of_ble_eq_true rfl, Nat.le_of_ble_eq_true rfl⟩ hK hE hS rfl hl.1 rfl (Nat.le_of_ble_eq_true rfl) dX7_statement_50 ⟨Nat.le_of_ble_eq_true rfl, Nat.le_of_ble_eq_true rfl⟩ (fun H locs hS => ?_)
  refine lv_if_ne (tgt := 60) hx hb dX7_statement_53 (by decide) (fun cq9 => absurd hwh cq9) (fun _ => ?_)
  refine lv_iconst (v := 1) hx hb dX7_statement_56 (by decide) ?_
  refine lv_goto (tgt := 61) hx hb dX7_statement_57 (by decide) ?_
  refine lv_iconst (v := 3) hx hb dX7_statement_61 (by decide) ?_
  refine z_invV (As := [.int (1), .int (3)]) (rest := []) (n := 2) ⟨hx, hb, hml, hown, hts⟩ (c1_X7_throwsIf l D cs w1 H.size mm ad (0) (tb) (dd) (nI nw) (br) (nI ny) (wd) 3 h1_mm) gX7_statement_X7_throwsIf rfl ⟨rfl, by decide +kernel, by decide +kernel, by decide +kernel⟩ ⟨Nat.le_of_ble_eq_true rfl, Nat.le_of_ble_eq_true rfl⟩ hK hE hS rfl h1_mm rfl hl.1 rfl (Nat.le_of_ble_eq_true rfl) dX7_statement_62 ⟨Nat.le_of_ble_eq_true rfl, Nat.le_of_ble_eq_true rfl⟩ (fun v9 u2 H locs hq hS => ?_)
  obtain ⟨rfl, hx2⟩ := hq
  have h3_mm : u2 (mm) = some (mo ad (3) (tb) (dd) (nI nw) (br) (nI ny) (wd)) := hx2.at 0 rfl
  refine W.eq (g2 := F0 m 65 ls [.int (1)]) rfl ?_
  refine lv_if_eq (tgt := 70) hx hb dX7_statement_65 (by decide) (fun cq9 => absurd cq9 (by decide)) (fun _ => ?_)
  refine lv_lconst (v := 0) hx hb dX7_statement_68 (by decide) ?_
  have hex : zEx w u2 [(mm, (mo ad (3) (tb) (dd) (nI nw) (br) (nI ny) (wd)))] := ⟨(zm1 h3_mm zm0), fun a9 h9 => by rw [hx2.2 a9 (zm1 (show a9 ≠ mm from h9 (mm, (mo ad (3) (tb) (dd) (nI nw) (br) (nI ny) (wd))) (List.mem_of_getElem? (i := 0) rfl)) zm0), ew1, va_up_ne _ _ (show a9 ≠ mm from h9 (mm, (mo ad (3) (tb) (dd) (nI nw) (br) (nI ny) (wd))) (List.mem_of_getElem? (i := 0) rfl))]⟩
  exact z_lret hx hb hr hlocks hS (Nat.le_of_ble_eq_true rfl) (Nat.le_of_ble_eq_true rfl) dX7_statement_69 ⟨rfl, zMQ.o hM h_m hinj hex⟩
set_option maxHeartbeats 4000000 in
set_option maxRecDepth 100000 in
theorem c_X7_statement (l : Launch) (D : va_G) (cs : Nat → ClassId) (w : zw) (sz : Nat) (mm : Nat) (ad : Nat → Nat) (J : Nat → Nat → Int64) (K : Nat → Nat → Int32) (th tb dd br wd : Int32) (nw wi ny y q : Nat) (hinj : ∀ i j : Nat, i ≠ j → ad i ≠ ad j) (hM : zMA cs w ad J K) (hnw : nw ≤ 10) (hwi : wi < nw) (hny : ny ≤ 6) (hy : y < ny) (hq : q < 11) (hwh : zUpTo (nI q).toInt64 10 = 1) (h_m : w (mm) = some (mo ad (th) (tb) (dd) (nI nw) (br) (nI ny) (wd))) : zM l D cs yX7_statement wsX7_statement 3 0 0 w sz [.ref (mm), .int (nI wi), .int (nI y), .int (nI q)] (fun r w2 => r = some (.long (J 36 (11 * (10 * y + wi) + q))) ∧ zMQ cs w w2 ad mm (mo ad (0) (tb) (dd) (nI nw) (br) (nI ny) (wd)) J K) := by
  refine z_met (cc := cX7_statement) (maxL := 4) (ret := (some .long)) (by decide) rfl (Nat.le_of_ble_eq_true rfl) ?_
  intro p e s m below meth c hx hb hr hml hown hts hlocks hnm hsz hK hE hS ls hl
  have hl : lv_has ls 4 [(0, .ref (mm)), (1, .int (nI wi)), (2, .int (nI y)), (3, .int (nI q))] := hl
  have h_36 : w (ad 36) = some (eJ cs (660) (J 36)) := hM 36 (by decide)
  refine lv_aload_n hx hb dX7_statement_0 rfl (lv_at hl 0 rfl) ?_
  refine lv_iconst (v := 0) hx hb dX7_statement_1 (by decide) ?_
  refine z_put (C := RX7) (T := TX7) (N := 45) (v := .int (0)) hx hb hts (by decide +kernel) tyX7 tyX7_ok nmX7 hown hK hS h_m rfl 0 (by decide) (hts (.fieldLink RX7 126 "PayLedgerModel" "thrown" "I") (by decide +kernel)) rfl rfl rfl (Nat.le_of_ble_eq_true rfl) dX7_statement_2 (fun H locs hS => ?_)
  obtain ⟨w1, ew1⟩ : ∃ z : zw, z = va_up w (mm) (some (mo ad (0) (tb) (dd) (nI nw) (br) (nI ny) (wd))) := ⟨_, rfl⟩
  have hS : zS (zA w sz) D w1 s.heap H locs := by rw [ew1]; exact hS
  have h1_mm : w1 (mm) = some (mo ad (0) (tb) (dd) (nI nw) (br) (nI ny) (wd)) := by rw [ew1]; exact va_up_self _ _ _
  have h1_ad36 : w1 (ad 36) = some (eJ cs (660) (J 36)) := by rw [ew1]; exact (va_up_ne _ _ (zne h_36 h_m (by intro q9; first | cases q9 | simp at q9))).trans h_36
  refine lv_aload_n hx hb dX7_statement_5 rfl (lv_at hl 0 rfl) ?_
  refine lv_aload_n hx hb dX7_statement_6 rfl (lv_at hl 0 rfl) ?_
  refine lv_iload_n hx hb dX7_statement_7 rfl (lv_at hl 1 rfl) ?_
  refine z_rV (As := [.int (nI wi)]) (rest := [.ref (mm)]) (n := 1) ⟨hx, hb, hml, hown, hts⟩ (c_X7_noWorker l D cs w1 H.size mm ad (0) (tb) (dd) (br) (nI ny) (wd) nw wi (by omega) hwi h1_mm) gX7_statement_X7_noWorker rfl ⟨rfl, by decide +kernel, by decide +kernel, by decide +kernel⟩ ⟨Nat.le_of_ble_eq_true rfl, Nat.le_of_ble_eq_true rfl⟩ hK hE hS rfl h1_mm rfl hl.1 rfl (Nat.le_of_ble_eq_true rfl) dX7_statement_8 ⟨Nat.le_of_ble_eq_true rfl, Nat.le_of_ble_eq_true rfl⟩ (fun H locs hS => ?_)
  refine lv_iconst (v := 1) hx hb dX7_statement_11 (by decide) ?_
  refine z_rV (As := [.int (0), .int (1)]) (rest := []) (n := 2) ⟨hx, hb, hml, hown, hts⟩ (c0_X7_throwsIf l D cs w1 H.size mm ad (0) (tb) (dd) (nI nw) (br) (nI ny) (wd) 1 h1_mm) gX7_statement_X7_throwsIf rfl ⟨rfl, by decide +kernel, by decide +kernel, by decide +kernel⟩ ⟨Nat.le_of_ble_eq_true rfl, Nat.le_of_ble_eq_true rfl⟩ hK hE hS rfl h1_mm rfl hl.1 rfl (Nat.le_of_ble_eq_true rfl) dX7_statement_12 ⟨Nat.le_of_ble_eq_true rfl, Nat.le_of_ble_eq_true rfl⟩ (fun H locs hS => ?_)
  refine lv_if_ne (tgt := 68) hx hb dX7_statement_15 (by decide) (fun cq9 => absurd rfl cq9) (fun _ => ?_)
  refine lv_aload_n hx hb dX7_statement_18 rfl (lv_at hl 0 rfl) ?_
  refine lv_iload_n hx hb dX7_statement_19 rfl (lv_at hl 2 rfl) ?_
  refine lv_if_lt (tgt := 31) hx hb dX7_statement_20 (by decide) (fun cq9 => absurd cq9 (nI_pos (by omega))) (fun _ => ?_)
  refine lv_iload_n hx hb dX7_statement_23 rfl (lv_at hl 2 rfl) ?_
  refine lv_aload_n hx hb dX7_statement_24 rfl (lv_at hl 0 rfl) ?_
  refine z_get (C := RX7) (T := TX7) (N := 45) (v := .int (nI ny)) hx hb hts (by decide +kernel) hown hK hS h1_mm rfl 23 (by decide) (hts (.fieldLink RX7 251 "PayLedgerModel" "year" "I") (by decide +kernel)) rfl dX7_statement_25 ?_
  refine lv_icmp_lt (tgt := 35) hx hb dX7_statement_28 (by decide) (fun _ => ?_) (fun cq9 => absurd (nI_lt hy (by omega)) cq9)
  refine lv_iconst (v := 0) hx hb dX7_statement_35 (by decide) ?_
  refine lv_iconst (v := 2) hx hb dX7_statement_36 (by decide) ?_
  refine z_rV (As := [.int (0), .int (2)]) (rest := []) (n := 2) ⟨hx, hb, hml, hown, hts⟩ (c0_X7_throwsIf l D cs w1 H.size mm ad (0) (tb) (dd) (nI nw) (br) (nI ny) (wd) 2 h1_mm) gX7_statement_X7_throwsIf rfl ⟨rfl, by decide +kernel, by decide +kernel, by decide +kernel⟩ ⟨Nat.le_of_ble_eq_true rfl, Nat.le_of_ble_eq_true rfl⟩ hK hE hS rfl h1_mm rfl hl.1 rfl (Nat.le_of_ble_eq_true rfl) dX7_statement_37 ⟨Nat.le_of_ble_eq_true rfl, Nat.le_of_ble_eq_true rfl⟩ (fun H locs hS => ?_)
  refine lv_if_ne (tgt := 68) hx hb dX7_statement_40 (by decide) (fun cq9 => absurd rfl cq9) (fun _ => ?_)
  refine lv_aload_n hx hb dX7_statement_43 rfl (lv_at hl 0 rfl) ?_
  refine lv_iload_n hx hb dX7_statement_44 rfl (lv_at hl 3 rfl) ?_
  refine lv_i2l (v := ((nI q : Int32).toInt64)) hx hb dX7_statement_45 rfl ?_
  refine lv_lconst (v := 0) hx hb dX7_statement_46 (by decide) ?_
  refine lv_ldc2 (v := 10) hx hb hown (hts (.constantLong RX7 245 (10)) (by decide +kernel)) dX7_statement_47 ?_
  refine z_rS (As := [.long (((nI q : Int32).toInt64)), .long (0), .long (10)]) (rest := [.ref (mm)]) (n := 3) ⟨hx, hb, hml, hown, hts⟩ (c_X7_in l D cs w1 H.size ((nI q).toInt64) (0) (10)) gX7_statement_X7_in rfl ⟨by decide +kernel, by decide +kernel, by decide +kernel⟩ ⟨Nat.le_of_ble_eq_true rfl, Nat.le_of_ble_eq_true rfl⟩ hK hE hS rfl hl.1 rfl (Nat.le_of_ble_eq_true rfl) dX7_statement_50 ⟨Nat.le_of_ble_eq_true rfl, Nat.le_of_ble_eq_true rfl⟩ (fun H locs hS => ?_)
  refine lv_if_ne (tgt := 60) hx hb dX7_statement_53 (by decide) (fun _ => ?_) (fun cq9 => absurd cq9 (by rw [show mIn ((nI q).toInt64) 0 10 = 1 from hwh]; decide))
  refine lv_iconst (v := 0) hx hb dX7_statement_60 (by decide) ?_
  refine lv_iconst (v := 3) hx hb dX7_statement_61 (by decide) ?_
  refine z_rV (As := [.int (0), .int (3)]) (rest := []) (n := 2) ⟨hx, hb, hml, hown, hts⟩ (c0_X7_throwsIf l D cs w1 H.size mm ad (0) (tb) (dd) (nI nw) (br) (nI ny) (wd) 3 h1_mm) gX7_statement_X7_throwsIf rfl ⟨rfl, by decide +kernel, by decide +kernel, by decide +kernel⟩ ⟨Nat.le_of_ble_eq_true rfl, Nat.le_of_ble_eq_true rfl⟩ hK hE hS rfl h1_mm rfl hl.1 rfl (Nat.le_of_ble_eq_true rfl) dX7_statement_62 ⟨Nat.le_of_ble_eq_true rfl, Nat.le_of_ble_eq_true rfl⟩ (fun H locs hS => ?_)
  refine lv_if_eq (tgt := 70) hx hb dX7_statement_65 (by decide) (fun _ => ?_) (fun cq9 => absurd rfl cq9)
  refine lv_aload_n hx hb dX7_statement_70 rfl (lv_at hl 0 rfl) ?_
  refine z_get (C := RX7) (T := TX7) (N := 45) (v := .ref (ad 36)) hx hb hts (by decide +kernel) hown hK hS h1_mm rfl 36 (by decide) (hts (.fieldLink RX7 99 "PayLedgerModel" "statements" "[J") (by decide +kernel)) rfl dX7_statement_71 ?_
  refine lv_bipush (v := 11) hx hb dX7_statement_74 (by decide) ?_
  refine lv_bipush (v := 10) hx hb dX7_statement_76 (by decide) ?_
  refine lv_iload_n hx hb dX7_statement_78 rfl (lv_at hl 2 rfl) ?_
  refine lv_imul hx hb dX7_statement_79 ?_
  refine z_ti (y := nI (10 * y)) (zI_mul (10) (y)) ?_
  refine lv_iload_n hx hb dX7_statement_80 rfl (lv_at hl 1 rfl) ?_
  refine lv_iadd hx hb dX7_statement_81 ?_
  refine z_ti (y := nI ((10 * y) + wi)) (nI_add ((10 * y)) (wi)) ?_
  refine lv_imul hx hb dX7_statement_82 ?_
  refine z_ti (y := nI (11 * ((10 * y) + wi))) (zI_mul (11) (((10 * y) + wi))) ?_
  refine lv_iload_n hx hb dX7_statement_83 rfl (lv_at hl 3 rfl) ?_
  refine lv_iadd hx hb dX7_statement_84 ?_
  refine z_ti (y := nI ((11 * ((10 * y) + wi)) + q)) (nI_add ((11 * ((10 * y) + wi))) (q)) ?_
  refine z_lald hx hb hK hS h1_ad36 (vp_in_nI (by omega) (by decide)) dX7_statement_85 ?_
  refine z_tl (y := ((J 36) (((11 * ((10 * y) + wi)) + q)))) (congrArg _ (nI_clamp (by omega))) ?_
  have hex : zEx w w1 [(mm, (mo ad (0) (tb) (dd) (nI nw) (br) (nI ny) (wd)))] := ⟨(zm1 h1_mm zm0), fun a9 h9 => by rw [ew1, va_up_ne _ _ (show a9 ≠ mm from h9 (mm, (mo ad (0) (tb) (dd) (nI nw) (br) (nI ny) (wd))) (List.mem_of_getElem? (i := 0) rfl))]⟩
  exact z_lret hx hb hr hlocks hS (Nat.le_of_ble_eq_true rfl) (Nat.le_of_ble_eq_true rfl) dX7_statement_86 ⟨rfl, zMQ.o hM h_m hinj hex⟩
set_option maxHeartbeats 4000000 in
set_option maxRecDepth 100000 in
theorem t1_X7_office (l : Launch) (D : va_G) (cs : Nat → ClassId) (w : zw) (sz : Nat) (mm : Nat) (ad : Nat → Nat) (J : Nat → Nat → Int64) (K : Nat → Nat → Int32) (th tb dd wk br yr wd : Int32) (what : Int32) (hinj : ∀ i j : Nat, i ≠ j → ad i ≠ ad j) (hM : zMA cs w ad J K) (hwh : zUpTo what.toInt64 10 = 0) (h_m : w (mm) = some (mo ad (th) (tb) (dd) (wk) (br) (yr) (wd))) : zM l D cs yX7_office wsX7_office 3 0 0 w sz [.ref (mm), .int (what)] (fun r w2 => r = some (.long 0) ∧ zMQ cs w w2 ad mm (mo ad (1) (tb) (dd) (wk) (br) (yr) (wd)) J K) := by
  refine z_met (cc := cX7_office) (maxL := 5) (ret := (some .long)) (by decide) rfl (Nat.le_of_ble_eq_true rfl) ?_
  intro p e s m below meth c hx hb hr hml hown hts hlocks hnm hsz hK hE hS ls hl
  have hl : lv_has ls 5 [(0, .ref (mm)), (1, .int (what))] := hl
  refine lv_aload_n hx hb dX7_office_0 rfl (lv_at hl 0 rfl) ?_
  refine lv_iconst (v := 0) hx hb dX7_office_1 (by decide) ?_
  refine z_put (C := RX7) (T := TX7) (N := 45) (v := .int (0)) hx hb hts (by decide +kernel) tyX7 tyX7_ok nmX7 hown hK hS h_m rfl 0 (by decide) (hts (.fieldLink RX7 126 "PayLedgerModel" "thrown" "I") (by decide +kernel)) rfl rfl rfl (Nat.le_of_ble_eq_true rfl) dX7_office_2 (fun H locs hS => ?_)
  obtain ⟨w1, ew1⟩ : ∃ z : zw, z = va_up w (mm) (some (mo ad (0) (tb) (dd) (wk) (br) (yr) (wd))) := ⟨_, rfl⟩
  have hS : zS (zA w sz) D w1 s.heap H locs := by rw [ew1]; exact hS
  have h1_mm : w1 (mm) = some (mo ad (0) (tb) (dd) (wk) (br) (yr) (wd)) := by rw [ew1]; exact va_up_self _ _ _
  refine lv_aload_n hx hb dX7_office_5 rfl (lv_at hl 0 rfl) ?_
  refine lv_iload_n hx hb dX7_office_6 rfl (lv_at hl 1 rfl) ?_
  refine lv_i2l (v := ((what : Int32).toInt64)) hx hb dX7_office_7 rfl ?_
  refine lv_lconst (v := 0) hx hb dX7_office_8 (by decide) ?_
  refine lv_ldc2 (v := 10) hx hb hown (hts (.constantLong RX7 245 (10)) (by decide +kernel)) dX7_office_9 ?_
  refine z_rS (As := [.long (((what : Int32).toInt64)), .long (0), .long (10)]) (rest := [.ref (mm)]) (n := 3) ⟨hx, hb, hml, hown, hts⟩ (c_X7_in l D cs w1 H.size (what.toInt64) (0) (10)) gX7_office_X7_in rfl ⟨by decide +kernel, by decide +kernel, by decide +kernel⟩ ⟨Nat.le_of_ble_eq_true rfl, Nat.le_of_ble_eq_true rfl⟩ hK hE hS rfl hl.1 rfl (Nat.le_of_ble_eq_true rfl) dX7_office_12 ⟨Nat.le_of_ble_eq_true rfl, Nat.le_of_ble_eq_true rfl⟩ (fun H locs hS => ?_)
  refine lv_if_ne (tgt := 22) hx hb dX7_office_15 (by decide) (fun cq9 => absurd hwh cq9) (fun _ => ?_)
  refine lv_iconst (v := 1) hx hb dX7_office_18 (by decide) ?_
  refine lv_goto (tgt := 23) hx hb dX7_office_19 (by decide) ?_
  refine lv_iconst (v := 1) hx hb dX7_office_23 (by decide) ?_
  refine z_invV (As := [.int (1), .int (1)]) (rest := []) (n := 2) ⟨hx, hb, hml, hown, hts⟩ (c1_X7_throwsIf l D cs w1 H.size mm ad (0) (tb) (dd) (wk) (br) (yr) (wd) 1 h1_mm) gX7_office_X7_throwsIf rfl ⟨rfl, by decide +kernel, by decide +kernel, by decide +kernel⟩ ⟨Nat.le_of_ble_eq_true rfl, Nat.le_of_ble_eq_true rfl⟩ hK hE hS rfl h1_mm rfl hl.1 rfl (Nat.le_of_ble_eq_true rfl) dX7_office_24 ⟨Nat.le_of_ble_eq_true rfl, Nat.le_of_ble_eq_true rfl⟩ (fun v9 u2 H locs hq hS => ?_)
  obtain ⟨rfl, hx2⟩ := hq
  have h3_mm : u2 (mm) = some (mo ad (1) (tb) (dd) (wk) (br) (yr) (wd)) := hx2.at 0 rfl
  refine W.eq (g2 := F0 m 27 ls [.int (1)]) rfl ?_
  refine lv_if_eq (tgt := 32) hx hb dX7_office_27 (by decide) (fun cq9 => absurd cq9 (by decide)) (fun _ => ?_)
  refine lv_lconst (v := 0) hx hb dX7_office_30 (by decide) ?_
  have hex : zEx w u2 [(mm, (mo ad (1) (tb) (dd) (wk) (br) (yr) (wd)))] := ⟨(zm1 h3_mm zm0), fun a9 h9 => by rw [hx2.2 a9 (zm1 (show a9 ≠ mm from h9 (mm, (mo ad (1) (tb) (dd) (wk) (br) (yr) (wd))) (List.mem_of_getElem? (i := 0) rfl)) zm0), ew1, va_up_ne _ _ (show a9 ≠ mm from h9 (mm, (mo ad (1) (tb) (dd) (wk) (br) (yr) (wd))) (List.mem_of_getElem? (i := 0) rfl))]⟩
  exact z_lret hx hb hr hlocks hS (Nat.le_of_ble_eq_true rfl) (Nat.le_of_ble_eq_true rfl) dX7_office_31 ⟨rfl, zMQ.o hM h_m hinj hex⟩
set_option maxHeartbeats 4000000 in
set_option maxRecDepth 100000 in
theorem c_X7_office (l : Launch) (D : va_G) (cs : Nat → ClassId) (w : zw) (sz : Nat) (mm : Nat) (ad : Nat → Nat) (J : Nat → Nat → Int64) (K : Nat → Nat → Int32) (th tb br yr wd : Int32) (bo rb pe me : Nat → Nat → Int32) (re cr ex : Nat → Nat → Int64) (en : Nat → Nat → Int32) (tx : Nat → Nat → Nat) (V P : Nat → Nat → Nat → Int64) (nb : Nat) (tn : Nat → Nat) (FF : Nat → Nat → Int64) (GF : Nat → Nat → Int32) (nd : Nat) (de so : Nat → Int32) (si ca bs : Nat → Int64) (hd : Nat → Nat) (nw : Nat) (what : Int32) (hinj : ∀ i j : Nat, i ≠ j → ad i ≠ ad j) (hM : zMA cs w ad J K) (hWs : ∀ k : Nat, k < nw → mWr J K k (bo k) (rb k) (pe k) (me k) (re k) (cr k) (ex k) (en k) (tx k) (V k) (P k) nb tn FF GF nd de so si ca bs (hd k)) (hnw : nw ≤ 10) (hwh : zUpTo what.toInt64 10 = 1) (h_m : w (mm) = some (mo ad (th) (tb) (nI nd) (nI nw) (br) (yr) (wd))) : zM l D cs yX7_office wsX7_office 9 0 0 w sz [.ref (mm), .int (what)] (fun r w2 => r = some (.long (zSum (fun k => zTotal (bo k) (V k) (hd k) (J 20 k) what) nw)) ∧ ∃ J' : Nat → Nat → Int64, mOut J J' ∧ zMQ cs w w2 ad mm (mo ad (0) (tb) (nI nd) (nI nw) (br) (yr) (wd)) J' K) := by
  refine z_met (cc := cX7_office) (maxL := 5) (ret := (some .long)) (by decide) rfl (Nat.le_of_ble_eq_true rfl) ?_
  intro p e s m below meth c hx hb hr hml hown hts hlocks hnm hsz hK hE hS ls hl
  have hl : lv_has ls 5 [(0, .ref (mm)), (1, .int (what))] := hl
  have L37 : ∀ (i : Nat), ∀ (u : zw) (J2 : Nat → Nat → Int64) (acc : Int64), (hi : i ≤ nw) → (ho : mOut J J2) → (hq2 : zMQ cs w u ad mm (mo ad (0) (tb) (nI nd) (nI nw) (br) (yr) (wd)) J2 K) → (hacc : acc = zSum (fun k => zTotal (bo k) (V k) (hd k) (J 20 k) what) i) → (h_m : u (mm) = some (mo ad (0) (tb) (nI nd) (nI nw) (br) (yr) (wd))) → ∀ (H : Heap) (locs : List Loc) (ls : Array Slot), zS (zA w sz) D u s.heap H locs → lv_has ls 5 [(4, .int (nI i)), (2, .long (acc)), (0, .ref (mm)), (1, .int (what))] → W p l e (zR 9 0 0) s m [.ref (mm), .int (what)].toArray below meth c H locs 0 0 (MQ below (zQ D w sz (fun r w2 => r = some (.long (zSum (fun k => zTotal (bo k) (V k) (hd k) (J 20 k) what) nw)) ∧ ∃ J' : Nat → Nat → Int64, mOut J J' ∧ zMQ cs w w2 ad mm (mo ad (0) (tb) (nI nd) (nI nw) (br) (yr) (wd)) J' K)) [.ref (mm), .int (what)].toArray s 0 0 (zA w sz)) (F0 m 37 ls []) := by
    refine zloopU (P := fun i => ∀ (u : zw) (J2 : Nat → Nat → Int64) (acc : Int64), (hi : i ≤ nw) → (ho : mOut J J2) → (hq2 : zMQ cs w u ad mm (mo ad (0) (tb) (nI nd) (nI nw) (br) (yr) (wd)) J2 K) → (hacc : acc = zSum (fun k => zTotal (bo k) (V k) (hd k) (J 20 k) what) i) → (h_m : u (mm) = some (mo ad (0) (tb) (nI nd) (nI nw) (br) (yr) (wd))) → ∀ (H : Heap) (locs : List Loc) (ls : Array Slot), zS (zA w sz) D u s.heap H locs → lv_has ls 5 [(4, .int (nI i)), (2, .long (acc)), (0, .ref (mm)), (1, .int (what))] → W p l e (zR 9 0 0) s m [.ref (mm), .int (what)].toArray below meth c H locs 0 0 (MQ below (zQ D w sz (fun r w2 => r = some (.long (zSum (fun k => zTotal (bo k) (V k) (hd k) (J 20 k) what) nw)) ∧ ∃ J' : Nat → Nat → Int64, mOut J J' ∧ zMQ cs w w2 ad mm (mo ad (0) (tb) (nI nd) (nI nw) (br) (yr) (wd)) J' K)) [.ref (mm), .int (what)].toArray s 0 0 (zA w sz)) (F0 m 37 ls [])) nw (fun i ih => ?_)
    intro u J2 acc hi ho hq2 hacc h_m H locs ls hS hl
    refine lv_iload hx hb dX7_office_37 (lv_at hl 0 rfl) ?_
    refine lv_aload_n hx hb dX7_office_39 rfl (lv_at hl 2 rfl) ?_
    refine z_get (C := RX7) (T := TX7) (N := 45) (v := .int (nI nw)) hx hb hts (by decide +kernel) hown hK hS h_m rfl 21 (by decide) (hts (.fieldLink RX7 183 "PayLedgerModel" "workers" "I") (by decide +kernel)) rfl dX7_office_40 ?_
    refine lv_icmp_ge (tgt := 62) hx hb dX7_office_43 (by decide) (fun c43 => ?_) (fun c43 => ?_)
    · have hi9 : i = nw := by rcases Nat.lt_or_ge i (nw) with q | q; exact absurd c43 (nI_ge (b := nw) q (by omega)); omega
      refine lv_lload_n hx hb dX7_office_62 rfl (lv_at hl 1 rfl) ?_
      exact z_lret hx hb hr hlocks hS (Nat.le_of_ble_eq_true rfl) (Nat.le_of_ble_eq_true rfl) dX7_office_63 ⟨by rw [hacc, hi9], J2, ho, hq2⟩
    · have c43 : i < nw := by rcases Nat.lt_or_ge i (nw) with q | q; exact q; exact absurd (nI_le (a := nw) q (by omega)) c43
      refine lv_lload_n hx hb dX7_office_46 rfl (lv_at hl 1 rfl) ?_
      refine lv_aload_n hx hb dX7_office_47 rfl (lv_at hl 2 rfl) ?_
      refine lv_iload hx hb dX7_office_48 (lv_at hl 0 rfl) ?_
      refine lv_iload_n hx hb dX7_office_50 rfl (lv_at hl 3 rfl) ?_
      refine z_invV (As := [.int (nI i), .int (what)]) (rest := [.long (acc)]) (n := 2) ⟨hx, hb, hml, hown, hts⟩ (c_X7_sums l D cs u H.size mm ad J2 K 0 tb (nI nw) br yr wd i (bo i) (rb i) (pe i) (me i) (re i) (cr i) (ex i) (en i) (tx i) (V i) (P i) nb tn FF GF nd de so si ca bs (hd i) what hinj hq2.2.1 ((hWs i c43).out ho) h_m) gX7_office_X7_sums rfl ⟨rfl, by decide +kernel, by decide +kernel, by decide +kernel⟩ ⟨Nat.le_of_ble_eq_true rfl, Nat.le_of_ble_eq_true rfl⟩ hK hE hS rfl h_m rfl hl.1 rfl (Nat.le_of_ble_eq_true rfl) dX7_office_51 ⟨Nat.le_of_ble_eq_true rfl, Nat.le_of_ble_eq_true rfl⟩ (fun v9 u1 H locs hq hS => ?_)
      obtain ⟨rfl, J3, ho3, hz3⟩ := hq
      have hq3 := zMQ.w hq2.2.1 hq2.1 hinj hz3 ho3
      have h_m3 : u1 mm = some (mo ad (0) (tb) (nI nd) (nI nw) (br) (yr) (wd)) := hq3.1
      refine W.eq (g2 := F0 m 54 ls [.long (zTotal (bo i) (V i) (hd i) (J2 20 i) what), .long (acc)]) rfl ?_
      refine z_tl (y := zTotal (bo i) (V i) (hd i) (J 20 i) what) (by rw [ho 20 (by decide)]) ?_
      refine lv_ladd hx hb dX7_office_54 ?_
      refine lv_lstore_n (lv' := [(2, .long ((acc + zTotal (bo i) (V i) (hd i) (J 20 i) what))), (4, .int (nI i)), (0, .ref (mm)), (1, .int (what))]) hx hb dX7_office_55 rfl hl (by decide) rfl (fun ls hl => ?_)
      refine lv_iinc (v := nI (i + 1)) (lv' := [(4, .int (nI (i + 1))), (2, .long ((acc + zTotal (bo i) (V i) (hd i) (J 20 i) what))), (0, .ref (mm)), (1, .int (what))]) hx hb dX7_office_56 hl (k := 1) rfl (nI_1 _) (by decide) rfl (fun ls hl => ?_)
      refine lv_goto (tgt := 37) hx hb dX7_office_59 (by decide) ?_
      exact ih c43 _ J3 ((acc + zTotal (bo i) (V i) (hd i) (J 20 i) what)) (by omega) (ho.trans ho3) (hq2.trans hq3) (by rw [hacc]; rfl) h_m3 _ _ _ hS (lv_sub hl [0, 1, 2, 3] rfl)
  refine lv_aload_n hx hb dX7_office_0 rfl (lv_at hl 0 rfl) ?_
  refine lv_iconst (v := 0) hx hb dX7_office_1 (by decide) ?_
  refine z_put (C := RX7) (T := TX7) (N := 45) (v := .int (0)) hx hb hts (by decide +kernel) tyX7 tyX7_ok nmX7 hown hK hS h_m rfl 0 (by decide) (hts (.fieldLink RX7 126 "PayLedgerModel" "thrown" "I") (by decide +kernel)) rfl rfl rfl (Nat.le_of_ble_eq_true rfl) dX7_office_2 (fun H locs hS => ?_)
  obtain ⟨w2, ew2⟩ : ∃ z : zw, z = va_up w (mm) (some (mo ad (0) (tb) (nI nd) (nI nw) (br) (yr) (wd))) := ⟨_, rfl⟩
  have hS : zS (zA w sz) D w2 s.heap H locs := by rw [ew2]; exact hS
  have h2_mm : w2 (mm) = some (mo ad (0) (tb) (nI nd) (nI nw) (br) (yr) (wd)) := by rw [ew2]; exact va_up_self _ _ _
  refine lv_aload_n hx hb dX7_office_5 rfl (lv_at hl 0 rfl) ?_
  refine lv_iload_n hx hb dX7_office_6 rfl (lv_at hl 1 rfl) ?_
  refine lv_i2l (v := ((what : Int32).toInt64)) hx hb dX7_office_7 rfl ?_
  refine lv_lconst (v := 0) hx hb dX7_office_8 (by decide) ?_
  refine lv_ldc2 (v := 10) hx hb hown (hts (.constantLong RX7 245 (10)) (by decide +kernel)) dX7_office_9 ?_
  refine z_rS (As := [.long (((what : Int32).toInt64)), .long (0), .long (10)]) (rest := [.ref (mm)]) (n := 3) ⟨hx, hb, hml, hown, hts⟩ (c_X7_in l D cs w2 H.size (what.toInt64) (0) (10)) gX7_office_X7_in rfl ⟨by decide +kernel, by decide +kernel, by decide +kernel⟩ ⟨Nat.le_of_ble_eq_true rfl, Nat.le_of_ble_eq_true rfl⟩ hK hE hS rfl hl.1 rfl (Nat.le_of_ble_eq_true rfl) dX7_office_12 ⟨Nat.le_of_ble_eq_true rfl, Nat.le_of_ble_eq_true rfl⟩ (fun H locs hS => ?_)
  refine lv_if_ne (tgt := 22) hx hb dX7_office_15 (by decide) (fun _ => ?_) (fun cq9 => absurd cq9 (by rw [show mIn (what.toInt64) 0 10 = 1 from hwh]; decide))
  refine lv_iconst (v := 0) hx hb dX7_office_22 (by decide) ?_
  refine lv_iconst (v := 1) hx hb dX7_office_23 (by decide) ?_
  refine z_rV (As := [.int (0), .int (1)]) (rest := []) (n := 2) ⟨hx, hb, hml, hown, hts⟩ (c0_X7_throwsIf l D cs w2 H.size mm ad (0) (tb) (nI nd) (nI nw) (br) (yr) (wd) 1 h2_mm) gX7_office_X7_throwsIf rfl ⟨rfl, by decide +kernel, by decide +kernel, by decide +kernel⟩ ⟨Nat.le_of_ble_eq_true rfl, Nat.le_of_ble_eq_true rfl⟩ hK hE hS rfl h2_mm rfl hl.1 rfl (Nat.le_of_ble_eq_true rfl) dX7_office_24 ⟨Nat.le_of_ble_eq_true rfl, Nat.le_of_ble_eq_true rfl⟩ (fun H locs hS => ?_)
  refine lv_if_eq (tgt := 32) hx hb dX7_office_27 (by decide) (fun _ => ?_) (fun cq9 => absurd rfl cq9)
  refine lv_lconst (v := 0) hx hb dX7_office_32 (by decide) ?_
  refine lv_lstore_n (lv' := [(2, .long (0)), (0, .ref (mm)), (1, .int (what))]) hx hb dX7_office_33 rfl hl (by decide) rfl (fun ls hl => ?_)
  have hex1 : zEx w w2 [(mm, (mo ad (0) (tb) (nI nd) (nI nw) (br) (yr) (wd)))] := ⟨(zm1 h2_mm zm0), fun a9 h9 => by rw [ew2, va_up_ne _ _ (show a9 ≠ mm from h9 (mm, (mo ad (0) (tb) (nI nd) (nI nw) (br) (yr) (wd))) (List.mem_of_getElem? (i := 0) rfl))]⟩
  have hq1 : zMQ cs w w2 ad mm (mo ad (0) (tb) (nI nd) (nI nw) (br) (yr) (wd)) J K := zMQ.o hM h_m hinj hex1
  refine lv_iconst (v := 0) hx hb dX7_office_34 (by decide) ?_
  refine lv_istore (lv' := [(4, .int (0)), (2, .long (0)), (0, .ref (mm)), (1, .int (what))]) hx hb dX7_office_35 hl (by decide) rfl (fun ls hl => ?_)
  exact L37 0 _ J 0 (by omega) mOut.refl hq1 rfl h2_mm _ _ _ hS (lv_sub hl [0, 1, 2, 3] rfl)
set_option maxHeartbeats 4000000 in
set_option maxRecDepth 100000 in
theorem c0_X7_count (l : Launch) (D : va_G) (cs : Nat → ClassId) (w : zw) (sz : Nat) (mm : Nat) (ad : Nat → Nat) (J : Nat → Nat → Int64) (K : Nat → Nat → Int32) (th tb dd wk br yr wd : Int32) (hinj : ∀ i j : Nat, i ≠ j → ad i ≠ ad j) (hM : zMA cs w ad J K) (h_m : w (mm) = some (mo ad (th) (tb) (dd) (wk) (br) (yr) (wd))) : zM l D cs yX7_count wsX7_count 3 0 0 w sz [.ref (mm), .int (0)] (fun r w2 => r = some (.int tb) ∧ zMQ cs w w2 ad mm (mo ad (0) (tb) (dd) (wk) (br) (yr) (wd)) J K) := by
  refine z_met (cc := cX7_count) (maxL := 4) (ret := (some .int)) (by decide) rfl (Nat.le_of_ble_eq_true rfl) ?_
  intro p e s m below meth c hx hb hr hml hown hts hlocks hnm hsz hK hE hS ls hl
  have hl : lv_has ls 4 [(0, .ref (mm)), (1, .int (0))] := hl
  refine lv_aload_n hx hb dX7_count_0 rfl (lv_at hl 0 rfl) ?_
  refine lv_iconst (v := 0) hx hb dX7_count_1 (by decide) ?_
  refine z_put (C := RX7) (T := TX7) (N := 45) (v := .int (0)) hx hb hts (by decide +kernel) tyX7 tyX7_ok nmX7 hown hK hS h_m rfl 0 (by decide) (hts (.fieldLink RX7 126 "PayLedgerModel" "thrown" "I") (by decide +kernel)) rfl rfl rfl (Nat.le_of_ble_eq_true rfl) dX7_count_2 (fun H locs hS => ?_)
  obtain ⟨w1, ew1⟩ : ∃ z : zw, z = va_up w (mm) (some (mo ad (0) (tb) (dd) (wk) (br) (yr) (wd))) := ⟨_, rfl⟩
  have hS : zS (zA w sz) D w1 s.heap H locs := by rw [ew1]; exact hS
  have h1_mm : w1 (mm) = some (mo ad (0) (tb) (dd) (wk) (br) (yr) (wd)) := by rw [ew1]; exact va_up_self _ _ _
  refine lv_iload_n hx hb dX7_count_5 rfl (lv_at hl 1 rfl) ?_
  refine lv_tableIn (off := 42) (tgt := 48) hx hb dX7_count_6 (by rw [(show (0 : Int32) = 0 from rfl)]; decide) (by rw [(show (0 : Int32) = 0 from rfl)]; decide) (by rw [(show (0 : Int32) = 0 from rfl)]; rfl) (by decide) ?_
  refine lv_aload_n hx hb dX7_count_48 rfl (lv_at hl 0 rfl) ?_
  refine z_get (C := RX7) (T := TX7) (N := 45) (v := .int (tb)) hx hb hts (by decide +kernel) hown hK hS h1_mm rfl 5 (by decide) (hts (.fieldLink RX7 180 "PayLedgerModel" "tables" "I") (by decide +kernel)) rfl dX7_count_49 ?_
  have hex : zEx w w1 [(mm, (mo ad (0) (tb) (dd) (wk) (br) (yr) (wd)))] := ⟨(zm1 h1_mm zm0), fun a9 h9 => by rw [ew1, va_up_ne _ _ (show a9 ≠ mm from h9 (mm, (mo ad (0) (tb) (dd) (wk) (br) (yr) (wd))) (List.mem_of_getElem? (i := 0) rfl))]⟩
  exact z_iret hx hb hr hlocks hS (Nat.le_of_ble_eq_true rfl) (Nat.le_of_ble_eq_true rfl) dX7_count_52 ⟨rfl, zMQ.o hM h_m hinj hex⟩
set_option maxHeartbeats 4000000 in
set_option maxRecDepth 100000 in
theorem c1_X7_count (l : Launch) (D : va_G) (cs : Nat → ClassId) (w : zw) (sz : Nat) (mm : Nat) (ad : Nat → Nat) (J : Nat → Nat → Int64) (K : Nat → Nat → Int32) (th tb dd wk br yr wd : Int32) (hinj : ∀ i j : Nat, i ≠ j → ad i ≠ ad j) (hM : zMA cs w ad J K) (h_m : w (mm) = some (mo ad (th) (tb) (dd) (wk) (br) (yr) (wd))) : zM l D cs yX7_count wsX7_count 3 0 0 w sz [.ref (mm), .int (1)] (fun r w2 => r = some (.int dd) ∧ zMQ cs w w2 ad mm (mo ad (0) (tb) (dd) (wk) (br) (yr) (wd)) J K) := by
  refine z_met (cc := cX7_count) (maxL := 4) (ret := (some .int)) (by decide) rfl (Nat.le_of_ble_eq_true rfl) ?_
  intro p e s m below meth c hx hb hr hml hown hts hlocks hnm hsz hK hE hS ls hl
  have hl : lv_has ls 4 [(0, .ref (mm)), (1, .int (1))] := hl
  refine lv_aload_n hx hb dX7_count_0 rfl (lv_at hl 0 rfl) ?_
  refine lv_iconst (v := 0) hx hb dX7_count_1 (by decide) ?_
  refine z_put (C := RX7) (T := TX7) (N := 45) (v := .int (0)) hx hb hts (by decide +kernel) tyX7 tyX7_ok nmX7 hown hK hS h_m rfl 0 (by decide) (hts (.fieldLink RX7 126 "PayLedgerModel" "thrown" "I") (by decide +kernel)) rfl rfl rfl (Nat.le_of_ble_eq_true rfl) dX7_count_2 (fun H locs hS => ?_)
  obtain ⟨w1, ew1⟩ : ∃ z : zw, z = va_up w (mm) (some (mo ad (0) (tb) (dd) (wk) (br) (yr) (wd))) := ⟨_, rfl⟩
  have hS : zS (zA w sz) D w1 s.heap H locs := by rw [ew1]; exact hS
  have h1_mm : w1 (mm) = some (mo ad (0) (tb) (dd) (wk) (br) (yr) (wd)) := by rw [ew1]; exact va_up_self _ _ _
  refine lv_iload_n hx hb dX7_count_5 rfl (lv_at hl 1 rfl) ?_
  refine lv_tableIn (off := 47) (tgt := 53) hx hb dX7_count_6 (by rw [(show (1 : Int32) = 1 from rfl)]; decide) (by rw [(show (1 : Int32) = 1 from rfl)]; decide) (by rw [(show (1 : Int32) = 1 from rfl)]; rfl) (by decide) ?_
  refine lv_aload_n hx hb dX7_count_53 rfl (lv_at hl 0 rfl) ?_
  refine z_get (C := RX7) (T := TX7) (N := 45) (v := .int (dd)) hx hb hts (by decide +kernel) hown hK hS h1_mm rfl 11 (by decide) (hts (.fieldLink RX7 157 "PayLedgerModel" "deductions" "I") (by decide +kernel)) rfl dX7_count_54 ?_
  have hex : zEx w w1 [(mm, (mo ad (0) (tb) (dd) (wk) (br) (yr) (wd)))] := ⟨(zm1 h1_mm zm0), fun a9 h9 => by rw [ew1, va_up_ne _ _ (show a9 ≠ mm from h9 (mm, (mo ad (0) (tb) (dd) (wk) (br) (yr) (wd))) (List.mem_of_getElem? (i := 0) rfl))]⟩
  exact z_iret hx hb hr hlocks hS (Nat.le_of_ble_eq_true rfl) (Nat.le_of_ble_eq_true rfl) dX7_count_57 ⟨rfl, zMQ.o hM h_m hinj hex⟩
set_option maxHeartbeats 4000000 in
set_option maxRecDepth 100000 in
theorem c2_X7_count (l : Launch) (D : va_G) (cs : Nat → ClassId) (w : zw) (sz : Nat) (mm : Nat) (ad : Nat → Nat) (J : Nat → Nat → Int64) (K : Nat → Nat → Int32) (th tb dd wk br yr wd : Int32) (hinj : ∀ i j : Nat, i ≠ j → ad i ≠ ad j) (hM : zMA cs w ad J K) (h_m : w (mm) = some (mo ad (th) (tb) (dd) (wk) (br) (yr) (wd))) : zM l D cs yX7_count wsX7_count 3 0 0 w sz [.ref (mm), .int (2)] (fun r w2 => r = some (.int wk) ∧ zMQ cs w w2 ad mm (mo ad (0) (tb) (dd) (wk) (br) (yr) (wd)) J K) := by
  refine z_met (cc := cX7_count) (maxL := 4) (ret := (some .int)) (by decide) rfl (Nat.le_of_ble_eq_true rfl) ?_
  intro p e s m below meth c hx hb hr hml hown hts hlocks hnm hsz hK hE hS ls hl
  have hl : lv_has ls 4 [(0, .ref (mm)), (1, .int (2))] := hl
  refine lv_aload_n hx hb dX7_count_0 rfl (lv_at hl 0 rfl) ?_
  refine lv_iconst (v := 0) hx hb dX7_count_1 (by decide) ?_
  refine z_put (C := RX7) (T := TX7) (N := 45) (v := .int (0)) hx hb hts (by decide +kernel) tyX7 tyX7_ok nmX7 hown hK hS h_m rfl 0 (by decide) (hts (.fieldLink RX7 126 "PayLedgerModel" "thrown" "I") (by decide +kernel)) rfl rfl rfl (Nat.le_of_ble_eq_true rfl) dX7_count_2 (fun H locs hS => ?_)
  obtain ⟨w1, ew1⟩ : ∃ z : zw, z = va_up w (mm) (some (mo ad (0) (tb) (dd) (wk) (br) (yr) (wd))) := ⟨_, rfl⟩
  have hS : zS (zA w sz) D w1 s.heap H locs := by rw [ew1]; exact hS
  have h1_mm : w1 (mm) = some (mo ad (0) (tb) (dd) (wk) (br) (yr) (wd)) := by rw [ew1]; exact va_up_self _ _ _
  refine lv_iload_n hx hb dX7_count_5 rfl (lv_at hl 1 rfl) ?_
  refine lv_tableIn (off := 52) (tgt := 58) hx hb dX7_count_6 (by rw [(show (2 : Int32) = 2 from rfl)]; decide) (by rw [(show (2 : Int32) = 2 from rfl)]; decide) (by rw [(show (2 : Int32) = 2 from rfl)]; rfl) (by decide) ?_
  refine lv_aload_n hx hb dX7_count_58 rfl (lv_at hl 0 rfl) ?_
  refine z_get (C := RX7) (T := TX7) (N := 45) (v := .int (wk)) hx hb hts (by decide +kernel) hown hK hS h1_mm rfl 21 (by decide) (hts (.fieldLink RX7 183 "PayLedgerModel" "workers" "I") (by decide +kernel)) rfl dX7_count_59 ?_
  have hex : zEx w w1 [(mm, (mo ad (0) (tb) (dd) (wk) (br) (yr) (wd)))] := ⟨(zm1 h1_mm zm0), fun a9 h9 => by rw [ew1, va_up_ne _ _ (show a9 ≠ mm from h9 (mm, (mo ad (0) (tb) (dd) (wk) (br) (yr) (wd))) (List.mem_of_getElem? (i := 0) rfl))]⟩
  exact z_iret hx hb hr hlocks hS (Nat.le_of_ble_eq_true rfl) (Nat.le_of_ble_eq_true rfl) dX7_count_62 ⟨rfl, zMQ.o hM h_m hinj hex⟩
set_option maxHeartbeats 4000000 in
set_option maxRecDepth 100000 in
theorem c3_X7_count (l : Launch) (D : va_G) (cs : Nat → ClassId) (w : zw) (sz : Nat) (mm : Nat) (ad : Nat → Nat) (J : Nat → Nat → Int64) (K : Nat → Nat → Int32) (th tb dd wk br yr wd : Int32) (hinj : ∀ i j : Nat, i ≠ j → ad i ≠ ad j) (hM : zMA cs w ad J K) (h_m : w (mm) = some (mo ad (th) (tb) (dd) (wk) (br) (yr) (wd))) : zM l D cs yX7_count wsX7_count 3 0 0 w sz [.ref (mm), .int (3)] (fun r w2 => r = some (.int yr) ∧ zMQ cs w w2 ad mm (mo ad (0) (tb) (dd) (wk) (br) (yr) (wd)) J K) := by
  refine z_met (cc := cX7_count) (maxL := 4) (ret := (some .int)) (by decide) rfl (Nat.le_of_ble_eq_true rfl) ?_
  intro p e s m below meth c hx hb hr hml hown hts hlocks hnm hsz hK hE hS ls hl
  have hl : lv_has ls 4 [(0, .ref (mm)), (1, .int (3))] := hl
  refine lv_aload_n hx hb dX7_count_0 rfl (lv_at hl 0 rfl) ?_
  refine lv_iconst (v := 0) hx hb dX7_count_1 (by decide) ?_
  refine z_put (C := RX7) (T := TX7) (N := 45) (v := .int (0)) hx hb hts (by decide +kernel) tyX7 tyX7_ok nmX7 hown hK hS h_m rfl 0 (by decide) (hts (.fieldLink RX7 126 "PayLedgerModel" "thrown" "I") (by decide +kernel)) rfl rfl rfl (Nat.le_of_ble_eq_true rfl) dX7_count_2 (fun H locs hS => ?_)
  obtain ⟨w1, ew1⟩ : ∃ z : zw, z = va_up w (mm) (some (mo ad (0) (tb) (dd) (wk) (br) (yr) (wd))) := ⟨_, rfl⟩
  have hS : zS (zA w sz) D w1 s.heap H locs := by rw [ew1]; exact hS
  have h1_mm : w1 (mm) = some (mo ad (0) (tb) (dd) (wk) (br) (yr) (wd)) := by rw [ew1]; exact va_up_self _ _ _
  refine lv_iload_n hx hb dX7_count_5 rfl (lv_at hl 1 rfl) ?_
  refine lv_tableIn (off := 57) (tgt := 63) hx hb dX7_count_6 (by rw [(show (3 : Int32) = 3 from rfl)]; decide) (by rw [(show (3 : Int32) = 3 from rfl)]; decide) (by rw [(show (3 : Int32) = 3 from rfl)]; rfl) (by decide) ?_
  refine lv_aload_n hx hb dX7_count_63 rfl (lv_at hl 0 rfl) ?_
  refine z_get (C := RX7) (T := TX7) (N := 45) (v := .int (yr)) hx hb hts (by decide +kernel) hown hK hS h1_mm rfl 23 (by decide) (hts (.fieldLink RX7 251 "PayLedgerModel" "year" "I") (by decide +kernel)) rfl dX7_count_64 ?_
  have hex : zEx w w1 [(mm, (mo ad (0) (tb) (dd) (wk) (br) (yr) (wd)))] := ⟨(zm1 h1_mm zm0), fun a9 h9 => by rw [ew1, va_up_ne _ _ (show a9 ≠ mm from h9 (mm, (mo ad (0) (tb) (dd) (wk) (br) (yr) (wd))) (List.mem_of_getElem? (i := 0) rfl))]⟩
  exact z_iret hx hb hr hlocks hS (Nat.le_of_ble_eq_true rfl) (Nat.le_of_ble_eq_true rfl) dX7_count_67 ⟨rfl, zMQ.o hM h_m hinj hex⟩
set_option maxHeartbeats 4000000 in
set_option maxRecDepth 100000 in
theorem c5_X7_count (l : Launch) (D : va_G) (cs : Nat → ClassId) (w : zw) (sz : Nat) (mm : Nat) (ad : Nat → Nat) (J : Nat → Nat → Int64) (K : Nat → Nat → Int32) (th tb dd wk br yr wd : Int32) (hinj : ∀ i j : Nat, i ≠ j → ad i ≠ ad j) (hM : zMA cs w ad J K) (h_m : w (mm) = some (mo ad (th) (tb) (dd) (wk) (br) (yr) (wd))) : zM l D cs yX7_count wsX7_count 3 0 0 w sz [.ref (mm), .int (5)] (fun r w2 => r = some (.int wd) ∧ zMQ cs w w2 ad mm (mo ad (0) (tb) (dd) (wk) (br) (yr) (wd)) J K) := by
  refine z_met (cc := cX7_count) (maxL := 4) (ret := (some .int)) (by decide) rfl (Nat.le_of_ble_eq_true rfl) ?_
  intro p e s m below meth c hx hb hr hml hown hts hlocks hnm hsz hK hE hS ls hl
  have hl : lv_has ls 4 [(0, .ref (mm)), (1, .int (5))] := hl
  refine lv_aload_n hx hb dX7_count_0 rfl (lv_at hl 0 rfl) ?_
  refine lv_iconst (v := 0) hx hb dX7_count_1 (by decide) ?_
  refine z_put (C := RX7) (T := TX7) (N := 45) (v := .int (0)) hx hb hts (by decide +kernel) tyX7 tyX7_ok nmX7 hown hK hS h_m rfl 0 (by decide) (hts (.fieldLink RX7 126 "PayLedgerModel" "thrown" "I") (by decide +kernel)) rfl rfl rfl (Nat.le_of_ble_eq_true rfl) dX7_count_2 (fun H locs hS => ?_)
  obtain ⟨w1, ew1⟩ : ∃ z : zw, z = va_up w (mm) (some (mo ad (0) (tb) (dd) (wk) (br) (yr) (wd))) := ⟨_, rfl⟩
  have hS : zS (zA w sz) D w1 s.heap H locs := by rw [ew1]; exact hS
  have h1_mm : w1 (mm) = some (mo ad (0) (tb) (dd) (wk) (br) (yr) (wd)) := by rw [ew1]; exact va_up_self _ _ _
  refine lv_iload_n hx hb dX7_count_5 rfl (lv_at hl 1 rfl) ?_
  refine lv_tableIn (off := 91) (tgt := 97) hx hb dX7_count_6 (by rw [(show (5 : Int32) = 5 from rfl)]; decide) (by rw [(show (5 : Int32) = 5 from rfl)]; decide) (by rw [(show (5 : Int32) = 5 from rfl)]; rfl) (by decide) ?_
  refine lv_aload_n hx hb dX7_count_97 rfl (lv_at hl 0 rfl) ?_
  refine z_get (C := RX7) (T := TX7) (N := 45) (v := .int (wd)) hx hb hts (by decide +kernel) hown hK hS h1_mm rfl 24 (by decide) (hts (.fieldLink RX7 240 "PayLedgerModel" "worked" "I") (by decide +kernel)) rfl dX7_count_98 ?_
  have hex : zEx w w1 [(mm, (mo ad (0) (tb) (dd) (wk) (br) (yr) (wd)))] := ⟨(zm1 h1_mm zm0), fun a9 h9 => by rw [ew1, va_up_ne _ _ (show a9 ≠ mm from h9 (mm, (mo ad (0) (tb) (dd) (wk) (br) (yr) (wd))) (List.mem_of_getElem? (i := 0) rfl))]⟩
  exact z_iret hx hb hr hlocks hS (Nat.le_of_ble_eq_true rfl) (Nat.le_of_ble_eq_true rfl) dX7_count_101 ⟨rfl, zMQ.o hM h_m hinj hex⟩
set_option maxHeartbeats 4000000 in
set_option maxRecDepth 100000 in
theorem c6_X7_count (l : Launch) (D : va_G) (cs : Nat → ClassId) (w : zw) (sz : Nat) (mm : Nat) (ad : Nat → Nat) (J : Nat → Nat → Int64) (K : Nat → Nat → Int32) (th tb dd wk br yr wd : Int32) (hinj : ∀ i j : Nat, i ≠ j → ad i ≠ ad j) (hM : zMA cs w ad J K) (h_m : w (mm) = some (mo ad (th) (tb) (dd) (wk) (br) (yr) (wd))) : zM l D cs yX7_count wsX7_count 3 0 0 w sz [.ref (mm), .int (6)] (fun r w2 => r = some (.int br) ∧ zMQ cs w w2 ad mm (mo ad (0) (tb) (dd) (wk) (br) (yr) (wd)) J K) := by
  refine z_met (cc := cX7_count) (maxL := 4) (ret := (some .int)) (by decide) rfl (Nat.le_of_ble_eq_true rfl) ?_
  intro p e s m below meth c hx hb hr hml hown hts hlocks hnm hsz hK hE hS ls hl
  have hl : lv_has ls 4 [(0, .ref (mm)), (1, .int (6))] := hl
  refine lv_aload_n hx hb dX7_count_0 rfl (lv_at hl 0 rfl) ?_
  refine lv_iconst (v := 0) hx hb dX7_count_1 (by decide) ?_
  refine z_put (C := RX7) (T := TX7) (N := 45) (v := .int (0)) hx hb hts (by decide +kernel) tyX7 tyX7_ok nmX7 hown hK hS h_m rfl 0 (by decide) (hts (.fieldLink RX7 126 "PayLedgerModel" "thrown" "I") (by decide +kernel)) rfl rfl rfl (Nat.le_of_ble_eq_true rfl) dX7_count_2 (fun H locs hS => ?_)
  obtain ⟨w1, ew1⟩ : ∃ z : zw, z = va_up w (mm) (some (mo ad (0) (tb) (dd) (wk) (br) (yr) (wd))) := ⟨_, rfl⟩
  have hS : zS (zA w sz) D w1 s.heap H locs := by rw [ew1]; exact hS
  have h1_mm : w1 (mm) = some (mo ad (0) (tb) (dd) (wk) (br) (yr) (wd)) := by rw [ew1]; exact va_up_self _ _ _
  refine lv_iload_n hx hb dX7_count_5 rfl (lv_at hl 1 rfl) ?_
  refine lv_tableIn (off := 96) (tgt := 102) hx hb dX7_count_6 (by rw [(show (6 : Int32) = 6 from rfl)]; decide) (by rw [(show (6 : Int32) = 6 from rfl)]; decide) (by rw [(show (6 : Int32) = 6 from rfl)]; rfl) (by decide) ?_
  refine lv_aload_n hx hb dX7_count_102 rfl (lv_at hl 0 rfl) ?_
  refine z_get (C := RX7) (T := TX7) (N := 45) (v := .int (br)) hx hb hts (by decide +kernel) hown hK hS h1_mm rfl 22 (by decide) (hts (.fieldLink RX7 230 "PayLedgerModel" "bonusRate" "I") (by decide +kernel)) rfl dX7_count_103 ?_
  have hex : zEx w w1 [(mm, (mo ad (0) (tb) (dd) (wk) (br) (yr) (wd)))] := ⟨(zm1 h1_mm zm0), fun a9 h9 => by rw [ew1, va_up_ne _ _ (show a9 ≠ mm from h9 (mm, (mo ad (0) (tb) (dd) (wk) (br) (yr) (wd))) (List.mem_of_getElem? (i := 0) rfl))]⟩
  exact z_iret hx hb hr hlocks hS (Nat.le_of_ble_eq_true rfl) (Nat.le_of_ble_eq_true rfl) dX7_count_106 ⟨rfl, zMQ.o hM h_m hinj hex⟩
set_option maxHeartbeats 4000000 in
set_option maxRecDepth 100000 in
theorem c7_X7_count (l : Launch) (D : va_G) (cs : Nat → ClassId) (w : zw) (sz : Nat) (mm : Nat) (ad : Nat → Nat) (J : Nat → Nat → Int64) (K : Nat → Nat → Int32) (th tb dd wk br yr wd : Int32) (what : Int32) (hinj : ∀ i j : Nat, i ≠ j → ad i ≠ ad j) (hM : zMA cs w ad J K) (n0 : ¬ what = 0) (n1 : ¬ what = 1) (n2 : ¬ what = 2) (n3 : ¬ what = 3) (n4 : ¬ what = 4) (n5 : ¬ what = 5) (n6 : ¬ what = 6) (h_m : w (mm) = some (mo ad (th) (tb) (dd) (wk) (br) (yr) (wd))) : zM l D cs yX7_count wsX7_count 3 0 0 w sz [.ref (mm), .int (what)] (fun r w2 => r = some (.int (-1)) ∧ zMQ cs w w2 ad mm (mo ad (0) (tb) (dd) (wk) (br) (yr) (wd)) J K) := by
  refine z_met (cc := cX7_count) (maxL := 4) (ret := (some .int)) (by decide) rfl (Nat.le_of_ble_eq_true rfl) ?_
  intro p e s m below meth c hx hb hr hml hown hts hlocks hnm hsz hK hE hS ls hl
  have hl : lv_has ls 4 [(0, .ref (mm)), (1, .int (what))] := hl
  refine lv_aload_n hx hb dX7_count_0 rfl (lv_at hl 0 rfl) ?_
  refine lv_iconst (v := 0) hx hb dX7_count_1 (by decide) ?_
  refine z_put (C := RX7) (T := TX7) (N := 45) (v := .int (0)) hx hb hts (by decide +kernel) tyX7 tyX7_ok nmX7 hown hK hS h_m rfl 0 (by decide) (hts (.fieldLink RX7 126 "PayLedgerModel" "thrown" "I") (by decide +kernel)) rfl rfl rfl (Nat.le_of_ble_eq_true rfl) dX7_count_2 (fun H locs hS => ?_)
  obtain ⟨w1, ew1⟩ : ∃ z : zw, z = va_up w (mm) (some (mo ad (0) (tb) (dd) (wk) (br) (yr) (wd))) := ⟨_, rfl⟩
  have hS : zS (zA w sz) D w1 s.heap H locs := by rw [ew1]; exact hS
  have h1_mm : w1 (mm) = some (mo ad (0) (tb) (dd) (wk) (br) (yr) (wd)) := by rw [ew1]; exact va_up_self _ _ _
  refine lv_iload_n hx hb dX7_count_5 rfl (lv_at hl 1 rfl) ?_
  refine lv_tableOut (tgt := 107) hx hb dX7_count_6 (by have q0 := lv_neT (a := 0) n0 rfl; have q1 := lv_neT (a := 1) n1 rfl; have q2 := lv_neT (a := 2) n2 rfl; have q3 := lv_neT (a := 3) n3 rfl; have q4 := lv_neT (a := 4) n4 rfl; have q5 := lv_neT (a := 5) n5 rfl; have q6 := lv_neT (a := 6) n6 rfl; omega) (by decide) ?_
  refine lv_iconst (v := -1) hx hb dX7_count_107 (by decide) ?_
  have hex : zEx w w1 [(mm, (mo ad (0) (tb) (dd) (wk) (br) (yr) (wd)))] := ⟨(zm1 h1_mm zm0), fun a9 h9 => by rw [ew1, va_up_ne _ _ (show a9 ≠ mm from h9 (mm, (mo ad (0) (tb) (dd) (wk) (br) (yr) (wd))) (List.mem_of_getElem? (i := 0) rfl))]⟩
  exact z_iret hx hb hr hlocks hS (Nat.le_of_ble_eq_true rfl) (Nat.le_of_ble_eq_true rfl) dX7_count_108 ⟨rfl, zMQ.o hM h_m hinj hex⟩
set_option maxHeartbeats 4000000 in
set_option maxRecDepth 100000 in
theorem c4_X7_count (l : Launch) (D : va_G) (cs : Nat → ClassId) (w : zw) (sz : Nat) (mm : Nat) (ad : Nat → Nat) (J : Nat → Nat → Int64) (K : Nat → Nat → Int32) (th tb dd br yr wd : Int32) (hd : Nat → Nat) (nw : Nat) (hinj : ∀ i j : Nat, i ≠ j → ad i ≠ ad j) (hM : zMA cs w ad J K) (hnw : nw ≤ 10) (h19 : ∀ k : Nat, k < nw → K 19 k = nI (hd k)) (h_m : w (mm) = some (mo ad (th) (tb) (dd) (nI nw) (br) (yr) (wd))) : zM l D cs yX7_count wsX7_count 3 0 0 w sz [.ref (mm), .int (4)] (fun r w2 => r = some (.int (nI (zSN hd nw))) ∧ zMQ cs w w2 ad mm (mo ad (0) (tb) (dd) (nI nw) (br) (yr) (wd)) J K) := by
  refine z_met (cc := cX7_count) (maxL := 4) (ret := (some .int)) (by decide) rfl (Nat.le_of_ble_eq_true rfl) ?_
  intro p e s m below meth c hx hb hr hml hown hts hlocks hnm hsz hK hE hS ls hl
  have hl : lv_has ls 4 [(0, .ref (mm)), (1, .int (4))] := hl
  have h_19 : w (ad 19) = some (eI cs (10) (K 19)) := hM 19 (by decide)
  have L72 : ∀ (i : Nat), ∀ (u : zw), (hi : i ≤ nw) → (hq2 : zMQ cs w u ad mm (mo ad (0) (tb) (dd) (nI nw) (br) (yr) (wd)) J K) → (h_m : u (mm) = some (mo ad (0) (tb) (dd) (nI nw) (br) (yr) (wd))) → (h_19 : u (ad 19) = some (eI cs (10) (K 19))) → ∀ (H : Heap) (locs : List Loc) (ls : Array Slot), zS (zA w sz) D u s.heap H locs → lv_has ls 4 [(3, .int (nI i)), (2, .int (nI (zSN hd i))), (0, .ref (mm))] → W p l e (zR 3 0 0) s m [.ref (mm), .int (4)].toArray below meth c H locs 0 0 (MQ below (zQ D w sz (fun r w2 => r = some (.int (nI (zSN hd nw))) ∧ zMQ cs w w2 ad mm (mo ad (0) (tb) (dd) (nI nw) (br) (yr) (wd)) J K)) [.ref (mm), .int (4)].toArray s 0 0 (zA w sz)) (F0 m 72 ls []) := by
    refine zloopU (P := fun i => ∀ (u : zw), (hi : i ≤ nw) → (hq2 : zMQ cs w u ad mm (mo ad (0) (tb) (dd) (nI nw) (br) (yr) (wd)) J K) → (h_m : u (mm) = some (mo ad (0) (tb) (dd) (nI nw) (br) (yr) (wd))) → (h_19 : u (ad 19) = some (eI cs (10) (K 19))) → ∀ (H : Heap) (locs : List Loc) (ls : Array Slot), zS (zA w sz) D u s.heap H locs → lv_has ls 4 [(3, .int (nI i)), (2, .int (nI (zSN hd i))), (0, .ref (mm))] → W p l e (zR 3 0 0) s m [.ref (mm), .int (4)].toArray below meth c H locs 0 0 (MQ below (zQ D w sz (fun r w2 => r = some (.int (nI (zSN hd nw))) ∧ zMQ cs w w2 ad mm (mo ad (0) (tb) (dd) (nI nw) (br) (yr) (wd)) J K)) [.ref (mm), .int (4)].toArray s 0 0 (zA w sz)) (F0 m 72 ls [])) nw (fun i ih => ?_)
    intro u hi hq2 h_m h_19 H locs ls hS hl
    refine lv_iload_n hx hb dX7_count_72 rfl (lv_at hl 0 rfl) ?_
    refine lv_aload_n hx hb dX7_count_73 rfl (lv_at hl 2 rfl) ?_
    refine z_get (C := RX7) (T := TX7) (N := 45) (v := .int (nI nw)) hx hb hts (by decide +kernel) hown hK hS h_m rfl 21 (by decide) (hts (.fieldLink RX7 183 "PayLedgerModel" "workers" "I") (by decide +kernel)) rfl dX7_count_74 ?_
    refine lv_icmp_ge (tgt := 95) hx hb dX7_count_77 (by decide) (fun c77 => ?_) (fun c77 => ?_)
    · have hi9 : i = nw := by rcases Nat.lt_or_ge i (nw) with q | q; exact absurd c77 (nI_ge (b := nw) q (by omega)); omega
      refine lv_iload_n hx hb dX7_count_95 rfl (lv_at hl 1 rfl) ?_
      exact z_iret hx hb hr hlocks hS (Nat.le_of_ble_eq_true rfl) (Nat.le_of_ble_eq_true rfl) dX7_count_96 ⟨by rw [hi9], hq2⟩
    · have c77 : i < nw := by rcases Nat.lt_or_ge i (nw) with q | q; exact q; exact absurd (nI_le (a := nw) q (by omega)) c77
      refine lv_iload_n hx hb dX7_count_80 rfl (lv_at hl 1 rfl) ?_
      refine lv_aload_n hx hb dX7_count_81 rfl (lv_at hl 2 rfl) ?_
      refine z_get (C := RX7) (T := TX7) (N := 45) (v := .ref (ad 19)) hx hb hts (by decide +kernel) hown hK hS h_m rfl 19 (by decide) (hts (.fieldLink RX7 60 "PayLedgerModel" "many" "[I") (by decide +kernel)) rfl dX7_count_82 ?_
      refine lv_iload_n hx hb dX7_count_85 rfl (lv_at hl 0 rfl) ?_
      refine z_iald hx hb hK hS h_19 (vp_in_nI (by omega) (by decide)) dX7_count_86 ?_
      refine z_ti (y := ((K 19) (i))) (congrArg _ (nI_clamp (by omega))) ?_
      refine z_ti (y := nI (hd i)) (h19 i c77) ?_
      refine lv_iadd hx hb dX7_count_87 ?_
      refine z_ti (y := nI (zSN hd (i + 1))) (nI_add _ _) ?_
      refine lv_istore_n (lv' := [(2, .int (nI (zSN hd (i + 1)))), (3, .int (nI i)), (0, .ref (mm))]) hx hb dX7_count_88 rfl hl (by decide) rfl (fun ls hl => ?_)
      refine lv_iinc (v := nI (i + 1)) (lv' := [(3, .int (nI (i + 1))), (2, .int (nI (zSN hd (i + 1)))), (0, .ref (mm))]) hx hb dX7_count_89 hl (k := 1) rfl (nI_1 _) (by decide) rfl (fun ls hl => ?_)
      refine lv_goto (tgt := 72) hx hb dX7_count_92 (by decide) ?_
      exact ih c77 _ (by omega) hq2 h_m h_19 _ _ _ hS (lv_sub hl [0, 1, 2] rfl)
  refine lv_aload_n hx hb dX7_count_0 rfl (lv_at hl 0 rfl) ?_
  refine lv_iconst (v := 0) hx hb dX7_count_1 (by decide) ?_
  refine z_put (C := RX7) (T := TX7) (N := 45) (v := .int (0)) hx hb hts (by decide +kernel) tyX7 tyX7_ok nmX7 hown hK hS h_m rfl 0 (by decide) (hts (.fieldLink RX7 126 "PayLedgerModel" "thrown" "I") (by decide +kernel)) rfl rfl rfl (Nat.le_of_ble_eq_true rfl) dX7_count_2 (fun H locs hS => ?_)
  obtain ⟨w1, ew1⟩ : ∃ z : zw, z = va_up w (mm) (some (mo ad (0) (tb) (dd) (nI nw) (br) (yr) (wd))) := ⟨_, rfl⟩
  have hS : zS (zA w sz) D w1 s.heap H locs := by rw [ew1]; exact hS
  have h1_mm : w1 (mm) = some (mo ad (0) (tb) (dd) (nI nw) (br) (yr) (wd)) := by rw [ew1]; exact va_up_self _ _ _
  have h1_ad19 : w1 (ad 19) = some (eI cs (10) (K 19)) := by rw [ew1]; exact (va_up_ne _ _ (zne h_19 h_m (by intro q9; first | cases q9 | simp at q9))).trans h_19
  refine lv_iload_n hx hb dX7_count_5 rfl (lv_at hl 1 rfl) ?_
  refine lv_tableIn (off := 62) (tgt := 68) hx hb dX7_count_6 (by rw [(show (4 : Int32) = 4 from rfl)]; decide) (by rw [(show (4 : Int32) = 4 from rfl)]; decide) (by rw [(show (4 : Int32) = 4 from rfl)]; rfl) (by decide) ?_
  refine lv_iconst (v := 0) hx hb dX7_count_68 (by decide) ?_
  have hex1 : zEx w w1 [(mm, (mo ad (0) (tb) (dd) (nI nw) (br) (yr) (wd)))] := ⟨(zm1 h1_mm zm0), fun a9 h9 => by rw [ew1, va_up_ne _ _ (show a9 ≠ mm from h9 (mm, (mo ad (0) (tb) (dd) (nI nw) (br) (yr) (wd))) (List.mem_of_getElem? (i := 0) rfl))]⟩
  have hq1 : zMQ cs w w1 ad mm (mo ad (0) (tb) (dd) (nI nw) (br) (yr) (wd)) J K := zMQ.o hM h_m hinj hex1
  refine lv_istore_n (lv' := [(2, .int (0)), (0, .ref (mm)), (1, .int (4))]) hx hb dX7_count_69 rfl hl (by decide) rfl (fun ls hl => ?_)
  refine lv_iconst (v := 0) hx hb dX7_count_70 (by decide) ?_
  refine lv_istore_n (lv' := [(3, .int (0)), (2, .int (0)), (0, .ref (mm)), (1, .int (4))]) hx hb dX7_count_71 rfl hl (by decide) rfl (fun ls hl => ?_)
  exact L72 0 _ (by omega) hq1 h1_mm h1_ad19 _ _ _ hS (lv_sub hl [0, 1, 2] rfl)
