/-! ===== PayLedger: line, part, statement, PayLedger(), throws of close and correct ===== -/
set_option maxHeartbeats 4000000 in
set_option maxRecDepth 100000 in
theorem c_X6_payNumbered (l : Launch) (D : va_G) (cs : Nat → ClassId) (w : zw) (sz : Nat) (wk wt pay sts n i : Nat) (se : Int64) (PR : Nat → Option Nat) (PA : Nat → Nat) (hn : n ≤ 60) (hi : i < n) (hpr : PR i = some (PA i)) (h_w : w (wk) = some (.inr (5, [.ref (wt), .ref (pay), .ref (sts), .int (nI n), .long (se)]))) (h_ps : w (pay) = some (eR cs 4 (60) (PR))) : zMr l D cs yX6_payNumbered wsX6_payNumbered 1 w sz [.ref (wk), .int (nI i)] (.ref (PA i)) := by
  refine z_met (cc := cX6_payNumbered) (maxL := 3) (ret := (some (.object "PayLedger$Pay"))) (by decide) rfl (Nat.le_of_ble_eq_true rfl) ?_
  intro p e s m below meth c hx hb hr hml hown hts hlocks hnm hsz hK hE hS ls hl
  have hl : lv_has ls 3 [(0, .ref (wk)), (1, .int (nI i))] := hl
  refine lv_aload_n hx hb dX6_payNumbered_0 rfl (lv_at hl 0 rfl) ?_
  refine lv_iload_n hx hb dX6_payNumbered_1 rfl (lv_at hl 1 rfl) ?_
  refine z_rV (As := [.int (nI i)]) (rest := []) (n := 1) ⟨hx, hb, hml, hown, hts⟩ (c_X5_payAt l D cs w s.heap.size wk wt pay sts n se PR (nI i) hn h_w h_ps) gX6_payNumbered_X5_payAt rfl ⟨rfl, by decide +kernel, by decide +kernel, by decide +kernel⟩ ⟨Nat.le_of_ble_eq_true rfl, Nat.le_of_ble_eq_true rfl⟩ hK hE hS rfl h_w rfl hl.1 rfl (Nat.le_of_ble_eq_true rfl) dX6_payNumbered_2 ⟨Nat.le_of_ble_eq_true rfl, Nat.le_of_ble_eq_true rfl⟩ (fun H locs hS => ?_)
  refine z_tv (y := .ref (PA i)) (by rw [zPayAt_in hi (by omega), hpr]; rfl) ?_
  refine lv_astore_n (lv' := [(2, .ref (PA i)), (0, .ref (wk)), (1, .int (nI i))]) hx hb dX6_payNumbered_5 rfl hl (by decide) rfl (fun ls hl => ?_)
  refine lv_aload_n hx hb dX6_payNumbered_6 rfl (lv_at hl 0 rfl) ?_
  refine lv_ifnonnull (tgt := 21) hx hb dX6_payNumbered_7 (by decide) ?_
  refine lv_aload_n hx hb dX6_payNumbered_21 rfl (lv_at hl 0 rfl) ?_
  exact z_aret hx hb hr hlocks (Or.inr ⟨_, rfl⟩) hS (Nat.le_of_ble_eq_true rfl) (Nat.le_of_ble_eq_true rfl) dX6_payNumbered_22 ⟨rfl, rfl⟩
set_option maxHeartbeats 4000000 in
set_option maxRecDepth 100000 in
theorem c_X6_line (l : Launch) (D : va_G) (cs : Nat → ClassId) (w : zw) (sz : Nat) (of tbs dds wks aa : Nat) (tc dc wc brt yr wd : Int32) (WR : Nat → Option Nat) (WA WT WP WS hd : Nat → Nat) (se : Nat → Int64) (PR : Nat → Nat → Option Nat) (PA TE PP : Nat → Nat → Nat) (bo br : Nat → Nat → Int32) (V PT : Nat → Nat → Nat → Int64) (nw : Nat) (k i : Nat) (what : Int32) (hW : zWks cs w WR WA WT WP WS hd se PR PA TE PP bo br V PT nw) (hk : k < nw) (hi : i < hd k) (hwh : zUpTo what.toInt64 8 = 1) (h_f : w (of) = some (.inr (6, [.ref (tbs), .ref (dds), .ref (wks), .ref (aa), .int (tc), .int (dc), .int (wc), .int (brt), .int (yr), .int (wd)]))) (h_wr : w (wks) = some (eR cs 6 (10) (WR))) : zMr l D cs yX6_line wsX6_line 2 w sz [.ref (of), .int (nI k), .int (nI i), .int (what)] (.long (zLine what (bo k i) (V k i))) := by
  refine z_met (cc := cX6_line) (maxL := 6) (ret := (some .long)) (by decide) rfl (Nat.le_of_ble_eq_true rfl) ?_
  intro p e s m below meth c hx hb hr hml hown hts hlocks hnm hsz hK hE hS ls hl
  have hl : lv_has ls 6 [(0, .ref (of)), (1, .int (nI k)), (2, .int (nI i)), (3, .int (what))] := hl
  refine lv_aload_n hx hb dX6_line_0 rfl (lv_at hl 0 rfl) ?_
  refine lv_iload_n hx hb dX6_line_1 rfl (lv_at hl 1 rfl) ?_
  refine z_rV (As := [.int (nI k)]) (rest := []) (n := 1) ⟨hx, hb, hml, hown, hts⟩ (c_X6_workerNumbered l D cs w s.heap.size of tbs dds wks aa tc dc wc brt yr wd WR WA nw k (⟨hW.1, fun i hi => (hW.2.1 i hi).1, hW.2.2⟩) hk h_f h_wr) gX6_line_X6_workerNumbered rfl ⟨rfl, by decide +kernel, by decide +kernel, by decide +kernel⟩ ⟨Nat.le_of_ble_eq_true rfl, Nat.le_of_ble_eq_true rfl⟩ hK hE hS rfl h_f rfl hl.1 rfl (Nat.le_of_ble_eq_true rfl) dX6_line_2 ⟨Nat.le_of_ble_eq_true rfl, Nat.le_of_ble_eq_true rfl⟩ (fun H locs hS => ?_)
  have hwi := hW.2.1 k hk
  have h_wi := hwi.2.1
  have h_pi := hwi.2.2.1
  refine lv_astore (lv' := [(4, .ref (WA k)), (0, .ref (of)), (1, .int (nI k)), (2, .int (nI i)), (3, .int (what))]) hx hb dX6_line_5 hl (by decide) rfl (fun ls hl => ?_)
  refine lv_aload hx hb dX6_line_7 (lv_at hl 0 rfl) ?_
  refine lv_iload_n hx hb dX6_line_9 rfl (lv_at hl 3 rfl) ?_
  refine z_rS (As := [.ref (WA k), .int (nI i)]) (rest := []) (n := 2) ⟨hx, hb, hml, hown, hts⟩ (c_X6_payNumbered l D cs w H.size (WA k) (WT k) (WP k) (WS k) (hd k) i (se k) (PR k) (PA k) hwi.2.2.2.1 hi (hwi.2.2.2.2 i hi).1 h_wi h_pi) gX6_line_X6_payNumbered rfl ⟨by decide +kernel, by decide +kernel, by decide +kernel⟩ ⟨Nat.le_of_ble_eq_true rfl, Nat.le_of_ble_eq_true rfl⟩ hK hE hS rfl hl.1 rfl (Nat.le_of_ble_eq_true rfl) dX6_line_10 ⟨Nat.le_of_ble_eq_true rfl, Nat.le_of_ble_eq_true rfl⟩ (fun H locs hS => ?_)
  have h_py := (hwi.2.2.2.2 i hi).2.1
  have h_pt := (hwi.2.2.2.2 i hi).2.2
  refine lv_astore (lv' := [(5, .ref (PA k i)), (4, .ref (WA k)), (0, .ref (of)), (1, .int (nI k)), (2, .int (nI i)), (3, .int (what))]) hx hb dX6_line_13 hl (by decide) rfl (fun ls hl => ?_)
  refine lv_iload_n hx hb dX6_line_15 rfl (lv_at hl 5 rfl) ?_
  refine lv_i2l (v := ((what : Int32).toInt64)) hx hb dX6_line_16 rfl ?_
  refine lv_ldc2 (v := 8) hx hb hown (hts (.constantLong RX6 201 (8)) (by decide +kernel)) dX6_line_17 ?_
  refine z_rS (As := [.long (((what : Int32).toInt64)), .long (8)]) (rest := []) (n := 2) ⟨hx, hb, hml, hown, hts⟩ (c_X6_isUpTo l D cs w H.size (what : Int32).toInt64 8) gX6_line_X6_isUpTo rfl ⟨by decide +kernel, by decide +kernel, by decide +kernel⟩ ⟨Nat.le_of_ble_eq_true rfl, Nat.le_of_ble_eq_true rfl⟩ hK hE hS rfl hl.1 rfl (Nat.le_of_ble_eq_true rfl) dX6_line_20 ⟨Nat.le_of_ble_eq_true rfl, Nat.le_of_ble_eq_true rfl⟩ (fun H locs hS => ?_)
  refine lv_if_ne (tgt := 36) hx hb dX6_line_23 (by decide) (fun _ => ?_) (fun cq9 => absurd cq9 (by rw [hwh]; decide))
  refine lv_aload hx hb dX6_line_36 (lv_at hl 0 rfl) ?_
  refine lv_iload_n hx hb dX6_line_38 rfl (lv_at hl 5 rfl) ?_
  refine z_rV (As := [.int (what)]) (rest := []) (n := 1) ⟨hx, hb, hml, hown, hts⟩ (c_X2_tell l D cs w H.size (PA k i) (TE k i) (PP k i) (bo k i) (br k i) (V k i 0) (V k i 1) (V k i 2) (V k i 3) (V k i 4) (V k i 5) (V k i 6) (V k i 7) what h_py) gX6_line_X2_tell rfl ⟨rfl, by decide +kernel, by decide +kernel, by decide +kernel⟩ ⟨Nat.le_of_ble_eq_true rfl, Nat.le_of_ble_eq_true rfl⟩ hK hE hS rfl h_py rfl hl.1 rfl (Nat.le_of_ble_eq_true rfl) dX6_line_39 ⟨Nat.le_of_ble_eq_true rfl, Nat.le_of_ble_eq_true rfl⟩ (fun H locs hS => ?_)
  exact z_lret hx hb hr hlocks hS (Nat.le_of_ble_eq_true rfl) (Nat.le_of_ble_eq_true rfl) dX6_line_42 ⟨rfl, rfl⟩
set_option maxHeartbeats 4000000 in
set_option maxRecDepth 100000 in
theorem t1_X6_line (l : Launch) (D : va_G) (cs : Nat → ClassId) (w : zw) (sz : Nat) (of tbs dds wks aa : Nat) (tc dc wc brt yr wd : Int32) (WR : Nat → Option Nat) (WA WT WP WS hd : Nat → Nat) (se : Nat → Int64) (PR : Nat → Nat → Option Nat) (PA TE PP : Nat → Nat → Nat) (bo br : Nat → Nat → Int32) (V PT : Nat → Nat → Nat → Int64) (nw : Nat) (x y what : Int32) (hlst : l.stackTraces = false) (hW : zWks cs w WR WA WT WP WS hd se PR PA TE PP bo br V PT nw) (hx9 : ∀ k : Nat, k < nw → x ≠ nI k) (h_f : w (of) = some (.inr (6, [.ref (tbs), .ref (dds), .ref (wks), .ref (aa), .int (tc), .int (dc), .int (wc), .int (brt), .int (yr), .int (wd)]))) (h_wr : w (wks) = some (eR cs 6 (10) (WR))) : zMX l D cs yX6_line wsX6_line 2 1 6 w sz [.ref (of), .int (x), .int (y), .int (what)] (fun _ _ => False) (fun E9 => E9 = "java/lang/IndexOutOfBoundsException") := by
  refine z_metX (cc := cX6_line) (maxL := 6) (ret := (some .long)) (by decide) rfl (Nat.le_of_ble_eq_true rfl) ?_
  intro p e s m below meth c hx hb hr hml hown hts hlocks hnm hsz hK hE hS ls hl
  have hl : lv_has ls 6 [(0, .ref (of)), (1, .int (x)), (2, .int (y)), (3, .int (what))] := hl
  refine lv_aload_n hx hb dX6_line_0 rfl (lv_at hl 0 rfl) ?_
  refine lv_iload_n hx hb dX6_line_1 rfl (lv_at hl 1 rfl) ?_
  refine z_invVX (As := [.int (x)]) (rest := []) (n := 1) ⟨hx, hb, hml, hown, hts⟩ (t_X6_workerNumbered l D cs w s.heap.size of tbs dds wks aa tc dc wc brt yr wd WR WA nw x hlst (⟨hW.1, fun i hi => (hW.2.1 i hi).1, hW.2.2⟩) hx9 h_f h_wr) gX6_line_X6_workerNumbered rfl ⟨rfl, by decide +kernel, by decide +kernel, by decide +kernel⟩ ⟨Nat.le_of_ble_eq_true rfl, Nat.le_of_ble_eq_true rfl⟩ hK hE hS rfl h_f rfl hl.1 rfl (Nat.le_of_ble_eq_true rfl) dX6_line_2 ⟨Nat.le_of_ble_eq_true rfl, Nat.le_of_ble_eq_true rfl⟩ (fun E9 ce9 q9 H9 locs9 hp9 hS9 h91 h92 h93 => z_out hS9 hnm hlocks h91 h92 h93 hp9 (Nat.le_of_ble_eq_true rfl) (Nat.le_of_ble_eq_true rfl)) (fun v9 u1 H locs hq hS => absurd hq id)
set_option maxHeartbeats 4000000 in
set_option maxRecDepth 100000 in
theorem t3_X6_line (l : Launch) (D : va_G) (cs : Nat → ClassId) (w : zw) (sz : Nat) (of tbs dds wks aa : Nat) (tc dc wc brt yr wd : Int32) (WR : Nat → Option Nat) (WA WT WP WS hd : Nat → Nat) (se : Nat → Int64) (PR : Nat → Nat → Option Nat) (PA TE PP : Nat → Nat → Nat) (bo br : Nat → Nat → Int32) (V PT : Nat → Nat → Nat → Int64) (nw : Nat) (k i : Nat) (what : Int32) (hlst : l.stackTraces = false) (hW : zWks cs w WR WA WT WP WS hd se PR PA TE PP bo br V PT nw) (hk : k < nw) (hi : i < hd k) (hwh : zUpTo what.toInt64 8 = 0) (h_f : w (of) = some (.inr (6, [.ref (tbs), .ref (dds), .ref (wks), .ref (aa), .int (tc), .int (dc), .int (wc), .int (brt), .int (yr), .int (wd)]))) (h_wr : w (wks) = some (eR cs 6 (10) (WR))) : zMX l D cs yX6_line wsX6_line 2 1 6 w sz [.ref (of), .int (nI k), .int (nI i), .int (what)] (fun _ _ => False) (fun E9 => E9 = "java/lang/IllegalArgumentException") := by
  refine z_metX (cc := cX6_line) (maxL := 6) (ret := (some .long)) (by decide) rfl (Nat.le_of_ble_eq_true rfl) ?_
  intro p e s m below meth c hx hb hr hml hown hts hlocks hnm hsz hK hE hS ls hl
  have hl : lv_has ls 6 [(0, .ref (of)), (1, .int (nI k)), (2, .int (nI i)), (3, .int (what))] := hl
  refine lv_aload_n hx hb dX6_line_0 rfl (lv_at hl 0 rfl) ?_
  refine lv_iload_n hx hb dX6_line_1 rfl (lv_at hl 1 rfl) ?_
  refine z_rV (As := [.int (nI k)]) (rest := []) (n := 1) ⟨hx, hb, hml, hown, hts⟩ (c_X6_workerNumbered l D cs w s.heap.size of tbs dds wks aa tc dc wc brt yr wd WR WA nw k (⟨hW.1, fun i hi => (hW.2.1 i hi).1, hW.2.2⟩) hk h_f h_wr) gX6_line_X6_workerNumbered rfl ⟨rfl, by decide +kernel, by decide +kernel, by decide +kernel⟩ ⟨Nat.le_of_ble_eq_true rfl, Nat.le_of_ble_eq_true rfl⟩ hK hE hS rfl h_f rfl hl.1 rfl (Nat.le_of_ble_eq_true rfl) dX6_line_2 ⟨Nat.le_of_ble_eq_true rfl, Nat.le_of_ble_eq_true rfl⟩ (fun H locs hS => ?_)
  have hwi := hW.2.1 k hk
  have h_wi := hwi.2.1
  have h_pi := hwi.2.2.1
  refine lv_astore (lv' := [(4, .ref (WA k)), (0, .ref (of)), (1, .int (nI k)), (2, .int (nI i)), (3, .int (what))]) hx hb dX6_line_5 hl (by decide) rfl (fun ls hl => ?_)
  refine lv_aload hx hb dX6_line_7 (lv_at hl 0 rfl) ?_
  refine lv_iload_n hx hb dX6_line_9 rfl (lv_at hl 3 rfl) ?_
  refine z_rS (As := [.ref (WA k), .int (nI i)]) (rest := []) (n := 2) ⟨hx, hb, hml, hown, hts⟩ (c_X6_payNumbered l D cs w H.size (WA k) (WT k) (WP k) (WS k) (hd k) i (se k) (PR k) (PA k) hwi.2.2.2.1 hi (hwi.2.2.2.2 i hi).1 h_wi h_pi) gX6_line_X6_payNumbered rfl ⟨by decide +kernel, by decide +kernel, by decide +kernel⟩ ⟨Nat.le_of_ble_eq_true rfl, Nat.le_of_ble_eq_true rfl⟩ hK hE hS rfl hl.1 rfl (Nat.le_of_ble_eq_true rfl) dX6_line_10 ⟨Nat.le_of_ble_eq_true rfl, Nat.le_of_ble_eq_true rfl⟩ (fun H locs hS => ?_)
  have h_py := (hwi.2.2.2.2 i hi).2.1
  have h_pt := (hwi.2.2.2.2 i hi).2.2
  refine lv_astore (lv' := [(5, .ref (PA k i)), (4, .ref (WA k)), (0, .ref (of)), (1, .int (nI k)), (2, .int (nI i)), (3, .int (what))]) hx hb dX6_line_13 hl (by decide) rfl (fun ls hl => ?_)
  refine lv_iload_n hx hb dX6_line_15 rfl (lv_at hl 5 rfl) ?_
  refine lv_i2l (v := ((what : Int32).toInt64)) hx hb dX6_line_16 rfl ?_
  refine lv_ldc2 (v := 8) hx hb hown (hts (.constantLong RX6 201 (8)) (by decide +kernel)) dX6_line_17 ?_
  refine z_rS (As := [.long (((what : Int32).toInt64)), .long (8)]) (rest := []) (n := 2) ⟨hx, hb, hml, hown, hts⟩ (c_X6_isUpTo l D cs w H.size (what : Int32).toInt64 8) gX6_line_X6_isUpTo rfl ⟨by decide +kernel, by decide +kernel, by decide +kernel⟩ ⟨Nat.le_of_ble_eq_true rfl, Nat.le_of_ble_eq_true rfl⟩ hK hE hS rfl hl.1 rfl (Nat.le_of_ble_eq_true rfl) dX6_line_20 ⟨Nat.le_of_ble_eq_true rfl, Nat.le_of_ble_eq_true rfl⟩ (fun H locs hS => ?_)
  refine lv_if_ne (tgt := 36) hx hb dX6_line_23 (by decide) (fun cq9 => absurd hwh cq9) (fun _ => ?_)
  exact z_thr (text := "no such line") hx hb hlst hown hts (by decide +kernel) (by decide +kernel) (by decide +kernel) zbad76 (by decide +kernel) (by decide +kernel) (by decide +kernel) (by decide +kernel) hE hS (hl.1.trans hml.symm) dX6_line_26 dX6_line_29 dX6_line_30 dX6_line_32 dX6_line_35 hnm ⟨Nat.le_of_ble_eq_true rfl, Nat.le_of_ble_eq_true rfl, Nat.le_of_ble_eq_true rfl, Nat.le_of_ble_eq_true rfl⟩ hlocks rfl (Nat.le_of_ble_eq_true rfl) (Nat.le_of_ble_eq_true rfl)
set_option maxHeartbeats 4000000 in
set_option maxRecDepth 100000 in
theorem c_X6_part (l : Launch) (D : va_G) (cs : Nat → ClassId) (w : zw) (sz : Nat) (of tbs dds wks aa : Nat) (tc dc wc brt yr wd : Int32) (WR : Nat → Option Nat) (WA WT WP WS hd : Nat → Nat) (se : Nat → Int64) (PR : Nat → Nat → Option Nat) (PA TE PP : Nat → Nat → Nat) (bo br : Nat → Nat → Int32) (V PT : Nat → Nat → Nat → Int64) (nw : Nat) (DR : Nat → Option Nat) (DA : Nat → Nat) (nd : Nat) (k i j : Nat) (hW : zWks cs w WR WA WT WP WS hd se PR PA TE PP bo br V PT nw) (hD : zArrN 8 DR DA nd) (hk : k < nw) (hi : i < hd k) (hj : j < nd) (h_f : w (of) = some (.inr (6, [.ref (tbs), .ref (dds), .ref (wks), .ref (aa), .int (tc), .int (dc), .int (wc), .int (brt), .int (yr), .int (wd)]))) (h_wr : w (wks) = some (eR cs 6 (10) (WR))) (h_dr : w (dds) = some (eR cs 3 (8) (DR))) : zMr l D cs yX6_part wsX6_part 2 w sz [.ref (of), .int (nI k), .int (nI i), .int (nI j)] (.long (PT k i j)) := by
  refine z_met (cc := cX6_part) (maxL := 6) (ret := (some .long)) (by decide) rfl (Nat.le_of_ble_eq_true rfl) ?_
  intro p e s m below meth c hx hb hr hml hown hts hlocks hnm hsz hK hE hS ls hl
  have hl : lv_has ls 6 [(0, .ref (of)), (1, .int (nI k)), (2, .int (nI i)), (3, .int (nI j))] := hl
  refine lv_aload_n hx hb dX6_part_0 rfl (lv_at hl 0 rfl) ?_
  refine lv_iload_n hx hb dX6_part_1 rfl (lv_at hl 1 rfl) ?_
  refine z_rV (As := [.int (nI k)]) (rest := []) (n := 1) ⟨hx, hb, hml, hown, hts⟩ (c_X6_workerNumbered l D cs w s.heap.size of tbs dds wks aa tc dc wc brt yr wd WR WA nw k (⟨hW.1, fun i hi => (hW.2.1 i hi).1, hW.2.2⟩) hk h_f h_wr) gX6_part_X6_workerNumbered rfl ⟨rfl, by decide +kernel, by decide +kernel, by decide +kernel⟩ ⟨Nat.le_of_ble_eq_true rfl, Nat.le_of_ble_eq_true rfl⟩ hK hE hS rfl h_f rfl hl.1 rfl (Nat.le_of_ble_eq_true rfl) dX6_part_2 ⟨Nat.le_of_ble_eq_true rfl, Nat.le_of_ble_eq_true rfl⟩ (fun H locs hS => ?_)
  have hwi := hW.2.1 k hk
  have h_wi := hwi.2.1
  have h_pi := hwi.2.2.1
  refine lv_astore (lv' := [(4, .ref (WA k)), (0, .ref (of)), (1, .int (nI k)), (2, .int (nI i)), (3, .int (nI j))]) hx hb dX6_part_5 hl (by decide) rfl (fun ls hl => ?_)
  refine lv_aload_n hx hb dX6_part_7 rfl (lv_at hl 1 rfl) ?_
  refine lv_iload_n hx hb dX6_part_8 rfl (lv_at hl 4 rfl) ?_
  refine z_invV (As := [.int (nI j)]) (rest := []) (n := 1) ⟨hx, hb, hml, hown, hts⟩ (c_X6_needDeduction l D cs w H.size of tbs dds wks aa tc dc wc brt yr wd DR DA nd j hD hj h_f h_dr) gX6_part_X6_needDeduction rfl ⟨rfl, by decide +kernel, by decide +kernel, by decide +kernel⟩ ⟨Nat.le_of_ble_eq_true rfl, Nat.le_of_ble_eq_true rfl⟩ hK hE hS rfl h_f rfl hl.1 rfl (Nat.le_of_ble_eq_true rfl) dX6_part_9 ⟨Nat.le_of_ble_eq_true rfl, Nat.le_of_ble_eq_true rfl⟩ (fun v9 u1 H locs hq hS => ?_)
  obtain ⟨hv9, hw9⟩ := hq
  subst hv9
  rw [hw9] at hS
  refine W.eq (g2 := F0 m 12 ls []) rfl ?_
  refine lv_aload hx hb dX6_part_12 (lv_at hl 0 rfl) ?_
  refine lv_iload_n hx hb dX6_part_14 rfl (lv_at hl 3 rfl) ?_
  refine z_rS (As := [.ref (WA k), .int (nI i)]) (rest := []) (n := 2) ⟨hx, hb, hml, hown, hts⟩ (c_X6_payNumbered l D cs w H.size (WA k) (WT k) (WP k) (WS k) (hd k) i (se k) (PR k) (PA k) hwi.2.2.2.1 hi (hwi.2.2.2.2 i hi).1 h_wi h_pi) gX6_part_X6_payNumbered rfl ⟨by decide +kernel, by decide +kernel, by decide +kernel⟩ ⟨Nat.le_of_ble_eq_true rfl, Nat.le_of_ble_eq_true rfl⟩ hK hE hS rfl hl.1 rfl (Nat.le_of_ble_eq_true rfl) dX6_part_15 ⟨Nat.le_of_ble_eq_true rfl, Nat.le_of_ble_eq_true rfl⟩ (fun H locs hS => ?_)
  have h_py := (hwi.2.2.2.2 i hi).2.1
  have h_pt := (hwi.2.2.2.2 i hi).2.2
  refine lv_astore (lv' := [(5, .ref (PA k i)), (4, .ref (WA k)), (0, .ref (of)), (1, .int (nI k)), (2, .int (nI i)), (3, .int (nI j))]) hx hb dX6_part_18 hl (by decide) rfl (fun ls hl => ?_)
  refine lv_aload hx hb dX6_part_20 (lv_at hl 0 rfl) ?_
  refine z_get (C := RX2) (T := TX2) (N := 12) (v := .ref (PP k i)) hx hb hts (by decide +kernel) hown hK hS h_py rfl 1 (by decide) (hts (.fieldLink RX6 209 "PayLedger$Pay" "parts" "[J") (by decide +kernel)) rfl dX6_part_22 ?_
  refine lv_iload_n hx hb dX6_part_25 rfl (lv_at hl 5 rfl) ?_
  refine z_rS (As := [.ref (PP k i), .int (nI j)]) (rest := []) (n := 2) ⟨hx, hb, hml, hown, hts⟩ (c_X6_elementOf l D cs w H.size (PP k i) 8 j (PT k i) (by omega) (by have := hD.1; omega) h_pt) gX6_part_X6_elementOf rfl ⟨by decide +kernel, by decide +kernel, by decide +kernel⟩ ⟨Nat.le_of_ble_eq_true rfl, Nat.le_of_ble_eq_true rfl⟩ hK hE hS rfl hl.1 rfl (Nat.le_of_ble_eq_true rfl) dX6_part_26 ⟨Nat.le_of_ble_eq_true rfl, Nat.le_of_ble_eq_true rfl⟩ (fun H locs hS => ?_)
  exact z_lret hx hb hr hlocks hS (Nat.le_of_ble_eq_true rfl) (Nat.le_of_ble_eq_true rfl) dX6_part_29 ⟨rfl, rfl⟩
set_option maxHeartbeats 4000000 in
set_option maxRecDepth 100000 in
theorem t1_X6_part (l : Launch) (D : va_G) (cs : Nat → ClassId) (w : zw) (sz : Nat) (of tbs dds wks aa : Nat) (tc dc wc brt yr wd : Int32) (WR : Nat → Option Nat) (WA WT WP WS hd : Nat → Nat) (se : Nat → Int64) (PR : Nat → Nat → Option Nat) (PA TE PP : Nat → Nat → Nat) (bo br : Nat → Nat → Int32) (V PT : Nat → Nat → Nat → Int64) (nw : Nat) (x y z : Int32) (hlst : l.stackTraces = false) (hW : zWks cs w WR WA WT WP WS hd se PR PA TE PP bo br V PT nw) (hx9 : ∀ k : Nat, k < nw → x ≠ nI k) (h_f : w (of) = some (.inr (6, [.ref (tbs), .ref (dds), .ref (wks), .ref (aa), .int (tc), .int (dc), .int (wc), .int (brt), .int (yr), .int (wd)]))) (h_wr : w (wks) = some (eR cs 6 (10) (WR))) : zMX l D cs yX6_part wsX6_part 2 1 6 w sz [.ref (of), .int (x), .int (y), .int (z)] (fun _ _ => False) (fun E9 => E9 = "java/lang/IndexOutOfBoundsException") := by
  refine z_metX (cc := cX6_part) (maxL := 6) (ret := (some .long)) (by decide) rfl (Nat.le_of_ble_eq_true rfl) ?_
  intro p e s m below meth c hx hb hr hml hown hts hlocks hnm hsz hK hE hS ls hl
  have hl : lv_has ls 6 [(0, .ref (of)), (1, .int (x)), (2, .int (y)), (3, .int (z))] := hl
  refine lv_aload_n hx hb dX6_part_0 rfl (lv_at hl 0 rfl) ?_
  refine lv_iload_n hx hb dX6_part_1 rfl (lv_at hl 1 rfl) ?_
  refine z_invVX (As := [.int (x)]) (rest := []) (n := 1) ⟨hx, hb, hml, hown, hts⟩ (t_X6_workerNumbered l D cs w s.heap.size of tbs dds wks aa tc dc wc brt yr wd WR WA nw x hlst (⟨hW.1, fun i hi => (hW.2.1 i hi).1, hW.2.2⟩) hx9 h_f h_wr) gX6_part_X6_workerNumbered rfl ⟨rfl, by decide +kernel, by decide +kernel, by decide +kernel⟩ ⟨Nat.le_of_ble_eq_true rfl, Nat.le_of_ble_eq_true rfl⟩ hK hE hS rfl h_f rfl hl.1 rfl (Nat.le_of_ble_eq_true rfl) dX6_part_2 ⟨Nat.le_of_ble_eq_true rfl, Nat.le_of_ble_eq_true rfl⟩ (fun E9 ce9 q9 H9 locs9 hp9 hS9 h91 h92 h93 => z_out hS9 hnm hlocks h91 h92 h93 hp9 (Nat.le_of_ble_eq_true rfl) (Nat.le_of_ble_eq_true rfl)) (fun v9 u1 H locs hq hS => absurd hq id)
set_option maxHeartbeats 4000000 in
set_option maxRecDepth 100000 in
theorem t2_X6_part (l : Launch) (D : va_G) (cs : Nat → ClassId) (w : zw) (sz : Nat) (of tbs dds wks aa : Nat) (tc dc wc brt yr wd : Int32) (WR : Nat → Option Nat) (WA WT WP WS hd : Nat → Nat) (se : Nat → Int64) (PR : Nat → Nat → Option Nat) (PA TE PP : Nat → Nat → Nat) (bo br : Nat → Nat → Int32) (V PT : Nat → Nat → Nat → Int64) (nw : Nat) (DR : Nat → Option Nat) (DA : Nat → Nat) (nd : Nat) (k : Nat) (z y : Int32) (hlst : l.stackTraces = false) (hW : zWks cs w WR WA WT WP WS hd se PR PA TE PP bo br V PT nw) (hD : zArrN 8 DR DA nd) (hk : k < nw) (hy9 : ∀ k : Nat, k < nd → y ≠ nI k) (h_f : w (of) = some (.inr (6, [.ref (tbs), .ref (dds), .ref (wks), .ref (aa), .int (tc), .int (dc), .int (wc), .int (brt), .int (yr), .int (wd)]))) (h_wr : w (wks) = some (eR cs 6 (10) (WR))) (h_dr : w (dds) = some (eR cs 3 (8) (DR))) : zMX l D cs yX6_part wsX6_part 2 1 6 w sz [.ref (of), .int (nI k), .int (z), .int (y)] (fun _ _ => False) (fun E9 => E9 = "java/lang/IndexOutOfBoundsException") := by
  refine z_metX (cc := cX6_part) (maxL := 6) (ret := (some .long)) (by decide) rfl (Nat.le_of_ble_eq_true rfl) ?_
  intro p e s m below meth c hx hb hr hml hown hts hlocks hnm hsz hK hE hS ls hl
  have hl : lv_has ls 6 [(0, .ref (of)), (1, .int (nI k)), (2, .int (z)), (3, .int (y))] := hl
  refine lv_aload_n hx hb dX6_part_0 rfl (lv_at hl 0 rfl) ?_
  refine lv_iload_n hx hb dX6_part_1 rfl (lv_at hl 1 rfl) ?_
  refine z_rV (As := [.int (nI k)]) (rest := []) (n := 1) ⟨hx, hb, hml, hown, hts⟩ (c_X6_workerNumbered l D cs w s.heap.size of tbs dds wks aa tc dc wc brt yr wd WR WA nw k (⟨hW.1, fun i hi => (hW.2.1 i hi).1, hW.2.2⟩) hk h_f h_wr) gX6_part_X6_workerNumbered rfl ⟨rfl, by decide +kernel, by decide +kernel, by decide +kernel⟩ ⟨Nat.le_of_ble_eq_true rfl, Nat.le_of_ble_eq_true rfl⟩ hK hE hS rfl h_f rfl hl.1 rfl (Nat.le_of_ble_eq_true rfl) dX6_part_2 ⟨Nat.le_of_ble_eq_true rfl, Nat.le_of_ble_eq_true rfl⟩ (fun H locs hS => ?_)
  have hwi := hW.2.1 k hk
  have h_wi := hwi.2.1
  have h_pi := hwi.2.2.1
  refine lv_astore (lv' := [(4, .ref (WA k)), (0, .ref (of)), (1, .int (nI k)), (2, .int (z)), (3, .int (y))]) hx hb dX6_part_5 hl (by decide) rfl (fun ls hl => ?_)
  refine lv_aload_n hx hb dX6_part_7 rfl (lv_at hl 1 rfl) ?_
  refine lv_iload_n hx hb dX6_part_8 rfl (lv_at hl 4 rfl) ?_
  refine z_invVX (As := [.int (y)]) (rest := []) (n := 1) ⟨hx, hb, hml, hown, hts⟩ (t_X6_needDeduction l D cs w H.size of tbs dds wks aa tc dc wc brt yr wd DR DA nd y hlst hD hy9 h_f h_dr) gX6_part_X6_needDeduction rfl ⟨rfl, by decide +kernel, by decide +kernel, by decide +kernel⟩ ⟨Nat.le_of_ble_eq_true rfl, Nat.le_of_ble_eq_true rfl⟩ hK hE hS rfl h_f rfl hl.1 rfl (Nat.le_of_ble_eq_true rfl) dX6_part_9 ⟨Nat.le_of_ble_eq_true rfl, Nat.le_of_ble_eq_true rfl⟩ (fun E9 ce9 q9 H9 locs9 hp9 hS9 h91 h92 h93 => z_out hS9 hnm hlocks h91 h92 h93 hp9 (Nat.le_of_ble_eq_true rfl) (Nat.le_of_ble_eq_true rfl)) (fun v9 u1 H locs hq hS => absurd hq id)
set_option maxHeartbeats 4000000 in
set_option maxRecDepth 100000 in
theorem c_X6_statement (l : Launch) (D : va_G) (cs : Nat → ClassId) (w : zw) (sz : Nat) (of tbs dds wks aa ny : Nat) (tc dc wc brt wd : Int32) (WR : Nat → Option Nat) (WA WT WP WS hd : Nat → Nat) (se : Nat → Int64) (PR : Nat → Nat → Option Nat) (PA TE PP : Nat → Nat → Nat) (bo br : Nat → Nat → Int32) (V PT : Nat → Nat → Nat → Int64) (nw : Nat) (SR : Nat → Option Nat) (k y q sa : Nat) (SV : Nat → Int64) (hW : zWks cs w WR WA WT WP WS hd se PR PA TE PP bo br V PT nw) (hk : k < nw) (hy : y < ny) (hny : ny ≤ 6) (hq9 : q < 11) (hsr : SR y = some sa) (hwh : zUpTo (nI q).toInt64 10 = 1) (h_f : w (of) = some (.inr (6, [.ref (tbs), .ref (dds), .ref (wks), .ref (aa), .int (tc), .int (dc), .int (wc), .int (brt), .int (nI ny), .int (wd)]))) (h_wr : w (wks) = some (eR cs 6 (10) (WR))) (h_ss : w (WS k) = some (eR cs 7 (6) (SR))) (h_sa : w (sa) = some (eJ cs (11) (SV))) : zMr l D cs yX6_statement wsX6_statement 2 w sz [.ref (of), .int (nI k), .int (nI y), .int (nI q)] (.long (SV q)) := by
  refine z_met (cc := cX6_statement) (maxL := 5) (ret := (some .long)) (by decide) rfl (Nat.le_of_ble_eq_true rfl) ?_
  intro p e s m below meth c hx hb hr hml hown hts hlocks hnm hsz hK hE hS ls hl
  have hl : lv_has ls 5 [(0, .ref (of)), (1, .int (nI k)), (2, .int (nI y)), (3, .int (nI q))] := hl
  refine lv_aload_n hx hb dX6_statement_0 rfl (lv_at hl 0 rfl) ?_
  refine lv_iload_n hx hb dX6_statement_1 rfl (lv_at hl 1 rfl) ?_
  refine z_rV (As := [.int (nI k)]) (rest := []) (n := 1) ⟨hx, hb, hml, hown, hts⟩ (c_X6_workerNumbered l D cs w s.heap.size of tbs dds wks aa tc dc wc brt (nI ny) wd WR WA nw k (⟨hW.1, fun i hi => (hW.2.1 i hi).1, hW.2.2⟩) hk h_f h_wr) gX6_statement_X6_workerNumbered rfl ⟨rfl, by decide +kernel, by decide +kernel, by decide +kernel⟩ ⟨Nat.le_of_ble_eq_true rfl, Nat.le_of_ble_eq_true rfl⟩ hK hE hS rfl h_f rfl hl.1 rfl (Nat.le_of_ble_eq_true rfl) dX6_statement_2 ⟨Nat.le_of_ble_eq_true rfl, Nat.le_of_ble_eq_true rfl⟩ (fun H locs hS => ?_)
  have hwi := hW.2.1 k hk
  have h_wi := hwi.2.1
  have h_pi := hwi.2.2.1
  refine lv_astore (lv' := [(4, .ref (WA k)), (0, .ref (of)), (1, .int (nI k)), (2, .int (nI y)), (3, .int (nI q))]) hx hb dX6_statement_5 hl (by decide) rfl (fun ls hl => ?_)
  refine lv_iload_n hx hb dX6_statement_7 rfl (lv_at hl 3 rfl) ?_
  refine lv_if_lt (tgt := 19) hx hb dX6_statement_8 (by decide) (fun cq9 => absurd cq9 (nI_pos (by omega))) (fun _ => ?_)
  refine lv_iload_n hx hb dX6_statement_11 rfl (lv_at hl 3 rfl) ?_
  refine lv_aload_n hx hb dX6_statement_12 rfl (lv_at hl 1 rfl) ?_
  refine z_get (C := RX6) (T := TX6) (N := 10) (v := .int (nI ny)) hx hb hts (by decide +kernel) hown hK hS h_f rfl 8 (by decide) (hts (.fieldLink RX6 47 "PayLedger" "year" "I") (by decide +kernel)) rfl dX6_statement_13 ?_
  refine lv_icmp_lt (tgt := 29) hx hb dX6_statement_16 (by decide) (fun _ => ?_) (fun cq9 => absurd (nI_lt hy (by omega)) cq9)
  refine lv_iload_n hx hb dX6_statement_29 rfl (lv_at hl 4 rfl) ?_
  refine lv_i2l (v := ((nI q : Int32).toInt64)) hx hb dX6_statement_30 rfl ?_
  refine lv_ldc2 (v := 10) hx hb hown (hts (.constantLong RX6 217 (10)) (by decide +kernel)) dX6_statement_31 ?_
  refine z_rS (As := [.long (((nI q : Int32).toInt64)), .long (10)]) (rest := []) (n := 2) ⟨hx, hb, hml, hown, hts⟩ (c_X6_isUpTo l D cs w H.size (nI q : Int32).toInt64 10) gX6_statement_X6_isUpTo rfl ⟨by decide +kernel, by decide +kernel, by decide +kernel⟩ ⟨Nat.le_of_ble_eq_true rfl, Nat.le_of_ble_eq_true rfl⟩ hK hE hS rfl hl.1 rfl (Nat.le_of_ble_eq_true rfl) dX6_statement_34 ⟨Nat.le_of_ble_eq_true rfl, Nat.le_of_ble_eq_true rfl⟩ (fun H locs hS => ?_)
  refine lv_if_ne (tgt := 50) hx hb dX6_statement_37 (by decide) (fun _ => ?_) (fun cq9 => absurd cq9 (by rw [hwh]; decide))
  refine lv_aload hx hb dX6_statement_50 (lv_at hl 0 rfl) ?_
  refine lv_iload_n hx hb dX6_statement_52 rfl (lv_at hl 3 rfl) ?_
  refine lv_iload_n hx hb dX6_statement_53 rfl (lv_at hl 4 rfl) ?_
  refine z_rV (As := [.int (nI y), .int (nI q)]) (rest := []) (n := 2) ⟨hx, hb, hml, hown, hts⟩ (c_X5_stated l D cs w H.size (WA k) (WT k) (WP k) (WS k) (hd k) (se k) (PR k) SR y q sa SV (by omega) hq9 hsr h_wi h_pi h_ss h_sa) gX6_statement_X5_stated rfl ⟨rfl, by decide +kernel, by decide +kernel, by decide +kernel⟩ ⟨Nat.le_of_ble_eq_true rfl, Nat.le_of_ble_eq_true rfl⟩ hK hE hS rfl h_wi rfl hl.1 rfl (Nat.le_of_ble_eq_true rfl) dX6_statement_54 ⟨Nat.le_of_ble_eq_true rfl, Nat.le_of_ble_eq_true rfl⟩ (fun H locs hS => ?_)
  exact z_lret hx hb hr hlocks hS (Nat.le_of_ble_eq_true rfl) (Nat.le_of_ble_eq_true rfl) dX6_statement_57 ⟨rfl, rfl⟩
set_option maxHeartbeats 4000000 in
set_option maxRecDepth 100000 in
theorem t1_X6_statement (l : Launch) (D : va_G) (cs : Nat → ClassId) (w : zw) (sz : Nat) (of tbs dds wks aa : Nat) (tc dc wc brt yr wd : Int32) (WR : Nat → Option Nat) (WA WT WP WS hd : Nat → Nat) (se : Nat → Int64) (PR : Nat → Nat → Option Nat) (PA TE PP : Nat → Nat → Nat) (bo br : Nat → Nat → Int32) (V PT : Nat → Nat → Nat → Int64) (nw : Nat) (x y z : Int32) (hlst : l.stackTraces = false) (hW : zWks cs w WR WA WT WP WS hd se PR PA TE PP bo br V PT nw) (hx9 : ∀ k : Nat, k < nw → x ≠ nI k) (h_f : w (of) = some (.inr (6, [.ref (tbs), .ref (dds), .ref (wks), .ref (aa), .int (tc), .int (dc), .int (wc), .int (brt), .int (yr), .int (wd)]))) (h_wr : w (wks) = some (eR cs 6 (10) (WR))) : zMX l D cs yX6_statement wsX6_statement 2 1 6 w sz [.ref (of), .int (x), .int (y), .int (z)] (fun _ _ => False) (fun E9 => E9 = "java/lang/IndexOutOfBoundsException") := by
  refine z_metX (cc := cX6_statement) (maxL := 5) (ret := (some .long)) (by decide) rfl (Nat.le_of_ble_eq_true rfl) ?_
  intro p e s m below meth c hx hb hr hml hown hts hlocks hnm hsz hK hE hS ls hl
  have hl : lv_has ls 5 [(0, .ref (of)), (1, .int (x)), (2, .int (y)), (3, .int (z))] := hl
  refine lv_aload_n hx hb dX6_statement_0 rfl (lv_at hl 0 rfl) ?_
  refine lv_iload_n hx hb dX6_statement_1 rfl (lv_at hl 1 rfl) ?_
  refine z_invVX (As := [.int (x)]) (rest := []) (n := 1) ⟨hx, hb, hml, hown, hts⟩ (t_X6_workerNumbered l D cs w s.heap.size of tbs dds wks aa tc dc wc brt yr wd WR WA nw x hlst (⟨hW.1, fun i hi => (hW.2.1 i hi).1, hW.2.2⟩) hx9 h_f h_wr) gX6_statement_X6_workerNumbered rfl ⟨rfl, by decide +kernel, by decide +kernel, by decide +kernel⟩ ⟨Nat.le_of_ble_eq_true rfl, Nat.le_of_ble_eq_true rfl⟩ hK hE hS rfl h_f rfl hl.1 rfl (Nat.le_of_ble_eq_true rfl) dX6_statement_2 ⟨Nat.le_of_ble_eq_true rfl, Nat.le_of_ble_eq_true rfl⟩ (fun E9 ce9 q9 H9 locs9 hp9 hS9 h91 h92 h93 => z_out hS9 hnm hlocks h91 h92 h93 hp9 (Nat.le_of_ble_eq_true rfl) (Nat.le_of_ble_eq_true rfl)) (fun v9 u1 H locs hq hS => absurd hq id)
set_option maxHeartbeats 4000000 in
set_option maxRecDepth 100000 in
theorem t3_X6_statement (l : Launch) (D : va_G) (cs : Nat → ClassId) (w : zw) (sz : Nat) (of tbs dds wks aa ny : Nat) (tc dc wc brt wd : Int32) (WR : Nat → Option Nat) (WA WT WP WS hd : Nat → Nat) (se : Nat → Int64) (PR : Nat → Nat → Option Nat) (PA TE PP : Nat → Nat → Nat) (bo br : Nat → Nat → Int32) (V PT : Nat → Nat → Nat → Int64) (nw : Nat) (k y : Nat) (what : Int32) (hlst : l.stackTraces = false) (hW : zWks cs w WR WA WT WP WS hd se PR PA TE PP bo br V PT nw) (hk : k < nw) (hy : y < ny) (hny : ny ≤ 6) (hwh : zUpTo what.toInt64 10 = 0) (h_f : w (of) = some (.inr (6, [.ref (tbs), .ref (dds), .ref (wks), .ref (aa), .int (tc), .int (dc), .int (wc), .int (brt), .int (nI ny), .int (wd)]))) (h_wr : w (wks) = some (eR cs 6 (10) (WR))) : zMX l D cs yX6_statement wsX6_statement 2 1 6 w sz [.ref (of), .int (nI k), .int (nI y), .int (what)] (fun _ _ => False) (fun E9 => E9 = "java/lang/IllegalArgumentException") := by
  refine z_metX (cc := cX6_statement) (maxL := 5) (ret := (some .long)) (by decide) rfl (Nat.le_of_ble_eq_true rfl) ?_
  intro p e s m below meth c hx hb hr hml hown hts hlocks hnm hsz hK hE hS ls hl
  have hl : lv_has ls 5 [(0, .ref (of)), (1, .int (nI k)), (2, .int (nI y)), (3, .int (what))] := hl
  refine lv_aload_n hx hb dX6_statement_0 rfl (lv_at hl 0 rfl) ?_
  refine lv_iload_n hx hb dX6_statement_1 rfl (lv_at hl 1 rfl) ?_
  refine z_rV (As := [.int (nI k)]) (rest := []) (n := 1) ⟨hx, hb, hml, hown, hts⟩ (c_X6_workerNumbered l D cs w s.heap.size of tbs dds wks aa tc dc wc brt (nI ny) wd WR WA nw k (⟨hW.1, fun i hi => (hW.2.1 i hi).1, hW.2.2⟩) hk h_f h_wr) gX6_statement_X6_workerNumbered rfl ⟨rfl, by decide +kernel, by decide +kernel, by decide +kernel⟩ ⟨Nat.le_of_ble_eq_true rfl, Nat.le_of_ble_eq_true rfl⟩ hK hE hS rfl h_f rfl hl.1 rfl (Nat.le_of_ble_eq_true rfl) dX6_statement_2 ⟨Nat.le_of_ble_eq_true rfl, Nat.le_of_ble_eq_true rfl⟩ (fun H locs hS => ?_)
  have hwi := hW.2.1 k hk
  have h_wi := hwi.2.1
  have h_pi := hwi.2.2.1
  refine lv_astore (lv' := [(4, .ref (WA k)), (0, .ref (of)), (1, .int (nI k)), (2, .int (nI y)), (3, .int (what))]) hx hb dX6_statement_5 hl (by decide) rfl (fun ls hl => ?_)
  refine lv_iload_n hx hb dX6_statement_7 rfl (lv_at hl 3 rfl) ?_
  refine lv_if_lt (tgt := 19) hx hb dX6_statement_8 (by decide) (fun cq9 => absurd cq9 (nI_pos (by omega))) (fun _ => ?_)
  refine lv_iload_n hx hb dX6_statement_11 rfl (lv_at hl 3 rfl) ?_
  refine lv_aload_n hx hb dX6_statement_12 rfl (lv_at hl 1 rfl) ?_
  refine z_get (C := RX6) (T := TX6) (N := 10) (v := .int (nI ny)) hx hb hts (by decide +kernel) hown hK hS h_f rfl 8 (by decide) (hts (.fieldLink RX6 47 "PayLedger" "year" "I") (by decide +kernel)) rfl dX6_statement_13 ?_
  refine lv_icmp_lt (tgt := 29) hx hb dX6_statement_16 (by decide) (fun _ => ?_) (fun cq9 => absurd (nI_lt hy (by omega)) cq9)
  refine lv_iload_n hx hb dX6_statement_29 rfl (lv_at hl 4 rfl) ?_
  refine lv_i2l (v := ((what : Int32).toInt64)) hx hb dX6_statement_30 rfl ?_
  refine lv_ldc2 (v := 10) hx hb hown (hts (.constantLong RX6 217 (10)) (by decide +kernel)) dX6_statement_31 ?_
  refine z_rS (As := [.long (((what : Int32).toInt64)), .long (10)]) (rest := []) (n := 2) ⟨hx, hb, hml, hown, hts⟩ (c_X6_isUpTo l D cs w H.size (what : Int32).toInt64 10) gX6_statement_X6_isUpTo rfl ⟨by decide +kernel, by decide +kernel, by decide +kernel⟩ ⟨Nat.le_of_ble_eq_true rfl, Nat.le_of_ble_eq_true rfl⟩ hK hE hS rfl hl.1 rfl (Nat.le_of_ble_eq_true rfl) dX6_statement_34 ⟨Nat.le_of_ble_eq_true rfl, Nat.le_of_ble_eq_true rfl⟩ (fun H locs hS => ?_)
  refine lv_if_ne (tgt := 50) hx hb dX6_statement_37 (by decide) (fun cq9 => absurd hwh cq9) (fun _ => ?_)
  exact z_thr (text := "no such line of a statement") hx hb hlst hown hts (by decide +kernel) (by decide +kernel) (by decide +kernel) zbad76 (by decide +kernel) (by decide +kernel) (by decide +kernel) (by decide +kernel) hE hS (hl.1.trans hml.symm) dX6_statement_40 dX6_statement_43 dX6_statement_44 dX6_statement_46 dX6_statement_49 hnm ⟨Nat.le_of_ble_eq_true rfl, Nat.le_of_ble_eq_true rfl, Nat.le_of_ble_eq_true rfl, Nat.le_of_ble_eq_true rfl⟩ hlocks rfl (Nat.le_of_ble_eq_true rfl) (Nat.le_of_ble_eq_true rfl)
set_option maxHeartbeats 4000000 in
set_option maxRecDepth 100000 in
theorem t1_X6_close (l : Launch) (D : va_G) (cs : Nat → ClassId) (w : zw) (sz : Nat) (of tbs dds wks aa : Nat) (tc dc wc brt yr wd : Int32) (WR : Nat → Option Nat) (WA WT WP WS hd : Nat → Nat) (se : Nat → Int64) (PR : Nat → Nat → Option Nat) (PA TE PP : Nat → Nat → Nat) (bo br : Nat → Nat → Int32) (V PT : Nat → Nat → Nat → Int64) (nw : Nat) (hlst : l.stackTraces = false) (hW : zWks cs w WR WA WT WP WS hd se PR PA TE PP bo br V PT nw) (how : ∃ k : Nat, k < nw ∧ ¬ zTotal (bo k) (V k) (hd k) (se k) 10 = 0) (h_f : w (of) = some (.inr (6, [.ref (tbs), .ref (dds), .ref (wks), .ref (aa), .int (tc), .int (dc), .int (wc), .int (brt), .int (yr), .int (wd)]))) (h_wr : w (wks) = some (eR cs 6 (10) (WR))) : zMX l D cs yX6_close wsX6_close 5 1 6 w sz [.ref (of)] (fun _ _ => False) (fun E9 => E9 = "java/lang/IllegalStateException") := by
  refine z_metX (cc := cX6_close) (maxL := 6) (ret := (some .int)) (by decide) rfl (Nat.le_of_ble_eq_true rfl) ?_
  intro p e s m below meth c hx hb hr hml hown hts hlocks hnm hsz hK hE hS ls hl
  have hl : lv_has ls 6 [(0, .ref (of))] := hl
  refine lv_aload_n hx hb dX6_close_0 rfl (lv_at hl 0 rfl) ?_
  refine z_rV (As := []) (rest := []) (n := 0) ⟨hx, hb, hml, hown, hts⟩ (c_X6_isAnythingOwed l D cs w s.heap.size of tbs dds wks aa tc dc wc brt yr wd WR WA WT WP WS hd se PR PA TE PP bo br V PT nw hW h_f h_wr) gX6_close_X6_isAnythingOwed rfl ⟨rfl, by decide +kernel, by decide +kernel, by decide +kernel⟩ ⟨Nat.le_of_ble_eq_true rfl, Nat.le_of_ble_eq_true rfl⟩ hK hE hS rfl h_f rfl hl.1 rfl (Nat.le_of_ble_eq_true rfl) dX6_close_1 ⟨Nat.le_of_ble_eq_true rfl, Nat.le_of_ble_eq_true rfl⟩ (fun H locs hS => ?_)
  refine lv_if_eq (tgt := 17) hx hb dX6_close_4 (by decide) (fun cq9 => absurd cq9 (by rw [zB_t how]; decide)) (fun _ => ?_)
  exact z_thr (text := "something is owed to a worker or by one") hx hb hlst hown hts (by decide +kernel) (by decide +kernel) (by decide +kernel) zbad85 (by decide +kernel) (by decide +kernel) (by decide +kernel) (by decide +kernel) hE hS (hl.1.trans hml.symm) dX6_close_7 dX6_close_10 dX6_close_11 dX6_close_13 dX6_close_16 hnm ⟨Nat.le_of_ble_eq_true rfl, Nat.le_of_ble_eq_true rfl, Nat.le_of_ble_eq_true rfl, Nat.le_of_ble_eq_true rfl⟩ hlocks rfl (Nat.le_of_ble_eq_true rfl) (Nat.le_of_ble_eq_true rfl)
set_option maxHeartbeats 4000000 in
set_option maxRecDepth 100000 in
theorem t2_X6_close (l : Launch) (D : va_G) (cs : Nat → ClassId) (w : zw) (sz : Nat) (of tbs dds wks aa : Nat) (tc dc wc brt wd : Int32) (WR : Nat → Option Nat) (WA WT WP WS hd : Nat → Nat) (se : Nat → Int64) (PR : Nat → Nat → Option Nat) (PA TE PP : Nat → Nat → Nat) (bo br : Nat → Nat → Int32) (V PT : Nat → Nat → Nat → Int64) (nw : Nat) (hlst : l.stackTraces = false) (hW : zWks cs w WR WA WT WP WS hd se PR PA TE PP bo br V PT nw) (how : ¬ ∃ k : Nat, k < nw ∧ ¬ zTotal (bo k) (V k) (hd k) (se k) 10 = 0) (h_f : w (of) = some (.inr (6, [.ref (tbs), .ref (dds), .ref (wks), .ref (aa), .int (tc), .int (dc), .int (wc), .int (brt), .int (6), .int (wd)]))) (h_wr : w (wks) = some (eR cs 6 (10) (WR))) : zMX l D cs yX6_close wsX6_close 5 1 6 w sz [.ref (of)] (fun _ _ => False) (fun E9 => E9 = "java/lang/UnsupportedOperationException") := by
  refine z_metX (cc := cX6_close) (maxL := 6) (ret := (some .int)) (by decide) rfl (Nat.le_of_ble_eq_true rfl) ?_
  intro p e s m below meth c hx hb hr hml hown hts hlocks hnm hsz hK hE hS ls hl
  have hl : lv_has ls 6 [(0, .ref (of))] := hl
  refine lv_aload_n hx hb dX6_close_0 rfl (lv_at hl 0 rfl) ?_
  refine z_rV (As := []) (rest := []) (n := 0) ⟨hx, hb, hml, hown, hts⟩ (c_X6_isAnythingOwed l D cs w s.heap.size of tbs dds wks aa tc dc wc brt 6 wd WR WA WT WP WS hd se PR PA TE PP bo br V PT nw hW h_f h_wr) gX6_close_X6_isAnythingOwed rfl ⟨rfl, by decide +kernel, by decide +kernel, by decide +kernel⟩ ⟨Nat.le_of_ble_eq_true rfl, Nat.le_of_ble_eq_true rfl⟩ hK hE hS rfl h_f rfl hl.1 rfl (Nat.le_of_ble_eq_true rfl) dX6_close_1 ⟨Nat.le_of_ble_eq_true rfl, Nat.le_of_ble_eq_true rfl⟩ (fun H locs hS => ?_)
  refine lv_if_eq (tgt := 17) hx hb dX6_close_4 (by decide) (fun _ => ?_) (fun cq9 => absurd (zB_f how) cq9)
  refine lv_aload_n hx hb dX6_close_17 rfl (lv_at hl 0 rfl) ?_
  refine z_get (C := RX6) (T := TX6) (N := 10) (v := .int (6)) hx hb hts (by decide +kernel) hown hK hS h_f rfl 8 (by decide) (hts (.fieldLink RX6 47 "PayLedger" "year" "I") (by decide +kernel)) rfl dX6_close_18 ?_
  refine lv_istore_n (lv' := [(1, .int (6)), (0, .ref (of))]) hx hb dX6_close_21 rfl hl (by decide) rfl (fun ls hl => ?_)
  refine lv_iload_n hx hb dX6_close_22 rfl (lv_at hl 0 rfl) ?_
  refine lv_if_lt (tgt := 32) hx hb dX6_close_23 (by decide) (fun cq9 => absurd cq9 (by decide)) (fun _ => ?_)
  refine lv_iload_n hx hb dX6_close_26 rfl (lv_at hl 0 rfl) ?_
  refine lv_bipush (v := 6) hx hb dX6_close_27 (by decide) ?_
  refine lv_icmp_lt (tgt := 42) hx hb dX6_close_29 (by decide) (fun cq9 => absurd cq9 (by decide)) (fun _ => ?_)
  exact z_thr (text := "as many years have ended as can") hx hb hlst hown hts (by decide +kernel) (by decide +kernel) (by decide +kernel) zbad57 (by decide +kernel) (by decide +kernel) (by decide +kernel) (by decide +kernel) hE hS (hl.1.trans hml.symm) dX6_close_32 dX6_close_35 dX6_close_36 dX6_close_38 dX6_close_41 hnm ⟨Nat.le_of_ble_eq_true rfl, Nat.le_of_ble_eq_true rfl, Nat.le_of_ble_eq_true rfl, Nat.le_of_ble_eq_true rfl⟩ hlocks rfl (Nat.le_of_ble_eq_true rfl) (Nat.le_of_ble_eq_true rfl)
set_option maxHeartbeats 4000000 in
set_option maxRecDepth 100000 in
theorem t1_X6_correct (l : Launch) (D : va_G) (cs : Nat → ClassId) (w : zw) (sz : Nat) (of tbs dds wks aa : Nat) (tc dc wc brt yr wd : Int32) (WR : Nat → Option Nat) (WA WT WP WS hd : Nat → Nat) (se : Nat → Int64) (PR : Nat → Nat → Option Nat) (PA TE PP : Nat → Nat → Nat) (bo br : Nat → Nat → Int32) (V PT : Nat → Nat → Nat → Int64) (nw : Nat) (x y : Int32) (gross : Int64) (hlst : l.stackTraces = false) (hW : zWks cs w WR WA WT WP WS hd se PR PA TE PP bo br V PT nw) (hx9 : ∀ k : Nat, k < nw → x ≠ nI k) (h_f : w (of) = some (.inr (6, [.ref (tbs), .ref (dds), .ref (wks), .ref (aa), .int (tc), .int (dc), .int (wc), .int (brt), .int (yr), .int (wd)]))) (h_wr : w (wks) = some (eR cs 6 (10) (WR))) : zMX l D cs yX6_correct wsX6_correct 6 1 6 w sz [.ref (of), .int (x), .int (y), .long (gross)] (fun _ _ => False) (fun E9 => E9 = "java/lang/IndexOutOfBoundsException") := by
  refine z_metX (cc := cX6_correct) (maxL := 7) (ret := (some .int)) (by decide) rfl (Nat.le_of_ble_eq_true rfl) ?_
  intro p e s m below meth c hx hb hr hml hown hts hlocks hnm hsz hK hE hS ls hl
  have hl : lv_has ls 7 [(0, .ref (of)), (1, .int (x)), (2, .int (y)), (3, .long (gross))] := hl
  refine lv_aload_n hx hb dX6_correct_0 rfl (lv_at hl 0 rfl) ?_
  refine lv_iload_n hx hb dX6_correct_1 rfl (lv_at hl 1 rfl) ?_
  refine z_invVX (As := [.int (x)]) (rest := []) (n := 1) ⟨hx, hb, hml, hown, hts⟩ (t_X6_workerNumbered l D cs w s.heap.size of tbs dds wks aa tc dc wc brt yr wd WR WA nw x hlst (⟨hW.1, fun i hi => (hW.2.1 i hi).1, hW.2.2⟩) hx9 h_f h_wr) gX6_correct_X6_workerNumbered rfl ⟨rfl, by decide +kernel, by decide +kernel, by decide +kernel⟩ ⟨Nat.le_of_ble_eq_true rfl, Nat.le_of_ble_eq_true rfl⟩ hK hE hS rfl h_f rfl hl.1 rfl (Nat.le_of_ble_eq_true rfl) dX6_correct_2 ⟨Nat.le_of_ble_eq_true rfl, Nat.le_of_ble_eq_true rfl⟩ (fun E9 ce9 q9 H9 locs9 hp9 hS9 h91 h92 h93 => z_out hS9 hnm hlocks h91 h92 h93 hp9 (Nat.le_of_ble_eq_true rfl) (Nat.le_of_ble_eq_true rfl)) (fun v9 u1 H locs hq hS => absurd hq id)
set_option maxHeartbeats 4000000 in
set_option maxRecDepth 100000 in
theorem t3_X6_correct (l : Launch) (D : va_G) (cs : Nat → ClassId) (w : zw) (sz : Nat) (of tbs dds wks aa : Nat) (tc dc wc brt yr wd : Int32) (WR : Nat → Option Nat) (WA WT WP WS hd : Nat → Nat) (se : Nat → Int64) (PR : Nat → Nat → Option Nat) (PA TE PP : Nat → Nat → Nat) (bo br : Nat → Nat → Int32) (V PT : Nat → Nat → Nat → Int64) (nw : Nat) (k i : Nat) (gross : Int64) (hlst : l.stackTraces = false) (hW : zWks cs w WR WA WT WP WS hd se PR PA TE PP bo br V PT nw) (hk : k < nw) (hi : i < hd k) (hg : zUpTo gross 1000000000 = 0) (h_f : w (of) = some (.inr (6, [.ref (tbs), .ref (dds), .ref (wks), .ref (aa), .int (tc), .int (dc), .int (wc), .int (brt), .int (yr), .int (wd)]))) (h_wr : w (wks) = some (eR cs 6 (10) (WR))) : zMX l D cs yX6_correct wsX6_correct 6 1 6 w sz [.ref (of), .int (nI k), .int (nI i), .long (gross)] (fun _ _ => False) (fun E9 => E9 = "java/lang/IllegalArgumentException") := by
  refine z_metX (cc := cX6_correct) (maxL := 7) (ret := (some .int)) (by decide) rfl (Nat.le_of_ble_eq_true rfl) ?_
  intro p e s m below meth c hx hb hr hml hown hts hlocks hnm hsz hK hE hS ls hl
  have hl : lv_has ls 7 [(0, .ref (of)), (1, .int (nI k)), (2, .int (nI i)), (3, .long (gross))] := hl
  refine lv_aload_n hx hb dX6_correct_0 rfl (lv_at hl 0 rfl) ?_
  refine lv_iload_n hx hb dX6_correct_1 rfl (lv_at hl 1 rfl) ?_
  refine z_rV (As := [.int (nI k)]) (rest := []) (n := 1) ⟨hx, hb, hml, hown, hts⟩ (c_X6_workerNumbered l D cs w s.heap.size of tbs dds wks aa tc dc wc brt yr wd WR WA nw k (⟨hW.1, fun i hi => (hW.2.1 i hi).1, hW.2.2⟩) hk h_f h_wr) gX6_correct_X6_workerNumbered rfl ⟨rfl, by decide +kernel, by decide +kernel, by decide +kernel⟩ ⟨Nat.le_of_ble_eq_true rfl, Nat.le_of_ble_eq_true rfl⟩ hK hE hS rfl h_f rfl hl.1 rfl (Nat.le_of_ble_eq_true rfl) dX6_correct_2 ⟨Nat.le_of_ble_eq_true rfl, Nat.le_of_ble_eq_true rfl⟩ (fun H locs hS => ?_)
  have hwi := hW.2.1 k hk
  have h_wi := hwi.2.1
  have h_pi := hwi.2.2.1
  refine lv_astore (lv' := [(5, .ref (WA k)), (0, .ref (of)), (1, .int (nI k)), (2, .int (nI i)), (3, .long (gross))]) hx hb dX6_correct_5 hl (by decide) rfl (fun ls hl => ?_)
  refine lv_aload hx hb dX6_correct_7 (lv_at hl 0 rfl) ?_
  refine lv_iload_n hx hb dX6_correct_9 rfl (lv_at hl 3 rfl) ?_
  refine z_rS (As := [.ref (WA k), .int (nI i)]) (rest := []) (n := 2) ⟨hx, hb, hml, hown, hts⟩ (c_X6_payNumbered l D cs w H.size (WA k) (WT k) (WP k) (WS k) (hd k) i (se k) (PR k) (PA k) hwi.2.2.2.1 hi (hwi.2.2.2.2 i hi).1 h_wi h_pi) gX6_correct_X6_payNumbered rfl ⟨by decide +kernel, by decide +kernel, by decide +kernel⟩ ⟨Nat.le_of_ble_eq_true rfl, Nat.le_of_ble_eq_true rfl⟩ hK hE hS rfl hl.1 rfl (Nat.le_of_ble_eq_true rfl) dX6_correct_10 ⟨Nat.le_of_ble_eq_true rfl, Nat.le_of_ble_eq_true rfl⟩ (fun H locs hS => ?_)
  have h_py := (hwi.2.2.2.2 i hi).2.1
  have h_pt := (hwi.2.2.2.2 i hi).2.2
  refine lv_astore (lv' := [(6, .ref (PA k i)), (5, .ref (WA k)), (0, .ref (of)), (1, .int (nI k)), (2, .int (nI i)), (3, .long (gross))]) hx hb dX6_correct_13 hl (by decide) rfl (fun ls hl => ?_)
  refine lv_lload_n hx hb dX6_correct_15 rfl (lv_at hl 5 rfl) ?_
  refine lv_ldc2 (v := 1000000000) hx hb hown (hts (.constantLong RX6 190 (1000000000)) (by decide +kernel)) dX6_correct_16 ?_
  refine z_rS (As := [.long (gross), .long (1000000000)]) (rest := []) (n := 2) ⟨hx, hb, hml, hown, hts⟩ (c_X6_isUpTo l D cs w H.size gross 1000000000) gX6_correct_X6_isUpTo rfl ⟨by decide +kernel, by decide +kernel, by decide +kernel⟩ ⟨Nat.le_of_ble_eq_true rfl, Nat.le_of_ble_eq_true rfl⟩ hK hE hS rfl hl.1 rfl (Nat.le_of_ble_eq_true rfl) dX6_correct_19 ⟨Nat.le_of_ble_eq_true rfl, Nat.le_of_ble_eq_true rfl⟩ (fun H locs hS => ?_)
  refine lv_if_ne (tgt := 35) hx hb dX6_correct_22 (by decide) (fun cq9 => absurd hg cq9) (fun _ => ?_)
  exact z_thr (text := "no such gross") hx hb hlst hown hts (by decide +kernel) (by decide +kernel) (by decide +kernel) zbad76 (by decide +kernel) (by decide +kernel) (by decide +kernel) (by decide +kernel) hE hS (hl.1.trans hml.symm) dX6_correct_25 dX6_correct_28 dX6_correct_29 dX6_correct_31 dX6_correct_34 hnm ⟨Nat.le_of_ble_eq_true rfl, Nat.le_of_ble_eq_true rfl, Nat.le_of_ble_eq_true rfl, Nat.le_of_ble_eq_true rfl⟩ hlocks rfl (Nat.le_of_ble_eq_true rfl) (Nat.le_of_ble_eq_true rfl)
set_option maxHeartbeats 4000000 in
set_option maxRecDepth 100000 in
theorem c_X6_init (l : Launch) (D : va_G) (cs : Nat → ClassId) (w : zw) (sz : Nat) (of : Nat)  (h_o : w (of) = some (.inr (6, [.null, .null, .null, .null, .int (0), .int (0), .int (0), .int (0), .int (0), .int (0)]))) : zM l D cs yX6_init wsX6_init 1 5 37 w sz [.ref (of)] (fun r w2 => r = none ∧ ∃ tbs dds wks aa ap : Nat, w tbs = none ∧ w dds = none ∧ w wks = none ∧ w aa = none ∧ w ap = none ∧ zEx w w2 [(of, .inr (6, [.ref tbs, .ref dds, .ref wks, .ref aa, .int 0, .int 0, .int 0, .int 0, .int 0, .int 0])), (tbs, eR cs 5 6 (fun _ => none)), (dds, eR cs 3 8 (fun _ => none)), (wks, eR cs 6 10 (fun _ => none)), (aa, .inr (0, [.ref ap, .long 0, .int 0, .long 0, .long 0])), (ap, eJ cs 8 (fun _ => 0))]) := by
  refine z_met (cc := cX6_init) (maxL := 1) (ret := none) (by decide) rfl (Nat.le_of_ble_eq_true rfl) ?_
  intro p e s m below meth c hx hb hr hml hown hts hlocks hnm hsz hK hE hS ls hl
  have hl : lv_has ls 1 [(0, .ref (of))] := hl
  refine lv_aload_n hx hb dX6_init_0 rfl (lv_at hl 0 rfl) ?_
  refine W.objInit hx hb hown (hts (.methodLink RX6 1 objectInit) (by decide +kernel)) (hts (.instanceMethod objectInit) (by decide +kernel)) (hts (.code objectInit ⟨#[0xb1]⟩ 1 none) (by decide +kernel)) rfl (by rw [hml]; exact hl.1) rfl dX6_init_1 (Nat.le_of_ble_eq_true rfl) (Nat.le_of_ble_eq_true rfl) ?_
  refine W.eq (g2 := F0 m 4 ls []) rfl ?_
  refine lv_aload_n hx hb dX6_init_4 rfl (lv_at hl 0 rfl) ?_
  refine lv_bipush (v := 6) hx hb dX6_init_5 (by decide) ?_
  refine z_newR (C := RX3) (t0 := 5) hx hb hown (hts (.classLink RX6 9 RX3) (by decide +kernel)) (hE.2.2.2.2.2.1 RX3 (by decide +kernel)) rfl hK hS 6 (by decide) (by decide) (by decide) (Nat.le_of_ble_eq_true rfl) (Nat.le_of_ble_eq_true rfl) dX6_init_7 (fun tbs H h_ntbs hS => ?_)
  obtain ⟨w1, ew1⟩ : ∃ z : zw, z = va_up w (tbs) (some (eR cs 5 (6) (fun _ => none))) := ⟨_, rfl⟩
  have hS : zS (zA w sz) D w1 s.heap H [] := by rw [ew1]; exact hS
  have h1_tbs : w1 (tbs) = some (eR cs 5 (6) (fun _ => none)) := by rw [ew1]; exact va_up_self _ _ _
  have h1_of : w1 (of) = some (.inr (6, [.null, .null, .null, .null, .int (0), .int (0), .int (0), .int (0), .int (0), .int (0)])) := by rw [ew1]; exact (va_up_ne _ _ (fun q9 => by rw [q9] at h_o; rw [h_ntbs] at h_o; cases h_o)).trans h_o
  have hz_tbs : w (tbs) = none := by
    have q9 := h_ntbs
    exact q9
  refine z_putF (C := RX6) (T := TX6) (N := 10) (v := .ref (tbs)) hx hb hts (by decide +kernel) tyX6 tyX6_ok nmX6 hown hK hS h1_of rfl 0 (by decide) (hts (.fieldLink RX6 11 "PayLedger" "tables" "[LPayLedger$Table;") (by decide +kernel)) rfl hnm rfl rfl rfl (Nat.le_of_ble_eq_true rfl) dX6_init_10 (fun H locs hS => ?_)
  obtain ⟨w2, ew2⟩ : ∃ z : zw, z = va_up w1 (of) (some (.inr (6, [.ref (tbs), .null, .null, .null, .int (0), .int (0), .int (0), .int (0), .int (0), .int (0)]))) := ⟨_, rfl⟩
  have hS : zS (zA w sz) D w2 s.heap H locs := by rw [ew2]; exact hS
  have h2_of : w2 (of) = some (.inr (6, [.ref (tbs), .null, .null, .null, .int (0), .int (0), .int (0), .int (0), .int (0), .int (0)])) := by rw [ew2]; exact va_up_self _ _ _
  have h2_tbs : w2 (tbs) = some (eR cs 5 (6) (fun _ => none)) := by rw [ew2]; exact (va_up_ne _ _ (zne h1_tbs h1_of (by intro q9; first | cases q9 | simp at q9))).trans h1_tbs
  refine lv_aload_n hx hb dX6_init_13 rfl (lv_at hl 0 rfl) ?_
  refine lv_bipush (v := 8) hx hb dX6_init_14 (by decide) ?_
  refine z_newR (C := RX1) (t0 := 3) hx hb hown (hts (.classLink RX6 15 RX1) (by decide +kernel)) (hE.2.2.2.2.2.1 RX1 (by decide +kernel)) rfl hK hS 8 (by decide) (by decide) (by decide) (Nat.le_of_ble_eq_true rfl) (Nat.le_of_ble_eq_true rfl) dX6_init_16 (fun dds H h_ndds hS => ?_)
  obtain ⟨w3, ew3⟩ : ∃ z : zw, z = va_up w2 (dds) (some (eR cs 3 (8) (fun _ => none))) := ⟨_, rfl⟩
  have hS : zS (zA w sz) D w3 s.heap H locs := by rw [ew3]; exact hS
  have h3_dds : w3 (dds) = some (eR cs 3 (8) (fun _ => none)) := by rw [ew3]; exact va_up_self _ _ _
  have h3_tbs : w3 (tbs) = some (eR cs 5 (6) (fun _ => none)) := by rw [ew3]; exact (va_up_ne _ _ (fun q9 => by rw [q9] at h2_tbs; rw [h_ndds] at h2_tbs; cases h2_tbs)).trans h2_tbs
  have h3_of : w3 (of) = some (.inr (6, [.ref (tbs), .null, .null, .null, .int (0), .int (0), .int (0), .int (0), .int (0), .int (0)])) := by rw [ew3]; exact (va_up_ne _ _ (fun q9 => by rw [q9] at h2_of; rw [h_ndds] at h2_of; cases h2_of)).trans h2_of
  have hz_dds : w (dds) = none := by
    have q9 := h_ndds
    rw [ew2] at q9
    have q9 := (zup_none q9).2
    rw [ew1] at q9
    have q9 := (zup_none q9).2
    exact q9
  refine z_putF (C := RX6) (T := TX6) (N := 10) (v := .ref (dds)) hx hb hts (by decide +kernel) tyX6 tyX6_ok nmX6 hown hK hS h3_of rfl 1 (by decide) (hts (.fieldLink RX6 17 "PayLedger" "deductions" "[LPayLedger$Deduction;") (by decide +kernel)) rfl hnm rfl rfl rfl (Nat.le_of_ble_eq_true rfl) dX6_init_19 (fun H locs hS => ?_)
  obtain ⟨w4, ew4⟩ : ∃ z : zw, z = va_up w3 (of) (some (.inr (6, [.ref (tbs), .ref (dds), .null, .null, .int (0), .int (0), .int (0), .int (0), .int (0), .int (0)]))) := ⟨_, rfl⟩
  have hS : zS (zA w sz) D w4 s.heap H locs := by rw [ew4]; exact hS
  have h4_of : w4 (of) = some (.inr (6, [.ref (tbs), .ref (dds), .null, .null, .int (0), .int (0), .int (0), .int (0), .int (0), .int (0)])) := by rw [ew4]; exact va_up_self _ _ _
  have h4_tbs : w4 (tbs) = some (eR cs 5 (6) (fun _ => none)) := by rw [ew4]; exact (va_up_ne _ _ (zne h3_tbs h3_of (by intro q9; first | cases q9 | simp at q9))).trans h3_tbs
  have h4_dds : w4 (dds) = some (eR cs 3 (8) (fun _ => none)) := by rw [ew4]; exact (va_up_ne _ _ (zne h3_dds h3_of (by intro q9; first | cases q9 | simp at q9))).trans h3_dds
  refine lv_aload_n hx hb dX6_init_22 rfl (lv_at hl 0 rfl) ?_
  refine lv_bipush (v := 10) hx hb dX6_init_23 (by decide) ?_
  refine z_newR (C := RX5) (t0 := 6) hx hb hown (hts (.classLink RX6 21 RX5) (by decide +kernel)) (hE.2.2.2.2.2.1 RX5 (by decide +kernel)) rfl hK hS 10 (by decide) (by decide) (by decide) (Nat.le_of_ble_eq_true rfl) (Nat.le_of_ble_eq_true rfl) dX6_init_25 (fun wks H h_nwks hS => ?_)
  obtain ⟨w5, ew5⟩ : ∃ z : zw, z = va_up w4 (wks) (some (eR cs 6 (10) (fun _ => none))) := ⟨_, rfl⟩
  have hS : zS (zA w sz) D w5 s.heap H locs := by rw [ew5]; exact hS
  have h5_wks : w5 (wks) = some (eR cs 6 (10) (fun _ => none)) := by rw [ew5]; exact va_up_self _ _ _
  have h5_tbs : w5 (tbs) = some (eR cs 5 (6) (fun _ => none)) := by rw [ew5]; exact (va_up_ne _ _ (fun q9 => by rw [q9] at h4_tbs; rw [h_nwks] at h4_tbs; cases h4_tbs)).trans h4_tbs
  have h5_dds : w5 (dds) = some (eR cs 3 (8) (fun _ => none)) := by rw [ew5]; exact (va_up_ne _ _ (fun q9 => by rw [q9] at h4_dds; rw [h_nwks] at h4_dds; cases h4_dds)).trans h4_dds
  have h5_of : w5 (of) = some (.inr (6, [.ref (tbs), .ref (dds), .null, .null, .int (0), .int (0), .int (0), .int (0), .int (0), .int (0)])) := by rw [ew5]; exact (va_up_ne _ _ (fun q9 => by rw [q9] at h4_of; rw [h_nwks] at h4_of; cases h4_of)).trans h4_of
  have hz_wks : w (wks) = none := by
    have q9 := h_nwks
    rw [ew4] at q9
    have q9 := (zup_none q9).2
    rw [ew3] at q9
    have q9 := (zup_none q9).2
    rw [ew2] at q9
    have q9 := (zup_none q9).2
    rw [ew1] at q9
    have q9 := (zup_none q9).2
    exact q9
  refine z_putF (C := RX6) (T := TX6) (N := 10) (v := .ref (wks)) hx hb hts (by decide +kernel) tyX6 tyX6_ok nmX6 hown hK hS h5_of rfl 2 (by decide) (hts (.fieldLink RX6 23 "PayLedger" "workers" "[LPayLedger$Worker;") (by decide +kernel)) rfl hnm rfl rfl rfl (Nat.le_of_ble_eq_true rfl) dX6_init_28 (fun H locs hS => ?_)
  obtain ⟨w6, ew6⟩ : ∃ z : zw, z = va_up w5 (of) (some (.inr (6, [.ref (tbs), .ref (dds), .ref (wks), .null, .int (0), .int (0), .int (0), .int (0), .int (0), .int (0)]))) := ⟨_, rfl⟩
  have hS : zS (zA w sz) D w6 s.heap H locs := by rw [ew6]; exact hS
  have h6_of : w6 (of) = some (.inr (6, [.ref (tbs), .ref (dds), .ref (wks), .null, .int (0), .int (0), .int (0), .int (0), .int (0), .int (0)])) := by rw [ew6]; exact va_up_self _ _ _
  have h6_tbs : w6 (tbs) = some (eR cs 5 (6) (fun _ => none)) := by rw [ew6]; exact (va_up_ne _ _ (zne h5_tbs h5_of (by intro q9; first | cases q9 | simp at q9))).trans h5_tbs
  have h6_dds : w6 (dds) = some (eR cs 3 (8) (fun _ => none)) := by rw [ew6]; exact (va_up_ne _ _ (zne h5_dds h5_of (by intro q9; first | cases q9 | simp at q9))).trans h5_dds
  have h6_wks : w6 (wks) = some (eR cs 6 (10) (fun _ => none)) := by rw [ew6]; exact (va_up_ne _ _ (zne h5_wks h5_of (by intro q9; first | cases q9 | simp at q9))).trans h5_wks
  refine lv_aload_n hx hb dX6_init_31 rfl (lv_at hl 0 rfl) ?_
  refine z_new (ci := 0) (fs := [.null, .long (0), .int (0), .long (0), .long (0)]) (C := RX0) (T := TX0) (N := 5) hx hb hts (by decide +kernel) tyX0 tyX0_ok hown (hts (.classLink RX6 27 RX0) (by decide +kernel)) (hts (.instantiable RX0 5) (by decide +kernel)) (hts (.initialized RX0) (by decide +kernel)) hK hS rfl (by decide +kernel) (Nat.le_of_ble_eq_true rfl) (Nat.le_of_ble_eq_true rfl) dX6_init_32 (fun aa H h_naa hS => ?_)
  obtain ⟨w7, ew7⟩ : ∃ z : zw, z = va_up w6 (aa) (some (.inr (0, [.null, .long (0), .int (0), .long (0), .long (0)]))) := ⟨_, rfl⟩
  have hS : zS (zA w sz) D w7 s.heap H locs := by rw [ew7]; exact hS
  have h7_aa : w7 (aa) = some (.inr (0, [.null, .long (0), .int (0), .long (0), .long (0)])) := by rw [ew7]; exact va_up_self _ _ _
  have h7_tbs : w7 (tbs) = some (eR cs 5 (6) (fun _ => none)) := by rw [ew7]; exact (va_up_ne _ _ (fun q9 => by rw [q9] at h6_tbs; rw [h_naa] at h6_tbs; cases h6_tbs)).trans h6_tbs
  have h7_dds : w7 (dds) = some (eR cs 3 (8) (fun _ => none)) := by rw [ew7]; exact (va_up_ne _ _ (fun q9 => by rw [q9] at h6_dds; rw [h_naa] at h6_dds; cases h6_dds)).trans h6_dds
  have h7_wks : w7 (wks) = some (eR cs 6 (10) (fun _ => none)) := by rw [ew7]; exact (va_up_ne _ _ (fun q9 => by rw [q9] at h6_wks; rw [h_naa] at h6_wks; cases h6_wks)).trans h6_wks
  have h7_of : w7 (of) = some (.inr (6, [.ref (tbs), .ref (dds), .ref (wks), .null, .int (0), .int (0), .int (0), .int (0), .int (0), .int (0)])) := by rw [ew7]; exact (va_up_ne _ _ (fun q9 => by rw [q9] at h6_of; rw [h_naa] at h6_of; cases h6_of)).trans h6_of
  have hz_aa : w (aa) = none := by
    have q9 := h_naa
    rw [ew6] at q9
    have q9 := (zup_none q9).2
    rw [ew5] at q9
    have q9 := (zup_none q9).2
    rw [ew4] at q9
    have q9 := (zup_none q9).2
    rw [ew3] at q9
    have q9 := (zup_none q9).2
    rw [ew2] at q9
    have q9 := (zup_none q9).2
    rw [ew1] at q9
    have q9 := (zup_none q9).2
    exact q9
  refine lv_dup hx hb dX6_init_35 rfl ?_
  refine z_invIN (b := aa) (As := []) (rest := [.ref (aa), .ref (of)]) (n := 0) ⟨hx, hb, hml, hown, hts⟩ (c_X0_init l D cs w7 H.size aa h7_aa) gX6_init_X0_init_n29 rfl (by decide +kernel) (hts (.initialized RX0) (by decide +kernel)) (hts (.instanceMethod yX0_init) (by decide +kernel)) rfl ⟨by decide +kernel, by decide +kernel, by decide +kernel⟩ ⟨Nat.le_of_ble_eq_true rfl, Nat.le_of_ble_eq_true rfl⟩ hK hE hS rfl hl.1 rfl (Nat.le_of_ble_eq_true rfl) dX6_init_36 ⟨Nat.le_of_ble_eq_true rfl, Nat.le_of_ble_eq_true rfl⟩ (fun v9 u8 H locs hq hS => ?_)
  obtain ⟨rfl, ap, hzap, hx8⟩ := hq
  have h9_aa : u8 (aa) = some (.inr (0, [.ref (ap), .long (0), .int (0), .long (0), .long (0)])) := hx8.at 0 rfl
  have h9_ap : u8 (ap) = some (eJ cs (8) (fun _ => 0)) := hx8.at 1 rfl
  have h9_tbs : u8 (tbs) = some (eR cs 5 (6) (fun _ => none)) := hx8.old h7_tbs (zm1 (zne h7_tbs h7_aa (by intro q9; first | cases q9 | simp at q9)) (zm1 (znone_ne hzap h7_tbs) zm0))
  have h9_dds : u8 (dds) = some (eR cs 3 (8) (fun _ => none)) := hx8.old h7_dds (zm1 (zne h7_dds h7_aa (by intro q9; first | cases q9 | simp at q9)) (zm1 (znone_ne hzap h7_dds) zm0))
  have h9_wks : u8 (wks) = some (eR cs 6 (10) (fun _ => none)) := hx8.old h7_wks (zm1 (zne h7_wks h7_aa (by intro q9; first | cases q9 | simp at q9)) (zm1 (znone_ne hzap h7_wks) zm0))
  have h9_of : u8 (of) = some (.inr (6, [.ref (tbs), .ref (dds), .ref (wks), .null, .int (0), .int (0), .int (0), .int (0), .int (0), .int (0)])) := hx8.old h7_of (zm1 (zne h7_of h7_aa (by intro q9; first | cases q9 | simp at q9)) (zm1 (znone_ne hzap h7_of) zm0))
  refine W.eq (g2 := F0 m 39 ls [.ref (aa), .ref (of)]) rfl ?_
  refine z_putF (C := RX6) (T := TX6) (N := 10) (v := .ref (aa)) hx hb hts (by decide +kernel) tyX6 tyX6_ok nmX6 hown hK hS h9_of rfl 3 (by decide) (hts (.fieldLink RX6 30 "PayLedger" "ahead" "LPayLedger$Ahead;") (by decide +kernel)) rfl hnm rfl rfl rfl (Nat.le_of_ble_eq_true rfl) dX6_init_39 (fun H locs hS => ?_)
  obtain ⟨w10, ew10⟩ : ∃ z : zw, z = va_up u8 (of) (some (.inr (6, [.ref (tbs), .ref (dds), .ref (wks), .ref (aa), .int (0), .int (0), .int (0), .int (0), .int (0), .int (0)]))) := ⟨_, rfl⟩
  have hS : zS (zA w sz) D w10 s.heap H locs := by rw [ew10]; exact hS
  have h10_of : w10 (of) = some (.inr (6, [.ref (tbs), .ref (dds), .ref (wks), .ref (aa), .int (0), .int (0), .int (0), .int (0), .int (0), .int (0)])) := by rw [ew10]; exact va_up_self _ _ _
  have h10_aa : w10 (aa) = some (.inr (0, [.ref (ap), .long (0), .int (0), .long (0), .long (0)])) := by rw [ew10]; exact (va_up_ne _ _ (zne h9_aa h9_of (by intro q9; first | cases q9 | simp at q9))).trans h9_aa
  have h10_ap : w10 (ap) = some (eJ cs (8) (fun _ => 0)) := by rw [ew10]; exact (va_up_ne _ _ (zne h9_ap h9_of (by intro q9; first | cases q9 | simp at q9))).trans h9_ap
  have h10_tbs : w10 (tbs) = some (eR cs 5 (6) (fun _ => none)) := by rw [ew10]; exact (va_up_ne _ _ (zne h9_tbs h9_of (by intro q9; first | cases q9 | simp at q9))).trans h9_tbs
  have h10_dds : w10 (dds) = some (eR cs 3 (8) (fun _ => none)) := by rw [ew10]; exact (va_up_ne _ _ (zne h9_dds h9_of (by intro q9; first | cases q9 | simp at q9))).trans h9_dds
  have h10_wks : w10 (wks) = some (eR cs 6 (10) (fun _ => none)) := by rw [ew10]; exact (va_up_ne _ _ (zne h9_wks h9_of (by intro q9; first | cases q9 | simp at q9))).trans h9_wks
  refine lv_aload_n hx hb dX6_init_42 rfl (lv_at hl 0 rfl) ?_
  refine lv_iconst (v := 0) hx hb dX6_init_43 (by decide) ?_
  refine z_put (C := RX6) (T := TX6) (N := 10) (v := .int (0)) hx hb hts (by decide +kernel) tyX6 tyX6_ok nmX6 hown hK hS h10_of rfl 4 (by decide) (hts (.fieldLink RX6 34 "PayLedger" "tableCount" "I") (by decide +kernel)) rfl rfl rfl (Nat.le_of_ble_eq_true rfl) dX6_init_44 (fun H locs hS => ?_)
  obtain ⟨w11, ew11⟩ : ∃ z : zw, z = va_up w10 (of) (some (.inr (6, [.ref (tbs), .ref (dds), .ref (wks), .ref (aa), .int (0), .int (0), .int (0), .int (0), .int (0), .int (0)]))) := ⟨_, rfl⟩
  have hS : zS (zA w sz) D w11 s.heap H locs := by rw [ew11]; exact hS
  have h11_of : w11 (of) = some (.inr (6, [.ref (tbs), .ref (dds), .ref (wks), .ref (aa), .int (0), .int (0), .int (0), .int (0), .int (0), .int (0)])) := by rw [ew11]; exact va_up_self _ _ _
  have h11_aa : w11 (aa) = some (.inr (0, [.ref (ap), .long (0), .int (0), .long (0), .long (0)])) := by rw [ew11]; exact (va_up_ne _ _ (zne h10_aa h10_of (by intro q9; first | cases q9 | simp at q9))).trans h10_aa
  have h11_ap : w11 (ap) = some (eJ cs (8) (fun _ => 0)) := by rw [ew11]; exact (va_up_ne _ _ (zne h10_ap h10_of (by intro q9; first | cases q9 | simp at q9))).trans h10_ap
  have h11_tbs : w11 (tbs) = some (eR cs 5 (6) (fun _ => none)) := by rw [ew11]; exact (va_up_ne _ _ (zne h10_tbs h10_of (by intro q9; first | cases q9 | simp at q9))).trans h10_tbs
  have h11_dds : w11 (dds) = some (eR cs 3 (8) (fun _ => none)) := by rw [ew11]; exact (va_up_ne _ _ (zne h10_dds h10_of (by intro q9; first | cases q9 | simp at q9))).trans h10_dds
  have h11_wks : w11 (wks) = some (eR cs 6 (10) (fun _ => none)) := by rw [ew11]; exact (va_up_ne _ _ (zne h10_wks h10_of (by intro q9; first | cases q9 | simp at q9))).trans h10_wks
  refine lv_aload_n hx hb dX6_init_47 rfl (lv_at hl 0 rfl) ?_
  refine lv_iconst (v := 0) hx hb dX6_init_48 (by decide) ?_
  refine z_put (C := RX6) (T := TX6) (N := 10) (v := .int (0)) hx hb hts (by decide +kernel) tyX6 tyX6_ok nmX6 hown hK hS h11_of rfl 5 (by decide) (hts (.fieldLink RX6 38 "PayLedger" "deductionCount" "I") (by decide +kernel)) rfl rfl rfl (Nat.le_of_ble_eq_true rfl) dX6_init_49 (fun H locs hS => ?_)
  obtain ⟨w12, ew12⟩ : ∃ z : zw, z = va_up w11 (of) (some (.inr (6, [.ref (tbs), .ref (dds), .ref (wks), .ref (aa), .int (0), .int (0), .int (0), .int (0), .int (0), .int (0)]))) := ⟨_, rfl⟩
  have hS : zS (zA w sz) D w12 s.heap H locs := by rw [ew12]; exact hS
  have h12_of : w12 (of) = some (.inr (6, [.ref (tbs), .ref (dds), .ref (wks), .ref (aa), .int (0), .int (0), .int (0), .int (0), .int (0), .int (0)])) := by rw [ew12]; exact va_up_self _ _ _
  have h12_aa : w12 (aa) = some (.inr (0, [.ref (ap), .long (0), .int (0), .long (0), .long (0)])) := by rw [ew12]; exact (va_up_ne _ _ (zne h11_aa h11_of (by intro q9; first | cases q9 | simp at q9))).trans h11_aa
  have h12_ap : w12 (ap) = some (eJ cs (8) (fun _ => 0)) := by rw [ew12]; exact (va_up_ne _ _ (zne h11_ap h11_of (by intro q9; first | cases q9 | simp at q9))).trans h11_ap
  have h12_tbs : w12 (tbs) = some (eR cs 5 (6) (fun _ => none)) := by rw [ew12]; exact (va_up_ne _ _ (zne h11_tbs h11_of (by intro q9; first | cases q9 | simp at q9))).trans h11_tbs
  have h12_dds : w12 (dds) = some (eR cs 3 (8) (fun _ => none)) := by rw [ew12]; exact (va_up_ne _ _ (zne h11_dds h11_of (by intro q9; first | cases q9 | simp at q9))).trans h11_dds
  have h12_wks : w12 (wks) = some (eR cs 6 (10) (fun _ => none)) := by rw [ew12]; exact (va_up_ne _ _ (zne h11_wks h11_of (by intro q9; first | cases q9 | simp at q9))).trans h11_wks
  refine lv_aload_n hx hb dX6_init_52 rfl (lv_at hl 0 rfl) ?_
  refine lv_iconst (v := 0) hx hb dX6_init_53 (by decide) ?_
  refine z_put (C := RX6) (T := TX6) (N := 10) (v := .int (0)) hx hb hts (by decide +kernel) tyX6 tyX6_ok nmX6 hown hK hS h12_of rfl 6 (by decide) (hts (.fieldLink RX6 41 "PayLedger" "workerCount" "I") (by decide +kernel)) rfl rfl rfl (Nat.le_of_ble_eq_true rfl) dX6_init_54 (fun H locs hS => ?_)
  obtain ⟨w13, ew13⟩ : ∃ z : zw, z = va_up w12 (of) (some (.inr (6, [.ref (tbs), .ref (dds), .ref (wks), .ref (aa), .int (0), .int (0), .int (0), .int (0), .int (0), .int (0)]))) := ⟨_, rfl⟩
  have hS : zS (zA w sz) D w13 s.heap H locs := by rw [ew13]; exact hS
  have h13_of : w13 (of) = some (.inr (6, [.ref (tbs), .ref (dds), .ref (wks), .ref (aa), .int (0), .int (0), .int (0), .int (0), .int (0), .int (0)])) := by rw [ew13]; exact va_up_self _ _ _
  have h13_aa : w13 (aa) = some (.inr (0, [.ref (ap), .long (0), .int (0), .long (0), .long (0)])) := by rw [ew13]; exact (va_up_ne _ _ (zne h12_aa h12_of (by intro q9; first | cases q9 | simp at q9))).trans h12_aa
  have h13_ap : w13 (ap) = some (eJ cs (8) (fun _ => 0)) := by rw [ew13]; exact (va_up_ne _ _ (zne h12_ap h12_of (by intro q9; first | cases q9 | simp at q9))).trans h12_ap
  have h13_tbs : w13 (tbs) = some (eR cs 5 (6) (fun _ => none)) := by rw [ew13]; exact (va_up_ne _ _ (zne h12_tbs h12_of (by intro q9; first | cases q9 | simp at q9))).trans h12_tbs
  have h13_dds : w13 (dds) = some (eR cs 3 (8) (fun _ => none)) := by rw [ew13]; exact (va_up_ne _ _ (zne h12_dds h12_of (by intro q9; first | cases q9 | simp at q9))).trans h12_dds
  have h13_wks : w13 (wks) = some (eR cs 6 (10) (fun _ => none)) := by rw [ew13]; exact (va_up_ne _ _ (zne h12_wks h12_of (by intro q9; first | cases q9 | simp at q9))).trans h12_wks
  refine lv_aload_n hx hb dX6_init_57 rfl (lv_at hl 0 rfl) ?_
  refine lv_iconst (v := 0) hx hb dX6_init_58 (by decide) ?_
  refine z_put (C := RX6) (T := TX6) (N := 10) (v := .int (0)) hx hb hts (by decide +kernel) tyX6 tyX6_ok nmX6 hown hK hS h13_of rfl 7 (by decide) (hts (.fieldLink RX6 44 "PayLedger" "bonusRate" "I") (by decide +kernel)) rfl rfl rfl (Nat.le_of_ble_eq_true rfl) dX6_init_59 (fun H locs hS => ?_)
  obtain ⟨w14, ew14⟩ : ∃ z : zw, z = va_up w13 (of) (some (.inr (6, [.ref (tbs), .ref (dds), .ref (wks), .ref (aa), .int (0), .int (0), .int (0), .int (0), .int (0), .int (0)]))) := ⟨_, rfl⟩
  have hS : zS (zA w sz) D w14 s.heap H locs := by rw [ew14]; exact hS
  have h14_of : w14 (of) = some (.inr (6, [.ref (tbs), .ref (dds), .ref (wks), .ref (aa), .int (0), .int (0), .int (0), .int (0), .int (0), .int (0)])) := by rw [ew14]; exact va_up_self _ _ _
  have h14_aa : w14 (aa) = some (.inr (0, [.ref (ap), .long (0), .int (0), .long (0), .long (0)])) := by rw [ew14]; exact (va_up_ne _ _ (zne h13_aa h13_of (by intro q9; first | cases q9 | simp at q9))).trans h13_aa
  have h14_ap : w14 (ap) = some (eJ cs (8) (fun _ => 0)) := by rw [ew14]; exact (va_up_ne _ _ (zne h13_ap h13_of (by intro q9; first | cases q9 | simp at q9))).trans h13_ap
  have h14_tbs : w14 (tbs) = some (eR cs 5 (6) (fun _ => none)) := by rw [ew14]; exact (va_up_ne _ _ (zne h13_tbs h13_of (by intro q9; first | cases q9 | simp at q9))).trans h13_tbs
  have h14_dds : w14 (dds) = some (eR cs 3 (8) (fun _ => none)) := by rw [ew14]; exact (va_up_ne _ _ (zne h13_dds h13_of (by intro q9; first | cases q9 | simp at q9))).trans h13_dds
  have h14_wks : w14 (wks) = some (eR cs 6 (10) (fun _ => none)) := by rw [ew14]; exact (va_up_ne _ _ (zne h13_wks h13_of (by intro q9; first | cases q9 | simp at q9))).trans h13_wks
  refine lv_aload_n hx hb dX6_init_62 rfl (lv_at hl 0 rfl) ?_
  refine lv_iconst (v := 0) hx hb dX6_init_63 (by decide) ?_
  refine z_put (C := RX6) (T := TX6) (N := 10) (v := .int (0)) hx hb hts (by decide +kernel) tyX6 tyX6_ok nmX6 hown hK hS h14_of rfl 8 (by decide) (hts (.fieldLink RX6 47 "PayLedger" "year" "I") (by decide +kernel)) rfl rfl rfl (Nat.le_of_ble_eq_true rfl) dX6_init_64 (fun H locs hS => ?_)
  obtain ⟨w15, ew15⟩ : ∃ z : zw, z = va_up w14 (of) (some (.inr (6, [.ref (tbs), .ref (dds), .ref (wks), .ref (aa), .int (0), .int (0), .int (0), .int (0), .int (0), .int (0)]))) := ⟨_, rfl⟩
  have hS : zS (zA w sz) D w15 s.heap H locs := by rw [ew15]; exact hS
  have h15_of : w15 (of) = some (.inr (6, [.ref (tbs), .ref (dds), .ref (wks), .ref (aa), .int (0), .int (0), .int (0), .int (0), .int (0), .int (0)])) := by rw [ew15]; exact va_up_self _ _ _
  have h15_aa : w15 (aa) = some (.inr (0, [.ref (ap), .long (0), .int (0), .long (0), .long (0)])) := by rw [ew15]; exact (va_up_ne _ _ (zne h14_aa h14_of (by intro q9; first | cases q9 | simp at q9))).trans h14_aa
  have h15_ap : w15 (ap) = some (eJ cs (8) (fun _ => 0)) := by rw [ew15]; exact (va_up_ne _ _ (zne h14_ap h14_of (by intro q9; first | cases q9 | simp at q9))).trans h14_ap
  have h15_tbs : w15 (tbs) = some (eR cs 5 (6) (fun _ => none)) := by rw [ew15]; exact (va_up_ne _ _ (zne h14_tbs h14_of (by intro q9; first | cases q9 | simp at q9))).trans h14_tbs
  have h15_dds : w15 (dds) = some (eR cs 3 (8) (fun _ => none)) := by rw [ew15]; exact (va_up_ne _ _ (zne h14_dds h14_of (by intro q9; first | cases q9 | simp at q9))).trans h14_dds
  have h15_wks : w15 (wks) = some (eR cs 6 (10) (fun _ => none)) := by rw [ew15]; exact (va_up_ne _ _ (zne h14_wks h14_of (by intro q9; first | cases q9 | simp at q9))).trans h14_wks
  refine lv_aload_n hx hb dX6_init_67 rfl (lv_at hl 0 rfl) ?_
  refine lv_iconst (v := 0) hx hb dX6_init_68 (by decide) ?_
  refine z_put (C := RX6) (T := TX6) (N := 10) (v := .int (0)) hx hb hts (by decide +kernel) tyX6 tyX6_ok nmX6 hown hK hS h15_of rfl 9 (by decide) (hts (.fieldLink RX6 50 "PayLedger" "worked" "I") (by decide +kernel)) rfl rfl rfl (Nat.le_of_ble_eq_true rfl) dX6_init_69 (fun H locs hS => ?_)
  obtain ⟨w16, ew16⟩ : ∃ z : zw, z = va_up w15 (of) (some (.inr (6, [.ref (tbs), .ref (dds), .ref (wks), .ref (aa), .int (0), .int (0), .int (0), .int (0), .int (0), .int (0)]))) := ⟨_, rfl⟩
  have hS : zS (zA w sz) D w16 s.heap H locs := by rw [ew16]; exact hS
  have h16_of : w16 (of) = some (.inr (6, [.ref (tbs), .ref (dds), .ref (wks), .ref (aa), .int (0), .int (0), .int (0), .int (0), .int (0), .int (0)])) := by rw [ew16]; exact va_up_self _ _ _
  have h16_aa : w16 (aa) = some (.inr (0, [.ref (ap), .long (0), .int (0), .long (0), .long (0)])) := by rw [ew16]; exact (va_up_ne _ _ (zne h15_aa h15_of (by intro q9; first | cases q9 | simp at q9))).trans h15_aa
  have h16_ap : w16 (ap) = some (eJ cs (8) (fun _ => 0)) := by rw [ew16]; exact (va_up_ne _ _ (zne h15_ap h15_of (by intro q9; first | cases q9 | simp at q9))).trans h15_ap
  have h16_tbs : w16 (tbs) = some (eR cs 5 (6) (fun _ => none)) := by rw [ew16]; exact (va_up_ne _ _ (zne h15_tbs h15_of (by intro q9; first | cases q9 | simp at q9))).trans h15_tbs
  have h16_dds : w16 (dds) = some (eR cs 3 (8) (fun _ => none)) := by rw [ew16]; exact (va_up_ne _ _ (zne h15_dds h15_of (by intro q9; first | cases q9 | simp at q9))).trans h15_dds
  have h16_wks : w16 (wks) = some (eR cs 6 (10) (fun _ => none)) := by rw [ew16]; exact (va_up_ne _ _ (zne h15_wks h15_of (by intro q9; first | cases q9 | simp at q9))).trans h15_wks
  have hz9 : w ap = none := by
    have q9 := hzap
    rw [ew7] at q9
    have q9 := (zup_none q9).2
    rw [ew6] at q9
    have q9 := (zup_none q9).2
    rw [ew5] at q9
    have q9 := (zup_none q9).2
    rw [ew4] at q9
    have q9 := (zup_none q9).2
    rw [ew3] at q9
    have q9 := (zup_none q9).2
    rw [ew2] at q9
    have q9 := (zup_none q9).2
    rw [ew1] at q9
    have q9 := (zup_none q9).2
    exact q9
  have hex : zEx w w16 [(of, (.inr (6, [.ref (tbs), .ref (dds), .ref (wks), .ref (aa), .int (0), .int (0), .int (0), .int (0), .int (0), .int (0)]))), (tbs, (eR cs 5 (6) (fun _ => none))), (dds, (eR cs 3 (8) (fun _ => none))), (wks, (eR cs 6 (10) (fun _ => none))), (aa, (.inr (0, [.ref (ap), .long (0), .int (0), .long (0), .long (0)]))), (ap, (eJ cs (8) (fun _ => 0)))] := ⟨(zm1 h16_of (zm1 h16_tbs (zm1 h16_dds (zm1 h16_wks (zm1 h16_aa (zm1 h16_ap zm0)))))), fun a9 h9 => by rw [ew16, va_up_ne _ _ (show a9 ≠ of from h9 (of, (.inr (6, [.ref (tbs), .ref (dds), .ref (wks), .ref (aa), .int (0), .int (0), .int (0), .int (0), .int (0), .int (0)]))) (List.mem_of_getElem? (i := 0) rfl)), ew15, va_up_ne _ _ (show a9 ≠ of from h9 (of, (.inr (6, [.ref (tbs), .ref (dds), .ref (wks), .ref (aa), .int (0), .int (0), .int (0), .int (0), .int (0), .int (0)]))) (List.mem_of_getElem? (i := 0) rfl)), ew14, va_up_ne _ _ (show a9 ≠ of from h9 (of, (.inr (6, [.ref (tbs), .ref (dds), .ref (wks), .ref (aa), .int (0), .int (0), .int (0), .int (0), .int (0), .int (0)]))) (List.mem_of_getElem? (i := 0) rfl)), ew13, va_up_ne _ _ (show a9 ≠ of from h9 (of, (.inr (6, [.ref (tbs), .ref (dds), .ref (wks), .ref (aa), .int (0), .int (0), .int (0), .int (0), .int (0), .int (0)]))) (List.mem_of_getElem? (i := 0) rfl)), ew12, va_up_ne _ _ (show a9 ≠ of from h9 (of, (.inr (6, [.ref (tbs), .ref (dds), .ref (wks), .ref (aa), .int (0), .int (0), .int (0), .int (0), .int (0), .int (0)]))) (List.mem_of_getElem? (i := 0) rfl)), ew11, va_up_ne _ _ (show a9 ≠ of from h9 (of, (.inr (6, [.ref (tbs), .ref (dds), .ref (wks), .ref (aa), .int (0), .int (0), .int (0), .int (0), .int (0), .int (0)]))) (List.mem_of_getElem? (i := 0) rfl)), ew10, va_up_ne _ _ (show a9 ≠ of from h9 (of, (.inr (6, [.ref (tbs), .ref (dds), .ref (wks), .ref (aa), .int (0), .int (0), .int (0), .int (0), .int (0), .int (0)]))) (List.mem_of_getElem? (i := 0) rfl)), hx8.2 a9 (zm1 (show a9 ≠ aa from h9 (aa, (.inr (0, [.ref (ap), .long (0), .int (0), .long (0), .long (0)]))) (List.mem_of_getElem? (i := 4) rfl)) (zm1 (show a9 ≠ ap from h9 (ap, (eJ cs (8) (fun _ => 0))) (List.mem_of_getElem? (i := 5) rfl)) zm0)), ew7, va_up_ne _ _ (show a9 ≠ aa from h9 (aa, (.inr (0, [.ref (ap), .long (0), .int (0), .long (0), .long (0)]))) (List.mem_of_getElem? (i := 4) rfl)), ew6, va_up_ne _ _ (show a9 ≠ of from h9 (of, (.inr (6, [.ref (tbs), .ref (dds), .ref (wks), .ref (aa), .int (0), .int (0), .int (0), .int (0), .int (0), .int (0)]))) (List.mem_of_getElem? (i := 0) rfl)), ew5, va_up_ne _ _ (show a9 ≠ wks from h9 (wks, (eR cs 6 (10) (fun _ => none))) (List.mem_of_getElem? (i := 3) rfl)), ew4, va_up_ne _ _ (show a9 ≠ of from h9 (of, (.inr (6, [.ref (tbs), .ref (dds), .ref (wks), .ref (aa), .int (0), .int (0), .int (0), .int (0), .int (0), .int (0)]))) (List.mem_of_getElem? (i := 0) rfl)), ew3, va_up_ne _ _ (show a9 ≠ dds from h9 (dds, (eR cs 3 (8) (fun _ => none))) (List.mem_of_getElem? (i := 2) rfl)), ew2, va_up_ne _ _ (show a9 ≠ of from h9 (of, (.inr (6, [.ref (tbs), .ref (dds), .ref (wks), .ref (aa), .int (0), .int (0), .int (0), .int (0), .int (0), .int (0)]))) (List.mem_of_getElem? (i := 0) rfl)), ew1, va_up_ne _ _ (show a9 ≠ tbs from h9 (tbs, (eR cs 5 (6) (fun _ => none))) (List.mem_of_getElem? (i := 1) rfl))]⟩
  exact z_vret hx hb hr hlocks hS (Nat.le_of_ble_eq_true rfl) (Nat.le_of_ble_eq_true rfl) dX6_init_72 ⟨rfl, tbs, dds, wks, aa, ap, hz_tbs, hz_dds, hz_wks, hz_aa, hz9, hex⟩
