/-! ===== NoSuchElementException ===== -/
theorem zPayAt_no {PR : Nat → Option Nat} {n : Nat} {x : Int32} (hn : n ≤ 60) (h : ∀ k : Nat, k < n → x ≠ nI k) : zPayAt PR n x = none := by
  unfold zPayAt
  refine if_neg (fun q => ?_)
  obtain ⟨j, h1, h2⟩ := zI32_of (fun q2 => by have q1 := q.1; rw [Int32.le_iff_toInt_le] at q1; rw [Int32.lt_iff_toInt_lt] at q2; omega) q.2 (by omega)
  exact h j h1 h2
set_option maxHeartbeats 4000000 in
set_option maxRecDepth 100000 in
theorem t_X6_payNumbered (l : Launch) (D : va_G) (cs : Nat → ClassId) (w : zw) (sz : Nat) (wk wt pay sts n : Nat) (x : Int32) (se : Int64) (PR : Nat → Option Nat) (hlst : l.stackTraces = false) (hn : n ≤ 60) (hx9 : ∀ k : Nat, k < n → x ≠ nI k) (h_w : w (wk) = some (.inr (5, [.ref (wt), .ref (pay), .ref (sts), .int (nI n), .long (se)]))) (h_ps : w (pay) = some (eR cs 4 (60) (PR))) : zMX l D cs yX6_payNumbered wsX6_payNumbered 1 1 6 w sz [.ref (wk), .int (x)] (fun _ _ => False) (fun E9 => E9 = "java/util/NoSuchElementException") := by
  refine z_metX (cc := cX6_payNumbered) (maxL := 3) (ret := (some (.object "PayLedger$Pay"))) (by decide) rfl (Nat.le_of_ble_eq_true rfl) ?_
  intro p e s m below meth c hx hb hr hml hown hts hlocks hnm hsz hK hE hS ls hl
  have hl : lv_has ls 3 [(0, .ref (wk)), (1, .int (x))] := hl
  refine lv_aload_n hx hb dX6_payNumbered_0 rfl (lv_at hl 0 rfl) ?_
  refine lv_iload_n hx hb dX6_payNumbered_1 rfl (lv_at hl 1 rfl) ?_
  refine z_rV (As := [.int (x)]) (rest := []) (n := 1) ⟨hx, hb, hml, hown, hts⟩ (c_X5_payAt l D cs w s.heap.size wk wt pay sts n se PR x hn h_w h_ps) gX6_payNumbered_X5_payAt rfl ⟨rfl, by decide +kernel, by decide +kernel, by decide +kernel⟩ ⟨Nat.le_of_ble_eq_true rfl, Nat.le_of_ble_eq_true rfl⟩ hK hE hS rfl h_w rfl hl.1 rfl (Nat.le_of_ble_eq_true rfl) dX6_payNumbered_2 ⟨Nat.le_of_ble_eq_true rfl, Nat.le_of_ble_eq_true rfl⟩ (fun H locs hS => ?_)
  refine z_tv (y := .null) (by rw [zPayAt_no hn hx9]; rfl) ?_
  refine lv_astore_nN (lv' := [(2, .null), (0, .ref (wk)), (1, .int (x))]) hx hb dX6_payNumbered_5 rfl hl (by decide) rfl (fun ls hl => ?_)
  refine lv_aload_nN hx hb dX6_payNumbered_6 rfl (lv_at hl 0 rfl) ?_
  refine lv_ifnonnullN hx hb dX6_payNumbered_7 ?_
  exact z_thrNW (text := "there is no such pay") hx hb hlst hown hts (by decide +kernel) (by decide +kernel) (by decide +kernel) (by decide +kernel) (by decide +kernel) hE hS (hl.1.trans hml.symm) dX6_payNumbered_10 dX6_payNumbered_13 dX6_payNumbered_14 dX6_payNumbered_17 dX6_payNumbered_20 hnm ⟨Nat.le_of_ble_eq_true rfl, Nat.le_of_ble_eq_true rfl, Nat.le_of_ble_eq_true rfl, Nat.le_of_ble_eq_true rfl⟩ hlocks rfl (Nat.le_of_ble_eq_true rfl) (Nat.le_of_ble_eq_true rfl)
set_option maxHeartbeats 4000000 in
set_option maxRecDepth 100000 in
theorem t2_X6_line (l : Launch) (D : va_G) (cs : Nat → ClassId) (w : zw) (sz : Nat) (of tbs dds wks aa : Nat) (tc dc wc brt yr wd : Int32) (WR : Nat → Option Nat) (WA WT WP WS hd : Nat → Nat) (se : Nat → Int64) (PR : Nat → Nat → Option Nat) (PA TE PP : Nat → Nat → Nat) (bo br : Nat → Nat → Int32) (V PT : Nat → Nat → Nat → Int64) (nw : Nat) (k : Nat) (y what : Int32) (hlst : l.stackTraces = false) (hW : zWks cs w WR WA WT WP WS hd se PR PA TE PP bo br V PT nw) (hk : k < nw) (hy9 : ∀ j : Nat, j < hd k → y ≠ nI j) (h_f : w (of) = some (.inr (6, [.ref (tbs), .ref (dds), .ref (wks), .ref (aa), .int (tc), .int (dc), .int (wc), .int (brt), .int (yr), .int (wd)]))) (h_wr : w (wks) = some (eR cs 6 (10) (WR))) : zMX l D cs yX6_line wsX6_line 2 1 6 w sz [.ref (of), .int (nI k), .int (y), .int (what)] (fun _ _ => False) (fun E9 => E9 = "java/util/NoSuchElementException") := by
  refine z_metX (cc := cX6_line) (maxL := 6) (ret := (some .long)) (by decide) rfl (Nat.le_of_ble_eq_true rfl) ?_
  intro p e s m below meth c hx hb hr hml hown hts hlocks hnm hsz hK hE hS ls hl
  have hl : lv_has ls 6 [(0, .ref (of)), (1, .int (nI k)), (2, .int (y)), (3, .int (what))] := hl
  refine lv_aload_n hx hb dX6_line_0 rfl (lv_at hl 0 rfl) ?_
  refine lv_iload_n hx hb dX6_line_1 rfl (lv_at hl 1 rfl) ?_
  refine z_rV (As := [.int (nI k)]) (rest := []) (n := 1) ⟨hx, hb, hml, hown, hts⟩ (c_X6_workerNumbered l D cs w s.heap.size of tbs dds wks aa tc dc wc brt yr wd WR WA nw k (⟨hW.1, fun i hi => (hW.2.1 i hi).1, hW.2.2⟩) hk h_f h_wr) gX6_line_X6_workerNumbered rfl ⟨rfl, by decide +kernel, by decide +kernel, by decide +kernel⟩ ⟨Nat.le_of_ble_eq_true rfl, Nat.le_of_ble_eq_true rfl⟩ hK hE hS rfl h_f rfl hl.1 rfl (Nat.le_of_ble_eq_true rfl) dX6_line_2 ⟨Nat.le_of_ble_eq_true rfl, Nat.le_of_ble_eq_true rfl⟩ (fun H locs hS => ?_)
  have hwi := hW.2.1 k hk
  have h_wi := hwi.2.1
  have h_pi := hwi.2.2.1
  refine lv_astore (lv' := [(4, .ref (WA k)), (0, .ref (of)), (1, .int (nI k)), (2, .int (y)), (3, .int (what))]) hx hb dX6_line_5 hl (by decide) rfl (fun ls hl => ?_)
  refine lv_aload hx hb dX6_line_7 (lv_at hl 0 rfl) ?_
  refine lv_iload_n hx hb dX6_line_9 rfl (lv_at hl 3 rfl) ?_
  refine z_invSX (As := [.ref (WA k), .int (y)]) (rest := []) (n := 2) ⟨hx, hb, hml, hown, hts⟩ (t_X6_payNumbered l D cs w H.size (WA k) (WT k) (WP k) (WS k) (hd k) y (se k) (PR k) hlst hwi.2.2.2.1 hy9 h_wi h_pi) gX6_line_X6_payNumbered rfl ⟨by decide +kernel, by decide +kernel, by decide +kernel⟩ ⟨Nat.le_of_ble_eq_true rfl, Nat.le_of_ble_eq_true rfl⟩ hK hE hS rfl hl.1 rfl (Nat.le_of_ble_eq_true rfl) dX6_line_10 ⟨Nat.le_of_ble_eq_true rfl, Nat.le_of_ble_eq_true rfl⟩ (fun E9 ce9 q9 H9 locs9 hp9 hS9 h91 h92 h93 => z_out hS9 hnm hlocks h91 h92 h93 hp9 (Nat.le_of_ble_eq_true rfl) (Nat.le_of_ble_eq_true rfl)) (fun v9 u1 H locs hq hS => absurd hq id)
set_option maxHeartbeats 4000000 in
set_option maxRecDepth 100000 in
theorem t2_X6_correct (l : Launch) (D : va_G) (cs : Nat → ClassId) (w : zw) (sz : Nat) (of tbs dds wks aa : Nat) (tc dc wc brt yr wd : Int32) (WR : Nat → Option Nat) (WA WT WP WS hd : Nat → Nat) (se : Nat → Int64) (PR : Nat → Nat → Option Nat) (PA TE PP : Nat → Nat → Nat) (bo br : Nat → Nat → Int32) (V PT : Nat → Nat → Nat → Int64) (nw : Nat) (k : Nat) (y : Int32) (gross : Int64) (hlst : l.stackTraces = false) (hW : zWks cs w WR WA WT WP WS hd se PR PA TE PP bo br V PT nw) (hk : k < nw) (hy9 : ∀ j : Nat, j < hd k → y ≠ nI j) (h_f : w (of) = some (.inr (6, [.ref (tbs), .ref (dds), .ref (wks), .ref (aa), .int (tc), .int (dc), .int (wc), .int (brt), .int (yr), .int (wd)]))) (h_wr : w (wks) = some (eR cs 6 (10) (WR))) : zMX l D cs yX6_correct wsX6_correct 6 1 6 w sz [.ref (of), .int (nI k), .int (y), .long (gross)] (fun _ _ => False) (fun E9 => E9 = "java/util/NoSuchElementException") := by
  refine z_metX (cc := cX6_correct) (maxL := 7) (ret := (some .int)) (by decide) rfl (Nat.le_of_ble_eq_true rfl) ?_
  intro p e s m below meth c hx hb hr hml hown hts hlocks hnm hsz hK hE hS ls hl
  have hl : lv_has ls 7 [(0, .ref (of)), (1, .int (nI k)), (2, .int (y)), (3, .long (gross))] := hl
  refine lv_aload_n hx hb dX6_correct_0 rfl (lv_at hl 0 rfl) ?_
  refine lv_iload_n hx hb dX6_correct_1 rfl (lv_at hl 1 rfl) ?_
  refine z_rV (As := [.int (nI k)]) (rest := []) (n := 1) ⟨hx, hb, hml, hown, hts⟩ (c_X6_workerNumbered l D cs w s.heap.size of tbs dds wks aa tc dc wc brt yr wd WR WA nw k (⟨hW.1, fun i hi => (hW.2.1 i hi).1, hW.2.2⟩) hk h_f h_wr) gX6_correct_X6_workerNumbered rfl ⟨rfl, by decide +kernel, by decide +kernel, by decide +kernel⟩ ⟨Nat.le_of_ble_eq_true rfl, Nat.le_of_ble_eq_true rfl⟩ hK hE hS rfl h_f rfl hl.1 rfl (Nat.le_of_ble_eq_true rfl) dX6_correct_2 ⟨Nat.le_of_ble_eq_true rfl, Nat.le_of_ble_eq_true rfl⟩ (fun H locs hS => ?_)
  have hwi := hW.2.1 k hk
  have h_wi := hwi.2.1
  have h_pi := hwi.2.2.1
  refine lv_astore (lv' := [(5, .ref (WA k)), (0, .ref (of)), (1, .int (nI k)), (2, .int (y)), (3, .long (gross))]) hx hb dX6_correct_5 hl (by decide) rfl (fun ls hl => ?_)
  refine lv_aload hx hb dX6_correct_7 (lv_at hl 0 rfl) ?_
  refine lv_iload_n hx hb dX6_correct_9 rfl (lv_at hl 3 rfl) ?_
  refine z_invSX (As := [.ref (WA k), .int (y)]) (rest := []) (n := 2) ⟨hx, hb, hml, hown, hts⟩ (t_X6_payNumbered l D cs w H.size (WA k) (WT k) (WP k) (WS k) (hd k) y (se k) (PR k) hlst hwi.2.2.2.1 hy9 h_wi h_pi) gX6_correct_X6_payNumbered rfl ⟨by decide +kernel, by decide +kernel, by decide +kernel⟩ ⟨Nat.le_of_ble_eq_true rfl, Nat.le_of_ble_eq_true rfl⟩ hK hE hS rfl hl.1 rfl (Nat.le_of_ble_eq_true rfl) dX6_correct_10 ⟨Nat.le_of_ble_eq_true rfl, Nat.le_of_ble_eq_true rfl⟩ (fun E9 ce9 q9 H9 locs9 hp9 hS9 h91 h92 h93 => z_out hS9 hnm hlocks h91 h92 h93 hp9 (Nat.le_of_ble_eq_true rfl) (Nat.le_of_ble_eq_true rfl)) (fun v9 u1 H locs hq hS => absurd hq id)
set_option maxHeartbeats 4000000 in
set_option maxRecDepth 100000 in
theorem t3_X6_part (l : Launch) (D : va_G) (cs : Nat → ClassId) (w : zw) (sz : Nat) (of tbs dds wks aa : Nat) (tc dc wc brt yr wd : Int32) (WR : Nat → Option Nat) (WA WT WP WS hd : Nat → Nat) (se : Nat → Int64) (PR : Nat → Nat → Option Nat) (PA TE PP : Nat → Nat → Nat) (bo br : Nat → Nat → Int32) (V PT : Nat → Nat → Nat → Int64) (nw : Nat) (DR : Nat → Option Nat) (DA : Nat → Nat) (nd : Nat) (k : Nat) (y : Int32) (j : Nat) (hlst : l.stackTraces = false) (hW : zWks cs w WR WA WT WP WS hd se PR PA TE PP bo br V PT nw) (hD : zArrN 8 DR DA nd) (hk : k < nw) (hy9 : ∀ j : Nat, j < hd k → y ≠ nI j) (hj : j < nd) (h_f : w (of) = some (.inr (6, [.ref (tbs), .ref (dds), .ref (wks), .ref (aa), .int (tc), .int (dc), .int (wc), .int (brt), .int (yr), .int (wd)]))) (h_wr : w (wks) = some (eR cs 6 (10) (WR))) (h_dr : w (dds) = some (eR cs 3 (8) (DR))) : zMX l D cs yX6_part wsX6_part 2 1 6 w sz [.ref (of), .int (nI k), .int (y), .int (nI j)] (fun _ _ => False) (fun E9 => E9 = "java/util/NoSuchElementException") := by
  refine z_metX (cc := cX6_part) (maxL := 6) (ret := (some .long)) (by decide) rfl (Nat.le_of_ble_eq_true rfl) ?_
  intro p e s m below meth c hx hb hr hml hown hts hlocks hnm hsz hK hE hS ls hl
  have hl : lv_has ls 6 [(0, .ref (of)), (1, .int (nI k)), (2, .int (y)), (3, .int (nI j))] := hl
  refine lv_aload_n hx hb dX6_part_0 rfl (lv_at hl 0 rfl) ?_
  refine lv_iload_n hx hb dX6_part_1 rfl (lv_at hl 1 rfl) ?_
  refine z_rV (As := [.int (nI k)]) (rest := []) (n := 1) ⟨hx, hb, hml, hown, hts⟩ (c_X6_workerNumbered l D cs w s.heap.size of tbs dds wks aa tc dc wc brt yr wd WR WA nw k (⟨hW.1, fun i hi => (hW.2.1 i hi).1, hW.2.2⟩) hk h_f h_wr) gX6_part_X6_workerNumbered rfl ⟨rfl, by decide +kernel, by decide +kernel, by decide +kernel⟩ ⟨Nat.le_of_ble_eq_true rfl, Nat.le_of_ble_eq_true rfl⟩ hK hE hS rfl h_f rfl hl.1 rfl (Nat.le_of_ble_eq_true rfl) dX6_part_2 ⟨Nat.le_of_ble_eq_true rfl, Nat.le_of_ble_eq_true rfl⟩ (fun H locs hS => ?_)
  have hwi := hW.2.1 k hk
  have h_wi := hwi.2.1
  have h_pi := hwi.2.2.1
  refine lv_astore (lv' := [(4, .ref (WA k)), (0, .ref (of)), (1, .int (nI k)), (2, .int (y)), (3, .int (nI j))]) hx hb dX6_part_5 hl (by decide) rfl (fun ls hl => ?_)
  refine lv_aload_n hx hb dX6_part_7 rfl (lv_at hl 1 rfl) ?_
  refine lv_iload_n hx hb dX6_part_8 rfl (lv_at hl 4 rfl) ?_
  refine z_invV (As := [.int (nI j)]) (rest := []) (n := 1) ⟨hx, hb, hml, hown, hts⟩ (c_X6_needDeduction l D cs w H.size of tbs dds wks aa tc dc wc brt yr wd DR DA nd j hD hj h_f h_dr) gX6_part_X6_needDeduction rfl ⟨rfl, by decide +kernel, by decide +kernel, by decide +kernel⟩ ⟨Nat.le_of_ble_eq_true rfl, Nat.le_of_ble_eq_true rfl⟩ hK hE hS rfl h_f rfl hl.1 rfl (Nat.le_of_ble_eq_true rfl) dX6_part_9 ⟨Nat.le_of_ble_eq_true rfl, Nat.le_of_ble_eq_true rfl⟩ (fun v9 u1 H locs hq hS => ?_)
  obtain ⟨hv9, hw9⟩ := hq
  subst hv9
  rw [hw9] at hS
  refine W.eq (g2 := F0 m 12 ls []) rfl ?_
  refine lv_aload hx hb dX6_part_12 (lv_at hl 0 rfl) ?_
  refine lv_iload_n hx hb dX6_part_14 rfl (lv_at hl 3 rfl) ?_
  refine z_invSX (As := [.ref (WA k), .int (y)]) (rest := []) (n := 2) ⟨hx, hb, hml, hown, hts⟩ (t_X6_payNumbered l D cs w H.size (WA k) (WT k) (WP k) (WS k) (hd k) y (se k) (PR k) hlst hwi.2.2.2.1 hy9 h_wi h_pi) gX6_part_X6_payNumbered rfl ⟨by decide +kernel, by decide +kernel, by decide +kernel⟩ ⟨Nat.le_of_ble_eq_true rfl, Nat.le_of_ble_eq_true rfl⟩ hK hE hS rfl hl.1 rfl (Nat.le_of_ble_eq_true rfl) dX6_part_15 ⟨Nat.le_of_ble_eq_true rfl, Nat.le_of_ble_eq_true rfl⟩ (fun E9 ce9 q9 H9 locs9 hp9 hS9 h91 h92 h93 => z_out hS9 hnm hlocks h91 h92 h93 hp9 (Nat.le_of_ble_eq_true rfl) (Nat.le_of_ble_eq_true rfl)) (fun v9 u2 H locs hq hS => absurd hq id)
set_option maxHeartbeats 4000000 in
set_option maxRecDepth 100000 in
theorem t2_X6_statement (l : Launch) (D : va_G) (cs : Nat → ClassId) (w : zw) (sz : Nat) (of tbs dds wks aa ny : Nat) (tc dc wc brt wd : Int32) (WR : Nat → Option Nat) (WA WT WP WS hd : Nat → Nat) (se : Nat → Int64) (PR : Nat → Nat → Option Nat) (PA TE PP : Nat → Nat → Nat) (bo br : Nat → Nat → Int32) (V PT : Nat → Nat → Nat → Int64) (nw : Nat) (k : Nat) (y what : Int32) (hlst : l.stackTraces = false) (hW : zWks cs w WR WA WT WP WS hd se PR PA TE PP bo br V PT nw) (hk : k < nw) (hny : ny ≤ 6) (hy9 : ∀ j : Nat, j < ny → y ≠ nI j) (h_f : w (of) = some (.inr (6, [.ref (tbs), .ref (dds), .ref (wks), .ref (aa), .int (tc), .int (dc), .int (wc), .int (brt), .int (nI ny), .int (wd)]))) (h_wr : w (wks) = some (eR cs 6 (10) (WR))) : zMX l D cs yX6_statement wsX6_statement 2 1 6 w sz [.ref (of), .int (nI k), .int (y), .int (what)] (fun _ _ => False) (fun E9 => E9 = "java/util/NoSuchElementException") := by
  refine z_metX (cc := cX6_statement) (maxL := 5) (ret := (some .long)) (by decide) rfl (Nat.le_of_ble_eq_true rfl) ?_
  intro p e s m below meth c hx hb hr hml hown hts hlocks hnm hsz hK hE hS ls hl
  have hl : lv_has ls 5 [(0, .ref (of)), (1, .int (nI k)), (2, .int (y)), (3, .int (what))] := hl
  refine lv_aload_n hx hb dX6_statement_0 rfl (lv_at hl 0 rfl) ?_
  refine lv_iload_n hx hb dX6_statement_1 rfl (lv_at hl 1 rfl) ?_
  refine z_rV (As := [.int (nI k)]) (rest := []) (n := 1) ⟨hx, hb, hml, hown, hts⟩ (c_X6_workerNumbered l D cs w s.heap.size of tbs dds wks aa tc dc wc brt (nI ny) wd WR WA nw k (⟨hW.1, fun i hi => (hW.2.1 i hi).1, hW.2.2⟩) hk h_f h_wr) gX6_statement_X6_workerNumbered rfl ⟨rfl, by decide +kernel, by decide +kernel, by decide +kernel⟩ ⟨Nat.le_of_ble_eq_true rfl, Nat.le_of_ble_eq_true rfl⟩ hK hE hS rfl h_f rfl hl.1 rfl (Nat.le_of_ble_eq_true rfl) dX6_statement_2 ⟨Nat.le_of_ble_eq_true rfl, Nat.le_of_ble_eq_true rfl⟩ (fun H locs hS => ?_)
  have hwi := hW.2.1 k hk
  have h_wi := hwi.2.1
  have h_pi := hwi.2.2.1
  refine lv_astore (lv' := [(4, .ref (WA k)), (0, .ref (of)), (1, .int (nI k)), (2, .int (y)), (3, .int (what))]) hx hb dX6_statement_5 hl (by decide) rfl (fun ls hl => ?_)
  refine lv_iload_n hx hb dX6_statement_7 rfl (lv_at hl 3 rfl) ?_
  refine lv_if_lt (tgt := 19) hx hb dX6_statement_8 (by decide) (fun c8 => ?_) (fun c8 => ?_)
  · exact z_thrN (text := "that year has not ended") hx hb hlst hown hts (by decide +kernel) (by decide +kernel) (by decide +kernel) (by decide +kernel) (by decide +kernel) hE hS (hl.1.trans hml.symm) dX6_statement_19 dX6_statement_22 dX6_statement_23 dX6_statement_25 dX6_statement_28 hnm ⟨Nat.le_of_ble_eq_true rfl, Nat.le_of_ble_eq_true rfl, Nat.le_of_ble_eq_true rfl, Nat.le_of_ble_eq_true rfl⟩ hlocks rfl (Nat.le_of_ble_eq_true rfl) (Nat.le_of_ble_eq_true rfl)
  · refine lv_iload_n hx hb dX6_statement_11 rfl (lv_at hl 3 rfl) ?_
    refine lv_aload_n hx hb dX6_statement_12 rfl (lv_at hl 1 rfl) ?_
    refine z_get (C := RX6) (T := TX6) (N := 10) (v := .int (nI ny)) hx hb hts (by decide +kernel) hown hK hS h_f rfl 8 (by decide) (hts (.fieldLink RX6 47 "PayLedger" "year" "I") (by decide +kernel)) rfl dX6_statement_13 ?_
    refine lv_icmp_lt (tgt := 29) hx hb dX6_statement_16 (by decide) (fun cq9 => absurd cq9 (fun q9 => by obtain ⟨j9, h91, h92⟩ := zI32_of c8 q9 (by omega); exact hy9 j9 h91 h92)) (fun _ => ?_)
    exact z_thrN (text := "that year has not ended") hx hb hlst hown hts (by decide +kernel) (by decide +kernel) (by decide +kernel) (by decide +kernel) (by decide +kernel) hE hS (hl.1.trans hml.symm) dX6_statement_19 dX6_statement_22 dX6_statement_23 dX6_statement_25 dX6_statement_28 hnm ⟨Nat.le_of_ble_eq_true rfl, Nat.le_of_ble_eq_true rfl, Nat.le_of_ble_eq_true rfl, Nat.le_of_ble_eq_true rfl⟩ hlocks rfl (Nat.le_of_ble_eq_true rfl) (Nat.le_of_ble_eq_true rfl)
