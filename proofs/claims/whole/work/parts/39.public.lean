/-! ===== PayLedger: employ, close, throws of ask, pay, employ ===== -/
set_option maxHeartbeats 4000000 in
set_option maxRecDepth 100000 in
theorem t1_X6_ask (l : Launch) (D : va_G) (cs : Nat → ClassId) (w : zw) (sz : Nat) (of tbs dds wks aa : Nat) (tc dc wc brt yr wd : Int32) (WR : Nat → Option Nat) (WA : Nat → Nat) (nw : Nat) (x : Int32) (gross : Int64) (bon : Int32) (hlst : l.stackTraces = false) (hWn : zArrN 10 WR WA nw) (hx9 : ∀ k : Nat, k < nw → x ≠ nI k) (h_f : w (of) = some (.inr (6, [.ref (tbs), .ref (dds), .ref (wks), .ref (aa), .int (tc), .int (dc), .int (wc), .int (brt), .int (yr), .int (wd)]))) (h_wr : w (wks) = some (eR cs 6 (10) (WR))) : zMX l D cs yX6_ask wsX6_ask 6 3 27 w sz [.ref (of), .int (x), .long (gross), .int (bon)] (fun _ _ => False) (fun E9 => E9 = "java/lang/IndexOutOfBoundsException") := by
  refine z_metX (cc := cX6_ask) (maxL := 6) (ret := (some .long)) (by decide) rfl (Nat.le_of_ble_eq_true rfl) ?_
  intro p e s m below meth c hx hb hr hml hown hts hlocks hnm hsz hK hE hS ls hl
  have hl : lv_has ls 6 [(0, .ref (of)), (1, .int (x)), (2, .long (gross)), (4, .int (bon))] := hl
  refine lv_aload_n hx hb dX6_ask_0 rfl (lv_at hl 0 rfl) ?_
  refine lv_iload_n hx hb dX6_ask_1 rfl (lv_at hl 1 rfl) ?_
  refine z_invVX (As := [.int (x)]) (rest := []) (n := 1) ⟨hx, hb, hml, hown, hts⟩ (t_X6_workerNumbered l D cs w s.heap.size of tbs dds wks aa tc dc wc brt yr wd WR WA nw x hlst hWn hx9 h_f h_wr) gX6_ask_X6_workerNumbered rfl ⟨rfl, by decide +kernel, by decide +kernel, by decide +kernel⟩ ⟨Nat.le_of_ble_eq_true rfl, Nat.le_of_ble_eq_true rfl⟩ hK hE hS rfl h_f rfl hl.1 rfl (Nat.le_of_ble_eq_true rfl) dX6_ask_2 ⟨Nat.le_of_ble_eq_true rfl, Nat.le_of_ble_eq_true rfl⟩ (fun E9 ce9 q9 H9 locs9 hp9 hS9 h91 h92 h93 => z_out hS9 hnm hlocks h91 h92 h93 hp9 (Nat.le_of_ble_eq_true rfl) (Nat.le_of_ble_eq_true rfl)) (fun v9 u1 H locs hq hS => absurd hq id)
set_option maxHeartbeats 4000000 in
set_option maxRecDepth 100000 in
theorem t2_X6_ask (l : Launch) (D : va_G) (cs : Nat → ClassId) (w : zw) (sz : Nat) (of tbs dds wks aa : Nat) (tc dc wc brt yr wd : Int32) (WR : Nat → Option Nat) (WA : Nat → Nat) (nw : Nat) (kk wt pay sts n : Nat) (se : Int64) (PR : Nat → Option Nat) (gross : Int64) (bon : Int32) (hlst : l.stackTraces = false) (hWn : zArrN 10 WR WA nw) (hk : kk < nw) (hg : zUpTo gross 1000000000 = 0) (h_f : w (of) = some (.inr (6, [.ref (tbs), .ref (dds), .ref (wks), .ref (aa), .int (tc), .int (dc), .int (wc), .int (brt), .int (yr), .int (wd)]))) (h_wr : w (wks) = some (eR cs 6 (10) (WR))) (h_w : w (WA kk) = some (.inr (5, [.ref (wt), .ref (pay), .ref (sts), .int (nI n), .long (se)]))) (h_ps : w (pay) = some (eR cs 4 (60) (PR))) : zMX l D cs yX6_ask wsX6_ask 6 3 27 w sz [.ref (of), .int (nI kk), .long (gross), .int (bon)] (fun _ _ => False) (fun E9 => E9 = "java/lang/IllegalArgumentException") := by
  refine z_metX (cc := cX6_ask) (maxL := 6) (ret := (some .long)) (by decide) rfl (Nat.le_of_ble_eq_true rfl) ?_
  intro p e s m below meth c hx hb hr hml hown hts hlocks hnm hsz hK hE hS ls hl
  have hl : lv_has ls 6 [(0, .ref (of)), (1, .int (nI kk)), (2, .long (gross)), (4, .int (bon))] := hl
  refine lv_aload_n hx hb dX6_ask_0 rfl (lv_at hl 0 rfl) ?_
  refine lv_iload_n hx hb dX6_ask_1 rfl (lv_at hl 1 rfl) ?_
  refine z_rV (As := [.int (nI kk)]) (rest := []) (n := 1) ⟨hx, hb, hml, hown, hts⟩ (c_X6_workerNumbered l D cs w s.heap.size of tbs dds wks aa tc dc wc brt yr wd WR WA nw kk hWn hk h_f h_wr) gX6_ask_X6_workerNumbered rfl ⟨rfl, by decide +kernel, by decide +kernel, by decide +kernel⟩ ⟨Nat.le_of_ble_eq_true rfl, Nat.le_of_ble_eq_true rfl⟩ hK hE hS rfl h_f rfl hl.1 rfl (Nat.le_of_ble_eq_true rfl) dX6_ask_2 ⟨Nat.le_of_ble_eq_true rfl, Nat.le_of_ble_eq_true rfl⟩ (fun H locs hS => ?_)
  refine lv_astore (lv' := [(5, .ref (WA kk)), (0, .ref (of)), (1, .int (nI kk)), (2, .long (gross)), (4, .int (bon))]) hx hb dX6_ask_5 hl (by decide) rfl (fun ls hl => ?_)
  refine lv_aload_n hx hb dX6_ask_7 rfl (lv_at hl 1 rfl) ?_
  refine lv_aload hx hb dX6_ask_8 (lv_at hl 0 rfl) ?_
  refine lv_lload_n hx hb dX6_ask_10 rfl (lv_at hl 3 rfl) ?_
  refine lv_iload hx hb dX6_ask_11 (lv_at hl 4 rfl) ?_
  refine z_invVX (As := [.ref (WA kk), .long (gross), .int (bon)]) (rest := []) (n := 3) ⟨hx, hb, hml, hown, hts⟩ (t1_X6_workNext l D cs w H.size of tbs dds wks aa tc dc wc brt yr wd (WA kk) wt pay sts n se PR gross bon hlst hg h_f h_w h_ps) gX6_ask_X6_workNext rfl ⟨rfl, by decide +kernel, by decide +kernel, by decide +kernel⟩ ⟨Nat.le_of_ble_eq_true rfl, Nat.le_of_ble_eq_true rfl⟩ hK hE hS rfl h_f rfl hl.1 rfl (Nat.le_of_ble_eq_true rfl) dX6_ask_13 ⟨Nat.le_of_ble_eq_true rfl, Nat.le_of_ble_eq_true rfl⟩ (fun E9 ce9 q9 H9 locs9 hp9 hS9 h91 h92 h93 => z_out hS9 hnm hlocks h91 h92 h93 hp9 (Nat.le_of_ble_eq_true rfl) (Nat.le_of_ble_eq_true rfl)) (fun v9 u1 H locs hq hS => absurd hq id)
set_option maxHeartbeats 4000000 in
set_option maxRecDepth 100000 in
theorem t3_X6_ask (l : Launch) (D : va_G) (cs : Nat → ClassId) (w : zw) (sz : Nat) (of tbs dds wks aa : Nat) (tc dc wc brt yr wd : Int32) (WR : Nat → Option Nat) (WA : Nat → Nat) (nw : Nat) (kk wt pay sts n : Nat) (se : Int64) (PR : Nat → Option Nat) (gross : Int64) (bon : Int32) (hlst : l.stackTraces = false) (hWn : zArrN 10 WR WA nw) (hk : kk < nw) (hg : zUpTo gross 1000000000 = 1) (hn : n = 60) (h_f : w (of) = some (.inr (6, [.ref (tbs), .ref (dds), .ref (wks), .ref (aa), .int (tc), .int (dc), .int (wc), .int (brt), .int (yr), .int (wd)]))) (h_wr : w (wks) = some (eR cs 6 (10) (WR))) (h_w : w (WA kk) = some (.inr (5, [.ref (wt), .ref (pay), .ref (sts), .int (nI n), .long (se)]))) (h_ps : w (pay) = some (eR cs 4 (60) (PR))) : zMX l D cs yX6_ask wsX6_ask 6 4 40 w sz [.ref (of), .int (nI kk), .long (gross), .int (bon)] (fun _ _ => False) (fun E9 => E9 = "java/lang/UnsupportedOperationException") := by
  refine z_metX (cc := cX6_ask) (maxL := 6) (ret := (some .long)) (by decide) rfl (Nat.le_of_ble_eq_true rfl) ?_
  intro p e s m below meth c hx hb hr hml hown hts hlocks hnm hsz hK hE hS ls hl
  have hl : lv_has ls 6 [(0, .ref (of)), (1, .int (nI kk)), (2, .long (gross)), (4, .int (bon))] := hl
  refine lv_aload_n hx hb dX6_ask_0 rfl (lv_at hl 0 rfl) ?_
  refine lv_iload_n hx hb dX6_ask_1 rfl (lv_at hl 1 rfl) ?_
  refine z_rV (As := [.int (nI kk)]) (rest := []) (n := 1) ⟨hx, hb, hml, hown, hts⟩ (c_X6_workerNumbered l D cs w s.heap.size of tbs dds wks aa tc dc wc brt yr wd WR WA nw kk hWn hk h_f h_wr) gX6_ask_X6_workerNumbered rfl ⟨rfl, by decide +kernel, by decide +kernel, by decide +kernel⟩ ⟨Nat.le_of_ble_eq_true rfl, Nat.le_of_ble_eq_true rfl⟩ hK hE hS rfl h_f rfl hl.1 rfl (Nat.le_of_ble_eq_true rfl) dX6_ask_2 ⟨Nat.le_of_ble_eq_true rfl, Nat.le_of_ble_eq_true rfl⟩ (fun H locs hS => ?_)
  refine lv_astore (lv' := [(5, .ref (WA kk)), (0, .ref (of)), (1, .int (nI kk)), (2, .long (gross)), (4, .int (bon))]) hx hb dX6_ask_5 hl (by decide) rfl (fun ls hl => ?_)
  refine lv_aload_n hx hb dX6_ask_7 rfl (lv_at hl 1 rfl) ?_
  refine lv_aload hx hb dX6_ask_8 (lv_at hl 0 rfl) ?_
  refine lv_lload_n hx hb dX6_ask_10 rfl (lv_at hl 3 rfl) ?_
  refine lv_iload hx hb dX6_ask_11 (lv_at hl 4 rfl) ?_
  refine z_invVX (As := [.ref (WA kk), .long (gross), .int (bon)]) (rest := []) (n := 3) ⟨hx, hb, hml, hown, hts⟩ (t2_X6_workNext l D cs w H.size of tbs dds wks aa tc dc wc brt yr wd (WA kk) wt pay sts n se PR gross bon hlst hg hn h_f h_w h_ps) gX6_ask_X6_workNext rfl ⟨rfl, by decide +kernel, by decide +kernel, by decide +kernel⟩ ⟨Nat.le_of_ble_eq_true rfl, Nat.le_of_ble_eq_true rfl⟩ hK hE hS rfl h_f rfl hl.1 rfl (Nat.le_of_ble_eq_true rfl) dX6_ask_13 ⟨Nat.le_of_ble_eq_true rfl, Nat.le_of_ble_eq_true rfl⟩ (fun E9 ce9 q9 H9 locs9 hp9 hS9 h91 h92 h93 => z_out hS9 hnm hlocks h91 h92 h93 hp9 (Nat.le_of_ble_eq_true rfl) (Nat.le_of_ble_eq_true rfl)) (fun v9 u1 H locs hq hS => absurd hq id)
set_option maxHeartbeats 4000000 in
set_option maxRecDepth 100000 in
theorem t1_X6_pay (l : Launch) (D : va_G) (cs : Nat → ClassId) (w : zw) (sz : Nat) (of tbs dds wks aa : Nat) (tc dc wc brt yr wd : Int32) (WR : Nat → Option Nat) (WA : Nat → Nat) (nw : Nat) (x : Int32) (gross : Int64) (bon : Int32) (hlst : l.stackTraces = false) (hWn : zArrN 10 WR WA nw) (hx9 : ∀ k : Nat, k < nw → x ≠ nI k) (h_f : w (of) = some (.inr (6, [.ref (tbs), .ref (dds), .ref (wks), .ref (aa), .int (tc), .int (dc), .int (wc), .int (brt), .int (yr), .int (wd)]))) (h_wr : w (wks) = some (eR cs 6 (10) (WR))) : zMX l D cs yX6_pay wsX6_pay 6 3 27 w sz [.ref (of), .int (x), .long (gross), .int (bon)] (fun _ _ => False) (fun E9 => E9 = "java/lang/IndexOutOfBoundsException") := by
  refine z_metX (cc := cX6_pay) (maxL := 8) (ret := (some .int)) (by decide) rfl (Nat.le_of_ble_eq_true rfl) ?_
  intro p e s m below meth c hx hb hr hml hown hts hlocks hnm hsz hK hE hS ls hl
  have hl : lv_has ls 8 [(0, .ref (of)), (1, .int (x)), (2, .long (gross)), (4, .int (bon))] := hl
  refine lv_aload_n hx hb dX6_pay_0 rfl (lv_at hl 0 rfl) ?_
  refine lv_iload_n hx hb dX6_pay_1 rfl (lv_at hl 1 rfl) ?_
  refine z_invVX (As := [.int (x)]) (rest := []) (n := 1) ⟨hx, hb, hml, hown, hts⟩ (t_X6_workerNumbered l D cs w s.heap.size of tbs dds wks aa tc dc wc brt yr wd WR WA nw x hlst hWn hx9 h_f h_wr) gX6_pay_X6_workerNumbered rfl ⟨rfl, by decide +kernel, by decide +kernel, by decide +kernel⟩ ⟨Nat.le_of_ble_eq_true rfl, Nat.le_of_ble_eq_true rfl⟩ hK hE hS rfl h_f rfl hl.1 rfl (Nat.le_of_ble_eq_true rfl) dX6_pay_2 ⟨Nat.le_of_ble_eq_true rfl, Nat.le_of_ble_eq_true rfl⟩ (fun E9 ce9 q9 H9 locs9 hp9 hS9 h91 h92 h93 => z_out hS9 hnm hlocks h91 h92 h93 hp9 (Nat.le_of_ble_eq_true rfl) (Nat.le_of_ble_eq_true rfl)) (fun v9 u1 H locs hq hS => absurd hq id)
set_option maxHeartbeats 4000000 in
set_option maxRecDepth 100000 in
theorem t2_X6_pay (l : Launch) (D : va_G) (cs : Nat → ClassId) (w : zw) (sz : Nat) (of tbs dds wks aa : Nat) (tc dc wc brt yr wd : Int32) (WR : Nat → Option Nat) (WA : Nat → Nat) (nw : Nat) (kk wt pay sts n : Nat) (se : Int64) (PR : Nat → Option Nat) (gross : Int64) (bon : Int32) (hlst : l.stackTraces = false) (hWn : zArrN 10 WR WA nw) (hk : kk < nw) (hg : zUpTo gross 1000000000 = 0) (h_f : w (of) = some (.inr (6, [.ref (tbs), .ref (dds), .ref (wks), .ref (aa), .int (tc), .int (dc), .int (wc), .int (brt), .int (yr), .int (wd)]))) (h_wr : w (wks) = some (eR cs 6 (10) (WR))) (h_w : w (WA kk) = some (.inr (5, [.ref (wt), .ref (pay), .ref (sts), .int (nI n), .long (se)]))) (h_ps : w (pay) = some (eR cs 4 (60) (PR))) : zMX l D cs yX6_pay wsX6_pay 6 3 27 w sz [.ref (of), .int (nI kk), .long (gross), .int (bon)] (fun _ _ => False) (fun E9 => E9 = "java/lang/IllegalArgumentException") := by
  refine z_metX (cc := cX6_pay) (maxL := 8) (ret := (some .int)) (by decide) rfl (Nat.le_of_ble_eq_true rfl) ?_
  intro p e s m below meth c hx hb hr hml hown hts hlocks hnm hsz hK hE hS ls hl
  have hl : lv_has ls 8 [(0, .ref (of)), (1, .int (nI kk)), (2, .long (gross)), (4, .int (bon))] := hl
  refine lv_aload_n hx hb dX6_pay_0 rfl (lv_at hl 0 rfl) ?_
  refine lv_iload_n hx hb dX6_pay_1 rfl (lv_at hl 1 rfl) ?_
  refine z_rV (As := [.int (nI kk)]) (rest := []) (n := 1) ⟨hx, hb, hml, hown, hts⟩ (c_X6_workerNumbered l D cs w s.heap.size of tbs dds wks aa tc dc wc brt yr wd WR WA nw kk hWn hk h_f h_wr) gX6_pay_X6_workerNumbered rfl ⟨rfl, by decide +kernel, by decide +kernel, by decide +kernel⟩ ⟨Nat.le_of_ble_eq_true rfl, Nat.le_of_ble_eq_true rfl⟩ hK hE hS rfl h_f rfl hl.1 rfl (Nat.le_of_ble_eq_true rfl) dX6_pay_2 ⟨Nat.le_of_ble_eq_true rfl, Nat.le_of_ble_eq_true rfl⟩ (fun H locs hS => ?_)
  refine lv_astore (lv' := [(5, .ref (WA kk)), (0, .ref (of)), (1, .int (nI kk)), (2, .long (gross)), (4, .int (bon))]) hx hb dX6_pay_5 hl (by decide) rfl (fun ls hl => ?_)
  refine lv_aload_n hx hb dX6_pay_7 rfl (lv_at hl 1 rfl) ?_
  refine lv_aload hx hb dX6_pay_8 (lv_at hl 0 rfl) ?_
  refine lv_lload_n hx hb dX6_pay_10 rfl (lv_at hl 3 rfl) ?_
  refine lv_iload hx hb dX6_pay_11 (lv_at hl 4 rfl) ?_
  refine z_invVX (As := [.ref (WA kk), .long (gross), .int (bon)]) (rest := []) (n := 3) ⟨hx, hb, hml, hown, hts⟩ (t1_X6_workNext l D cs w H.size of tbs dds wks aa tc dc wc brt yr wd (WA kk) wt pay sts n se PR gross bon hlst hg h_f h_w h_ps) gX6_pay_X6_workNext rfl ⟨rfl, by decide +kernel, by decide +kernel, by decide +kernel⟩ ⟨Nat.le_of_ble_eq_true rfl, Nat.le_of_ble_eq_true rfl⟩ hK hE hS rfl h_f rfl hl.1 rfl (Nat.le_of_ble_eq_true rfl) dX6_pay_13 ⟨Nat.le_of_ble_eq_true rfl, Nat.le_of_ble_eq_true rfl⟩ (fun E9 ce9 q9 H9 locs9 hp9 hS9 h91 h92 h93 => z_out hS9 hnm hlocks h91 h92 h93 hp9 (Nat.le_of_ble_eq_true rfl) (Nat.le_of_ble_eq_true rfl)) (fun v9 u1 H locs hq hS => absurd hq id)
set_option maxHeartbeats 4000000 in
set_option maxRecDepth 100000 in
theorem t3_X6_pay (l : Launch) (D : va_G) (cs : Nat → ClassId) (w : zw) (sz : Nat) (of tbs dds wks aa : Nat) (tc dc wc brt yr wd : Int32) (WR : Nat → Option Nat) (WA : Nat → Nat) (nw : Nat) (kk wt pay sts n : Nat) (se : Int64) (PR : Nat → Option Nat) (gross : Int64) (bon : Int32) (hlst : l.stackTraces = false) (hWn : zArrN 10 WR WA nw) (hk : kk < nw) (hg : zUpTo gross 1000000000 = 1) (hn : n = 60) (h_f : w (of) = some (.inr (6, [.ref (tbs), .ref (dds), .ref (wks), .ref (aa), .int (tc), .int (dc), .int (wc), .int (brt), .int (yr), .int (wd)]))) (h_wr : w (wks) = some (eR cs 6 (10) (WR))) (h_w : w (WA kk) = some (.inr (5, [.ref (wt), .ref (pay), .ref (sts), .int (nI n), .long (se)]))) (h_ps : w (pay) = some (eR cs 4 (60) (PR))) : zMX l D cs yX6_pay wsX6_pay 6 4 40 w sz [.ref (of), .int (nI kk), .long (gross), .int (bon)] (fun _ _ => False) (fun E9 => E9 = "java/lang/UnsupportedOperationException") := by
  refine z_metX (cc := cX6_pay) (maxL := 8) (ret := (some .int)) (by decide) rfl (Nat.le_of_ble_eq_true rfl) ?_
  intro p e s m below meth c hx hb hr hml hown hts hlocks hnm hsz hK hE hS ls hl
  have hl : lv_has ls 8 [(0, .ref (of)), (1, .int (nI kk)), (2, .long (gross)), (4, .int (bon))] := hl
  refine lv_aload_n hx hb dX6_pay_0 rfl (lv_at hl 0 rfl) ?_
  refine lv_iload_n hx hb dX6_pay_1 rfl (lv_at hl 1 rfl) ?_
  refine z_rV (As := [.int (nI kk)]) (rest := []) (n := 1) ⟨hx, hb, hml, hown, hts⟩ (c_X6_workerNumbered l D cs w s.heap.size of tbs dds wks aa tc dc wc brt yr wd WR WA nw kk hWn hk h_f h_wr) gX6_pay_X6_workerNumbered rfl ⟨rfl, by decide +kernel, by decide +kernel, by decide +kernel⟩ ⟨Nat.le_of_ble_eq_true rfl, Nat.le_of_ble_eq_true rfl⟩ hK hE hS rfl h_f rfl hl.1 rfl (Nat.le_of_ble_eq_true rfl) dX6_pay_2 ⟨Nat.le_of_ble_eq_true rfl, Nat.le_of_ble_eq_true rfl⟩ (fun H locs hS => ?_)
  refine lv_astore (lv' := [(5, .ref (WA kk)), (0, .ref (of)), (1, .int (nI kk)), (2, .long (gross)), (4, .int (bon))]) hx hb dX6_pay_5 hl (by decide) rfl (fun ls hl => ?_)
  refine lv_aload_n hx hb dX6_pay_7 rfl (lv_at hl 1 rfl) ?_
  refine lv_aload hx hb dX6_pay_8 (lv_at hl 0 rfl) ?_
  refine lv_lload_n hx hb dX6_pay_10 rfl (lv_at hl 3 rfl) ?_
  refine lv_iload hx hb dX6_pay_11 (lv_at hl 4 rfl) ?_
  refine z_invVX (As := [.ref (WA kk), .long (gross), .int (bon)]) (rest := []) (n := 3) ⟨hx, hb, hml, hown, hts⟩ (t2_X6_workNext l D cs w H.size of tbs dds wks aa tc dc wc brt yr wd (WA kk) wt pay sts n se PR gross bon hlst hg hn h_f h_w h_ps) gX6_pay_X6_workNext rfl ⟨rfl, by decide +kernel, by decide +kernel, by decide +kernel⟩ ⟨Nat.le_of_ble_eq_true rfl, Nat.le_of_ble_eq_true rfl⟩ hK hE hS rfl h_f rfl hl.1 rfl (Nat.le_of_ble_eq_true rfl) dX6_pay_13 ⟨Nat.le_of_ble_eq_true rfl, Nat.le_of_ble_eq_true rfl⟩ (fun E9 ce9 q9 H9 locs9 hp9 hS9 h91 h92 h93 => z_out hS9 hnm hlocks h91 h92 h93 hp9 (Nat.le_of_ble_eq_true rfl) (Nat.le_of_ble_eq_true rfl)) (fun v9 u1 H locs hq hS => absurd hq id)
set_option maxHeartbeats 4000000 in
set_option maxRecDepth 100000 in
theorem t1_X6_employ (l : Launch) (D : va_G) (cs : Nat → ClassId) (w : zw) (sz : Nat) (of tbs dds wks aa : Nat) (tc dc wc brt yr wd : Int32) (TR : Nat → Option Nat) (TA : Nat → Nat) (nt : Nat) (x per met : Int32) (hlst : l.stackTraces = false) (hT : zArrN 6 TR TA nt) (hx9 : ∀ k : Nat, k < nt → x ≠ nI k) (h_f : w (of) = some (.inr (6, [.ref (tbs), .ref (dds), .ref (wks), .ref (aa), .int (tc), .int (dc), .int (wc), .int (brt), .int (yr), .int (wd)]))) (h_tr : w (tbs) = some (eR cs 5 (6) (TR))) : zMX l D cs yX6_employ wsX6_employ 3 1 6 w sz [.ref (of), .int (x), .int (per), .int (met)] (fun _ _ => False) (fun E9 => E9 = "java/lang/IndexOutOfBoundsException") := by
  refine z_metX (cc := cX6_employ) (maxL := 6) (ret := (some .int)) (by decide) rfl (Nat.le_of_ble_eq_true rfl) ?_
  intro p e s m below meth c hx hb hr hml hown hts hlocks hnm hsz hK hE hS ls hl
  have hl : lv_has ls 6 [(0, .ref (of)), (1, .int (x)), (2, .int (per)), (3, .int (met))] := hl
  refine lv_aload_n hx hb dX6_employ_0 rfl (lv_at hl 0 rfl) ?_
  refine lv_iload_n hx hb dX6_employ_1 rfl (lv_at hl 1 rfl) ?_
  refine lv_i2l (v := ((x : Int32).toInt64)) hx hb dX6_employ_2 rfl ?_
  refine z_invVX (As := [.long (((x : Int32).toInt64))]) (rest := []) (n := 1) ⟨hx, hb, hml, hown, hts⟩ (t_X6_tableNumbered l D cs w s.heap.size of tbs dds wks aa tc dc wc brt yr wd TR TA nt (x : Int32).toInt64 hlst hT (zi2l_ne (by have := hT.1; omega) hx9) h_f h_tr) gX6_employ_X6_tableNumbered rfl ⟨rfl, by decide +kernel, by decide +kernel, by decide +kernel⟩ ⟨Nat.le_of_ble_eq_true rfl, Nat.le_of_ble_eq_true rfl⟩ hK hE hS rfl h_f rfl hl.1 rfl (Nat.le_of_ble_eq_true rfl) dX6_employ_3 ⟨Nat.le_of_ble_eq_true rfl, Nat.le_of_ble_eq_true rfl⟩ (fun E9 ce9 q9 H9 locs9 hp9 hS9 h91 h92 h93 => z_out hS9 hnm hlocks h91 h92 h93 hp9 (Nat.le_of_ble_eq_true rfl) (Nat.le_of_ble_eq_true rfl)) (fun v9 u1 H locs hq hS => absurd hq id)
set_option maxHeartbeats 4000000 in
set_option maxRecDepth 100000 in
theorem t2_X6_employ (l : Launch) (D : va_G) (cs : Nat → ClassId) (w : zw) (sz : Nat) (of tbs dds wks aa : Nat) (tc dc wc brt yr wd : Int32) (TR : Nat → Option Nat) (TA : Nat → Nat) (nt : Nat) (k : Nat) (per met : Int32) (hlst : l.stackTraces = false) (hT : zArrN 6 TR TA nt) (hk : k < nt) (hper : zPerB per.toInt64 = 0) (h_f : w (of) = some (.inr (6, [.ref (tbs), .ref (dds), .ref (wks), .ref (aa), .int (tc), .int (dc), .int (wc), .int (brt), .int (yr), .int (wd)]))) (h_tr : w (tbs) = some (eR cs 5 (6) (TR))) : zMX l D cs yX6_employ wsX6_employ 3 1 6 w sz [.ref (of), .int (nI k), .int (per), .int (met)] (fun _ _ => False) (fun E9 => E9 = "java/lang/IllegalArgumentException") := by
  refine z_metX (cc := cX6_employ) (maxL := 6) (ret := (some .int)) (by decide) rfl (Nat.le_of_ble_eq_true rfl) ?_
  intro p e s m below meth c hx hb hr hml hown hts hlocks hnm hsz hK hE hS ls hl
  have hl : lv_has ls 6 [(0, .ref (of)), (1, .int (nI k)), (2, .int (per)), (3, .int (met))] := hl
  refine lv_aload_n hx hb dX6_employ_0 rfl (lv_at hl 0 rfl) ?_
  refine lv_iload_n hx hb dX6_employ_1 rfl (lv_at hl 1 rfl) ?_
  refine lv_i2l (v := ((nI k : Int32).toInt64)) hx hb dX6_employ_2 rfl ?_
  refine z_tl (y := lN k) (nI_l (by have := hT.1; omega)) ?_
  refine z_rV (As := [.long (lN k)]) (rest := []) (n := 1) ⟨hx, hb, hml, hown, hts⟩ (c_X6_tableNumbered l D cs w s.heap.size of tbs dds wks aa tc dc wc brt yr wd TR TA nt k hT hk h_f h_tr) gX6_employ_X6_tableNumbered rfl ⟨rfl, by decide +kernel, by decide +kernel, by decide +kernel⟩ ⟨Nat.le_of_ble_eq_true rfl, Nat.le_of_ble_eq_true rfl⟩ hK hE hS rfl h_f rfl hl.1 rfl (Nat.le_of_ble_eq_true rfl) dX6_employ_3 ⟨Nat.le_of_ble_eq_true rfl, Nat.le_of_ble_eq_true rfl⟩ (fun H locs hS => ?_)
  refine lv_astore (lv' := [(4, .ref (TA k)), (0, .ref (of)), (1, .int (nI k)), (2, .int (per)), (3, .int (met))]) hx hb dX6_employ_6 hl (by decide) rfl (fun ls hl => ?_)
  refine lv_iload_n hx hb dX6_employ_8 rfl (lv_at hl 3 rfl) ?_
  refine lv_i2l (v := ((per : Int32).toInt64)) hx hb dX6_employ_9 rfl ?_
  refine z_rS (As := [.long (((per : Int32).toInt64))]) (rest := []) (n := 1) ⟨hx, hb, hml, hown, hts⟩ (c_X6_isPeriods l D cs w H.size (per : Int32).toInt64) gX6_employ_X6_isPeriods rfl ⟨by decide +kernel, by decide +kernel, by decide +kernel⟩ ⟨Nat.le_of_ble_eq_true rfl, Nat.le_of_ble_eq_true rfl⟩ hK hE hS rfl hl.1 rfl (Nat.le_of_ble_eq_true rfl) dX6_employ_10 ⟨Nat.le_of_ble_eq_true rfl, Nat.le_of_ble_eq_true rfl⟩ (fun H locs hS => ?_)
  refine lv_if_eq (tgt := 25) hx hb dX6_employ_13 (by decide) (fun _ => ?_) (fun cq9 => absurd hper cq9)
  exact z_thr (text := "no such periods or method") hx hb hlst hown hts (by decide +kernel) (by decide +kernel) (by decide +kernel) zbad76 (by decide +kernel) (by decide +kernel) (by decide +kernel) (by decide +kernel) hE hS (hl.1.trans hml.symm) dX6_employ_25 dX6_employ_28 dX6_employ_29 dX6_employ_31 dX6_employ_34 hnm ⟨Nat.le_of_ble_eq_true rfl, Nat.le_of_ble_eq_true rfl, Nat.le_of_ble_eq_true rfl, Nat.le_of_ble_eq_true rfl⟩ hlocks rfl (Nat.le_of_ble_eq_true rfl) (Nat.le_of_ble_eq_true rfl)
set_option maxHeartbeats 4000000 in
set_option maxRecDepth 100000 in
theorem t3_X6_employ (l : Launch) (D : va_G) (cs : Nat → ClassId) (w : zw) (sz : Nat) (of tbs dds wks aa : Nat) (tc dc wc brt yr wd : Int32) (TR : Nat → Option Nat) (TA : Nat → Nat) (nt : Nat) (k : Nat) (per met : Int32) (hlst : l.stackTraces = false) (hT : zArrN 6 TR TA nt) (hk : k < nt) (hper : zPerB per.toInt64 = 1) (hmet : zUpTo met.toInt64 1 = 0) (h_f : w (of) = some (.inr (6, [.ref (tbs), .ref (dds), .ref (wks), .ref (aa), .int (tc), .int (dc), .int (wc), .int (brt), .int (yr), .int (wd)]))) (h_tr : w (tbs) = some (eR cs 5 (6) (TR))) : zMX l D cs yX6_employ wsX6_employ 3 1 6 w sz [.ref (of), .int (nI k), .int (per), .int (met)] (fun _ _ => False) (fun E9 => E9 = "java/lang/IllegalArgumentException") := by
  refine z_metX (cc := cX6_employ) (maxL := 6) (ret := (some .int)) (by decide) rfl (Nat.le_of_ble_eq_true rfl) ?_
  intro p e s m below meth c hx hb hr hml hown hts hlocks hnm hsz hK hE hS ls hl
  have hl : lv_has ls 6 [(0, .ref (of)), (1, .int (nI k)), (2, .int (per)), (3, .int (met))] := hl
  refine lv_aload_n hx hb dX6_employ_0 rfl (lv_at hl 0 rfl) ?_
  refine lv_iload_n hx hb dX6_employ_1 rfl (lv_at hl 1 rfl) ?_
  refine lv_i2l (v := ((nI k : Int32).toInt64)) hx hb dX6_employ_2 rfl ?_
  refine z_tl (y := lN k) (nI_l (by have := hT.1; omega)) ?_
  refine z_rV (As := [.long (lN k)]) (rest := []) (n := 1) ⟨hx, hb, hml, hown, hts⟩ (c_X6_tableNumbered l D cs w s.heap.size of tbs dds wks aa tc dc wc brt yr wd TR TA nt k hT hk h_f h_tr) gX6_employ_X6_tableNumbered rfl ⟨rfl, by decide +kernel, by decide +kernel, by decide +kernel⟩ ⟨Nat.le_of_ble_eq_true rfl, Nat.le_of_ble_eq_true rfl⟩ hK hE hS rfl h_f rfl hl.1 rfl (Nat.le_of_ble_eq_true rfl) dX6_employ_3 ⟨Nat.le_of_ble_eq_true rfl, Nat.le_of_ble_eq_true rfl⟩ (fun H locs hS => ?_)
  refine lv_astore (lv' := [(4, .ref (TA k)), (0, .ref (of)), (1, .int (nI k)), (2, .int (per)), (3, .int (met))]) hx hb dX6_employ_6 hl (by decide) rfl (fun ls hl => ?_)
  refine lv_iload_n hx hb dX6_employ_8 rfl (lv_at hl 3 rfl) ?_
  refine lv_i2l (v := ((per : Int32).toInt64)) hx hb dX6_employ_9 rfl ?_
  refine z_rS (As := [.long (((per : Int32).toInt64))]) (rest := []) (n := 1) ⟨hx, hb, hml, hown, hts⟩ (c_X6_isPeriods l D cs w H.size (per : Int32).toInt64) gX6_employ_X6_isPeriods rfl ⟨by decide +kernel, by decide +kernel, by decide +kernel⟩ ⟨Nat.le_of_ble_eq_true rfl, Nat.le_of_ble_eq_true rfl⟩ hK hE hS rfl hl.1 rfl (Nat.le_of_ble_eq_true rfl) dX6_employ_10 ⟨Nat.le_of_ble_eq_true rfl, Nat.le_of_ble_eq_true rfl⟩ (fun H locs hS => ?_)
  refine lv_if_eq (tgt := 25) hx hb dX6_employ_13 (by decide) (fun cq9 => absurd cq9 (by rw [hper]; decide)) (fun _ => ?_)
  refine lv_iload_n hx hb dX6_employ_16 rfl (lv_at hl 4 rfl) ?_
  refine lv_i2l (v := ((met : Int32).toInt64)) hx hb dX6_employ_17 rfl ?_
  refine lv_lconst (v := 1) hx hb dX6_employ_18 (by decide) ?_
  refine z_rS (As := [.long (((met : Int32).toInt64)), .long (1)]) (rest := []) (n := 2) ⟨hx, hb, hml, hown, hts⟩ (c_X6_isUpTo l D cs w H.size (met : Int32).toInt64 1) gX6_employ_X6_isUpTo rfl ⟨by decide +kernel, by decide +kernel, by decide +kernel⟩ ⟨Nat.le_of_ble_eq_true rfl, Nat.le_of_ble_eq_true rfl⟩ hK hE hS rfl hl.1 rfl (Nat.le_of_ble_eq_true rfl) dX6_employ_19 ⟨Nat.le_of_ble_eq_true rfl, Nat.le_of_ble_eq_true rfl⟩ (fun H locs hS => ?_)
  refine lv_if_ne (tgt := 35) hx hb dX6_employ_22 (by decide) (fun cq9 => absurd hmet cq9) (fun _ => ?_)
  exact z_thr (text := "no such periods or method") hx hb hlst hown hts (by decide +kernel) (by decide +kernel) (by decide +kernel) zbad76 (by decide +kernel) (by decide +kernel) (by decide +kernel) (by decide +kernel) hE hS (hl.1.trans hml.symm) dX6_employ_25 dX6_employ_28 dX6_employ_29 dX6_employ_31 dX6_employ_34 hnm ⟨Nat.le_of_ble_eq_true rfl, Nat.le_of_ble_eq_true rfl, Nat.le_of_ble_eq_true rfl, Nat.le_of_ble_eq_true rfl⟩ hlocks rfl (Nat.le_of_ble_eq_true rfl) (Nat.le_of_ble_eq_true rfl)
set_option maxHeartbeats 4000000 in
set_option maxRecDepth 100000 in
theorem t4_X6_employ (l : Launch) (D : va_G) (cs : Nat → ClassId) (w : zw) (sz : Nat) (of tbs dds wks aa : Nat) (tc dc brt yr wd : Int32) (TR : Nat → Option Nat) (TA : Nat → Nat) (nt : Nat) (WR : Nat → Option Nat) (k : Nat) (per met : Int32) (hlst : l.stackTraces = false) (hT : zArrN 6 TR TA nt) (hk : k < nt) (hper : zPerB per.toInt64 = 1) (hmet : zUpTo met.toInt64 1 = 1) (h_f : w (of) = some (.inr (6, [.ref (tbs), .ref (dds), .ref (wks), .ref (aa), .int (tc), .int (dc), .int (10), .int (brt), .int (yr), .int (wd)]))) (h_tr : w (tbs) = some (eR cs 5 (6) (TR))) (h_wr : w (wks) = some (eR cs 6 (10) (WR))) : zMX l D cs yX6_employ wsX6_employ 3 1 6 w sz [.ref (of), .int (nI k), .int (per), .int (met)] (fun _ _ => False) (fun E9 => E9 = "java/lang/UnsupportedOperationException") := by
  refine z_metX (cc := cX6_employ) (maxL := 6) (ret := (some .int)) (by decide) rfl (Nat.le_of_ble_eq_true rfl) ?_
  intro p e s m below meth c hx hb hr hml hown hts hlocks hnm hsz hK hE hS ls hl
  have hl : lv_has ls 6 [(0, .ref (of)), (1, .int (nI k)), (2, .int (per)), (3, .int (met))] := hl
  refine lv_aload_n hx hb dX6_employ_0 rfl (lv_at hl 0 rfl) ?_
  refine lv_iload_n hx hb dX6_employ_1 rfl (lv_at hl 1 rfl) ?_
  refine lv_i2l (v := ((nI k : Int32).toInt64)) hx hb dX6_employ_2 rfl ?_
  refine z_tl (y := lN k) (nI_l (by have := hT.1; omega)) ?_
  refine z_rV (As := [.long (lN k)]) (rest := []) (n := 1) ⟨hx, hb, hml, hown, hts⟩ (c_X6_tableNumbered l D cs w s.heap.size of tbs dds wks aa tc dc 10 brt yr wd TR TA nt k hT hk h_f h_tr) gX6_employ_X6_tableNumbered rfl ⟨rfl, by decide +kernel, by decide +kernel, by decide +kernel⟩ ⟨Nat.le_of_ble_eq_true rfl, Nat.le_of_ble_eq_true rfl⟩ hK hE hS rfl h_f rfl hl.1 rfl (Nat.le_of_ble_eq_true rfl) dX6_employ_3 ⟨Nat.le_of_ble_eq_true rfl, Nat.le_of_ble_eq_true rfl⟩ (fun H locs hS => ?_)
  refine lv_astore (lv' := [(4, .ref (TA k)), (0, .ref (of)), (1, .int (nI k)), (2, .int (per)), (3, .int (met))]) hx hb dX6_employ_6 hl (by decide) rfl (fun ls hl => ?_)
  refine lv_iload_n hx hb dX6_employ_8 rfl (lv_at hl 3 rfl) ?_
  refine lv_i2l (v := ((per : Int32).toInt64)) hx hb dX6_employ_9 rfl ?_
  refine z_rS (As := [.long (((per : Int32).toInt64))]) (rest := []) (n := 1) ⟨hx, hb, hml, hown, hts⟩ (c_X6_isPeriods l D cs w H.size (per : Int32).toInt64) gX6_employ_X6_isPeriods rfl ⟨by decide +kernel, by decide +kernel, by decide +kernel⟩ ⟨Nat.le_of_ble_eq_true rfl, Nat.le_of_ble_eq_true rfl⟩ hK hE hS rfl hl.1 rfl (Nat.le_of_ble_eq_true rfl) dX6_employ_10 ⟨Nat.le_of_ble_eq_true rfl, Nat.le_of_ble_eq_true rfl⟩ (fun H locs hS => ?_)
  refine lv_if_eq (tgt := 25) hx hb dX6_employ_13 (by decide) (fun cq9 => absurd cq9 (by rw [hper]; decide)) (fun _ => ?_)
  refine lv_iload_n hx hb dX6_employ_16 rfl (lv_at hl 4 rfl) ?_
  refine lv_i2l (v := ((met : Int32).toInt64)) hx hb dX6_employ_17 rfl ?_
  refine lv_lconst (v := 1) hx hb dX6_employ_18 (by decide) ?_
  refine z_rS (As := [.long (((met : Int32).toInt64)), .long (1)]) (rest := []) (n := 2) ⟨hx, hb, hml, hown, hts⟩ (c_X6_isUpTo l D cs w H.size (met : Int32).toInt64 1) gX6_employ_X6_isUpTo rfl ⟨by decide +kernel, by decide +kernel, by decide +kernel⟩ ⟨Nat.le_of_ble_eq_true rfl, Nat.le_of_ble_eq_true rfl⟩ hK hE hS rfl hl.1 rfl (Nat.le_of_ble_eq_true rfl) dX6_employ_19 ⟨Nat.le_of_ble_eq_true rfl, Nat.le_of_ble_eq_true rfl⟩ (fun H locs hS => ?_)
  refine lv_if_ne (tgt := 35) hx hb dX6_employ_22 (by decide) (fun _ => ?_) (fun cq9 => absurd cq9 (by rw [hmet]; decide))
  refine lv_aload_n hx hb dX6_employ_35 rfl (lv_at hl 1 rfl) ?_
  refine z_get (C := RX6) (T := TX6) (N := 10) (v := .int (10)) hx hb hts (by decide +kernel) hown hK hS h_f rfl 6 (by decide) (hts (.fieldLink RX6 41 "PayLedger" "workerCount" "I") (by decide +kernel)) rfl dX6_employ_36 ?_
  refine lv_istore (lv' := [(5, .int (10)), (4, .ref (TA k)), (0, .ref (of)), (1, .int (nI k)), (2, .int (per)), (3, .int (met))]) hx hb dX6_employ_39 hl (by decide) rfl (fun ls hl => ?_)
  refine lv_iload hx hb dX6_employ_41 (lv_at hl 0 rfl) ?_
  refine lv_if_lt (tgt := 56) hx hb dX6_employ_43 (by decide) (fun cq9 => absurd cq9 (by decide)) (fun _ => ?_)
  refine lv_iload hx hb dX6_employ_46 (lv_at hl 0 rfl) ?_
  refine lv_aload_n hx hb dX6_employ_48 rfl (lv_at hl 2 rfl) ?_
  refine z_get (C := RX6) (T := TX6) (N := 10) (v := .ref (wks)) hx hb hts (by decide +kernel) hown hK hS h_f rfl 2 (by decide) (hts (.fieldLink RX6 23 "PayLedger" "workers" "[LPayLedger$Worker;") (by decide +kernel)) rfl dX6_employ_49 ?_
  refine z_alen (t0 := 6) (v := 10) hx hb hK hS h_wr rfl rfl dX6_employ_52 ?_
  refine lv_icmp_lt (tgt := 66) hx hb dX6_employ_53 (by decide) (fun cq9 => absurd cq9 (by decide)) (fun _ => ?_)
  exact z_thr (text := "there are as many workers as can be") hx hb hlst hown hts (by decide +kernel) (by decide +kernel) (by decide +kernel) zbad57 (by decide +kernel) (by decide +kernel) (by decide +kernel) (by decide +kernel) hE hS (hl.1.trans hml.symm) dX6_employ_56 dX6_employ_59 dX6_employ_60 dX6_employ_62 dX6_employ_65 hnm ⟨Nat.le_of_ble_eq_true rfl, Nat.le_of_ble_eq_true rfl, Nat.le_of_ble_eq_true rfl, Nat.le_of_ble_eq_true rfl⟩ hlocks rfl (Nat.le_of_ble_eq_true rfl) (Nat.le_of_ble_eq_true rfl)
set_option maxHeartbeats 4000000 in
set_option maxRecDepth 100000 in
theorem c_X6_employ (l : Launch) (D : va_G) (cs : Nat → ClassId) (w : zw) (sz : Nat) (of tbs dds wks aa : Nat) (tc dc brt yr wd : Int32) (TR : Nat → Option Nat) (TA : Nat → Nat) (nt : Nat) (WR : Nat → Option Nat) (k nw fl ra n : Nat) (tk per met : Int32) (hT : zArrN 6 TR TA nt) (hk : k < nt) (hper : zPerB per.toInt64 = 1) (hmet : zUpTo met.toInt64 1 = 1) (hn : nw < 10) (h_f : w (of) = some (.inr (6, [.ref (tbs), .ref (dds), .ref (wks), .ref (aa), .int (tc), .int (dc), .int (nI nw), .int (brt), .int (yr), .int (wd)]))) (h_tr : w (tbs) = some (eR cs 5 (6) (TR))) (h_wr : w (wks) = some (eR cs 6 (10) (WR))) (h_t : w (TA k) = some (.inr (3, [.ref (fl), .ref (ra), .int (nI n), .int (tk)]))) : zM l D cs yX6_employ wsX6_employ 3 10 205 w sz [.ref (of), .int (nI k), .int (per), .int (met)] (fun r w2 => ∃ (wk te ps ss : Nat) (rr : Nat → Nat), r = some (.int (nI nw)) ∧ w wk = none ∧ w te = none ∧ w ps = none ∧ w ss = none ∧ (∀ i : Nat, i < 6 → w (rr i) = none) ∧ (∀ i j : Nat, i < 6 → j < 6 → rr i = rr j → i = j) ∧ w2 of = some (.inr (6, [.ref (tbs), .ref (dds), .ref (wks), .ref (aa), .int (tc), .int (dc), .int (nI (nw + 1)), .int (brt), .int (yr), .int (wd)])) ∧ w2 (TA k) = some (.inr (3, [.ref fl, .ref ra, .int (nI n), .int 1])) ∧ w2 wks = some (eR cs 6 10 (va_up WR nw (some wk))) ∧ w2 wk = some (.inr (5, [.ref te, .ref ps, .ref ss, .int 0, .long 0])) ∧ w2 te = some (.inr (4, [.ref (TA k), .int per, .int met, .long 0, .long 0, .long 0, .int 0])) ∧ w2 ps = some (eR cs 4 60 (fun _ => none)) ∧ w2 ss = some (eR cs 7 6 (fun i => if i < 6 then some (rr i) else none)) ∧ (∀ i : Nat, i < 6 → w2 (rr i) = some (eJ cs 11 (fun _ => 0))) ∧ ∀ a : Nat, a ≠ of → a ≠ TA k → a ≠ wks → a ≠ wk → a ≠ te → a ≠ ps → a ≠ ss → (∀ i : Nat, i < 6 → a ≠ rr i) → w2 a = w a) := by
  refine z_met (cc := cX6_employ) (maxL := 6) (ret := (some .int)) (by decide) rfl (Nat.le_of_ble_eq_true rfl) ?_
  intro p e s m below meth c hx hb hr hml hown hts hlocks hnm hsz hK hE hS ls hl
  have hl : lv_has ls 6 [(0, .ref (of)), (1, .int (nI k)), (2, .int (per)), (3, .int (met))] := hl
  refine lv_aload_n hx hb dX6_employ_0 rfl (lv_at hl 0 rfl) ?_
  refine lv_iload_n hx hb dX6_employ_1 rfl (lv_at hl 1 rfl) ?_
  refine lv_i2l (v := ((nI k : Int32).toInt64)) hx hb dX6_employ_2 rfl ?_
  refine z_tl (y := lN k) (nI_l (by have := hT.1; omega)) ?_
  refine z_rV (As := [.long (lN k)]) (rest := []) (n := 1) ⟨hx, hb, hml, hown, hts⟩ (c_X6_tableNumbered l D cs w s.heap.size of tbs dds wks aa tc dc (nI nw) brt yr wd TR TA nt k hT hk h_f h_tr) gX6_employ_X6_tableNumbered rfl ⟨rfl, by decide +kernel, by decide +kernel, by decide +kernel⟩ ⟨Nat.le_of_ble_eq_true rfl, Nat.le_of_ble_eq_true rfl⟩ hK hE hS rfl h_f rfl hl.1 rfl (Nat.le_of_ble_eq_true rfl) dX6_employ_3 ⟨Nat.le_of_ble_eq_true rfl, Nat.le_of_ble_eq_true rfl⟩ (fun H locs hS => ?_)
  refine lv_astore (lv' := [(4, .ref (TA k)), (0, .ref (of)), (1, .int (nI k)), (2, .int (per)), (3, .int (met))]) hx hb dX6_employ_6 hl (by decide) rfl (fun ls hl => ?_)
  refine lv_iload_n hx hb dX6_employ_8 rfl (lv_at hl 3 rfl) ?_
  refine lv_i2l (v := ((per : Int32).toInt64)) hx hb dX6_employ_9 rfl ?_
  refine z_rS (As := [.long (((per : Int32).toInt64))]) (rest := []) (n := 1) ⟨hx, hb, hml, hown, hts⟩ (c_X6_isPeriods l D cs w H.size (per : Int32).toInt64) gX6_employ_X6_isPeriods rfl ⟨by decide +kernel, by decide +kernel, by decide +kernel⟩ ⟨Nat.le_of_ble_eq_true rfl, Nat.le_of_ble_eq_true rfl⟩ hK hE hS rfl hl.1 rfl (Nat.le_of_ble_eq_true rfl) dX6_employ_10 ⟨Nat.le_of_ble_eq_true rfl, Nat.le_of_ble_eq_true rfl⟩ (fun H locs hS => ?_)
  refine lv_if_eq (tgt := 25) hx hb dX6_employ_13 (by decide) (fun cq9 => absurd cq9 (by rw [hper]; decide)) (fun _ => ?_)
  refine lv_iload_n hx hb dX6_employ_16 rfl (lv_at hl 4 rfl) ?_
  refine lv_i2l (v := ((met : Int32).toInt64)) hx hb dX6_employ_17 rfl ?_
  refine lv_lconst (v := 1) hx hb dX6_employ_18 (by decide) ?_
  refine z_rS (As := [.long (((met : Int32).toInt64)), .long (1)]) (rest := []) (n := 2) ⟨hx, hb, hml, hown, hts⟩ (c_X6_isUpTo l D cs w H.size (met : Int32).toInt64 1) gX6_employ_X6_isUpTo rfl ⟨by decide +kernel, by decide +kernel, by decide +kernel⟩ ⟨Nat.le_of_ble_eq_true rfl, Nat.le_of_ble_eq_true rfl⟩ hK hE hS rfl hl.1 rfl (Nat.le_of_ble_eq_true rfl) dX6_employ_19 ⟨Nat.le_of_ble_eq_true rfl, Nat.le_of_ble_eq_true rfl⟩ (fun H locs hS => ?_)
  refine lv_if_ne (tgt := 35) hx hb dX6_employ_22 (by decide) (fun _ => ?_) (fun cq9 => absurd cq9 (by rw [hmet]; decide))
  refine lv_aload_n hx hb dX6_employ_35 rfl (lv_at hl 1 rfl) ?_
  refine z_get (C := RX6) (T := TX6) (N := 10) (v := .int (nI nw)) hx hb hts (by decide +kernel) hown hK hS h_f rfl 6 (by decide) (hts (.fieldLink RX6 41 "PayLedger" "workerCount" "I") (by decide +kernel)) rfl dX6_employ_36 ?_
  refine lv_istore (lv' := [(5, .int (nI nw)), (4, .ref (TA k)), (0, .ref (of)), (1, .int (nI k)), (2, .int (per)), (3, .int (met))]) hx hb dX6_employ_39 hl (by decide) rfl (fun ls hl => ?_)
  refine lv_iload hx hb dX6_employ_41 (lv_at hl 0 rfl) ?_
  refine lv_if_lt (tgt := 56) hx hb dX6_employ_43 (by decide) (fun cq9 => absurd cq9 (nI_pos (by omega))) (fun _ => ?_)
  refine lv_iload hx hb dX6_employ_46 (lv_at hl 0 rfl) ?_
  refine lv_aload_n hx hb dX6_employ_48 rfl (lv_at hl 2 rfl) ?_
  refine z_get (C := RX6) (T := TX6) (N := 10) (v := .ref (wks)) hx hb hts (by decide +kernel) hown hK hS h_f rfl 2 (by decide) (hts (.fieldLink RX6 23 "PayLedger" "workers" "[LPayLedger$Worker;") (by decide +kernel)) rfl dX6_employ_49 ?_
  refine z_alen (t0 := 6) (v := 10) hx hb hK hS h_wr rfl rfl dX6_employ_52 ?_
  refine lv_icmp_lt (tgt := 66) hx hb dX6_employ_53 (by decide) (fun _ => ?_) (fun cq9 => absurd (nI_lt (b := 10) hn (by omega)) cq9)
  refine lv_aload hx hb dX6_employ_66 (lv_at hl 1 rfl) ?_
  refine lv_iconst (v := 1) hx hb dX6_employ_68 (by decide) ?_
  refine z_put (C := RX3) (T := TX3) (N := 4) (v := .int (1)) hx hb hts (by decide +kernel) tyX3 tyX3_ok nmX3 hown hK hS h_t rfl 3 (by decide) (hts (.fieldLink RX6 77 "PayLedger$Table" "taken" "Z") (by decide +kernel)) rfl (zb_narrow (Or.inr rfl)) (zb_fits (Or.inr rfl)) (Nat.le_of_ble_eq_true rfl) dX6_employ_69 (fun H locs hS => ?_)
  obtain ⟨w1, ew1⟩ : ∃ z : zw, z = va_up w (TA k) (some (.inr (3, [.ref (fl), .ref (ra), .int (nI n), .int (1)]))) := ⟨_, rfl⟩
  have hS : zS (zA w sz) D w1 s.heap H locs := by rw [ew1]; exact hS
  have h1_TAk : w1 (TA k) = some (.inr (3, [.ref (fl), .ref (ra), .int (nI n), .int (1)])) := by rw [ew1]; exact va_up_self _ _ _
  have h1_of : w1 (of) = some (.inr (6, [.ref (tbs), .ref (dds), .ref (wks), .ref (aa), .int (tc), .int (dc), .int (nI nw), .int (brt), .int (yr), .int (wd)])) := by rw [ew1]; exact (va_up_ne _ _ (zne h_f h_t (by intro q9; first | cases q9 | simp at q9))).trans h_f
  have h1_tbs : w1 (tbs) = some (eR cs 5 (6) (TR)) := by rw [ew1]; exact (va_up_ne _ _ (zne h_tr h_t (by intro q9; first | cases q9 | simp at q9))).trans h_tr
  have h1_wks : w1 (wks) = some (eR cs 6 (10) (WR)) := by rw [ew1]; exact (va_up_ne _ _ (zne h_wr h_t (by intro q9; first | cases q9 | simp at q9))).trans h_wr
  refine lv_aload_n hx hb dX6_employ_72 rfl (lv_at hl 2 rfl) ?_
  refine z_get (C := RX6) (T := TX6) (N := 10) (v := .ref (wks)) hx hb hts (by decide +kernel) hown hK hS h1_of rfl 2 (by decide) (hts (.fieldLink RX6 23 "PayLedger" "workers" "[LPayLedger$Worker;") (by decide +kernel)) rfl dX6_employ_73 ?_
  refine lv_iload hx hb dX6_employ_76 (lv_at hl 0 rfl) ?_
  refine z_new (ci := 5) (fs := [.null, .null, .null, .int (0), .long (0)]) (C := RX5) (T := TX5) (N := 5) hx hb hts (by decide +kernel) tyX5 tyX5_ok hown (hts (.classLink RX6 21 RX5) (by decide +kernel)) (hts (.instantiable RX5 5) (by decide +kernel)) (hts (.initialized RX5) (by decide +kernel)) hK hS rfl (by decide +kernel) (Nat.le_of_ble_eq_true rfl) (Nat.le_of_ble_eq_true rfl) dX6_employ_78 (fun wk H h_nwk hS => ?_)
  obtain ⟨w2, ew2⟩ : ∃ z : zw, z = va_up w1 (wk) (some (.inr (5, [.null, .null, .null, .int (0), .long (0)]))) := ⟨_, rfl⟩
  have hS : zS (zA w sz) D w2 s.heap H locs := by rw [ew2]; exact hS
  have h2_wk : w2 (wk) = some (.inr (5, [.null, .null, .null, .int (0), .long (0)])) := by rw [ew2]; exact va_up_self _ _ _
  have h2_of : w2 (of) = some (.inr (6, [.ref (tbs), .ref (dds), .ref (wks), .ref (aa), .int (tc), .int (dc), .int (nI nw), .int (brt), .int (yr), .int (wd)])) := by rw [ew2]; exact (va_up_ne _ _ (fun q9 => by rw [q9] at h1_of; rw [h_nwk] at h1_of; cases h1_of)).trans h1_of
  have h2_tbs : w2 (tbs) = some (eR cs 5 (6) (TR)) := by rw [ew2]; exact (va_up_ne _ _ (fun q9 => by rw [q9] at h1_tbs; rw [h_nwk] at h1_tbs; cases h1_tbs)).trans h1_tbs
  have h2_wks : w2 (wks) = some (eR cs 6 (10) (WR)) := by rw [ew2]; exact (va_up_ne _ _ (fun q9 => by rw [q9] at h1_wks; rw [h_nwk] at h1_wks; cases h1_wks)).trans h1_wks
  have h2_TAk : w2 (TA k) = some (.inr (3, [.ref (fl), .ref (ra), .int (nI n), .int (1)])) := by rw [ew2]; exact (va_up_ne _ _ (fun q9 => by rw [q9] at h1_TAk; rw [h_nwk] at h1_TAk; cases h1_TAk)).trans h1_TAk
  have hz_wk : w (wk) = none := by
    have q9 := h_nwk
    rw [ew1] at q9
    have q9 := (zup_none q9).2
    exact q9
  refine lv_dup hx hb dX6_employ_81 rfl ?_
  refine lv_aload hx hb dX6_employ_82 (lv_at hl 1 rfl) ?_
  refine lv_iload_n hx hb dX6_employ_84 rfl (lv_at hl 4 rfl) ?_
  refine lv_iload_n hx hb dX6_employ_85 rfl (lv_at hl 5 rfl) ?_
  refine z_invI (b := wk) (As := [.ref (TA k), .int (per), .int (met)]) (rest := [.ref (wk), .int (nI nw), .ref (wks)]) (n := 3) ⟨hx, hb, hml, hown, hts⟩ (c_X5_init l D cs w2 H.size wk (TA k) per met h2_wk) gX6_employ_X5_init rfl (hts (.initialized RX5) (by decide +kernel)) (hts (.methodLink RX6 131 yX5_init) (by decide +kernel)) (hts (.instanceMethod yX5_init) (by decide +kernel)) rfl ⟨by decide +kernel, by decide +kernel, by decide +kernel⟩ ⟨Nat.le_of_ble_eq_true rfl, Nat.le_of_ble_eq_true rfl⟩ hK hE hS rfl hl.1 rfl (Nat.le_of_ble_eq_true rfl) dX6_employ_86 ⟨Nat.le_of_ble_eq_true rfl, Nat.le_of_ble_eq_true rfl⟩ (fun v9 u3 H locs hq hS => ?_)
  obtain ⟨rfl, te, ps, ss, rr, hf1, hf2, hf3, hf4, hf5, hf6, hf7, hf8, hf9, hf10, hf11⟩ := hq
  have h3_of : u3 (of) = some (.inr (6, [.ref (tbs), .ref (dds), .ref (wks), .ref (aa), .int (tc), .int (dc), .int (nI nw), .int (brt), .int (yr), .int (wd)])) := (hf11 (of) (zne h2_of h2_wk (by intro q9; first | cases q9 | simp at q9)) (znone_ne hf1 h2_of) (znone_ne hf2 h2_of) (znone_ne hf3 h2_of) (fun i9 hi9 => znone_ne (hf4 i9 hi9) h2_of)).trans h2_of
  have h3_tbs : u3 (tbs) = some (eR cs 5 (6) (TR)) := (hf11 (tbs) (zne h2_tbs h2_wk (by intro q9; first | cases q9 | simp at q9)) (znone_ne hf1 h2_tbs) (znone_ne hf2 h2_tbs) (znone_ne hf3 h2_tbs) (fun i9 hi9 => znone_ne (hf4 i9 hi9) h2_tbs)).trans h2_tbs
  have h3_wks : u3 (wks) = some (eR cs 6 (10) (WR)) := (hf11 (wks) (zne h2_wks h2_wk (by intro q9; first | cases q9 | simp at q9)) (znone_ne hf1 h2_wks) (znone_ne hf2 h2_wks) (znone_ne hf3 h2_wks) (fun i9 hi9 => znone_ne (hf4 i9 hi9) h2_wks)).trans h2_wks
  have h3_TAk : u3 (TA k) = some (.inr (3, [.ref (fl), .ref (ra), .int (nI n), .int (1)])) := (hf11 (TA k) (zne h2_TAk h2_wk (by intro q9; first | cases q9 | simp at q9)) (znone_ne hf1 h2_TAk) (znone_ne hf2 h2_TAk) (znone_ne hf3 h2_TAk) (fun i9 hi9 => znone_ne (hf4 i9 hi9) h2_TAk)).trans h2_TAk
  refine W.eq (g2 := F0 m 89 ls [.ref (wk), .int (nI nw), .ref (wks)]) rfl ?_
  refine z_aast hx hb hK hS h3_wks rfl hf6 rfl (vp_in_nI hn (by omega)) dX6_employ_89 (fun H locs hS => ?_)
  obtain ⟨w4, ew4⟩ : ∃ z : zw, z = va_up u3 (wks) (some (eR cs 6 (10) (va_up (WR) (nI nw : Int32).toNatClampNeg (some (wk))))) := ⟨_, rfl⟩
  have hS : zS (zA w sz) D w4 s.heap H locs := by rw [ew4]; exact hS
  have h4_wks : w4 (wks) = some (eR cs 6 (10) (va_up (WR) (nI nw : Int32).toNatClampNeg (some (wk)))) := by rw [ew4]; exact va_up_self _ _ _
  have h4_of : w4 (of) = some (.inr (6, [.ref (tbs), .ref (dds), .ref (wks), .ref (aa), .int (tc), .int (dc), .int (nI nw), .int (brt), .int (yr), .int (wd)])) := by rw [ew4]; exact (va_up_ne _ _ (zne h3_of h3_wks (by intro q9; first | cases q9 | simp at q9))).trans h3_of
  have h4_tbs : w4 (tbs) = some (eR cs 5 (6) (TR)) := by rw [ew4]; exact (va_up_ne _ _ (zne h3_tbs h3_wks (by intro q9; first | cases q9 | simp at q9))).trans h3_tbs
  have h4_TAk : w4 (TA k) = some (.inr (3, [.ref (fl), .ref (ra), .int (nI n), .int (1)])) := by rw [ew4]; exact (va_up_ne _ _ (zne h3_TAk h3_wks (by intro q9; first | cases q9 | simp at q9))).trans h3_TAk
  have h4_wk : w4 (wk) = some (.inr (5, [.ref (te), .ref (ps), .ref (ss), .int (0), .long (0)])) := by rw [ew4]; exact (va_up_ne _ _ (zne hf6 h3_wks (by intro q9; first | cases q9 | simp at q9))).trans hf6
  have h4_te : w4 (te) = some (.inr (4, [.ref (TA k), .int (per), .int (met), .long (0), .long (0), .long (0), .int (0)])) := by rw [ew4]; exact (va_up_ne _ _ (zne hf7 h3_wks (by intro q9; first | cases q9 | simp at q9))).trans hf7
  have h4_ps : w4 (ps) = some (eR cs 4 (60) (fun _ => none)) := by rw [ew4]; exact (va_up_ne _ _ (zne hf8 h3_wks (by intro q9; first | cases q9 | simp at q9))).trans hf8
  have h4_ss : w4 (ss) = some (eR cs 7 (6) (fun i => if i < 6 then some (rr i) else none)) := by rw [ew4]; exact (va_up_ne _ _ (zne hf9 h3_wks (by intro q9; first | cases q9 | simp at q9))).trans hf9
  rw [show (eR cs 6 (10) (va_up (WR) (nI nw : Int32).toNatClampNeg (some (wk)))) = (eR cs 6 (10) (va_up WR nw (some wk))) from (by rw [nI_clamp (by omega)])] at h4_wks
  refine lv_aload_n hx hb dX6_employ_90 rfl (lv_at hl 2 rfl) ?_
  refine lv_iload hx hb dX6_employ_91 (lv_at hl 0 rfl) ?_
  refine lv_iconst (v := 1) hx hb dX6_employ_93 (by decide) ?_
  refine lv_iadd hx hb dX6_employ_94 ?_
  refine z_ti (y := nI (nw + 1)) (nI_1 nw) ?_
  refine z_put (C := RX6) (T := TX6) (N := 10) (v := .int (nI (nw + 1))) hx hb hts (by decide +kernel) tyX6 tyX6_ok nmX6 hown hK hS h4_of rfl 6 (by decide) (hts (.fieldLink RX6 41 "PayLedger" "workerCount" "I") (by decide +kernel)) rfl rfl rfl (Nat.le_of_ble_eq_true rfl) dX6_employ_95 (fun H locs hS => ?_)
  obtain ⟨w5, ew5⟩ : ∃ z : zw, z = va_up w4 (of) (some (.inr (6, [.ref (tbs), .ref (dds), .ref (wks), .ref (aa), .int (tc), .int (dc), .int (nI (nw + 1)), .int (brt), .int (yr), .int (wd)]))) := ⟨_, rfl⟩
  have hS : zS (zA w sz) D w5 s.heap H locs := by rw [ew5]; exact hS
  have h5_of : w5 (of) = some (.inr (6, [.ref (tbs), .ref (dds), .ref (wks), .ref (aa), .int (tc), .int (dc), .int (nI (nw + 1)), .int (brt), .int (yr), .int (wd)])) := by rw [ew5]; exact va_up_self _ _ _
  have h5_tbs : w5 (tbs) = some (eR cs 5 (6) (TR)) := by rw [ew5]; exact (va_up_ne _ _ (zne h4_tbs h4_of (by intro q9; first | cases q9 | simp at q9))).trans h4_tbs
  have h5_TAk : w5 (TA k) = some (.inr (3, [.ref (fl), .ref (ra), .int (nI n), .int (1)])) := by rw [ew5]; exact (va_up_ne _ _ (zne h4_TAk h4_of (by intro q9; first | cases q9 | simp at q9))).trans h4_TAk
  have h5_wk : w5 (wk) = some (.inr (5, [.ref (te), .ref (ps), .ref (ss), .int (0), .long (0)])) := by rw [ew5]; exact (va_up_ne _ _ (zne h4_wk h4_of (by intro q9; first | cases q9 | simp at q9))).trans h4_wk
  have h5_te : w5 (te) = some (.inr (4, [.ref (TA k), .int (per), .int (met), .long (0), .long (0), .long (0), .int (0)])) := by rw [ew5]; exact (va_up_ne _ _ (zne h4_te h4_of (by intro q9; first | cases q9 | simp at q9))).trans h4_te
  have h5_ps : w5 (ps) = some (eR cs 4 (60) (fun _ => none)) := by rw [ew5]; exact (va_up_ne _ _ (zne h4_ps h4_of (by intro q9; first | cases q9 | simp at q9))).trans h4_ps
  have h5_ss : w5 (ss) = some (eR cs 7 (6) (fun i => if i < 6 then some (rr i) else none)) := by rw [ew5]; exact (va_up_ne _ _ (zne h4_ss h4_of (by intro q9; first | cases q9 | simp at q9))).trans h4_ss
  have h5_wks : w5 (wks) = some (eR cs 6 (10) (va_up WR nw (some wk))) := by rw [ew5]; exact (va_up_ne _ _ (zne h4_wks h4_of (by intro q9; first | cases q9 | simp at q9))).trans h4_wks
  refine lv_iload hx hb dX6_employ_98 (lv_at hl 0 rfl) ?_
  have hrr : ∀ i : Nat, i < 6 → w5 (rr i) = some (eJ cs 11 (fun _ => 0)) := by
    intro i hi
    have q1 : rr i ≠ wks := zne (hf10 i hi) h3_wks (by intro q9; first | cases q9 | simp at q9)
    have q2 : rr i ≠ of := zne (hf10 i hi) h3_of (by intro q9; first | cases q9 | simp at q9)
    rw [ew5, va_up_ne _ _ (q2), ew4, va_up_ne _ _ (q1)]
    exact hf10 i hi
  have hfr : ∀ a : Nat, a ≠ of → a ≠ TA k → a ≠ wks → a ≠ wk → a ≠ te → a ≠ ps → a ≠ ss → (∀ i : Nat, i < 6 → a ≠ rr i) → w5 a = w a := by
    intro a a1 a2 a3 a4 a5 a6 a7 a8
    rw [ew5, va_up_ne _ _ (a1), ew4, va_up_ne _ _ (a3), hf11 a a4 a5 a6 a7 a8, ew2, va_up_ne _ _ (a4), ew1, va_up_ne _ _ (a2)]
  have hz_te : w te = none := by
    have q9 := hf1
    rw [ew2] at q9
    have q9 := (zup_none q9).2
    rw [ew1] at q9
    have q9 := (zup_none q9).2
    exact q9
  have hz_ps : w ps = none := by
    have q9 := hf2
    rw [ew2] at q9
    have q9 := (zup_none q9).2
    rw [ew1] at q9
    have q9 := (zup_none q9).2
    exact q9
  have hz_ss : w ss = none := by
    have q9 := hf3
    rw [ew2] at q9
    have q9 := (zup_none q9).2
    rw [ew1] at q9
    have q9 := (zup_none q9).2
    exact q9
  have hzrr : ∀ i : Nat, i < 6 → w (rr i) = none := by
    intro i hi
    have q9 := hf4 i hi
    rw [ew2] at q9
    have q9 := (zup_none q9).2
    rw [ew1] at q9
    have q9 := (zup_none q9).2
    exact q9
  exact z_iret hx hb hr hlocks hS (Nat.le_of_ble_eq_true rfl) (Nat.le_of_ble_eq_true rfl) dX6_employ_100 ⟨wk, te, ps, ss, rr, rfl, hz_wk, hz_te, hz_ps, hz_ss, hzrr, hf5, h5_of, h5_TAk, h5_wks, h5_wk, h5_te, h5_ps, h5_ss, hrr, hfr⟩
set_option maxHeartbeats 4000000 in
set_option maxRecDepth 100000 in
theorem c_X6_close (l : Launch) (D : va_G) (cs : Nat → ClassId) (w : zw) (sz : Nat) (of tbs dds wks aa y : Nat) (tc dc wc brt wd : Int32) (WR : Nat → Option Nat) (WA WT WP WS hd : Nat → Nat) (se : Nat → Int64) (PR : Nat → Nat → Option Nat) (PA TE PP : Nat → Nat → Nat) (bo br : Nat → Nat → Int32) (V PT : Nat → Nat → Nat → Int64) (nw : Nat) (tx : Nat → Nat) (pe me : Nat → Int32) (re cr ex : Nat → Int64) (en : Nat → Int32) (TA TF TG tn : Nat → Nat) (FF : Nat → Nat → Int64) (GF : Nat → Nat → Int32) (tt : Nat → Int32) (nb : Nat) (SR : Nat → Nat → Option Nat) (SA : Nat → Nat) (SV : Nat → Nat → Int64) (hW : zWks cs w WR WA WT WP WS hd se PR PA TE PP bo br V PT nw) (hy : y < 6) (how : ¬ ∃ k : Nat, k < nw ∧ ¬ zTotal (bo k) (V k) (hd k) (se k) 10 = 0) (hTm : zTerm w WT tx TA pe me re cr ex en nb nw) (hTb : zTabs cs w TA TF TG tn FF GF tt nb) (hS9 : ∀ k : Nat, k < nw → w (WS k) = some (eR cs 7 6 (SR k)) ∧ SR k y = some (SA k) ∧ w (SA k) = some (eJ cs 11 (SV k)) ∧ True) (hWA : ∀ i j : Nat, i < nw → j < nw → WA i = WA j → i = j) (hSA : ∀ i j : Nat, i < nw → j < nw → SA i = SA j → i = j) (h_f : w (of) = some (.inr (6, [.ref (tbs), .ref (dds), .ref (wks), .ref (aa), .int (tc), .int (dc), .int (wc), .int (brt), .int (nI y), .int (wd)]))) (h_wr : w (wks) = some (eR cs 6 (10) (WR))) : zM l D cs yX6_close wsX6_close 5 0 0 w sz [.ref (of)] (fun r w2 => r = some (.int (nI y)) ∧ (∀ k : Nat, k < nw → w2 (WA k) = some (.inr (5, [.ref (WT k), .ref (WP k), .ref (WS k), .int 0, .long 0])) ∧ w2 (SA k) = some (eJ cs 11 (zStm (bo k) (V k) (hd k) (se k) (zDuty (FF (tx k)) (GF (tx k)) (tn (tx k)) (re k) (cr k) (zTot (bo k) (V k) (hd k) 2)) (SV k)))) ∧ w2 of = some (.inr (6, [.ref (tbs), .ref (dds), .ref (wks), .ref (aa), .int (tc), .int (dc), .int (wc), .int (brt), .int (nI (y + 1)), .int (wd)])) ∧ ∀ a : Nat, a ≠ of → (∀ k : Nat, k < nw → a ≠ WA k ∧ a ≠ SA k) → w2 a = w a) := by
  refine z_met (cc := cX6_close) (maxL := 6) (ret := (some .int)) (by decide) rfl (Nat.le_of_ble_eq_true rfl) ?_
  intro p e s m below meth c hx hb hr hml hown hts hlocks hnm hsz hK hE hS ls hl
  have hl : lv_has ls 6 [(0, .ref (of))] := hl
  have h_f0 := h_f
  have L53 : ∀ (i : Nat), ∀ (u : zw), (hi : i ≤ 10) → (hdone : ∀ k : Nat, k < i → k < nw → u (WA k) = some (.inr (5, [.ref (WT k), .ref (WP k), .ref (WS k), .int 0, .long 0])) ∧ u (SA k) = some (eJ cs 11 (zStm (bo k) (V k) (hd k) (se k) (zDuty (FF (tx k)) (GF (tx k)) (tn (tx k)) (re k) (cr k) (zTot (bo k) (V k) (hd k) 2)) (SV k)))) → (htodo : ∀ k : Nat, i ≤ k → k < nw → u (WA k) = some (.inr (5, [.ref (WT k), .ref (WP k), .ref (WS k), .int (nI (hd k)), .long (se k)])) ∧ u (SA k) = some (eJ cs 11 (SV k))) → (hfr : ∀ a : Nat, (∀ k : Nat, k < nw → a ≠ WA k ∧ a ≠ SA k) → u a = w a) → (h_f : u (of) = some (.inr (6, [.ref (tbs), .ref (dds), .ref (wks), .ref (aa), .int (tc), .int (dc), .int (wc), .int (brt), .int (nI y), .int (wd)]))) → (h_wr : u (wks) = some (eR cs 6 (10) (WR))) → ∀ (H : Heap) (locs : List Loc) (ls : Array Slot), zS (zA w sz) D u s.heap H locs → lv_has ls 6 [(4, .int (nI i)), (3, .int (10)), (2, .ref (wks)), (1, .int (nI y)), (0, .ref (of))] → W p l e (zR 5 0 0) s m [.ref (of)].toArray below meth c H locs 0 0 (MQ below (zQ D w sz (fun r w2 => r = some (.int (nI y)) ∧ (∀ k : Nat, k < nw → w2 (WA k) = some (.inr (5, [.ref (WT k), .ref (WP k), .ref (WS k), .int 0, .long 0])) ∧ w2 (SA k) = some (eJ cs 11 (zStm (bo k) (V k) (hd k) (se k) (zDuty (FF (tx k)) (GF (tx k)) (tn (tx k)) (re k) (cr k) (zTot (bo k) (V k) (hd k) 2)) (SV k)))) ∧ w2 of = some (.inr (6, [.ref (tbs), .ref (dds), .ref (wks), .ref (aa), .int (tc), .int (dc), .int (wc), .int (brt), .int (nI (y + 1)), .int (wd)])) ∧ ∀ a : Nat, a ≠ of → (∀ k : Nat, k < nw → a ≠ WA k ∧ a ≠ SA k) → w2 a = w a)) [.ref (of)].toArray s 0 0 (zA w sz)) (F0 m 53 ls []) := by
    refine zloopU (P := fun i => ∀ (u : zw), (hi : i ≤ 10) → (hdone : ∀ k : Nat, k < i → k < nw → u (WA k) = some (.inr (5, [.ref (WT k), .ref (WP k), .ref (WS k), .int 0, .long 0])) ∧ u (SA k) = some (eJ cs 11 (zStm (bo k) (V k) (hd k) (se k) (zDuty (FF (tx k)) (GF (tx k)) (tn (tx k)) (re k) (cr k) (zTot (bo k) (V k) (hd k) 2)) (SV k)))) → (htodo : ∀ k : Nat, i ≤ k → k < nw → u (WA k) = some (.inr (5, [.ref (WT k), .ref (WP k), .ref (WS k), .int (nI (hd k)), .long (se k)])) ∧ u (SA k) = some (eJ cs 11 (SV k))) → (hfr : ∀ a : Nat, (∀ k : Nat, k < nw → a ≠ WA k ∧ a ≠ SA k) → u a = w a) → (h_f : u (of) = some (.inr (6, [.ref (tbs), .ref (dds), .ref (wks), .ref (aa), .int (tc), .int (dc), .int (wc), .int (brt), .int (nI y), .int (wd)]))) → (h_wr : u (wks) = some (eR cs 6 (10) (WR))) → ∀ (H : Heap) (locs : List Loc) (ls : Array Slot), zS (zA w sz) D u s.heap H locs → lv_has ls 6 [(4, .int (nI i)), (3, .int (10)), (2, .ref (wks)), (1, .int (nI y)), (0, .ref (of))] → W p l e (zR 5 0 0) s m [.ref (of)].toArray below meth c H locs 0 0 (MQ below (zQ D w sz (fun r w2 => r = some (.int (nI y)) ∧ (∀ k : Nat, k < nw → w2 (WA k) = some (.inr (5, [.ref (WT k), .ref (WP k), .ref (WS k), .int 0, .long 0])) ∧ w2 (SA k) = some (eJ cs 11 (zStm (bo k) (V k) (hd k) (se k) (zDuty (FF (tx k)) (GF (tx k)) (tn (tx k)) (re k) (cr k) (zTot (bo k) (V k) (hd k) 2)) (SV k)))) ∧ w2 of = some (.inr (6, [.ref (tbs), .ref (dds), .ref (wks), .ref (aa), .int (tc), .int (dc), .int (wc), .int (brt), .int (nI (y + 1)), .int (wd)])) ∧ ∀ a : Nat, a ≠ of → (∀ k : Nat, k < nw → a ≠ WA k ∧ a ≠ SA k) → w2 a = w a)) [.ref (of)].toArray s 0 0 (zA w sz)) (F0 m 53 ls [])) 10 (fun i ih => ?_)
    intro u hi hdone htodo hfr h_f h_wr H locs ls hS hl
    refine lv_iload hx hb dX6_close_53 (lv_at hl 0 rfl) ?_
    refine lv_iload_n hx hb dX6_close_55 rfl (lv_at hl 1 rfl) ?_
    refine lv_icmp_ge (tgt := 87) hx hb dX6_close_56 (by decide) (fun c56 => ?_) (fun c56 => ?_)
    · have hi10 : i = 10 := by rcases Nat.lt_or_ge i 10 with q | q; exact absurd c56 (nI_ge (b := 10) q (by omega)); omega
      refine lv_aload_n hx hb dX6_close_87 rfl (lv_at hl 4 rfl) ?_
      refine lv_iload_n hx hb dX6_close_88 rfl (lv_at hl 3 rfl) ?_
      refine lv_iconst (v := 1) hx hb dX6_close_89 (by decide) ?_
      refine lv_iadd hx hb dX6_close_90 ?_
      refine z_ti (y := nI (y + 1)) (nI_1 y) ?_
      refine z_put (C := RX6) (T := TX6) (N := 10) (v := .int (nI (y + 1))) hx hb hts (by decide +kernel) tyX6 tyX6_ok nmX6 hown hK hS h_f rfl 8 (by decide) (hts (.fieldLink RX6 47 "PayLedger" "year" "I") (by decide +kernel)) rfl rfl rfl (Nat.le_of_ble_eq_true rfl) dX6_close_91 (fun H locs hS => ?_)
      obtain ⟨w1, ew1⟩ : ∃ z : zw, z = va_up u (of) (some (.inr (6, [.ref (tbs), .ref (dds), .ref (wks), .ref (aa), .int (tc), .int (dc), .int (wc), .int (brt), .int (nI (y + 1)), .int (wd)]))) := ⟨_, rfl⟩
      have hS : zS (zA w sz) D w1 s.heap H locs := by rw [ew1]; exact hS
      have h1_of : w1 (of) = some (.inr (6, [.ref (tbs), .ref (dds), .ref (wks), .ref (aa), .int (tc), .int (dc), .int (wc), .int (brt), .int (nI (y + 1)), .int (wd)])) := by rw [ew1]; exact va_up_self _ _ _
      have h1_wks : w1 (wks) = some (eR cs 6 (10) (WR)) := by rw [ew1]; exact (va_up_ne _ _ (zne h_wr h_f (by intro q9; first | cases q9 | simp at q9))).trans h_wr
      refine lv_iload_n hx hb dX6_close_94 rfl (lv_at hl 3 rfl) ?_
      have hd9 : ∀ k : Nat, k < nw → k < i := fun k hk => by have := hW.1; omega
      exact z_iret hx hb hr hlocks hS (Nat.le_of_ble_eq_true rfl) (Nat.le_of_ble_eq_true rfl) dX6_close_95 ⟨rfl, fun k hk => ⟨by rw [ew1, va_up_ne _ _ (zne (hW.2.1 k hk).2.1 h_f0 (by intro q9; first | cases q9 | simp at q9))]; exact (hdone k (hd9 k hk) hk).1, by rw [ew1, va_up_ne _ _ (zne (hS9 k hk).2.2.1 h_f0 (by intro q9; first | cases q9 | simp at q9))]; exact (hdone k (hd9 k hk) hk).2⟩, h1_of, fun a a1 a2 => by rw [ew1, va_up_ne _ _ a1]; exact hfr a a2⟩
    · have c56 : i < 10 := by rcases Nat.lt_or_ge i 10 with q | q; exact q; exact absurd (nI_le (a := 10) q (by omega)) c56
      refine lv_aload_n hx hb dX6_close_59 rfl (lv_at hl 2 rfl) ?_
      refine lv_iload hx hb dX6_close_60 (lv_at hl 0 rfl) ?_
      rcases Nat.lt_or_ge i nw with hwn | hwn
      · refine z_aaldv (v := .ref (WA i)) hx hb hK hS h_wr rfl (vp_in_nI c56 (by omega)) (by rw [nI_clamp (by omega), (hW.2.1 i hwn).1]; rfl) dX6_close_62 ?_
        have hwi := hW.2.1 i hwn
        have h_wi := (htodo i (Nat.le_refl _) hwn).1
        have h_sai := (htodo i (Nat.le_refl _) hwn).2
        have h_pi : u (WP i) = some (eR cs 4 60 (PR i)) := (hfr _ (fun x hx => ⟨zne hwi.2.2.1 (hW.2.1 x hx).2.1 (by intro q9; first | cases q9 | simp at q9), zne hwi.2.2.1 (hS9 x hx).2.2.1 (by intro q9; first | cases q9 | simp at q9)⟩)).trans hwi.2.2.1
        have h_ssi : u (WS i) = some (eR cs 7 6 (SR i)) := (hfr _ (fun x hx => ⟨zne (hS9 i hwn).1 (hW.2.1 x hx).2.1 (by intro q9; first | cases q9 | simp at q9), zne (hS9 i hwn).1 (hS9 x hx).2.2.1 (by intro q9; first | cases q9 | simp at q9)⟩)).trans (hS9 i hwn).1
        have ht1 := hTm i hwn
        have ht2 := hTb _ ht1.1
        have h_te : u (WT i) = some (.inr (4, [.ref (TA (tx i)), .int (pe i), .int (me i), .long (re i), .long (cr i), .long (ex i), .int (en i)])) := (hfr _ (fun x hx => ⟨zne ht1.2 (hW.2.1 x hx).2.1 (by intro q9; first | cases q9 | simp at q9), zne ht1.2 (hS9 x hx).2.2.1 (by intro q9; first | cases q9 | simp at q9)⟩)).trans ht1.2
        have h_t : u (TA (tx i)) = some (.inr (3, [.ref (TF (tx i)), .ref (TG (tx i)), .int (nI (tn (tx i))), .int (tt (tx i))])) := (hfr _ (fun x hx => ⟨zne ht2.1 (hW.2.1 x hx).2.1 (by intro q9; first | cases q9 | simp at q9), zne ht2.1 (hS9 x hx).2.2.1 (by intro q9; first | cases q9 | simp at q9)⟩)).trans ht2.1
        have h_fl : u (TF (tx i)) = some (eJ cs 12 (FF (tx i))) := (hfr _ (fun x hx => ⟨zne ht2.2.1 (hW.2.1 x hx).2.1 (by intro q9; first | cases q9 | simp at q9), zne ht2.2.1 (hS9 x hx).2.2.1 (by intro q9; first | cases q9 | simp at q9)⟩)).trans ht2.2.1
        have h_ra : u (TG (tx i)) = some (eI cs 12 (GF (tx i))) := (hfr _ (fun x hx => ⟨zne ht2.2.2.1 (hW.2.1 x hx).2.1 (by intro q9; first | cases q9 | simp at q9), zne ht2.2.2.1 (hS9 x hx).2.2.1 (by intro q9; first | cases q9 | simp at q9)⟩)).trans ht2.2.2.1
        have hPu : zPays cs u (PR i) (PA i) (TE i) (PP i) (bo i) (br i) (V i) (PT i) (hd i) := fun x hx => ⟨(hwi.2.2.2.2 x hx).1, (hfr _ (fun x9 hx9 => ⟨zne (hwi.2.2.2.2 x hx).2.1 (hW.2.1 x9 hx9).2.1 (by intro q9; first | cases q9 | simp at q9), zne (hwi.2.2.2.2 x hx).2.1 (hS9 x9 hx9).2.2.1 (by intro q9; first | cases q9 | simp at q9)⟩)).trans (hwi.2.2.2.2 x hx).2.1, (hfr _ (fun x9 hx9 => ⟨zne (hwi.2.2.2.2 x hx).2.2 (hW.2.1 x9 hx9).2.1 (by intro q9; first | cases q9 | simp at q9), zne (hwi.2.2.2.2 x hx).2.2 (hS9 x9 hx9).2.2.1 (by intro q9; first | cases q9 | simp at q9)⟩)).trans (hwi.2.2.2.2 x hx).2.2⟩
        refine lv_astore (lv' := [(5, .ref (WA i)), (4, .int (nI i)), (3, .int (10)), (2, .ref (wks)), (1, .int (nI y)), (0, .ref (of))]) hx hb dX6_close_63 hl (by decide) rfl (fun ls hl => ?_)
        refine lv_aload hx hb dX6_close_65 (lv_at hl 0 rfl) ?_
        refine lv_ifnull hx hb dX6_close_67 ?_
        refine lv_aload hx hb dX6_close_70 (lv_at hl 0 rfl) ?_
        refine lv_iload_n hx hb dX6_close_72 rfl (lv_at hl 4 rfl) ?_
        refine z_invV (As := [.int (nI y)]) (rest := []) (n := 1) ⟨hx, hb, hml, hown, hts⟩ (c_X5_state l D cs u H.size (WA i) (WT i) (WP i) (WS i) (hd i) (se i) (PR i) (PA i) (TE i) (PP i) (bo i) (br i) (V i) (PT i) (SR i) y (SA i) (SV i) (TA (tx i)) (TF (tx i)) (TG (tx i)) (tn (tx i)) (FF (tx i)) (GF (tx i)) (tt (tx i)) (pe i) (me i) (re i) (cr i) (ex i) (en i) hwi.2.2.2.1 ht2.2.2.2 hy (hS9 i hwn).2.1 hPu h_wi h_pi h_ssi h_sai h_te h_t h_fl h_ra) gX6_close_X5_state rfl ⟨rfl, by decide +kernel, by decide +kernel, by decide +kernel⟩ ⟨Nat.le_of_ble_eq_true rfl, Nat.le_of_ble_eq_true rfl⟩ hK hE hS rfl h_wi rfl hl.1 rfl (Nat.le_of_ble_eq_true rfl) dX6_close_73 ⟨Nat.le_of_ble_eq_true rfl, Nat.le_of_ble_eq_true rfl⟩ (fun v9 u2 H locs hq hS => ?_)
        obtain ⟨rfl, hx2⟩ := hq
        have h3_SAi : u2 (SA i) = some (eJ cs (11) (zStm (bo i) (V i) (hd i) (se i) (zDuty (FF (tx i)) (GF (tx i)) (tn (tx i)) (re i) (cr i) (zTot (bo i) (V i) (hd i) 2)) (SV i))) := hx2.at 0 rfl
        have h3_of : u2 (of) = some (.inr (6, [.ref (tbs), .ref (dds), .ref (wks), .ref (aa), .int (tc), .int (dc), .int (wc), .int (brt), .int (nI y), .int (wd)])) := hx2.old h_f (zm1 (zne h_f h_sai (by intro q9; first | cases q9 | simp at q9)) zm0)
        have h3_wks : u2 (wks) = some (eR cs 6 (10) (WR)) := hx2.old h_wr (zm1 (zne h_wr h_sai (by intro q9; first | cases q9 | simp at q9)) zm0)
        have h3_WAi : u2 (WA i) = some (.inr (5, [.ref (WT i), .ref (WP i), .ref (WS i), .int (nI (hd i)), .long (se i)])) := hx2.old h_wi (zm1 (zne h_wi h_sai (by intro q9; first | cases q9 | simp at q9)) zm0)
        have h3_WPi : u2 (WP i) = some (eR cs 4 (60) (PR i)) := hx2.old h_pi (zm1 (zne h_pi h_sai (by intro q9; first | cases q9 | simp at q9)) zm0)
        have h3_WSi : u2 (WS i) = some (eR cs 7 (6) (SR i)) := hx2.old h_ssi (zm1 (zne h_ssi h_sai (by intro q9; first | cases q9 | simp at q9)) zm0)
        refine W.eq (g2 := F0 m 76 ls []) rfl ?_
        refine lv_aload hx hb dX6_close_76 (lv_at hl 0 rfl) ?_
        refine z_invV (As := []) (rest := []) (n := 0) ⟨hx, hb, hml, hown, hts⟩ (c_X5_beginYear l D cs u2 H.size (WA i) (WT i) (WP i) (WS i) (hd i) (se i) (PR i) h3_WAi h3_WPi) gX6_close_X5_beginYear rfl ⟨rfl, by decide +kernel, by decide +kernel, by decide +kernel⟩ ⟨Nat.le_of_ble_eq_true rfl, Nat.le_of_ble_eq_true rfl⟩ hK hE hS rfl h3_WAi rfl hl.1 rfl (Nat.le_of_ble_eq_true rfl) dX6_close_78 ⟨Nat.le_of_ble_eq_true rfl, Nat.le_of_ble_eq_true rfl⟩ (fun v9 u4 H locs hq hS => ?_)
        obtain ⟨rfl, hx4⟩ := hq
        have h5_WAi : u4 (WA i) = some (.inr (5, [.ref (WT i), .ref (WP i), .ref (WS i), .int (0), .long (0)])) := hx4.at 0 rfl
        have h5_SAi : u4 (SA i) = some (eJ cs (11) (zStm (bo i) (V i) (hd i) (se i) (zDuty (FF (tx i)) (GF (tx i)) (tn (tx i)) (re i) (cr i) (zTot (bo i) (V i) (hd i) 2)) (SV i))) := hx4.old h3_SAi (zm1 (zne h3_SAi h3_WAi (by intro q9; first | cases q9 | simp at q9)) zm0)
        have h5_of : u4 (of) = some (.inr (6, [.ref (tbs), .ref (dds), .ref (wks), .ref (aa), .int (tc), .int (dc), .int (wc), .int (brt), .int (nI y), .int (wd)])) := hx4.old h3_of (zm1 (zne h3_of h3_WAi (by intro q9; first | cases q9 | simp at q9)) zm0)
        have h5_wks : u4 (wks) = some (eR cs 6 (10) (WR)) := hx4.old h3_wks (zm1 (zne h3_wks h3_WAi (by intro q9; first | cases q9 | simp at q9)) zm0)
        have h5_WPi : u4 (WP i) = some (eR cs 4 (60) (PR i)) := hx4.old h3_WPi (zm1 (zne h3_WPi h3_WAi (by intro q9; first | cases q9 | simp at q9)) zm0)
        have h5_WSi : u4 (WS i) = some (eR cs 7 (6) (SR i)) := hx4.old h3_WSi (zm1 (zne h3_WSi h3_WAi (by intro q9; first | cases q9 | simp at q9)) zm0)
        refine W.eq (g2 := F0 m 81 ls []) rfl ?_
        refine lv_iinc (v := nI (i + 1)) (lv' := [(4, .int (nI (i + 1))), (5, .ref (WA i)), (3, .int (10)), (2, .ref (wks)), (1, .int (nI y)), (0, .ref (of))]) hx hb dX6_close_81 hl (k := 1) rfl (nI_1 _) (by decide) rfl (fun ls hl => ?_)
        refine lv_goto (tgt := 53) hx hb dX6_close_84 (by decide) ?_
        have hexl : zEx u u4 [(SA i, (eJ cs (11) (zStm (bo i) (V i) (hd i) (se i) (zDuty (FF (tx i)) (GF (tx i)) (tn (tx i)) (re i) (cr i) (zTot (bo i) (V i) (hd i) 2)) (SV i)))), (WA i, (.inr (5, [.ref (WT i), .ref (WP i), .ref (WS i), .int (0), .long (0)])))] := ⟨(zm1 h5_SAi (zm1 h5_WAi zm0)), fun a9 h9 => by rw [hx4.2 a9 (zm1 (show a9 ≠ WA i from h9 (WA i, (.inr (5, [.ref (WT i), .ref (WP i), .ref (WS i), .int (0), .long (0)]))) (List.mem_of_getElem? (i := 1) rfl)) zm0), hx2.2 a9 (zm1 (show a9 ≠ SA i from h9 (SA i, (eJ cs (11) (zStm (bo i) (V i) (hd i) (se i) (zDuty (FF (tx i)) (GF (tx i)) (tn (tx i)) (re i) (cr i) (zTot (bo i) (V i) (hd i) 2)) (SV i)))) (List.mem_of_getElem? (i := 0) rfl)) zm0)]⟩
        exact ih (by omega) u4 (by omega) (fun k h1 h2 => (Nat.decEq k i).casesOn (fun hki => ⟨hexl.old (hdone k (by omega) h2).1 (zm1 (zne (hW.2.1 k h2).2.1 (hS9 i hwn).2.2.1 (by intro q9; first | cases q9 | simp at q9)) (zm1 (fun q9 => hki (hWA k i h2 hwn q9)) zm0)), hexl.old (hdone k (by omega) h2).2 (zm1 (fun q9 => hki (hSA k i h2 hwn q9)) (zm1 (zne (hS9 k h2).2.2.1 (hW.2.1 i hwn).2.1 (by intro q9; first | cases q9 | simp at q9)) zm0))⟩) (fun hki => by subst hki; exact ⟨h5_WAi, h5_SAi⟩)) (fun k h1 h2 => have hki : k ≠ i := (by omega); ⟨hexl.old (htodo k (by omega) h2).1 (zm1 (zne (hW.2.1 k h2).2.1 (hS9 i hwn).2.2.1 (by intro q9; first | cases q9 | simp at q9)) (zm1 (fun q9 => hki (hWA k i h2 hwn q9)) zm0)), hexl.old (htodo k (by omega) h2).2 (zm1 (fun q9 => hki (hSA k i h2 hwn q9)) (zm1 (zne (hS9 k h2).2.2.1 (hW.2.1 i hwn).2.1 (by intro q9; first | cases q9 | simp at q9)) zm0))⟩) (fun a ha => (hexl.2 a (zm1 (ha i hwn).2 (zm1 (ha i hwn).1 zm0))).trans (hfr a ha)) h5_of h5_wks _ _ _ hS (lv_sub hl [0, 2, 3, 4, 5] rfl)
      · refine z_aaldv (v := .null) hx hb hK hS h_wr rfl (vp_in_nI c56 (by omega)) (by rw [nI_clamp (by omega), hW.2.2 i hwn c56]; rfl) dX6_close_62 ?_
        refine lv_astoreN (lv' := [(5, .null), (4, .int (nI i)), (3, .int (10)), (2, .ref (wks)), (1, .int (nI y)), (0, .ref (of))]) hx hb dX6_close_63 hl (by decide) rfl (fun ls hl => ?_)
        refine lv_aloadN hx hb dX6_close_65 (lv_at hl 0 rfl) ?_
        refine lv_ifnullN (tgt := 81) hx hb dX6_close_67 (by decide) ?_
        refine lv_iinc (v := nI (i + 1)) (lv' := [(4, .int (nI (i + 1))), (5, .null), (3, .int (10)), (2, .ref (wks)), (1, .int (nI y)), (0, .ref (of))]) hx hb dX6_close_81 hl (k := 1) rfl (nI_1 _) (by decide) rfl (fun ls hl => ?_)
        refine lv_goto (tgt := 53) hx hb dX6_close_84 (by decide) ?_
        exact ih (by omega) u (by omega) (fun k h1 h2 => hdone k (by omega) h2) (fun k h1 h2 => htodo k (by omega) h2) hfr h_f h_wr _ _ _ hS (lv_sub hl [0, 2, 3, 4, 5] rfl)
  refine lv_aload_n hx hb dX6_close_0 rfl (lv_at hl 0 rfl) ?_
  refine z_rV (As := []) (rest := []) (n := 0) ⟨hx, hb, hml, hown, hts⟩ (c_X6_isAnythingOwed l D cs w s.heap.size of tbs dds wks aa tc dc wc brt (nI y) wd WR WA WT WP WS hd se PR PA TE PP bo br V PT nw hW h_f h_wr) gX6_close_X6_isAnythingOwed rfl ⟨rfl, by decide +kernel, by decide +kernel, by decide +kernel⟩ ⟨Nat.le_of_ble_eq_true rfl, Nat.le_of_ble_eq_true rfl⟩ hK hE hS rfl h_f rfl hl.1 rfl (Nat.le_of_ble_eq_true rfl) dX6_close_1 ⟨Nat.le_of_ble_eq_true rfl, Nat.le_of_ble_eq_true rfl⟩ (fun H locs hS => ?_)
  refine lv_if_eq (tgt := 17) hx hb dX6_close_4 (by decide) (fun _ => ?_) (fun cq9 => absurd (zB_f how) cq9)
  refine lv_aload_n hx hb dX6_close_17 rfl (lv_at hl 0 rfl) ?_
  refine z_get (C := RX6) (T := TX6) (N := 10) (v := .int (nI y)) hx hb hts (by decide +kernel) hown hK hS h_f rfl 8 (by decide) (hts (.fieldLink RX6 47 "PayLedger" "year" "I") (by decide +kernel)) rfl dX6_close_18 ?_
  refine lv_istore_n (lv' := [(1, .int (nI y)), (0, .ref (of))]) hx hb dX6_close_21 rfl hl (by decide) rfl (fun ls hl => ?_)
  refine lv_iload_n hx hb dX6_close_22 rfl (lv_at hl 0 rfl) ?_
  refine lv_if_lt (tgt := 32) hx hb dX6_close_23 (by decide) (fun cq9 => absurd cq9 (nI_pos (by omega))) (fun _ => ?_)
  refine lv_iload_n hx hb dX6_close_26 rfl (lv_at hl 0 rfl) ?_
  refine lv_bipush (v := 6) hx hb dX6_close_27 (by decide) ?_
  refine lv_icmp_lt (tgt := 42) hx hb dX6_close_29 (by decide) (fun _ => ?_) (fun cq9 => absurd (nI_lt (b := 6) hy (by omega)) cq9)
  refine lv_aload_n hx hb dX6_close_42 rfl (lv_at hl 1 rfl) ?_
  refine z_get (C := RX6) (T := TX6) (N := 10) (v := .ref (wks)) hx hb hts (by decide +kernel) hown hK hS h_f rfl 2 (by decide) (hts (.fieldLink RX6 23 "PayLedger" "workers" "[LPayLedger$Worker;") (by decide +kernel)) rfl dX6_close_43 ?_
  refine lv_astore_n (lv' := [(2, .ref (wks)), (1, .int (nI y)), (0, .ref (of))]) hx hb dX6_close_46 rfl hl (by decide) rfl (fun ls hl => ?_)
  refine lv_aload_n hx hb dX6_close_47 rfl (lv_at hl 0 rfl) ?_
  refine z_alen (t0 := 6) (v := 10) hx hb hK hS h_wr rfl rfl dX6_close_48 ?_
  refine lv_istore_n (lv' := [(3, .int (10)), (2, .ref (wks)), (1, .int (nI y)), (0, .ref (of))]) hx hb dX6_close_49 rfl hl (by decide) rfl (fun ls hl => ?_)
  refine lv_iconst (v := 0) hx hb dX6_close_50 (by decide) ?_
  refine lv_istore (lv' := [(4, .int (0)), (3, .int (10)), (2, .ref (wks)), (1, .int (nI y)), (0, .ref (of))]) hx hb dX6_close_51 hl (by decide) rfl (fun ls hl => ?_)
  exact L53 0 w (by omega) (fun k h1 => absurd h1 (by omega)) (fun k _ h2 => ⟨(hW.2.1 k h2).2.1, (hS9 k h2).2.2.1⟩) (fun _ _ => rfl) h_f h_wr _ _ _ hS (lv_sub hl [0, 1, 2, 3, 4] rfl)
