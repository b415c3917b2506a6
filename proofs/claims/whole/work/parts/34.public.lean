/-! ===== PayLedger: enrol, change, throws of workNext ===== -/
set_option maxHeartbeats 4000000 in
set_option maxRecDepth 100000 in
theorem t1_X6_workNext (l : Launch) (D : va_G) (cs : Nat → ClassId) (w : zw) (sz : Nat) (of tbs dds wks aa : Nat) (tc dc wc brt yr wd : Int32) (wk wt pay sts n : Nat) (se : Int64) (PR : Nat → Option Nat) (gross : Int64) (bon : Int32) (hlst : l.stackTraces = false) (hg : zUpTo gross 1000000000 = 0) (h_f : w (of) = some (.inr (6, [.ref (tbs), .ref (dds), .ref (wks), .ref (aa), .int (tc), .int (dc), .int (wc), .int (brt), .int (yr), .int (wd)]))) (h_w : w (wk) = some (.inr (5, [.ref (wt), .ref (pay), .ref (sts), .int (nI n), .long (se)]))) (h_ps : w (pay) = some (eR cs 4 (60) (PR))) : zMX l D cs yX6_workNext wsX6_workNext 5 3 27 w sz [.ref (of), .ref (wk), .long (gross), .int (bon)] (fun _ _ => False) (fun E9 => E9 = "java/lang/IllegalArgumentException") := by
  refine z_metX (cc := cX6_workNext) (maxL := 6) (ret := (some (.object "PayLedger$Pay"))) (by decide) rfl (Nat.le_of_ble_eq_true rfl) ?_
  intro p e s m below meth c hx hb hr hml hown hts hlocks hnm hsz hK hE hS ls hl
  have hl : lv_has ls 6 [(0, .ref (of)), (1, .ref (wk)), (2, .long (gross)), (4, .int (bon))] := hl
  refine lv_lload_n hx hb dX6_workNext_0 rfl (lv_at hl 2 rfl) ?_
  refine lv_ldc2 (v := 1000000000) hx hb hown (hts (.constantLong RX6 190 (1000000000)) (by decide +kernel)) dX6_workNext_1 ?_
  refine z_rS (As := [.long (gross), .long (1000000000)]) (rest := []) (n := 2) ⟨hx, hb, hml, hown, hts⟩ (c_X6_isUpTo l D cs w s.heap.size gross 1000000000) gX6_workNext_X6_isUpTo rfl ⟨by decide +kernel, by decide +kernel, by decide +kernel⟩ ⟨Nat.le_of_ble_eq_true rfl, Nat.le_of_ble_eq_true rfl⟩ hK hE hS rfl hl.1 rfl (Nat.le_of_ble_eq_true rfl) dX6_workNext_4 ⟨Nat.le_of_ble_eq_true rfl, Nat.le_of_ble_eq_true rfl⟩ (fun H locs hS => ?_)
  refine lv_if_ne (tgt := 20) hx hb dX6_workNext_7 (by decide) (fun cq9 => absurd hg cq9) (fun _ => ?_)
  exact z_thr (text := "no such gross") hx hb hlst hown hts (by decide +kernel) (by decide +kernel) (by decide +kernel) zbad76 (by decide +kernel) (by decide +kernel) (by decide +kernel) (by decide +kernel) hE hS (hl.1.trans hml.symm) dX6_workNext_10 dX6_workNext_13 dX6_workNext_14 dX6_workNext_16 dX6_workNext_19 hnm ⟨Nat.le_of_ble_eq_true rfl, Nat.le_of_ble_eq_true rfl, Nat.le_of_ble_eq_true rfl, Nat.le_of_ble_eq_true rfl⟩ hlocks rfl (Nat.le_of_ble_eq_true rfl) (Nat.le_of_ble_eq_true rfl)
set_option maxHeartbeats 4000000 in
set_option maxRecDepth 100000 in
theorem t2_X6_workNext (l : Launch) (D : va_G) (cs : Nat → ClassId) (w : zw) (sz : Nat) (of tbs dds wks aa : Nat) (tc dc wc brt yr wd : Int32) (wk wt pay sts n : Nat) (se : Int64) (PR : Nat → Option Nat) (gross : Int64) (bon : Int32) (hlst : l.stackTraces = false) (hg : zUpTo gross 1000000000 = 1) (hn : n = 60) (h_f : w (of) = some (.inr (6, [.ref (tbs), .ref (dds), .ref (wks), .ref (aa), .int (tc), .int (dc), .int (wc), .int (brt), .int (yr), .int (wd)]))) (h_w : w (wk) = some (.inr (5, [.ref (wt), .ref (pay), .ref (sts), .int (nI n), .long (se)]))) (h_ps : w (pay) = some (eR cs 4 (60) (PR))) : zMX l D cs yX6_workNext wsX6_workNext 5 4 40 w sz [.ref (of), .ref (wk), .long (gross), .int (bon)] (fun _ _ => False) (fun E9 => E9 = "java/lang/UnsupportedOperationException") := by
  refine z_metX (cc := cX6_workNext) (maxL := 6) (ret := (some (.object "PayLedger$Pay"))) (by decide) rfl (Nat.le_of_ble_eq_true rfl) ?_
  intro p e s m below meth c hx hb hr hml hown hts hlocks hnm hsz hK hE hS ls hl
  have hl : lv_has ls 6 [(0, .ref (of)), (1, .ref (wk)), (2, .long (gross)), (4, .int (bon))] := hl
  refine lv_lload_n hx hb dX6_workNext_0 rfl (lv_at hl 2 rfl) ?_
  refine lv_ldc2 (v := 1000000000) hx hb hown (hts (.constantLong RX6 190 (1000000000)) (by decide +kernel)) dX6_workNext_1 ?_
  refine z_rS (As := [.long (gross), .long (1000000000)]) (rest := []) (n := 2) ⟨hx, hb, hml, hown, hts⟩ (c_X6_isUpTo l D cs w s.heap.size gross 1000000000) gX6_workNext_X6_isUpTo rfl ⟨by decide +kernel, by decide +kernel, by decide +kernel⟩ ⟨Nat.le_of_ble_eq_true rfl, Nat.le_of_ble_eq_true rfl⟩ hK hE hS rfl hl.1 rfl (Nat.le_of_ble_eq_true rfl) dX6_workNext_4 ⟨Nat.le_of_ble_eq_true rfl, Nat.le_of_ble_eq_true rfl⟩ (fun H locs hS => ?_)
  refine lv_if_ne (tgt := 20) hx hb dX6_workNext_7 (by decide) (fun _ => ?_) (fun cq9 => absurd cq9 (by rw [hg]; decide))
  refine lv_aload_n hx hb dX6_workNext_20 rfl (lv_at hl 1 rfl) ?_
  refine z_invV (As := []) (rest := []) (n := 0) ⟨hx, hb, hml, hown, hts⟩ (c_X5_nextRow_full l D cs w H.size wk wt pay sts n se PR hn h_w h_ps) gX6_workNext_X5_nextRow rfl ⟨rfl, by decide +kernel, by decide +kernel, by decide +kernel⟩ ⟨Nat.le_of_ble_eq_true rfl, Nat.le_of_ble_eq_true rfl⟩ hK hE hS rfl h_w rfl hl.1 rfl (Nat.le_of_ble_eq_true rfl) dX6_workNext_21 ⟨Nat.le_of_ble_eq_true rfl, Nat.le_of_ble_eq_true rfl⟩ (fun v9 u1 H locs hq hS => ?_)
  obtain ⟨hv9, hw9⟩ := hq
  subst hv9
  rw [hw9] at hS
  refine W.eq (g2 := F0 m 24 ls [.null]) rfl ?_
  refine lv_astoreN (lv' := [(5, .null), (0, .ref (of)), (1, .ref (wk)), (2, .long (gross)), (4, .int (bon))]) hx hb dX6_workNext_24 hl (by decide) rfl (fun ls hl => ?_)
  refine lv_aloadN hx hb dX6_workNext_26 (lv_at hl 0 rfl) ?_
  refine lv_ifnonnullN hx hb dX6_workNext_28 ?_
  exact z_thrW (text := "the worker has as many pays as can be") hx hb hlst hown hts (by decide +kernel) (by decide +kernel) (by decide +kernel) zbad57 (by decide +kernel) (by decide +kernel) (by decide +kernel) (by decide +kernel) hE hS (hl.1.trans hml.symm) dX6_workNext_31 dX6_workNext_34 dX6_workNext_35 dX6_workNext_38 dX6_workNext_41 hnm ⟨Nat.le_of_ble_eq_true rfl, Nat.le_of_ble_eq_true rfl, Nat.le_of_ble_eq_true rfl, Nat.le_of_ble_eq_true rfl⟩ hlocks rfl (Nat.le_of_ble_eq_true rfl) (Nat.le_of_ble_eq_true rfl)
set_option maxHeartbeats 4000000 in
set_option maxRecDepth 100000 in
theorem c_X6_enrol_same (l : Launch) (D : va_G) (cs : Nat → ClassId) (w : zw) (sz : Nat) (of tbs dds wks aa : Nat) (tc dc wc brt yr wd : Int32) (WR : Nat → Option Nat) (WA WT WP WS hd : Nat → Nat) (se : Nat → Int64) (PR : Nat → Nat → Option Nat) (PA TE PP : Nat → Nat → Nat) (bo br : Nat → Nat → Int32) (V PT : Nat → Nat → Nat → Int64) (nw : Nat) (DR : Nat → Option Nat) (DA : Nat → Nat) (nd : Nat) (k j : Nat) (tb : Option Nat) (pe me : Int32) (re cr ex : Int64) (en : Int32) (on : Int32) (hW : zWks cs w WR WA WT WP WS hd se PR PA TE PP bo br V PT nw) (hD : zArrN 8 DR DA nd) (hk : k < nw) (hj : j < nd) (hon : zHas en (nI j) = on) (h_f : w (of) = some (.inr (6, [.ref (tbs), .ref (dds), .ref (wks), .ref (aa), .int (tc), .int (dc), .int (wc), .int (brt), .int (yr), .int (wd)]))) (h_wr : w (wks) = some (eR cs 6 (10) (WR))) (h_dr : w (dds) = some (eR cs 3 (8) (DR))) (h_te : w (WT k) = some (.inr (4, [va_rf (tb), .int (pe), .int (me), .long (re), .long (cr), .long (ex), .int (en)]))) : zM l D cs yX6_enrol wsX6_enrol 1 0 0 w sz [.ref (of), .int (nI k), .int (nI j), .int (on)] (fun r w2 => r = some (.int 0) ∧ w2 = w) := by
  refine z_met (cc := cX6_enrol) (maxL := 6) (ret := (some .boolean)) (by decide) rfl (Nat.le_of_ble_eq_true rfl) ?_
  intro p e s m below meth c hx hb hr hml hown hts hlocks hnm hsz hK hE hS ls hl
  have hl : lv_has ls 6 [(0, .ref (of)), (1, .int (nI k)), (2, .int (nI j)), (3, .int (on))] := hl
  refine lv_aload_n hx hb dX6_enrol_0 rfl (lv_at hl 0 rfl) ?_
  refine lv_iload_n hx hb dX6_enrol_1 rfl (lv_at hl 1 rfl) ?_
  refine z_rV (As := [.int (nI k)]) (rest := []) (n := 1) ⟨hx, hb, hml, hown, hts⟩ (c_X6_workerNumbered l D cs w s.heap.size of tbs dds wks aa tc dc wc brt yr wd WR WA nw k (⟨hW.1, fun i hi => (hW.2.1 i hi).1, hW.2.2⟩) hk h_f h_wr) gX6_enrol_X6_workerNumbered rfl ⟨rfl, by decide +kernel, by decide +kernel, by decide +kernel⟩ ⟨Nat.le_of_ble_eq_true rfl, Nat.le_of_ble_eq_true rfl⟩ hK hE hS rfl h_f rfl hl.1 rfl (Nat.le_of_ble_eq_true rfl) dX6_enrol_2 ⟨Nat.le_of_ble_eq_true rfl, Nat.le_of_ble_eq_true rfl⟩ (fun H locs hS => ?_)
  have hwi := hW.2.1 k hk
  have h_wi := hwi.2.1
  have h_pi := hwi.2.2.1
  refine lv_astore (lv' := [(4, .ref (WA k)), (0, .ref (of)), (1, .int (nI k)), (2, .int (nI j)), (3, .int (on))]) hx hb dX6_enrol_5 hl (by decide) rfl (fun ls hl => ?_)
  refine lv_aload_n hx hb dX6_enrol_7 rfl (lv_at hl 1 rfl) ?_
  refine lv_iload_n hx hb dX6_enrol_8 rfl (lv_at hl 3 rfl) ?_
  refine z_invV (As := [.int (nI j)]) (rest := []) (n := 1) ⟨hx, hb, hml, hown, hts⟩ (c_X6_needDeduction l D cs w H.size of tbs dds wks aa tc dc wc brt yr wd DR DA nd j hD hj h_f h_dr) gX6_enrol_X6_needDeduction rfl ⟨rfl, by decide +kernel, by decide +kernel, by decide +kernel⟩ ⟨Nat.le_of_ble_eq_true rfl, Nat.le_of_ble_eq_true rfl⟩ hK hE hS rfl h_f rfl hl.1 rfl (Nat.le_of_ble_eq_true rfl) dX6_enrol_9 ⟨Nat.le_of_ble_eq_true rfl, Nat.le_of_ble_eq_true rfl⟩ (fun v9 u1 H locs hq hS => ?_)
  obtain ⟨hv9, hw9⟩ := hq
  subst hv9
  rw [hw9] at hS
  refine W.eq (g2 := F0 m 12 ls []) rfl ?_
  refine lv_aload hx hb dX6_enrol_12 (lv_at hl 0 rfl) ?_
  refine z_get (C := RX5) (T := TX5) (N := 5) (v := .ref (WT k)) hx hb hts (by decide +kernel) hown hK hS h_wi rfl 0 (by decide) (hts (.fieldLink RX6 138 "PayLedger$Worker" "terms" "LPayLedger$Terms;") (by decide +kernel)) rfl dX6_enrol_14 ?_
  refine lv_iload_n hx hb dX6_enrol_17 rfl (lv_at hl 3 rfl) ?_
  refine z_rV (As := [.int (nI j)]) (rest := []) (n := 1) ⟨hx, hb, hml, hown, hts⟩ (c_X4_has l D cs w H.size (WT k) tb pe me re cr ex en (nI j) h_te) gX6_enrol_X4_has rfl ⟨rfl, by decide +kernel, by decide +kernel, by decide +kernel⟩ ⟨Nat.le_of_ble_eq_true rfl, Nat.le_of_ble_eq_true rfl⟩ hK hE hS rfl h_te rfl hl.1 rfl (Nat.le_of_ble_eq_true rfl) dX6_enrol_18 ⟨Nat.le_of_ble_eq_true rfl, Nat.le_of_ble_eq_true rfl⟩ (fun H locs hS => ?_)
  refine lv_iload_n hx hb dX6_enrol_21 rfl (lv_at hl 4 rfl) ?_
  refine lv_icmp_eq (tgt := 29) hx hb dX6_enrol_22 (by decide) (fun _ => ?_) (fun cq9 => absurd hon cq9)
  refine lv_iconst (v := 0) hx hb dX6_enrol_29 (by decide) ?_
  refine lv_istore (lv' := [(5, .int (0)), (4, .ref (WA k)), (0, .ref (of)), (1, .int (nI k)), (2, .int (nI j)), (3, .int (on))]) hx hb dX6_enrol_30 hl (by decide) rfl (fun ls hl => ?_)
  refine lv_iload hx hb dX6_enrol_32 (lv_at hl 0 rfl) ?_
  refine lv_if_eq (tgt := 46) hx hb dX6_enrol_34 (by decide) (fun _ => ?_) (fun cq9 => absurd rfl cq9)
  refine lv_iload hx hb dX6_enrol_46 (lv_at hl 0 rfl) ?_
  exact z_zret hx hb hr hlocks (zb_narrow (Or.inl rfl)) hS (Nat.le_of_ble_eq_true rfl) (Nat.le_of_ble_eq_true rfl) dX6_enrol_48 ⟨rfl, rfl⟩
set_option maxHeartbeats 4000000 in
set_option maxRecDepth 100000 in
theorem c_X6_enrol_other (l : Launch) (D : va_G) (cs : Nat → ClassId) (w : zw) (sz : Nat) (of tbs dds wks aa : Nat) (tc dc wc brt yr wd : Int32) (WR : Nat → Option Nat) (WA WT WP WS hd : Nat → Nat) (se : Nat → Int64) (PR : Nat → Nat → Option Nat) (PA TE PP : Nat → Nat → Nat) (bo br : Nat → Nat → Int32) (V PT : Nat → Nat → Nat → Int64) (nw : Nat) (DR : Nat → Option Nat) (DA : Nat → Nat) (nd : Nat) (k j : Nat) (tb : Option Nat) (pe me : Int32) (re cr ex : Int64) (en : Int32) (on : Int32) (hW : zWks cs w WR WA WT WP WS hd se PR PA TE PP bo br V PT nw) (hD : zArrN 8 DR DA nd) (hk : k < nw) (hj : j < nd) (hon : ¬ zHas en (nI j) = on) (h_f : w (of) = some (.inr (6, [.ref (tbs), .ref (dds), .ref (wks), .ref (aa), .int (tc), .int (dc), .int (wc), .int (brt), .int (yr), .int (wd)]))) (h_wr : w (wks) = some (eR cs 6 (10) (WR))) (h_dr : w (dds) = some (eR cs 3 (8) (DR))) (h_te : w (WT k) = some (.inr (4, [va_rf (tb), .int (pe), .int (me), .long (re), .long (cr), .long (ex), .int (en)]))) : zM l D cs yX6_enrol wsX6_enrol 1 0 0 w sz [.ref (of), .int (nI k), .int (nI j), .int (on)] (fun r w2 => r = some (.int 1) ∧ zEx w w2 [(WT k, .inr (4, [va_rf tb, .int pe, .int me, .long re, .long cr, .long ex, .int (en ^^^ (1 <<< (nI j &&& 31)))]))]) := by
  refine z_met (cc := cX6_enrol) (maxL := 6) (ret := (some .boolean)) (by decide) rfl (Nat.le_of_ble_eq_true rfl) ?_
  intro p e s m below meth c hx hb hr hml hown hts hlocks hnm hsz hK hE hS ls hl
  have hl : lv_has ls 6 [(0, .ref (of)), (1, .int (nI k)), (2, .int (nI j)), (3, .int (on))] := hl
  refine lv_aload_n hx hb dX6_enrol_0 rfl (lv_at hl 0 rfl) ?_
  refine lv_iload_n hx hb dX6_enrol_1 rfl (lv_at hl 1 rfl) ?_
  refine z_rV (As := [.int (nI k)]) (rest := []) (n := 1) ⟨hx, hb, hml, hown, hts⟩ (c_X6_workerNumbered l D cs w s.heap.size of tbs dds wks aa tc dc wc brt yr wd WR WA nw k (⟨hW.1, fun i hi => (hW.2.1 i hi).1, hW.2.2⟩) hk h_f h_wr) gX6_enrol_X6_workerNumbered rfl ⟨rfl, by decide +kernel, by decide +kernel, by decide +kernel⟩ ⟨Nat.le_of_ble_eq_true rfl, Nat.le_of_ble_eq_true rfl⟩ hK hE hS rfl h_f rfl hl.1 rfl (Nat.le_of_ble_eq_true rfl) dX6_enrol_2 ⟨Nat.le_of_ble_eq_true rfl, Nat.le_of_ble_eq_true rfl⟩ (fun H locs hS => ?_)
  have hwi := hW.2.1 k hk
  have h_wi := hwi.2.1
  have h_pi := hwi.2.2.1
  refine lv_astore (lv' := [(4, .ref (WA k)), (0, .ref (of)), (1, .int (nI k)), (2, .int (nI j)), (3, .int (on))]) hx hb dX6_enrol_5 hl (by decide) rfl (fun ls hl => ?_)
  refine lv_aload_n hx hb dX6_enrol_7 rfl (lv_at hl 1 rfl) ?_
  refine lv_iload_n hx hb dX6_enrol_8 rfl (lv_at hl 3 rfl) ?_
  refine z_invV (As := [.int (nI j)]) (rest := []) (n := 1) ⟨hx, hb, hml, hown, hts⟩ (c_X6_needDeduction l D cs w H.size of tbs dds wks aa tc dc wc brt yr wd DR DA nd j hD hj h_f h_dr) gX6_enrol_X6_needDeduction rfl ⟨rfl, by decide +kernel, by decide +kernel, by decide +kernel⟩ ⟨Nat.le_of_ble_eq_true rfl, Nat.le_of_ble_eq_true rfl⟩ hK hE hS rfl h_f rfl hl.1 rfl (Nat.le_of_ble_eq_true rfl) dX6_enrol_9 ⟨Nat.le_of_ble_eq_true rfl, Nat.le_of_ble_eq_true rfl⟩ (fun v9 u1 H locs hq hS => ?_)
  obtain ⟨hv9, hw9⟩ := hq
  subst hv9
  rw [hw9] at hS
  refine W.eq (g2 := F0 m 12 ls []) rfl ?_
  refine lv_aload hx hb dX6_enrol_12 (lv_at hl 0 rfl) ?_
  refine z_get (C := RX5) (T := TX5) (N := 5) (v := .ref (WT k)) hx hb hts (by decide +kernel) hown hK hS h_wi rfl 0 (by decide) (hts (.fieldLink RX6 138 "PayLedger$Worker" "terms" "LPayLedger$Terms;") (by decide +kernel)) rfl dX6_enrol_14 ?_
  refine lv_iload_n hx hb dX6_enrol_17 rfl (lv_at hl 3 rfl) ?_
  refine z_rV (As := [.int (nI j)]) (rest := []) (n := 1) ⟨hx, hb, hml, hown, hts⟩ (c_X4_has l D cs w H.size (WT k) tb pe me re cr ex en (nI j) h_te) gX6_enrol_X4_has rfl ⟨rfl, by decide +kernel, by decide +kernel, by decide +kernel⟩ ⟨Nat.le_of_ble_eq_true rfl, Nat.le_of_ble_eq_true rfl⟩ hK hE hS rfl h_te rfl hl.1 rfl (Nat.le_of_ble_eq_true rfl) dX6_enrol_18 ⟨Nat.le_of_ble_eq_true rfl, Nat.le_of_ble_eq_true rfl⟩ (fun H locs hS => ?_)
  refine lv_iload_n hx hb dX6_enrol_21 rfl (lv_at hl 4 rfl) ?_
  refine lv_icmp_eq (tgt := 29) hx hb dX6_enrol_22 (by decide) (fun cq9 => absurd cq9 hon) (fun _ => ?_)
  refine lv_iconst (v := 1) hx hb dX6_enrol_25 (by decide) ?_
  refine lv_goto (tgt := 30) hx hb dX6_enrol_26 (by decide) ?_
  refine lv_istore (lv' := [(5, .int (1)), (4, .ref (WA k)), (0, .ref (of)), (1, .int (nI k)), (2, .int (nI j)), (3, .int (on))]) hx hb dX6_enrol_30 hl (by decide) rfl (fun ls hl => ?_)
  refine lv_iload hx hb dX6_enrol_32 (lv_at hl 0 rfl) ?_
  refine lv_if_eq (tgt := 46) hx hb dX6_enrol_34 (by decide) (fun cq9 => absurd cq9 (by decide)) (fun _ => ?_)
  refine lv_aload hx hb dX6_enrol_37 (lv_at hl 1 rfl) ?_
  refine z_get (C := RX5) (T := TX5) (N := 5) (v := .ref (WT k)) hx hb hts (by decide +kernel) hown hK hS h_wi rfl 0 (by decide) (hts (.fieldLink RX6 138 "PayLedger$Worker" "terms" "LPayLedger$Terms;") (by decide +kernel)) rfl dX6_enrol_39 ?_
  refine lv_iload_n hx hb dX6_enrol_42 rfl (lv_at hl 4 rfl) ?_
  refine z_invV (As := [.int (nI j)]) (rest := []) (n := 1) ⟨hx, hb, hml, hown, hts⟩ (c_X4_turn l D cs w H.size (WT k) tb pe me re cr ex en (nI j) h_te) gX6_enrol_X4_turn rfl ⟨rfl, by decide +kernel, by decide +kernel, by decide +kernel⟩ ⟨Nat.le_of_ble_eq_true rfl, Nat.le_of_ble_eq_true rfl⟩ hK hE hS rfl h_te rfl hl.1 rfl (Nat.le_of_ble_eq_true rfl) dX6_enrol_43 ⟨Nat.le_of_ble_eq_true rfl, Nat.le_of_ble_eq_true rfl⟩ (fun v9 u2 H locs hq hS => ?_)
  obtain ⟨rfl, hx2⟩ := hq
  have h3_WTk : u2 (WT k) = some (.inr (4, [va_rf (tb), .int (pe), .int (me), .long (re), .long (cr), .long (ex), .int (en ^^^ (1 <<< (nI j &&& 31)))])) := hx2.at 0 rfl
  have h3_of : u2 (of) = some (.inr (6, [.ref (tbs), .ref (dds), .ref (wks), .ref (aa), .int (tc), .int (dc), .int (wc), .int (brt), .int (yr), .int (wd)])) := hx2.old h_f (zm1 (zne h_f h_te (by intro q9; first | cases q9 | simp at q9)) zm0)
  have h3_wks : u2 (wks) = some (eR cs 6 (10) (WR)) := hx2.old h_wr (zm1 (zne h_wr h_te (by intro q9; first | cases q9 | simp at q9)) zm0)
  have h3_dds : u2 (dds) = some (eR cs 3 (8) (DR)) := hx2.old h_dr (zm1 (zne h_dr h_te (by intro q9; first | cases q9 | simp at q9)) zm0)
  have h3_WAk : u2 (WA k) = some (.inr (5, [.ref (WT k), .ref (WP k), .ref (WS k), .int (nI (hd k)), .long (se k)])) := hx2.old h_wi (zm1 (zne h_wi h_te (by intro q9; first | cases q9 | simp at q9)) zm0)
  have h3_WPk : u2 (WP k) = some (eR cs 4 (60) (PR k)) := hx2.old h_pi (zm1 (zne h_pi h_te (by intro q9; first | cases q9 | simp at q9)) zm0)
  refine W.eq (g2 := F0 m 46 ls []) rfl ?_
  refine lv_iload hx hb dX6_enrol_46 (lv_at hl 0 rfl) ?_
  have hex : zEx w u2 [(WT k, (.inr (4, [va_rf (tb), .int (pe), .int (me), .long (re), .long (cr), .long (ex), .int (en ^^^ (1 <<< (nI j &&& 31)))])))] := ⟨(zm1 h3_WTk zm0), fun a9 h9 => by rw [hx2.2 a9 (zm1 (show a9 ≠ WT k from h9 (WT k, (.inr (4, [va_rf (tb), .int (pe), .int (me), .long (re), .long (cr), .long (ex), .int (en ^^^ (1 <<< (nI j &&& 31)))]))) (List.mem_of_getElem? (i := 0) rfl)) zm0)]⟩
  exact z_zret hx hb hr hlocks (zb_narrow (Or.inr rfl)) hS (Nat.le_of_ble_eq_true rfl) (Nat.le_of_ble_eq_true rfl) dX6_enrol_48 ⟨rfl, hex⟩
set_option maxHeartbeats 4000000 in
set_option maxRecDepth 100000 in
theorem t1_X6_enrol (l : Launch) (D : va_G) (cs : Nat → ClassId) (w : zw) (sz : Nat) (of tbs dds wks aa : Nat) (tc dc wc brt yr wd : Int32) (WR : Nat → Option Nat) (WA WT WP WS hd : Nat → Nat) (se : Nat → Int64) (PR : Nat → Nat → Option Nat) (PA TE PP : Nat → Nat → Nat) (bo br : Nat → Nat → Int32) (V PT : Nat → Nat → Nat → Int64) (nw : Nat) (x y on : Int32) (hlst : l.stackTraces = false) (hW : zWks cs w WR WA WT WP WS hd se PR PA TE PP bo br V PT nw) (hx9 : ∀ k : Nat, k < nw → x ≠ nI k) (h_f : w (of) = some (.inr (6, [.ref (tbs), .ref (dds), .ref (wks), .ref (aa), .int (tc), .int (dc), .int (wc), .int (brt), .int (yr), .int (wd)]))) (h_wr : w (wks) = some (eR cs 6 (10) (WR))) : zMX l D cs yX6_enrol wsX6_enrol 1 1 6 w sz [.ref (of), .int (x), .int (y), .int (on)] (fun _ _ => False) (fun E9 => E9 = "java/lang/IndexOutOfBoundsException") := by
  refine z_metX (cc := cX6_enrol) (maxL := 6) (ret := (some .boolean)) (by decide) rfl (Nat.le_of_ble_eq_true rfl) ?_
  intro p e s m below meth c hx hb hr hml hown hts hlocks hnm hsz hK hE hS ls hl
  have hl : lv_has ls 6 [(0, .ref (of)), (1, .int (x)), (2, .int (y)), (3, .int (on))] := hl
  refine lv_aload_n hx hb dX6_enrol_0 rfl (lv_at hl 0 rfl) ?_
  refine lv_iload_n hx hb dX6_enrol_1 rfl (lv_at hl 1 rfl) ?_
  refine z_invVX (As := [.int (x)]) (rest := []) (n := 1) ⟨hx, hb, hml, hown, hts⟩ (t_X6_workerNumbered l D cs w s.heap.size of tbs dds wks aa tc dc wc brt yr wd WR WA nw x hlst (⟨hW.1, fun i hi => (hW.2.1 i hi).1, hW.2.2⟩) hx9 h_f h_wr) gX6_enrol_X6_workerNumbered rfl ⟨rfl, by decide +kernel, by decide +kernel, by decide +kernel⟩ ⟨Nat.le_of_ble_eq_true rfl, Nat.le_of_ble_eq_true rfl⟩ hK hE hS rfl h_f rfl hl.1 rfl (Nat.le_of_ble_eq_true rfl) dX6_enrol_2 ⟨Nat.le_of_ble_eq_true rfl, Nat.le_of_ble_eq_true rfl⟩ (fun E9 ce9 q9 H9 locs9 hp9 hS9 h91 h92 h93 => z_out hS9 hnm hlocks h91 h92 h93 hp9 (Nat.le_of_ble_eq_true rfl) (Nat.le_of_ble_eq_true rfl)) (fun v9 u1 H locs hq hS => absurd hq id)
set_option maxHeartbeats 4000000 in
set_option maxRecDepth 100000 in
theorem t2_X6_enrol (l : Launch) (D : va_G) (cs : Nat → ClassId) (w : zw) (sz : Nat) (of tbs dds wks aa : Nat) (tc dc wc brt yr wd : Int32) (WR : Nat → Option Nat) (WA WT WP WS hd : Nat → Nat) (se : Nat → Int64) (PR : Nat → Nat → Option Nat) (PA TE PP : Nat → Nat → Nat) (bo br : Nat → Nat → Int32) (V PT : Nat → Nat → Nat → Int64) (nw : Nat) (DR : Nat → Option Nat) (DA : Nat → Nat) (nd : Nat) (k : Nat) (y on : Int32) (hlst : l.stackTraces = false) (hW : zWks cs w WR WA WT WP WS hd se PR PA TE PP bo br V PT nw) (hD : zArrN 8 DR DA nd) (hk : k < nw) (hy9 : ∀ k : Nat, k < nd → y ≠ nI k) (h_f : w (of) = some (.inr (6, [.ref (tbs), .ref (dds), .ref (wks), .ref (aa), .int (tc), .int (dc), .int (wc), .int (brt), .int (yr), .int (wd)]))) (h_wr : w (wks) = some (eR cs 6 (10) (WR))) (h_dr : w (dds) = some (eR cs 3 (8) (DR))) : zMX l D cs yX6_enrol wsX6_enrol 1 1 6 w sz [.ref (of), .int (nI k), .int (y), .int (on)] (fun _ _ => False) (fun E9 => E9 = "java/lang/IndexOutOfBoundsException") := by
  refine z_metX (cc := cX6_enrol) (maxL := 6) (ret := (some .boolean)) (by decide) rfl (Nat.le_of_ble_eq_true rfl) ?_
  intro p e s m below meth c hx hb hr hml hown hts hlocks hnm hsz hK hE hS ls hl
  have hl : lv_has ls 6 [(0, .ref (of)), (1, .int (nI k)), (2, .int (y)), (3, .int (on))] := hl
  refine lv_aload_n hx hb dX6_enrol_0 rfl (lv_at hl 0 rfl) ?_
  refine lv_iload_n hx hb dX6_enrol_1 rfl (lv_at hl 1 rfl) ?_
  refine z_rV (As := [.int (nI k)]) (rest := []) (n := 1) ⟨hx, hb, hml, hown, hts⟩ (c_X6_workerNumbered l D cs w s.heap.size of tbs dds wks aa tc dc wc brt yr wd WR WA nw k (⟨hW.1, fun i hi => (hW.2.1 i hi).1, hW.2.2⟩) hk h_f h_wr) gX6_enrol_X6_workerNumbered rfl ⟨rfl, by decide +kernel, by decide +kernel, by decide +kernel⟩ ⟨Nat.le_of_ble_eq_true rfl, Nat.le_of_ble_eq_true rfl⟩ hK hE hS rfl h_f rfl hl.1 rfl (Nat.le_of_ble_eq_true rfl) dX6_enrol_2 ⟨Nat.le_of_ble_eq_true rfl, Nat.le_of_ble_eq_true rfl⟩ (fun H locs hS => ?_)
  have hwi := hW.2.1 k hk
  have h_wi := hwi.2.1
  have h_pi := hwi.2.2.1
  refine lv_astore (lv' := [(4, .ref (WA k)), (0, .ref (of)), (1, .int (nI k)), (2, .int (y)), (3, .int (on))]) hx hb dX6_enrol_5 hl (by decide) rfl (fun ls hl => ?_)
  refine lv_aload_n hx hb dX6_enrol_7 rfl (lv_at hl 1 rfl) ?_
  refine lv_iload_n hx hb dX6_enrol_8 rfl (lv_at hl 3 rfl) ?_
  refine z_invVX (As := [.int (y)]) (rest := []) (n := 1) ⟨hx, hb, hml, hown, hts⟩ (t_X6_needDeduction l D cs w H.size of tbs dds wks aa tc dc wc brt yr wd DR DA nd y hlst hD hy9 h_f h_dr) gX6_enrol_X6_needDeduction rfl ⟨rfl, by decide +kernel, by decide +kernel, by decide +kernel⟩ ⟨Nat.le_of_ble_eq_true rfl, Nat.le_of_ble_eq_true rfl⟩ hK hE hS rfl h_f rfl hl.1 rfl (Nat.le_of_ble_eq_true rfl) dX6_enrol_9 ⟨Nat.le_of_ble_eq_true rfl, Nat.le_of_ble_eq_true rfl⟩ (fun E9 ce9 q9 H9 locs9 hp9 hS9 h91 h92 h93 => z_out hS9 hnm hlocks h91 h92 h93 hp9 (Nat.le_of_ble_eq_true rfl) (Nat.le_of_ble_eq_true rfl)) (fun v9 u1 H locs hq hS => absurd hq id)
set_option maxHeartbeats 4000000 in
set_option maxRecDepth 100000 in
theorem c_X6_change (l : Launch) (D : va_G) (cs : Nat → ClassId) (w : zw) (sz : Nat) (of tbs dds wks aa : Nat) (tc dc wc brt yr wd : Int32) (WR : Nat → Option Nat) (WA WT WP WS hd : Nat → Nat) (se : Nat → Int64) (PR : Nat → Nat → Option Nat) (PA TE PP : Nat → Nat → Nat) (bo br : Nat → Nat → Int32) (V PT : Nat → Nat → Nat → Int64) (nw : Nat) (k : Nat) (tb : Option Nat) (pe me : Int32) (re cr ex : Int64) (en : Int32) (what : Int32) (v : Int64) (hW : zWks cs w WR WA WT WP WS hd se PR PA TE PP bo br V PT nw) (hk : k < nw) (h4 : ¬ what = 4) (hcan : zCanB what v = 1) (h_f : w (of) = some (.inr (6, [.ref (tbs), .ref (dds), .ref (wks), .ref (aa), .int (tc), .int (dc), .int (wc), .int (brt), .int (yr), .int (wd)]))) (h_wr : w (wks) = some (eR cs 6 (10) (WR))) (h_te : w (WT k) = some (.inr (4, [va_rf (tb), .int (pe), .int (me), .long (re), .long (cr), .long (ex), .int (en)]))) : zM l D cs yX6_change wsX6_change 3 0 0 w sz [.ref (of), .int (nI k), .int (what), .long (v)] (fun r w2 => r = none ∧ zEx w w2 [(WT k, .inr (4, zPutT (va_rf tb) pe me re cr ex en what v))]) := by
  refine z_met (cc := cX6_change) (maxL := 7) (ret := none) (by decide) rfl (Nat.le_of_ble_eq_true rfl) ?_
  intro p e s m below meth c hx hb hr hml hown hts hlocks hnm hsz hK hE hS ls hl
  have hl : lv_has ls 7 [(0, .ref (of)), (1, .int (nI k)), (2, .int (what)), (3, .long (v))] := hl
  refine lv_aload_n hx hb dX6_change_0 rfl (lv_at hl 0 rfl) ?_
  refine lv_iload_n hx hb dX6_change_1 rfl (lv_at hl 1 rfl) ?_
  refine z_rV (As := [.int (nI k)]) (rest := []) (n := 1) ⟨hx, hb, hml, hown, hts⟩ (c_X6_workerNumbered l D cs w s.heap.size of tbs dds wks aa tc dc wc brt yr wd WR WA nw k (⟨hW.1, fun i hi => (hW.2.1 i hi).1, hW.2.2⟩) hk h_f h_wr) gX6_change_X6_workerNumbered rfl ⟨rfl, by decide +kernel, by decide +kernel, by decide +kernel⟩ ⟨Nat.le_of_ble_eq_true rfl, Nat.le_of_ble_eq_true rfl⟩ hK hE hS rfl h_f rfl hl.1 rfl (Nat.le_of_ble_eq_true rfl) dX6_change_2 ⟨Nat.le_of_ble_eq_true rfl, Nat.le_of_ble_eq_true rfl⟩ (fun H locs hS => ?_)
  have hwi := hW.2.1 k hk
  have h_wi := hwi.2.1
  have h_pi := hwi.2.2.1
  refine lv_astore (lv' := [(5, .ref (WA k)), (0, .ref (of)), (1, .int (nI k)), (2, .int (what)), (3, .long (v))]) hx hb dX6_change_5 hl (by decide) rfl (fun ls hl => ?_)
  refine lv_iload_n hx hb dX6_change_7 rfl (lv_at hl 3 rfl) ?_
  refine lv_iconst (v := 4) hx hb dX6_change_8 (by decide) ?_
  refine lv_icmp_ne (tgt := 36) hx hb dX6_change_9 (by decide) (fun _ => ?_) (fun cq9 => absurd cq9 h4)
  refine lv_iload_n hx hb dX6_change_36 rfl (lv_at hl 3 rfl) ?_
  refine lv_lload_n hx hb dX6_change_37 rfl (lv_at hl 4 rfl) ?_
  refine z_rS (As := [.int (what), .long (v)]) (rest := []) (n := 2) ⟨hx, hb, hml, hown, hts⟩ (c_X6_canBe l D cs w H.size what v) gX6_change_X6_canBe rfl ⟨by decide +kernel, by decide +kernel, by decide +kernel⟩ ⟨Nat.le_of_ble_eq_true rfl, Nat.le_of_ble_eq_true rfl⟩ hK hE hS rfl hl.1 rfl (Nat.le_of_ble_eq_true rfl) dX6_change_38 ⟨Nat.le_of_ble_eq_true rfl, Nat.le_of_ble_eq_true rfl⟩ (fun H locs hS => ?_)
  refine lv_if_ne (tgt := 54) hx hb dX6_change_41 (by decide) (fun _ => ?_) (fun cq9 => absurd cq9 (by rw [hcan]; decide))
  refine lv_aload hx hb dX6_change_54 (lv_at hl 0 rfl) ?_
  refine z_get (C := RX5) (T := TX5) (N := 5) (v := .ref (WT k)) hx hb hts (by decide +kernel) hown hK hS h_wi rfl 0 (by decide) (hts (.fieldLink RX6 138 "PayLedger$Worker" "terms" "LPayLedger$Terms;") (by decide +kernel)) rfl dX6_change_56 ?_
  refine lv_iload_n hx hb dX6_change_59 rfl (lv_at hl 3 rfl) ?_
  refine lv_lload_n hx hb dX6_change_60 rfl (lv_at hl 4 rfl) ?_
  refine z_invV (As := [.int (what), .long (v)]) (rest := []) (n := 2) ⟨hx, hb, hml, hown, hts⟩ (c_X4_put l D cs w H.size (WT k) tb pe me re cr ex en what v h_te) gX6_change_X4_put rfl ⟨rfl, by decide +kernel, by decide +kernel, by decide +kernel⟩ ⟨Nat.le_of_ble_eq_true rfl, Nat.le_of_ble_eq_true rfl⟩ hK hE hS rfl h_te rfl hl.1 rfl (Nat.le_of_ble_eq_true rfl) dX6_change_61 ⟨Nat.le_of_ble_eq_true rfl, Nat.le_of_ble_eq_true rfl⟩ (fun v9 u1 H locs hq hS => ?_)
  obtain ⟨hv9, hx9⟩ := hq
  subst hv9
  refine W.eq (g2 := F0 m 64 ls []) rfl ?_
  exact z_vret hx hb hr hlocks hS (Nat.le_of_ble_eq_true rfl) (Nat.le_of_ble_eq_true rfl) dX6_change_64 ⟨rfl, hx9⟩
set_option maxHeartbeats 4000000 in
set_option maxRecDepth 100000 in
theorem c_X6_change_table (l : Launch) (D : va_G) (cs : Nat → ClassId) (w : zw) (sz : Nat) (of tbs dds wks aa : Nat) (tc dc wc brt yr wd : Int32) (WR : Nat → Option Nat) (WA WT WP WS hd : Nat → Nat) (se : Nat → Int64) (PR : Nat → Nat → Option Nat) (PA TE PP : Nat → Nat → Nat) (bo br : Nat → Nat → Int32) (V PT : Nat → Nat → Nat → Int64) (nw : Nat) (k : Nat) (tb : Option Nat) (pe me : Int32) (re cr ex : Int64) (en : Int32) (TR : Nat → Option Nat) (TA : Nat → Nat) (nt j fl ra n : Nat) (tk : Int32) (hW : zWks cs w WR WA WT WP WS hd se PR PA TE PP bo br V PT nw) (hT : zArrN 6 TR TA nt) (hk : k < nw) (hj : j < nt) (h_f : w (of) = some (.inr (6, [.ref (tbs), .ref (dds), .ref (wks), .ref (aa), .int (tc), .int (dc), .int (wc), .int (brt), .int (yr), .int (wd)]))) (h_wr : w (wks) = some (eR cs 6 (10) (WR))) (h_te : w (WT k) = some (.inr (4, [va_rf (tb), .int (pe), .int (me), .long (re), .long (cr), .long (ex), .int (en)]))) (h_tr : w (tbs) = some (eR cs 5 (6) (TR))) (h_t : w (TA j) = some (.inr (3, [.ref (fl), .ref (ra), .int (nI n), .int (tk)]))) : zM l D cs yX6_change wsX6_change 3 0 0 w sz [.ref (of), .int (nI k), .int (4), .long (lN j)] (fun r w2 => r = none ∧ zEx w w2 [(TA j, .inr (3, [.ref fl, .ref ra, .int (nI n), .int 1])), (WT k, .inr (4, [.ref (TA j), .int pe, .int me, .long re, .long cr, .long ex, .int en]))]) := by
  refine z_met (cc := cX6_change) (maxL := 7) (ret := none) (by decide) rfl (Nat.le_of_ble_eq_true rfl) ?_
  intro p e s m below meth c hx hb hr hml hown hts hlocks hnm hsz hK hE hS ls hl
  have hl : lv_has ls 7 [(0, .ref (of)), (1, .int (nI k)), (2, .int (4)), (3, .long (lN j))] := hl
  refine lv_aload_n hx hb dX6_change_0 rfl (lv_at hl 0 rfl) ?_
  refine lv_iload_n hx hb dX6_change_1 rfl (lv_at hl 1 rfl) ?_
  refine z_rV (As := [.int (nI k)]) (rest := []) (n := 1) ⟨hx, hb, hml, hown, hts⟩ (c_X6_workerNumbered l D cs w s.heap.size of tbs dds wks aa tc dc wc brt yr wd WR WA nw k (⟨hW.1, fun i hi => (hW.2.1 i hi).1, hW.2.2⟩) hk h_f h_wr) gX6_change_X6_workerNumbered rfl ⟨rfl, by decide +kernel, by decide +kernel, by decide +kernel⟩ ⟨Nat.le_of_ble_eq_true rfl, Nat.le_of_ble_eq_true rfl⟩ hK hE hS rfl h_f rfl hl.1 rfl (Nat.le_of_ble_eq_true rfl) dX6_change_2 ⟨Nat.le_of_ble_eq_true rfl, Nat.le_of_ble_eq_true rfl⟩ (fun H locs hS => ?_)
  have hwi := hW.2.1 k hk
  have h_wi := hwi.2.1
  have h_pi := hwi.2.2.1
  refine lv_astore (lv' := [(5, .ref (WA k)), (0, .ref (of)), (1, .int (nI k)), (2, .int (4)), (3, .long (lN j))]) hx hb dX6_change_5 hl (by decide) rfl (fun ls hl => ?_)
  refine lv_iload_n hx hb dX6_change_7 rfl (lv_at hl 3 rfl) ?_
  refine lv_iconst (v := 4) hx hb dX6_change_8 (by decide) ?_
  refine lv_icmp_ne (tgt := 36) hx hb dX6_change_9 (by decide) (fun cq9 => absurd rfl cq9) (fun _ => ?_)
  refine lv_aload_n hx hb dX6_change_12 rfl (lv_at hl 1 rfl) ?_
  refine lv_lload_n hx hb dX6_change_13 rfl (lv_at hl 4 rfl) ?_
  refine z_rV (As := [.long (lN j)]) (rest := []) (n := 1) ⟨hx, hb, hml, hown, hts⟩ (c_X6_tableNumbered l D cs w H.size of tbs dds wks aa tc dc wc brt yr wd TR TA nt j hT hj h_f h_tr) gX6_change_X6_tableNumbered rfl ⟨rfl, by decide +kernel, by decide +kernel, by decide +kernel⟩ ⟨Nat.le_of_ble_eq_true rfl, Nat.le_of_ble_eq_true rfl⟩ hK hE hS rfl h_f rfl hl.1 rfl (Nat.le_of_ble_eq_true rfl) dX6_change_14 ⟨Nat.le_of_ble_eq_true rfl, Nat.le_of_ble_eq_true rfl⟩ (fun H locs hS => ?_)
  refine lv_astore (lv' := [(6, .ref (TA j)), (5, .ref (WA k)), (0, .ref (of)), (1, .int (nI k)), (2, .int (4)), (3, .long (lN j))]) hx hb dX6_change_17 hl (by decide) rfl (fun ls hl => ?_)
  refine lv_aload hx hb dX6_change_19 (lv_at hl 0 rfl) ?_
  refine lv_iconst (v := 1) hx hb dX6_change_21 (by decide) ?_
  refine z_put (C := RX3) (T := TX3) (N := 4) (v := .int (1)) hx hb hts (by decide +kernel) tyX3 tyX3_ok nmX3 hown hK hS h_t rfl 3 (by decide) (hts (.fieldLink RX6 77 "PayLedger$Table" "taken" "Z") (by decide +kernel)) rfl (zb_narrow (Or.inr rfl)) (zb_fits (Or.inr rfl)) (Nat.le_of_ble_eq_true rfl) dX6_change_22 (fun H locs hS => ?_)
  obtain ⟨w1, ew1⟩ : ∃ z : zw, z = va_up w (TA j) (some (.inr (3, [.ref (fl), .ref (ra), .int (nI n), .int (1)]))) := ⟨_, rfl⟩
  have hS : zS (zA w sz) D w1 s.heap H locs := by rw [ew1]; exact hS
  have h1_TAj : w1 (TA j) = some (.inr (3, [.ref (fl), .ref (ra), .int (nI n), .int (1)])) := by rw [ew1]; exact va_up_self _ _ _
  have h1_of : w1 (of) = some (.inr (6, [.ref (tbs), .ref (dds), .ref (wks), .ref (aa), .int (tc), .int (dc), .int (wc), .int (brt), .int (yr), .int (wd)])) := by rw [ew1]; exact (va_up_ne _ _ (zne h_f h_t (by intro q9; first | cases q9 | simp at q9))).trans h_f
  have h1_wks : w1 (wks) = some (eR cs 6 (10) (WR)) := by rw [ew1]; exact (va_up_ne _ _ (zne h_wr h_t (by intro q9; first | cases q9 | simp at q9))).trans h_wr
  have h1_WTk : w1 (WT k) = some (.inr (4, [va_rf (tb), .int (pe), .int (me), .long (re), .long (cr), .long (ex), .int (en)])) := by rw [ew1]; exact (va_up_ne _ _ (zne h_te h_t (by intro q9; first | cases q9 | simp at q9))).trans h_te
  have h1_tbs : w1 (tbs) = some (eR cs 5 (6) (TR)) := by rw [ew1]; exact (va_up_ne _ _ (zne h_tr h_t (by intro q9; first | cases q9 | simp at q9))).trans h_tr
  have h1_WAk : w1 (WA k) = some (.inr (5, [.ref (WT k), .ref (WP k), .ref (WS k), .int (nI (hd k)), .long (se k)])) := by rw [ew1]; exact (va_up_ne _ _ (zne h_wi h_t (by intro q9; first | cases q9 | simp at q9))).trans h_wi
  have h1_WPk : w1 (WP k) = some (eR cs 4 (60) (PR k)) := by rw [ew1]; exact (va_up_ne _ _ (zne h_pi h_t (by intro q9; first | cases q9 | simp at q9))).trans h_pi
  refine lv_aload hx hb dX6_change_25 (lv_at hl 1 rfl) ?_
  refine z_get (C := RX5) (T := TX5) (N := 5) (v := .ref (WT k)) hx hb hts (by decide +kernel) hown hK hS h1_WAk rfl 0 (by decide) (hts (.fieldLink RX6 138 "PayLedger$Worker" "terms" "LPayLedger$Terms;") (by decide +kernel)) rfl dX6_change_27 ?_
  refine lv_aload hx hb dX6_change_30 (lv_at hl 0 rfl) ?_
  refine z_put (C := RX4) (T := TX4) (N := 7) (v := .ref (TA j)) hx hb hts (by decide +kernel) tyX4 tyX4_ok nmX4 hown hK hS h1_WTk rfl 0 (by decide) (hts (.fieldLink RX6 142 "PayLedger$Terms" "table" "LPayLedger$Table;") (by decide +kernel)) rfl rfl rfl (Nat.le_of_ble_eq_true rfl) dX6_change_32 (fun H locs hS => ?_)
  obtain ⟨w2, ew2⟩ : ∃ z : zw, z = va_up w1 (WT k) (some (.inr (4, [.ref (TA j), .int (pe), .int (me), .long (re), .long (cr), .long (ex), .int (en)]))) := ⟨_, rfl⟩
  have hS : zS (zA w sz) D w2 s.heap H locs := by rw [ew2]; exact hS
  have h2_WTk : w2 (WT k) = some (.inr (4, [.ref (TA j), .int (pe), .int (me), .long (re), .long (cr), .long (ex), .int (en)])) := by rw [ew2]; exact va_up_self _ _ _
  have h2_of : w2 (of) = some (.inr (6, [.ref (tbs), .ref (dds), .ref (wks), .ref (aa), .int (tc), .int (dc), .int (wc), .int (brt), .int (yr), .int (wd)])) := by rw [ew2]; exact (va_up_ne _ _ (zne h1_of h1_WTk (by intro q9; first | cases q9 | simp at q9))).trans h1_of
  have h2_wks : w2 (wks) = some (eR cs 6 (10) (WR)) := by rw [ew2]; exact (va_up_ne _ _ (zne h1_wks h1_WTk (by intro q9; first | cases q9 | simp at q9))).trans h1_wks
  have h2_tbs : w2 (tbs) = some (eR cs 5 (6) (TR)) := by rw [ew2]; exact (va_up_ne _ _ (zne h1_tbs h1_WTk (by intro q9; first | cases q9 | simp at q9))).trans h1_tbs
  have h2_WAk : w2 (WA k) = some (.inr (5, [.ref (WT k), .ref (WP k), .ref (WS k), .int (nI (hd k)), .long (se k)])) := by rw [ew2]; exact (va_up_ne _ _ (zne h1_WAk h1_WTk (by intro q9; first | cases q9 | simp at q9))).trans h1_WAk
  have h2_WPk : w2 (WP k) = some (eR cs 4 (60) (PR k)) := by rw [ew2]; exact (va_up_ne _ _ (zne h1_WPk h1_WTk (by intro q9; first | cases q9 | simp at q9))).trans h1_WPk
  have h2_TAj : w2 (TA j) = some (.inr (3, [.ref (fl), .ref (ra), .int (nI n), .int (1)])) := by rw [ew2]; exact (va_up_ne _ _ (zne h1_TAj h1_WTk (by intro q9; first | cases q9 | simp at q9))).trans h1_TAj
  have hex : zEx w w2 [(TA j, (.inr (3, [.ref (fl), .ref (ra), .int (nI n), .int (1)]))), (WT k, (.inr (4, [.ref (TA j), .int (pe), .int (me), .long (re), .long (cr), .long (ex), .int (en)])))] := ⟨(zm1 h2_TAj (zm1 h2_WTk zm0)), fun a9 h9 => by rw [ew2, va_up_ne _ _ (show a9 ≠ WT k from h9 (WT k, (.inr (4, [.ref (TA j), .int (pe), .int (me), .long (re), .long (cr), .long (ex), .int (en)]))) (List.mem_of_getElem? (i := 1) rfl)), ew1, va_up_ne _ _ (show a9 ≠ TA j from h9 (TA j, (.inr (3, [.ref (fl), .ref (ra), .int (nI n), .int (1)]))) (List.mem_of_getElem? (i := 0) rfl))]⟩
  exact z_vret hx hb hr hlocks hS (Nat.le_of_ble_eq_true rfl) (Nat.le_of_ble_eq_true rfl) dX6_change_35 ⟨rfl, hex⟩
set_option maxHeartbeats 4000000 in
set_option maxRecDepth 100000 in
theorem t1_X6_change (l : Launch) (D : va_G) (cs : Nat → ClassId) (w : zw) (sz : Nat) (of tbs dds wks aa : Nat) (tc dc wc brt yr wd : Int32) (WR : Nat → Option Nat) (WA WT WP WS hd : Nat → Nat) (se : Nat → Int64) (PR : Nat → Nat → Option Nat) (PA TE PP : Nat → Nat → Nat) (bo br : Nat → Nat → Int32) (V PT : Nat → Nat → Nat → Int64) (nw : Nat) (x what : Int32) (v : Int64) (hlst : l.stackTraces = false) (hW : zWks cs w WR WA WT WP WS hd se PR PA TE PP bo br V PT nw) (hx9 : ∀ k : Nat, k < nw → x ≠ nI k) (h_f : w (of) = some (.inr (6, [.ref (tbs), .ref (dds), .ref (wks), .ref (aa), .int (tc), .int (dc), .int (wc), .int (brt), .int (yr), .int (wd)]))) (h_wr : w (wks) = some (eR cs 6 (10) (WR))) : zMX l D cs yX6_change wsX6_change 3 1 6 w sz [.ref (of), .int (x), .int (what), .long (v)] (fun _ _ => False) (fun E9 => E9 = "java/lang/IndexOutOfBoundsException") := by
  refine z_metX (cc := cX6_change) (maxL := 7) (ret := none) (by decide) rfl (Nat.le_of_ble_eq_true rfl) ?_
  intro p e s m below meth c hx hb hr hml hown hts hlocks hnm hsz hK hE hS ls hl
  have hl : lv_has ls 7 [(0, .ref (of)), (1, .int (x)), (2, .int (what)), (3, .long (v))] := hl
  refine lv_aload_n hx hb dX6_change_0 rfl (lv_at hl 0 rfl) ?_
  refine lv_iload_n hx hb dX6_change_1 rfl (lv_at hl 1 rfl) ?_
  refine z_invVX (As := [.int (x)]) (rest := []) (n := 1) ⟨hx, hb, hml, hown, hts⟩ (t_X6_workerNumbered l D cs w s.heap.size of tbs dds wks aa tc dc wc brt yr wd WR WA nw x hlst (⟨hW.1, fun i hi => (hW.2.1 i hi).1, hW.2.2⟩) hx9 h_f h_wr) gX6_change_X6_workerNumbered rfl ⟨rfl, by decide +kernel, by decide +kernel, by decide +kernel⟩ ⟨Nat.le_of_ble_eq_true rfl, Nat.le_of_ble_eq_true rfl⟩ hK hE hS rfl h_f rfl hl.1 rfl (Nat.le_of_ble_eq_true rfl) dX6_change_2 ⟨Nat.le_of_ble_eq_true rfl, Nat.le_of_ble_eq_true rfl⟩ (fun E9 ce9 q9 H9 locs9 hp9 hS9 h91 h92 h93 => z_out hS9 hnm hlocks h91 h92 h93 hp9 (Nat.le_of_ble_eq_true rfl) (Nat.le_of_ble_eq_true rfl)) (fun v9 u1 H locs hq hS => absurd hq id)
set_option maxHeartbeats 4000000 in
set_option maxRecDepth 100000 in
theorem t2_X6_change (l : Launch) (D : va_G) (cs : Nat → ClassId) (w : zw) (sz : Nat) (of tbs dds wks aa : Nat) (tc dc wc brt yr wd : Int32) (WR : Nat → Option Nat) (WA WT WP WS hd : Nat → Nat) (se : Nat → Int64) (PR : Nat → Nat → Option Nat) (PA TE PP : Nat → Nat → Nat) (bo br : Nat → Nat → Int32) (V PT : Nat → Nat → Nat → Int64) (nw : Nat) (TR : Nat → Option Nat) (TA : Nat → Nat) (nt k : Nat) (v : Int64) (hlst : l.stackTraces = false) (hW : zWks cs w WR WA WT WP WS hd se PR PA TE PP bo br V PT nw) (hT : zArrN 6 TR TA nt) (hk : k < nw) (hv9 : ∀ k : Nat, k < nt → v ≠ lN k) (h_f : w (of) = some (.inr (6, [.ref (tbs), .ref (dds), .ref (wks), .ref (aa), .int (tc), .int (dc), .int (wc), .int (brt), .int (yr), .int (wd)]))) (h_wr : w (wks) = some (eR cs 6 (10) (WR))) (h_tr : w (tbs) = some (eR cs 5 (6) (TR))) : zMX l D cs yX6_change wsX6_change 3 1 6 w sz [.ref (of), .int (nI k), .int (4), .long (v)] (fun _ _ => False) (fun E9 => E9 = "java/lang/IndexOutOfBoundsException") := by
  refine z_metX (cc := cX6_change) (maxL := 7) (ret := none) (by decide) rfl (Nat.le_of_ble_eq_true rfl) ?_
  intro p e s m below meth c hx hb hr hml hown hts hlocks hnm hsz hK hE hS ls hl
  have hl : lv_has ls 7 [(0, .ref (of)), (1, .int (nI k)), (2, .int (4)), (3, .long (v))] := hl
  refine lv_aload_n hx hb dX6_change_0 rfl (lv_at hl 0 rfl) ?_
  refine lv_iload_n hx hb dX6_change_1 rfl (lv_at hl 1 rfl) ?_
  refine z_rV (As := [.int (nI k)]) (rest := []) (n := 1) ⟨hx, hb, hml, hown, hts⟩ (c_X6_workerNumbered l D cs w s.heap.size of tbs dds wks aa tc dc wc brt yr wd WR WA nw k (⟨hW.1, fun i hi => (hW.2.1 i hi).1, hW.2.2⟩) hk h_f h_wr) gX6_change_X6_workerNumbered rfl ⟨rfl, by decide +kernel, by decide +kernel, by decide +kernel⟩ ⟨Nat.le_of_ble_eq_true rfl, Nat.le_of_ble_eq_true rfl⟩ hK hE hS rfl h_f rfl hl.1 rfl (Nat.le_of_ble_eq_true rfl) dX6_change_2 ⟨Nat.le_of_ble_eq_true rfl, Nat.le_of_ble_eq_true rfl⟩ (fun H locs hS => ?_)
  have hwi := hW.2.1 k hk
  have h_wi := hwi.2.1
  have h_pi := hwi.2.2.1
  refine lv_astore (lv' := [(5, .ref (WA k)), (0, .ref (of)), (1, .int (nI k)), (2, .int (4)), (3, .long (v))]) hx hb dX6_change_5 hl (by decide) rfl (fun ls hl => ?_)
  refine lv_iload_n hx hb dX6_change_7 rfl (lv_at hl 3 rfl) ?_
  refine lv_iconst (v := 4) hx hb dX6_change_8 (by decide) ?_
  refine lv_icmp_ne (tgt := 36) hx hb dX6_change_9 (by decide) (fun cq9 => absurd rfl cq9) (fun _ => ?_)
  refine lv_aload_n hx hb dX6_change_12 rfl (lv_at hl 1 rfl) ?_
  refine lv_lload_n hx hb dX6_change_13 rfl (lv_at hl 4 rfl) ?_
  refine z_invVX (As := [.long (v)]) (rest := []) (n := 1) ⟨hx, hb, hml, hown, hts⟩ (t_X6_tableNumbered l D cs w H.size of tbs dds wks aa tc dc wc brt yr wd TR TA nt v hlst hT hv9 h_f h_tr) gX6_change_X6_tableNumbered rfl ⟨rfl, by decide +kernel, by decide +kernel, by decide +kernel⟩ ⟨Nat.le_of_ble_eq_true rfl, Nat.le_of_ble_eq_true rfl⟩ hK hE hS rfl h_f rfl hl.1 rfl (Nat.le_of_ble_eq_true rfl) dX6_change_14 ⟨Nat.le_of_ble_eq_true rfl, Nat.le_of_ble_eq_true rfl⟩ (fun E9 ce9 q9 H9 locs9 hp9 hS9 h91 h92 h93 => z_out hS9 hnm hlocks h91 h92 h93 hp9 (Nat.le_of_ble_eq_true rfl) (Nat.le_of_ble_eq_true rfl)) (fun v9 u1 H locs hq hS => absurd hq id)
set_option maxHeartbeats 4000000 in
set_option maxRecDepth 100000 in
theorem t3_X6_change (l : Launch) (D : va_G) (cs : Nat → ClassId) (w : zw) (sz : Nat) (of tbs dds wks aa : Nat) (tc dc wc brt yr wd : Int32) (WR : Nat → Option Nat) (WA WT WP WS hd : Nat → Nat) (se : Nat → Int64) (PR : Nat → Nat → Option Nat) (PA TE PP : Nat → Nat → Nat) (bo br : Nat → Nat → Int32) (V PT : Nat → Nat → Nat → Int64) (nw : Nat) (k : Nat) (what : Int32) (v : Int64) (hlst : l.stackTraces = false) (hW : zWks cs w WR WA WT WP WS hd se PR PA TE PP bo br V PT nw) (hk : k < nw) (h4 : ¬ what = 4) (hcan : zCanB what v = 0) (h_f : w (of) = some (.inr (6, [.ref (tbs), .ref (dds), .ref (wks), .ref (aa), .int (tc), .int (dc), .int (wc), .int (brt), .int (yr), .int (wd)]))) (h_wr : w (wks) = some (eR cs 6 (10) (WR))) : zMX l D cs yX6_change wsX6_change 3 1 6 w sz [.ref (of), .int (nI k), .int (what), .long (v)] (fun _ _ => False) (fun E9 => E9 = "java/lang/IllegalArgumentException") := by
  refine z_metX (cc := cX6_change) (maxL := 7) (ret := none) (by decide) rfl (Nat.le_of_ble_eq_true rfl) ?_
  intro p e s m below meth c hx hb hr hml hown hts hlocks hnm hsz hK hE hS ls hl
  have hl : lv_has ls 7 [(0, .ref (of)), (1, .int (nI k)), (2, .int (what)), (3, .long (v))] := hl
  refine lv_aload_n hx hb dX6_change_0 rfl (lv_at hl 0 rfl) ?_
  refine lv_iload_n hx hb dX6_change_1 rfl (lv_at hl 1 rfl) ?_
  refine z_rV (As := [.int (nI k)]) (rest := []) (n := 1) ⟨hx, hb, hml, hown, hts⟩ (c_X6_workerNumbered l D cs w s.heap.size of tbs dds wks aa tc dc wc brt yr wd WR WA nw k (⟨hW.1, fun i hi => (hW.2.1 i hi).1, hW.2.2⟩) hk h_f h_wr) gX6_change_X6_workerNumbered rfl ⟨rfl, by decide +kernel, by decide +kernel, by decide +kernel⟩ ⟨Nat.le_of_ble_eq_true rfl, Nat.le_of_ble_eq_true rfl⟩ hK hE hS rfl h_f rfl hl.1 rfl (Nat.le_of_ble_eq_true rfl) dX6_change_2 ⟨Nat.le_of_ble_eq_true rfl, Nat.le_of_ble_eq_true rfl⟩ (fun H locs hS => ?_)
  have hwi := hW.2.1 k hk
  have h_wi := hwi.2.1
  have h_pi := hwi.2.2.1
  refine lv_astore (lv' := [(5, .ref (WA k)), (0, .ref (of)), (1, .int (nI k)), (2, .int (what)), (3, .long (v))]) hx hb dX6_change_5 hl (by decide) rfl (fun ls hl => ?_)
  refine lv_iload_n hx hb dX6_change_7 rfl (lv_at hl 3 rfl) ?_
  refine lv_iconst (v := 4) hx hb dX6_change_8 (by decide) ?_
  refine lv_icmp_ne (tgt := 36) hx hb dX6_change_9 (by decide) (fun _ => ?_) (fun cq9 => absurd cq9 h4)
  refine lv_iload_n hx hb dX6_change_36 rfl (lv_at hl 3 rfl) ?_
  refine lv_lload_n hx hb dX6_change_37 rfl (lv_at hl 4 rfl) ?_
  refine z_rS (As := [.int (what), .long (v)]) (rest := []) (n := 2) ⟨hx, hb, hml, hown, hts⟩ (c_X6_canBe l D cs w H.size what v) gX6_change_X6_canBe rfl ⟨by decide +kernel, by decide +kernel, by decide +kernel⟩ ⟨Nat.le_of_ble_eq_true rfl, Nat.le_of_ble_eq_true rfl⟩ hK hE hS rfl hl.1 rfl (Nat.le_of_ble_eq_true rfl) dX6_change_38 ⟨Nat.le_of_ble_eq_true rfl, Nat.le_of_ble_eq_true rfl⟩ (fun H locs hS => ?_)
  refine lv_if_ne (tgt := 54) hx hb dX6_change_41 (by decide) (fun cq9 => absurd hcan cq9) (fun _ => ?_)
  exact z_thr (text := "nothing that can be changed so") hx hb hlst hown hts (by decide +kernel) (by decide +kernel) (by decide +kernel) zbad76 (by decide +kernel) (by decide +kernel) (by decide +kernel) (by decide +kernel) hE hS (hl.1.trans hml.symm) dX6_change_44 dX6_change_47 dX6_change_48 dX6_change_50 dX6_change_53 hnm ⟨Nat.le_of_ble_eq_true rfl, Nat.le_of_ble_eq_true rfl, Nat.le_of_ble_eq_true rfl, Nat.le_of_ble_eq_true rfl⟩ hlocks rfl (Nat.le_of_ble_eq_true rfl) (Nat.le_of_ble_eq_true rfl)
