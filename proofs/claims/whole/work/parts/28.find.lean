/-! ===== PayLedger: tables, workers, deductions by their numbers ===== -/
set_option maxHeartbeats 4000000 in
set_option maxRecDepth 100000 in
theorem c_X6_tableNumbered (l : Launch) (D : va_G) (cs : Nat → ClassId) (w : zw) (sz : Nat) (of tbs dds wks aa : Nat) (tc dc wc brt yr wd : Int32) (TR : Nat → Option Nat) (TA : Nat → Nat) (nt k : Nat) (hT : zArrN 6 TR TA nt) (hk : k < nt) (h_f : w (of) = some (.inr (6, [.ref (tbs), .ref (dds), .ref (wks), .ref (aa), .int (tc), .int (dc), .int (wc), .int (brt), .int (yr), .int (wd)]))) (h_tr : w (tbs) = some (eR cs 5 (6) (TR))) : zMr l D cs yX6_tableNumbered wsX6_tableNumbered 0 w sz [.ref (of), .long (lN k)] (.ref (TA k)) := by
  refine z_met (cc := cX6_tableNumbered) (maxL := 4) (ret := (some (.object "PayLedger$Table"))) (by decide) rfl (Nat.le_of_ble_eq_true rfl) ?_
  intro p e s m below meth c hx hb hr hml hown hts hlocks hnm hsz hK hE hS ls hl
  have hl : lv_has ls 4 [(0, .ref (of)), (1, .long (lN k))] := hl
  refine lv_lload_n hx hb dX6_tableNumbered_0 rfl (lv_at hl 1 rfl) ?_
  refine lv_lconst (v := 0) hx hb dX6_tableNumbered_1 (by decide) ?_
  refine z_lif_lt (tgt := 17) hx hb dX6_tableNumbered_2 dX6_tableNumbered_3 (by decide) (fun cq9 => absurd cq9 (zlN_nneg (by have := hT.1; omega))) (fun _ => ?_)
  refine lv_lload_n hx hb dX6_tableNumbered_6 rfl (lv_at hl 1 rfl) ?_
  refine lv_aload_n hx hb dX6_tableNumbered_7 rfl (lv_at hl 0 rfl) ?_
  refine z_get (C := RX6) (T := TX6) (N := 10) (v := .ref (tbs)) hx hb hts (by decide +kernel) hown hK hS h_f rfl 0 (by decide) (hts (.fieldLink RX6 11 "PayLedger" "tables" "[LPayLedger$Table;") (by decide +kernel)) rfl dX6_tableNumbered_8 ?_
  refine z_alen (t0 := 5) (v := 6) hx hb hK hS h_tr rfl rfl dX6_tableNumbered_11 ?_
  refine lv_i2l (v := ((6 : Int32).toInt64)) hx hb dX6_tableNumbered_12 rfl ?_
  refine z_tl (y := lN 6) rfl ?_
  refine z_lif_lt (tgt := 21) hx hb dX6_tableNumbered_13 dX6_tableNumbered_14 (by decide) (fun _ => ?_) (fun cq9 => absurd ((pk_lLT (by have := hT.1; omega) (by decide)).mpr (by have := hT.1; omega)) cq9)
  refine lv_aload_n hx hb dX6_tableNumbered_21 rfl (lv_at hl 0 rfl) ?_
  refine z_get (C := RX6) (T := TX6) (N := 10) (v := .ref (tbs)) hx hb hts (by decide +kernel) hown hK hS h_f rfl 0 (by decide) (hts (.fieldLink RX6 11 "PayLedger" "tables" "[LPayLedger$Table;") (by decide +kernel)) rfl dX6_tableNumbered_22 ?_
  refine lv_lload_n hx hb dX6_tableNumbered_25 rfl (lv_at hl 1 rfl) ?_
  refine lv_l2i (v := ((lN k : Int64).toInt32)) hx hb dX6_tableNumbered_26 rfl ?_
  refine z_ti (y := nI k) (lN_i k) ?_
  refine z_aaldv (v := .ref (TA k)) hx hb hK hS h_tr rfl (vp_in_nI (by have := hT.1; omega) (by omega)) (by rw [nI_clamp (by have := hT.1; omega), hT.2.1 k hk]; rfl) dX6_tableNumbered_27 ?_
  refine lv_astore_n (lv' := [(3, .ref (TA k)), (0, .ref (of)), (1, .long (lN k))]) hx hb dX6_tableNumbered_28 rfl hl (by decide) rfl (fun ls hl => ?_)
  refine lv_aload_n hx hb dX6_tableNumbered_29 rfl (lv_at hl 0 rfl) ?_
  refine lv_ifnonnull (tgt := 44) hx hb dX6_tableNumbered_30 (by decide) ?_
  refine lv_aload_n hx hb dX6_tableNumbered_44 rfl (lv_at hl 0 rfl) ?_
  exact z_aret hx hb hr hlocks (Or.inr ⟨_, rfl⟩) hS (Nat.le_of_ble_eq_true rfl) (Nat.le_of_ble_eq_true rfl) dX6_tableNumbered_45 ⟨rfl, rfl⟩
set_option maxHeartbeats 4000000 in
set_option maxRecDepth 100000 in
theorem t_X6_tableNumbered (l : Launch) (D : va_G) (cs : Nat → ClassId) (w : zw) (sz : Nat) (of tbs dds wks aa : Nat) (tc dc wc brt yr wd : Int32) (TR : Nat → Option Nat) (TA : Nat → Nat) (nt : Nat) (x : Int64) (hlst : l.stackTraces = false) (hT : zArrN 6 TR TA nt) (hx9 : ∀ k : Nat, k < nt → x ≠ lN k) (h_f : w (of) = some (.inr (6, [.ref (tbs), .ref (dds), .ref (wks), .ref (aa), .int (tc), .int (dc), .int (wc), .int (brt), .int (yr), .int (wd)]))) (h_tr : w (tbs) = some (eR cs 5 (6) (TR))) : zMX l D cs yX6_tableNumbered wsX6_tableNumbered 0 1 6 w sz [.ref (of), .long (x)] (fun _ _ => False) (fun E9 => E9 = "java/lang/IndexOutOfBoundsException") := by
  refine z_metX (cc := cX6_tableNumbered) (maxL := 4) (ret := (some (.object "PayLedger$Table"))) (by decide) rfl (Nat.le_of_ble_eq_true rfl) ?_
  intro p e s m below meth c hx hb hr hml hown hts hlocks hnm hsz hK hE hS ls hl
  have hl : lv_has ls 4 [(0, .ref (of)), (1, .long (x))] := hl
  refine lv_lload_n hx hb dX6_tableNumbered_0 rfl (lv_at hl 1 rfl) ?_
  refine lv_lconst (v := 0) hx hb dX6_tableNumbered_1 (by decide) ?_
  refine z_lif_lt (tgt := 17) hx hb dX6_tableNumbered_2 dX6_tableNumbered_3 (by decide) (fun c2 => ?_) (fun c2 => ?_)
  · refine lv_null hx hb dX6_tableNumbered_17 ?_
    refine lv_goto (tgt := 28) hx hb dX6_tableNumbered_18 (by decide) ?_
    refine lv_astore_nN (lv' := [(3, .null), (0, .ref (of)), (1, .long (x))]) hx hb dX6_tableNumbered_28 rfl hl (by decide) rfl (fun ls hl => ?_)
    refine lv_aload_nN hx hb dX6_tableNumbered_29 rfl (lv_at hl 0 rfl) ?_
    refine lv_ifnonnullN hx hb dX6_tableNumbered_30 ?_
    exact z_thrW (text := "there is no such table") hx hb hlst hown hts (by decide +kernel) (by decide +kernel) (by decide +kernel) zbad265 (by decide +kernel) (by decide +kernel) (by decide +kernel) (by decide +kernel) hE hS (hl.1.trans hml.symm) dX6_tableNumbered_33 dX6_tableNumbered_36 dX6_tableNumbered_37 dX6_tableNumbered_40 dX6_tableNumbered_43 hnm ⟨Nat.le_of_ble_eq_true rfl, Nat.le_of_ble_eq_true rfl, Nat.le_of_ble_eq_true rfl, Nat.le_of_ble_eq_true rfl⟩ hlocks rfl (Nat.le_of_ble_eq_true rfl) (Nat.le_of_ble_eq_true rfl)
  · refine lv_lload_n hx hb dX6_tableNumbered_6 rfl (lv_at hl 1 rfl) ?_
    refine lv_aload_n hx hb dX6_tableNumbered_7 rfl (lv_at hl 0 rfl) ?_
    refine z_get (C := RX6) (T := TX6) (N := 10) (v := .ref (tbs)) hx hb hts (by decide +kernel) hown hK hS h_f rfl 0 (by decide) (hts (.fieldLink RX6 11 "PayLedger" "tables" "[LPayLedger$Table;") (by decide +kernel)) rfl dX6_tableNumbered_8 ?_
    refine z_alen (t0 := 5) (v := 6) hx hb hK hS h_tr rfl rfl dX6_tableNumbered_11 ?_
    refine lv_i2l (v := ((6 : Int32).toInt64)) hx hb dX6_tableNumbered_12 rfl ?_
    refine z_tl (y := lN 6) rfl ?_
    refine z_lif_lt (tgt := 21) hx hb dX6_tableNumbered_13 dX6_tableNumbered_14 (by decide) (fun c13 => ?_) (fun c13 => ?_)
    · obtain ⟨k, hk, ek⟩ := zI64_of c2 c13 (by decide)
      have hk2 : nt ≤ k := Nat.le_of_not_lt (fun q9 => hx9 k q9 ek)
      refine lv_aload_n hx hb dX6_tableNumbered_21 rfl (lv_at hl 0 rfl) ?_
      refine z_get (C := RX6) (T := TX6) (N := 10) (v := .ref (tbs)) hx hb hts (by decide +kernel) hown hK hS h_f rfl 0 (by decide) (hts (.fieldLink RX6 11 "PayLedger" "tables" "[LPayLedger$Table;") (by decide +kernel)) rfl dX6_tableNumbered_22 ?_
      refine lv_lload_n hx hb dX6_tableNumbered_25 rfl (lv_at hl 1 rfl) ?_
      refine lv_l2i (v := ((x : Int64).toInt32)) hx hb dX6_tableNumbered_26 rfl ?_
      refine z_ti (y := nI k) (by rw [ek]; exact lN_i k) ?_
      refine z_aaldv (v := .null) hx hb hK hS h_tr rfl (vp_in_nI hk (by omega)) (by rw [nI_clamp (by omega), hT.2.2 k hk2 hk]; rfl) dX6_tableNumbered_27 ?_
      refine lv_astore_nN (lv' := [(3, .null), (0, .ref (of)), (1, .long (x))]) hx hb dX6_tableNumbered_28 rfl hl (by decide) rfl (fun ls hl => ?_)
      refine lv_aload_nN hx hb dX6_tableNumbered_29 rfl (lv_at hl 0 rfl) ?_
      refine lv_ifnonnullN hx hb dX6_tableNumbered_30 ?_
      exact z_thrW (text := "there is no such table") hx hb hlst hown hts (by decide +kernel) (by decide +kernel) (by decide +kernel) zbad265 (by decide +kernel) (by decide +kernel) (by decide +kernel) (by decide +kernel) hE hS (hl.1.trans hml.symm) dX6_tableNumbered_33 dX6_tableNumbered_36 dX6_tableNumbered_37 dX6_tableNumbered_40 dX6_tableNumbered_43 hnm ⟨Nat.le_of_ble_eq_true rfl, Nat.le_of_ble_eq_true rfl, Nat.le_of_ble_eq_true rfl, Nat.le_of_ble_eq_true rfl⟩ hlocks rfl (Nat.le_of_ble_eq_true rfl) (Nat.le_of_ble_eq_true rfl)
    · refine lv_null hx hb dX6_tableNumbered_17 ?_
      refine lv_goto (tgt := 28) hx hb dX6_tableNumbered_18 (by decide) ?_
      refine lv_astore_nN (lv' := [(3, .null), (0, .ref (of)), (1, .long (x))]) hx hb dX6_tableNumbered_28 rfl hl (by decide) rfl (fun ls hl => ?_)
      refine lv_aload_nN hx hb dX6_tableNumbered_29 rfl (lv_at hl 0 rfl) ?_
      refine lv_ifnonnullN hx hb dX6_tableNumbered_30 ?_
      exact z_thrW (text := "there is no such table") hx hb hlst hown hts (by decide +kernel) (by decide +kernel) (by decide +kernel) zbad265 (by decide +kernel) (by decide +kernel) (by decide +kernel) (by decide +kernel) hE hS (hl.1.trans hml.symm) dX6_tableNumbered_33 dX6_tableNumbered_36 dX6_tableNumbered_37 dX6_tableNumbered_40 dX6_tableNumbered_43 hnm ⟨Nat.le_of_ble_eq_true rfl, Nat.le_of_ble_eq_true rfl, Nat.le_of_ble_eq_true rfl, Nat.le_of_ble_eq_true rfl⟩ hlocks rfl (Nat.le_of_ble_eq_true rfl) (Nat.le_of_ble_eq_true rfl)
set_option maxHeartbeats 4000000 in
set_option maxRecDepth 100000 in
theorem c_X6_workerNumbered (l : Launch) (D : va_G) (cs : Nat → ClassId) (w : zw) (sz : Nat) (of tbs dds wks aa : Nat) (tc dc wc brt yr wd : Int32) (WR : Nat → Option Nat) (WA : Nat → Nat) (nw k : Nat) (hW : zArrN 10 WR WA nw) (hk : k < nw) (h_f : w (of) = some (.inr (6, [.ref (tbs), .ref (dds), .ref (wks), .ref (aa), .int (tc), .int (dc), .int (wc), .int (brt), .int (yr), .int (wd)]))) (h_wr : w (wks) = some (eR cs 6 (10) (WR))) : zMr l D cs yX6_workerNumbered wsX6_workerNumbered 0 w sz [.ref (of), .int (nI k)] (.ref (WA k)) := by
  refine z_met (cc := cX6_workerNumbered) (maxL := 3) (ret := (some (.object "PayLedger$Worker"))) (by decide) rfl (Nat.le_of_ble_eq_true rfl) ?_
  intro p e s m below meth c hx hb hr hml hown hts hlocks hnm hsz hK hE hS ls hl
  have hl : lv_has ls 3 [(0, .ref (of)), (1, .int (nI k))] := hl
  refine lv_iload_n hx hb dX6_workerNumbered_0 rfl (lv_at hl 1 rfl) ?_
  refine lv_if_lt (tgt := 13) hx hb dX6_workerNumbered_1 (by decide) (fun cq9 => absurd cq9 (nI_pos (by have := hW.1; omega))) (fun _ => ?_)
  refine lv_iload_n hx hb dX6_workerNumbered_4 rfl (lv_at hl 1 rfl) ?_
  refine lv_aload_n hx hb dX6_workerNumbered_5 rfl (lv_at hl 0 rfl) ?_
  refine z_get (C := RX6) (T := TX6) (N := 10) (v := .ref (wks)) hx hb hts (by decide +kernel) hown hK hS h_f rfl 2 (by decide) (hts (.fieldLink RX6 23 "PayLedger" "workers" "[LPayLedger$Worker;") (by decide +kernel)) rfl dX6_workerNumbered_6 ?_
  refine z_alen (t0 := 6) (v := 10) hx hb hK hS h_wr rfl rfl dX6_workerNumbered_9 ?_
  refine lv_icmp_lt (tgt := 17) hx hb dX6_workerNumbered_10 (by decide) (fun _ => ?_) (fun cq9 => absurd (nI_lt (b := 10) (by have := hW.1; omega) (by omega)) cq9)
  refine lv_aload_n hx hb dX6_workerNumbered_17 rfl (lv_at hl 0 rfl) ?_
  refine z_get (C := RX6) (T := TX6) (N := 10) (v := .ref (wks)) hx hb hts (by decide +kernel) hown hK hS h_f rfl 2 (by decide) (hts (.fieldLink RX6 23 "PayLedger" "workers" "[LPayLedger$Worker;") (by decide +kernel)) rfl dX6_workerNumbered_18 ?_
  refine lv_iload_n hx hb dX6_workerNumbered_21 rfl (lv_at hl 1 rfl) ?_
  refine z_aaldv (v := .ref (WA k)) hx hb hK hS h_wr rfl (vp_in_nI (by have := hW.1; omega) (by omega)) (by rw [nI_clamp (by have := hW.1; omega), hW.2.1 k hk]; rfl) dX6_workerNumbered_22 ?_
  refine lv_astore_n (lv' := [(2, .ref (WA k)), (0, .ref (of)), (1, .int (nI k))]) hx hb dX6_workerNumbered_23 rfl hl (by decide) rfl (fun ls hl => ?_)
  refine lv_aload_n hx hb dX6_workerNumbered_24 rfl (lv_at hl 0 rfl) ?_
  refine lv_ifnonnull (tgt := 39) hx hb dX6_workerNumbered_25 (by decide) ?_
  refine lv_aload_n hx hb dX6_workerNumbered_39 rfl (lv_at hl 0 rfl) ?_
  exact z_aret hx hb hr hlocks (Or.inr ⟨_, rfl⟩) hS (Nat.le_of_ble_eq_true rfl) (Nat.le_of_ble_eq_true rfl) dX6_workerNumbered_40 ⟨rfl, rfl⟩
set_option maxHeartbeats 4000000 in
set_option maxRecDepth 100000 in
theorem t_X6_workerNumbered (l : Launch) (D : va_G) (cs : Nat → ClassId) (w : zw) (sz : Nat) (of tbs dds wks aa : Nat) (tc dc wc brt yr wd : Int32) (WR : Nat → Option Nat) (WA : Nat → Nat) (nw : Nat) (x : Int32) (hlst : l.stackTraces = false) (hW : zArrN 10 WR WA nw) (hx9 : ∀ k : Nat, k < nw → x ≠ nI k) (h_f : w (of) = some (.inr (6, [.ref (tbs), .ref (dds), .ref (wks), .ref (aa), .int (tc), .int (dc), .int (wc), .int (brt), .int (yr), .int (wd)]))) (h_wr : w (wks) = some (eR cs 6 (10) (WR))) : zMX l D cs yX6_workerNumbered wsX6_workerNumbered 0 1 6 w sz [.ref (of), .int (x)] (fun _ _ => False) (fun E9 => E9 = "java/lang/IndexOutOfBoundsException") := by
  refine z_metX (cc := cX6_workerNumbered) (maxL := 3) (ret := (some (.object "PayLedger$Worker"))) (by decide) rfl (Nat.le_of_ble_eq_true rfl) ?_
  intro p e s m below meth c hx hb hr hml hown hts hlocks hnm hsz hK hE hS ls hl
  have hl : lv_has ls 3 [(0, .ref (of)), (1, .int (x))] := hl
  refine lv_iload_n hx hb dX6_workerNumbered_0 rfl (lv_at hl 1 rfl) ?_
  refine lv_if_lt (tgt := 13) hx hb dX6_workerNumbered_1 (by decide) (fun c1 => ?_) (fun c1 => ?_)
  · refine lv_null hx hb dX6_workerNumbered_13 ?_
    refine lv_goto (tgt := 23) hx hb dX6_workerNumbered_14 (by decide) ?_
    refine lv_astore_nN (lv' := [(2, .null), (0, .ref (of)), (1, .int (x))]) hx hb dX6_workerNumbered_23 rfl hl (by decide) rfl (fun ls hl => ?_)
    refine lv_aload_nN hx hb dX6_workerNumbered_24 rfl (lv_at hl 0 rfl) ?_
    refine lv_ifnonnullN hx hb dX6_workerNumbered_25 ?_
    exact z_thrW (text := "there is no such worker") hx hb hlst hown hts (by decide +kernel) (by decide +kernel) (by decide +kernel) zbad265 (by decide +kernel) (by decide +kernel) (by decide +kernel) (by decide +kernel) hE hS (hl.1.trans hml.symm) dX6_workerNumbered_28 dX6_workerNumbered_31 dX6_workerNumbered_32 dX6_workerNumbered_35 dX6_workerNumbered_38 hnm ⟨Nat.le_of_ble_eq_true rfl, Nat.le_of_ble_eq_true rfl, Nat.le_of_ble_eq_true rfl, Nat.le_of_ble_eq_true rfl⟩ hlocks rfl (Nat.le_of_ble_eq_true rfl) (Nat.le_of_ble_eq_true rfl)
  · refine lv_iload_n hx hb dX6_workerNumbered_4 rfl (lv_at hl 1 rfl) ?_
    refine lv_aload_n hx hb dX6_workerNumbered_5 rfl (lv_at hl 0 rfl) ?_
    refine z_get (C := RX6) (T := TX6) (N := 10) (v := .ref (wks)) hx hb hts (by decide +kernel) hown hK hS h_f rfl 2 (by decide) (hts (.fieldLink RX6 23 "PayLedger" "workers" "[LPayLedger$Worker;") (by decide +kernel)) rfl dX6_workerNumbered_6 ?_
    refine z_alen (t0 := 6) (v := 10) hx hb hK hS h_wr rfl rfl dX6_workerNumbered_9 ?_
    refine lv_icmp_lt (tgt := 17) hx hb dX6_workerNumbered_10 (by decide) (fun c10 => ?_) (fun c10 => ?_)
    · obtain ⟨k, hk, ek⟩ := zI32_of (N := 10) c1 c10 (by omega)
      have hk2 : nw ≤ k := Nat.le_of_not_lt (fun q9 => hx9 k q9 ek)
      refine lv_aload_n hx hb dX6_workerNumbered_17 rfl (lv_at hl 0 rfl) ?_
      refine z_get (C := RX6) (T := TX6) (N := 10) (v := .ref (wks)) hx hb hts (by decide +kernel) hown hK hS h_f rfl 2 (by decide) (hts (.fieldLink RX6 23 "PayLedger" "workers" "[LPayLedger$Worker;") (by decide +kernel)) rfl dX6_workerNumbered_18 ?_
      refine lv_iload_n hx hb dX6_workerNumbered_21 rfl (lv_at hl 1 rfl) ?_
      refine z_ti (y := nI k) ek ?_
      refine z_aaldv (v := .null) hx hb hK hS h_wr rfl (vp_in_nI hk (by omega)) (by rw [nI_clamp (by omega), hW.2.2 k hk2 hk]; rfl) dX6_workerNumbered_22 ?_
      refine lv_astore_nN (lv' := [(2, .null), (0, .ref (of)), (1, .int (x))]) hx hb dX6_workerNumbered_23 rfl hl (by decide) rfl (fun ls hl => ?_)
      refine lv_aload_nN hx hb dX6_workerNumbered_24 rfl (lv_at hl 0 rfl) ?_
      refine lv_ifnonnullN hx hb dX6_workerNumbered_25 ?_
      exact z_thrW (text := "there is no such worker") hx hb hlst hown hts (by decide +kernel) (by decide +kernel) (by decide +kernel) zbad265 (by decide +kernel) (by decide +kernel) (by decide +kernel) (by decide +kernel) hE hS (hl.1.trans hml.symm) dX6_workerNumbered_28 dX6_workerNumbered_31 dX6_workerNumbered_32 dX6_workerNumbered_35 dX6_workerNumbered_38 hnm ⟨Nat.le_of_ble_eq_true rfl, Nat.le_of_ble_eq_true rfl, Nat.le_of_ble_eq_true rfl, Nat.le_of_ble_eq_true rfl⟩ hlocks rfl (Nat.le_of_ble_eq_true rfl) (Nat.le_of_ble_eq_true rfl)
    · refine lv_null hx hb dX6_workerNumbered_13 ?_
      refine lv_goto (tgt := 23) hx hb dX6_workerNumbered_14 (by decide) ?_
      refine lv_astore_nN (lv' := [(2, .null), (0, .ref (of)), (1, .int (x))]) hx hb dX6_workerNumbered_23 rfl hl (by decide) rfl (fun ls hl => ?_)
      refine lv_aload_nN hx hb dX6_workerNumbered_24 rfl (lv_at hl 0 rfl) ?_
      refine lv_ifnonnullN hx hb dX6_workerNumbered_25 ?_
      exact z_thrW (text := "there is no such worker") hx hb hlst hown hts (by decide +kernel) (by decide +kernel) (by decide +kernel) zbad265 (by decide +kernel) (by decide +kernel) (by decide +kernel) (by decide +kernel) hE hS (hl.1.trans hml.symm) dX6_workerNumbered_28 dX6_workerNumbered_31 dX6_workerNumbered_32 dX6_workerNumbered_35 dX6_workerNumbered_38 hnm ⟨Nat.le_of_ble_eq_true rfl, Nat.le_of_ble_eq_true rfl, Nat.le_of_ble_eq_true rfl, Nat.le_of_ble_eq_true rfl⟩ hlocks rfl (Nat.le_of_ble_eq_true rfl) (Nat.le_of_ble_eq_true rfl)
set_option maxHeartbeats 4000000 in
set_option maxRecDepth 100000 in
theorem c_X6_needDeduction (l : Launch) (D : va_G) (cs : Nat → ClassId) (w : zw) (sz : Nat) (of tbs dds wks aa : Nat) (tc dc wc brt yr wd : Int32) (DR : Nat → Option Nat) (DA : Nat → Nat) (nd k : Nat) (hD : zArrN 8 DR DA nd) (hk : k < nd) (h_f : w (of) = some (.inr (6, [.ref (tbs), .ref (dds), .ref (wks), .ref (aa), .int (tc), .int (dc), .int (wc), .int (brt), .int (yr), .int (wd)]))) (h_dr : w (dds) = some (eR cs 3 (8) (DR))) : zM l D cs yX6_needDeduction wsX6_needDeduction 0 0 0 w sz [.ref (of), .int (nI k)] (fun r w2 => r = none ∧ w2 = w) := by
  refine z_met (cc := cX6_needDeduction) (maxL := 2) (ret := none) (by decide) rfl (Nat.le_of_ble_eq_true rfl) ?_
  intro p e s m below meth c hx hb hr hml hown hts hlocks hnm hsz hK hE hS ls hl
  have hl : lv_has ls 2 [(0, .ref (of)), (1, .int (nI k))] := hl
  refine lv_iload_n hx hb dX6_needDeduction_0 rfl (lv_at hl 1 rfl) ?_
  refine lv_if_lt (tgt := 22) hx hb dX6_needDeduction_1 (by decide) (fun cq9 => absurd cq9 (nI_pos (by have := hD.1; omega))) (fun _ => ?_)
  refine lv_iload_n hx hb dX6_needDeduction_4 rfl (lv_at hl 1 rfl) ?_
  refine lv_aload_n hx hb dX6_needDeduction_5 rfl (lv_at hl 0 rfl) ?_
  refine z_get (C := RX6) (T := TX6) (N := 10) (v := .ref (dds)) hx hb hts (by decide +kernel) hown hK hS h_f rfl 1 (by decide) (hts (.fieldLink RX6 17 "PayLedger" "deductions" "[LPayLedger$Deduction;") (by decide +kernel)) rfl dX6_needDeduction_6 ?_
  refine z_alen (t0 := 3) (v := 8) hx hb hK hS h_dr rfl rfl dX6_needDeduction_9 ?_
  refine lv_icmp_ge (tgt := 22) hx hb dX6_needDeduction_10 (by decide) (fun cq9 => absurd cq9 (nI_ge (b := 8) (by have := hD.1; omega) (by omega))) (fun _ => ?_)
  refine lv_aload_n hx hb dX6_needDeduction_13 rfl (lv_at hl 0 rfl) ?_
  refine z_get (C := RX6) (T := TX6) (N := 10) (v := .ref (dds)) hx hb hts (by decide +kernel) hown hK hS h_f rfl 1 (by decide) (hts (.fieldLink RX6 17 "PayLedger" "deductions" "[LPayLedger$Deduction;") (by decide +kernel)) rfl dX6_needDeduction_14 ?_
  refine lv_iload_n hx hb dX6_needDeduction_17 rfl (lv_at hl 1 rfl) ?_
  refine z_aaldv (v := .ref (DA k)) hx hb hK hS h_dr rfl (vp_in_nI (by have := hD.1; omega) (by omega)) (by rw [nI_clamp (by have := hD.1; omega), hD.2.1 k hk]; rfl) dX6_needDeduction_18 ?_
  refine lv_ifnonnull (tgt := 33) hx hb dX6_needDeduction_19 (by decide) ?_
  exact z_vret hx hb hr hlocks hS (Nat.le_of_ble_eq_true rfl) (Nat.le_of_ble_eq_true rfl) dX6_needDeduction_33 ⟨rfl, rfl⟩
set_option maxHeartbeats 4000000 in
set_option maxRecDepth 100000 in
theorem t_X6_needDeduction (l : Launch) (D : va_G) (cs : Nat → ClassId) (w : zw) (sz : Nat) (of tbs dds wks aa : Nat) (tc dc wc brt yr wd : Int32) (DR : Nat → Option Nat) (DA : Nat → Nat) (nd : Nat) (x : Int32) (hlst : l.stackTraces = false) (hD : zArrN 8 DR DA nd) (hx9 : ∀ k : Nat, k < nd → x ≠ nI k) (h_f : w (of) = some (.inr (6, [.ref (tbs), .ref (dds), .ref (wks), .ref (aa), .int (tc), .int (dc), .int (wc), .int (brt), .int (yr), .int (wd)]))) (h_dr : w (dds) = some (eR cs 3 (8) (DR))) : zMX l D cs yX6_needDeduction wsX6_needDeduction 0 1 6 w sz [.ref (of), .int (x)] (fun _ _ => False) (fun E9 => E9 = "java/lang/IndexOutOfBoundsException") := by
  refine z_metX (cc := cX6_needDeduction) (maxL := 2) (ret := none) (by decide) rfl (Nat.le_of_ble_eq_true rfl) ?_
  intro p e s m below meth c hx hb hr hml hown hts hlocks hnm hsz hK hE hS ls hl
  have hl : lv_has ls 2 [(0, .ref (of)), (1, .int (x))] := hl
  refine lv_iload_n hx hb dX6_needDeduction_0 rfl (lv_at hl 1 rfl) ?_
  refine lv_if_lt (tgt := 22) hx hb dX6_needDeduction_1 (by decide) (fun c1 => ?_) (fun c1 => ?_)
  · exact z_thrW (text := "there is no such deduction") hx hb hlst hown hts (by decide +kernel) (by decide +kernel) (by decide +kernel) zbad265 (by decide +kernel) (by decide +kernel) (by decide +kernel) (by decide +kernel) hE hS (hl.1.trans hml.symm) dX6_needDeduction_22 dX6_needDeduction_25 dX6_needDeduction_26 dX6_needDeduction_29 dX6_needDeduction_32 hnm ⟨Nat.le_of_ble_eq_true rfl, Nat.le_of_ble_eq_true rfl, Nat.le_of_ble_eq_true rfl, Nat.le_of_ble_eq_true rfl⟩ hlocks rfl (Nat.le_of_ble_eq_true rfl) (Nat.le_of_ble_eq_true rfl)
  · refine lv_iload_n hx hb dX6_needDeduction_4 rfl (lv_at hl 1 rfl) ?_
    refine lv_aload_n hx hb dX6_needDeduction_5 rfl (lv_at hl 0 rfl) ?_
    refine z_get (C := RX6) (T := TX6) (N := 10) (v := .ref (dds)) hx hb hts (by decide +kernel) hown hK hS h_f rfl 1 (by decide) (hts (.fieldLink RX6 17 "PayLedger" "deductions" "[LPayLedger$Deduction;") (by decide +kernel)) rfl dX6_needDeduction_6 ?_
    refine z_alen (t0 := 3) (v := 8) hx hb hK hS h_dr rfl rfl dX6_needDeduction_9 ?_
    refine lv_icmp_ge (tgt := 22) hx hb dX6_needDeduction_10 (by decide) (fun c10 => ?_) (fun c10 => ?_)
    · exact z_thrW (text := "there is no such deduction") hx hb hlst hown hts (by decide +kernel) (by decide +kernel) (by decide +kernel) zbad265 (by decide +kernel) (by decide +kernel) (by decide +kernel) (by decide +kernel) hE hS (hl.1.trans hml.symm) dX6_needDeduction_22 dX6_needDeduction_25 dX6_needDeduction_26 dX6_needDeduction_29 dX6_needDeduction_32 hnm ⟨Nat.le_of_ble_eq_true rfl, Nat.le_of_ble_eq_true rfl, Nat.le_of_ble_eq_true rfl, Nat.le_of_ble_eq_true rfl⟩ hlocks rfl (Nat.le_of_ble_eq_true rfl) (Nat.le_of_ble_eq_true rfl)
    · obtain ⟨k, hk, ek⟩ := zI32_of (N := 8) c1 (zI32_nle c10) (by omega)
      have hk2 : nd ≤ k := Nat.le_of_not_lt (fun q9 => hx9 k q9 ek)
      refine lv_aload_n hx hb dX6_needDeduction_13 rfl (lv_at hl 0 rfl) ?_
      refine z_get (C := RX6) (T := TX6) (N := 10) (v := .ref (dds)) hx hb hts (by decide +kernel) hown hK hS h_f rfl 1 (by decide) (hts (.fieldLink RX6 17 "PayLedger" "deductions" "[LPayLedger$Deduction;") (by decide +kernel)) rfl dX6_needDeduction_14 ?_
      refine lv_iload_n hx hb dX6_needDeduction_17 rfl (lv_at hl 1 rfl) ?_
      refine z_ti (y := nI k) ek ?_
      refine z_aaldv (v := .null) hx hb hK hS h_dr rfl (vp_in_nI hk (by omega)) (by rw [nI_clamp (by omega), hD.2.2 k hk2 hk]; rfl) dX6_needDeduction_18 ?_
      refine lv_ifnonnullN hx hb dX6_needDeduction_19 ?_
      exact z_thrW (text := "there is no such deduction") hx hb hlst hown hts (by decide +kernel) (by decide +kernel) (by decide +kernel) zbad265 (by decide +kernel) (by decide +kernel) (by decide +kernel) (by decide +kernel) hE hS (hl.1.trans hml.symm) dX6_needDeduction_22 dX6_needDeduction_25 dX6_needDeduction_26 dX6_needDeduction_29 dX6_needDeduction_32 hnm ⟨Nat.le_of_ble_eq_true rfl, Nat.le_of_ble_eq_true rfl, Nat.le_of_ble_eq_true rfl, Nat.le_of_ble_eq_true rfl⟩ hlocks rfl (Nat.le_of_ble_eq_true rfl) (Nat.le_of_ble_eq_true rfl)
