/-! ===== PayLedger: table, tax, stage, deduction ===== -/
theorem z1of {x : Int32} (h : x = 0 ∨ x = 1) (h0 : ¬ x = 0) : x = 1 := h.resolve_left h0
set_option maxHeartbeats 4000000 in
set_option maxRecDepth 100000 in
theorem c_X6_table (l : Launch) (D : va_G) (cs : Nat → ClassId) (w : zw) (sz : Nat) (of tbs dds wks aa : Nat) (dc wc brt yr wd : Int32) (TR : Nat → Option Nat) (nt : Nat) (hn : nt < 6) (h_f : w (of) = some (.inr (6, [.ref (tbs), .ref (dds), .ref (wks), .ref (aa), .int (nI nt), .int (dc), .int (wc), .int (brt), .int (yr), .int (wd)]))) (h_tr : w (tbs) = some (eR cs 5 (6) (TR))) : zM l D cs yX6_table wsX6_table 1 3 28 w sz [.ref (of)] (fun r w2 => ∃ tb fl ra : Nat, r = some (.int (nI nt)) ∧ w tb = none ∧ w fl = none ∧ w ra = none ∧ fl ≠ ra ∧ zEx w w2 [(of, .inr (6, [.ref tbs, .ref dds, .ref wks, .ref aa, .int (nI (nt + 1)), .int dc, .int wc, .int brt, .int yr, .int wd])), (tbs, eR cs 5 6 (va_up TR nt (some tb))), (tb, .inr (3, [.ref fl, .ref ra, .int 0, .int 0])), (fl, eJ cs 12 (fun _ => 0)), (ra, eI cs 12 (fun _ => 0))]) := by
  refine z_met (cc := cX6_table) (maxL := 2) (ret := (some .int)) (by decide) rfl (Nat.le_of_ble_eq_true rfl) ?_
  intro p e s m below meth c hx hb hr hml hown hts hlocks hnm hsz hK hE hS ls hl
  have hl : lv_has ls 2 [(0, .ref (of))] := hl
  refine lv_aload_n hx hb dX6_table_0 rfl (lv_at hl 0 rfl) ?_
  refine z_get (C := RX6) (T := TX6) (N := 10) (v := .int (nI nt)) hx hb hts (by decide +kernel) hown hK hS h_f rfl 4 (by decide) (hts (.fieldLink RX6 34 "PayLedger" "tableCount" "I") (by decide +kernel)) rfl dX6_table_1 ?_
  refine lv_istore_n (lv' := [(1, .int (nI nt)), (0, .ref (of))]) hx hb dX6_table_4 rfl hl (by decide) rfl (fun ls hl => ?_)
  refine lv_iload_n hx hb dX6_table_5 rfl (lv_at hl 0 rfl) ?_
  refine lv_if_lt (tgt := 18) hx hb dX6_table_6 (by decide) (fun cq9 => absurd cq9 (nI_pos (by omega))) (fun _ => ?_)
  refine lv_iload_n hx hb dX6_table_9 rfl (lv_at hl 0 rfl) ?_
  refine lv_aload_n hx hb dX6_table_10 rfl (lv_at hl 1 rfl) ?_
  refine z_get (C := RX6) (T := TX6) (N := 10) (v := .ref (tbs)) hx hb hts (by decide +kernel) hown hK hS h_f rfl 0 (by decide) (hts (.fieldLink RX6 11 "PayLedger" "tables" "[LPayLedger$Table;") (by decide +kernel)) rfl dX6_table_11 ?_
  refine z_alen (t0 := 5) (v := 6) hx hb hK hS h_tr rfl rfl dX6_table_14 ?_
  refine lv_icmp_lt (tgt := 28) hx hb dX6_table_15 (by decide) (fun _ => ?_) (fun cq9 => absurd (nI_lt (b := 6) hn (by omega)) cq9)
  refine lv_aload_n hx hb dX6_table_28 rfl (lv_at hl 1 rfl) ?_
  refine z_get (C := RX6) (T := TX6) (N := 10) (v := .ref (tbs)) hx hb hts (by decide +kernel) hown hK hS h_f rfl 0 (by decide) (hts (.fieldLink RX6 11 "PayLedger" "tables" "[LPayLedger$Table;") (by decide +kernel)) rfl dX6_table_29 ?_
  refine lv_iload_n hx hb dX6_table_32 rfl (lv_at hl 0 rfl) ?_
  refine z_new (ci := 3) (fs := [.null, .null, .int (0), .int (0)]) (C := RX3) (T := TX3) (N := 4) hx hb hts (by decide +kernel) tyX3 tyX3_ok hown (hts (.classLink RX6 9 RX3) (by decide +kernel)) (hts (.instantiable RX3 4) (by decide +kernel)) (hts (.initialized RX3) (by decide +kernel)) hK hS rfl (by decide +kernel) (Nat.le_of_ble_eq_true rfl) (Nat.le_of_ble_eq_true rfl) dX6_table_33 (fun tb H h_ntb hS => ?_)
  obtain ⟨w1, ew1⟩ : ∃ z : zw, z = va_up w (tb) (some (.inr (3, [.null, .null, .int (0), .int (0)]))) := ⟨_, rfl⟩
  have hS : zS (zA w sz) D w1 s.heap H [] := by rw [ew1]; exact hS
  have h1_tb : w1 (tb) = some (.inr (3, [.null, .null, .int (0), .int (0)])) := by rw [ew1]; exact va_up_self _ _ _
  have h1_of : w1 (of) = some (.inr (6, [.ref (tbs), .ref (dds), .ref (wks), .ref (aa), .int (nI nt), .int (dc), .int (wc), .int (brt), .int (yr), .int (wd)])) := by rw [ew1]; exact (va_up_ne _ _ (fun q9 => by rw [q9] at h_f; rw [h_ntb] at h_f; cases h_f)).trans h_f
  have h1_tbs : w1 (tbs) = some (eR cs 5 (6) (TR)) := by rw [ew1]; exact (va_up_ne _ _ (fun q9 => by rw [q9] at h_tr; rw [h_ntb] at h_tr; cases h_tr)).trans h_tr
  have hz_tb : w (tb) = none := by
    have q9 := h_ntb
    exact q9
  refine lv_dup hx hb dX6_table_36 rfl ?_
  refine z_invIN (b := tb) (As := []) (rest := [.ref (tb), .int (nI nt), .ref (tbs)]) (n := 0) ⟨hx, hb, hml, hown, hts⟩ (c_X3_init l D cs w1 H.size tb h1_tb) gX6_table_X3_init_n60 rfl (by decide +kernel) (hts (.initialized RX3) (by decide +kernel)) (hts (.instanceMethod yX3_init) (by decide +kernel)) rfl ⟨by decide +kernel, by decide +kernel, by decide +kernel⟩ ⟨Nat.le_of_ble_eq_true rfl, Nat.le_of_ble_eq_true rfl⟩ hK hE hS rfl hl.1 rfl (Nat.le_of_ble_eq_true rfl) dX6_table_37 ⟨Nat.le_of_ble_eq_true rfl, Nat.le_of_ble_eq_true rfl⟩ (fun v9 u2 H locs hq hS => ?_)
  obtain ⟨rfl, fl, ra, hzfl, hzra, hflra, hx2⟩ := hq
  have h3_tb : u2 (tb) = some (.inr (3, [.ref (fl), .ref (ra), .int (0), .int (0)])) := hx2.at 0 rfl
  have h3_fl : u2 (fl) = some (eJ cs (12) (fun _ => 0)) := hx2.at 1 rfl
  have h3_ra : u2 (ra) = some (eI cs (12) (fun _ => 0)) := hx2.at 2 rfl
  have h3_of : u2 (of) = some (.inr (6, [.ref (tbs), .ref (dds), .ref (wks), .ref (aa), .int (nI nt), .int (dc), .int (wc), .int (brt), .int (yr), .int (wd)])) := hx2.old h1_of (zm1 (zne h1_of h1_tb (by intro q9; first | cases q9 | simp at q9)) (zm1 (znone_ne hzfl h1_of) (zm1 (znone_ne hzra h1_of) zm0)))
  have h3_tbs : u2 (tbs) = some (eR cs 5 (6) (TR)) := hx2.old h1_tbs (zm1 (zne h1_tbs h1_tb (by intro q9; first | cases q9 | simp at q9)) (zm1 (znone_ne hzfl h1_tbs) (zm1 (znone_ne hzra h1_tbs) zm0)))
  refine W.eq (g2 := F0 m 40 ls [.ref (tb), .int (nI nt), .ref (tbs)]) rfl ?_
  refine z_aast hx hb hK hS h3_tbs rfl h3_tb rfl (vp_in_nI hn (by omega)) dX6_table_40 (fun H locs hS => ?_)
  obtain ⟨w4, ew4⟩ : ∃ z : zw, z = va_up u2 (tbs) (some (eR cs 5 (6) (va_up (TR) (nI nt : Int32).toNatClampNeg (some (tb))))) := ⟨_, rfl⟩
  have hS : zS (zA w sz) D w4 s.heap H locs := by rw [ew4]; exact hS
  have h4_tbs : w4 (tbs) = some (eR cs 5 (6) (va_up (TR) (nI nt : Int32).toNatClampNeg (some (tb)))) := by rw [ew4]; exact va_up_self _ _ _
  have h4_tb : w4 (tb) = some (.inr (3, [.ref (fl), .ref (ra), .int (0), .int (0)])) := by rw [ew4]; exact (va_up_ne _ _ (zne h3_tb h3_tbs (by intro q9; first | cases q9 | simp at q9))).trans h3_tb
  have h4_fl : w4 (fl) = some (eJ cs (12) (fun _ => 0)) := by rw [ew4]; exact (va_up_ne _ _ (zne h3_fl h3_tbs (by intro q9; first | cases q9 | simp at q9))).trans h3_fl
  have h4_ra : w4 (ra) = some (eI cs (12) (fun _ => 0)) := by rw [ew4]; exact (va_up_ne _ _ (zne h3_ra h3_tbs (by intro q9; first | cases q9 | simp at q9))).trans h3_ra
  have h4_of : w4 (of) = some (.inr (6, [.ref (tbs), .ref (dds), .ref (wks), .ref (aa), .int (nI nt), .int (dc), .int (wc), .int (brt), .int (yr), .int (wd)])) := by rw [ew4]; exact (va_up_ne _ _ (zne h3_of h3_tbs (by intro q9; first | cases q9 | simp at q9))).trans h3_of
  rw [show (eR cs 5 (6) (va_up (TR) (nI nt : Int32).toNatClampNeg (some (tb)))) = (eR cs 5 (6) (va_up TR nt (some tb))) from (by rw [nI_clamp (by omega)])] at h4_tbs
  refine lv_aload_n hx hb dX6_table_41 rfl (lv_at hl 1 rfl) ?_
  refine lv_iload_n hx hb dX6_table_42 rfl (lv_at hl 0 rfl) ?_
  refine lv_iconst (v := 1) hx hb dX6_table_43 (by decide) ?_
  refine lv_iadd hx hb dX6_table_44 ?_
  refine z_ti (y := nI (nt + 1)) (nI_1 nt) ?_
  refine z_put (C := RX6) (T := TX6) (N := 10) (v := .int (nI (nt + 1))) hx hb hts (by decide +kernel) tyX6 tyX6_ok nmX6 hown hK hS h4_of rfl 4 (by decide) (hts (.fieldLink RX6 34 "PayLedger" "tableCount" "I") (by decide +kernel)) rfl rfl rfl (Nat.le_of_ble_eq_true rfl) dX6_table_45 (fun H locs hS => ?_)
  obtain ⟨w5, ew5⟩ : ∃ z : zw, z = va_up w4 (of) (some (.inr (6, [.ref (tbs), .ref (dds), .ref (wks), .ref (aa), .int (nI (nt + 1)), .int (dc), .int (wc), .int (brt), .int (yr), .int (wd)]))) := ⟨_, rfl⟩
  have hS : zS (zA w sz) D w5 s.heap H locs := by rw [ew5]; exact hS
  have h5_of : w5 (of) = some (.inr (6, [.ref (tbs), .ref (dds), .ref (wks), .ref (aa), .int (nI (nt + 1)), .int (dc), .int (wc), .int (brt), .int (yr), .int (wd)])) := by rw [ew5]; exact va_up_self _ _ _
  have h5_tb : w5 (tb) = some (.inr (3, [.ref (fl), .ref (ra), .int (0), .int (0)])) := by rw [ew5]; exact (va_up_ne _ _ (zne h4_tb h4_of (by intro q9; first | cases q9 | simp at q9))).trans h4_tb
  have h5_fl : w5 (fl) = some (eJ cs (12) (fun _ => 0)) := by rw [ew5]; exact (va_up_ne _ _ (zne h4_fl h4_of (by intro q9; first | cases q9 | simp at q9))).trans h4_fl
  have h5_ra : w5 (ra) = some (eI cs (12) (fun _ => 0)) := by rw [ew5]; exact (va_up_ne _ _ (zne h4_ra h4_of (by intro q9; first | cases q9 | simp at q9))).trans h4_ra
  have h5_tbs : w5 (tbs) = some (eR cs 5 (6) (va_up TR nt (some tb))) := by rw [ew5]; exact (va_up_ne _ _ (zne h4_tbs h4_of (by intro q9; first | cases q9 | simp at q9))).trans h4_tbs
  refine lv_iload_n hx hb dX6_table_48 rfl (lv_at hl 0 rfl) ?_
  have hz1 : w fl = none := by rw [ew1] at hzfl; exact (zup_none hzfl).2
  have hz2 : w ra = none := by rw [ew1] at hzra; exact (zup_none hzra).2
  have hex : zEx w w5 [(of, (.inr (6, [.ref (tbs), .ref (dds), .ref (wks), .ref (aa), .int (nI (nt + 1)), .int (dc), .int (wc), .int (brt), .int (yr), .int (wd)]))), (tbs, (eR cs 5 (6) (va_up TR nt (some tb)))), (tb, (.inr (3, [.ref (fl), .ref (ra), .int (0), .int (0)]))), (fl, (eJ cs (12) (fun _ => 0))), (ra, (eI cs (12) (fun _ => 0)))] := ⟨(zm1 h5_of (zm1 h5_tbs (zm1 h5_tb (zm1 h5_fl (zm1 h5_ra zm0))))), fun a9 h9 => by rw [ew5, va_up_ne _ _ (show a9 ≠ of from h9 (of, (.inr (6, [.ref (tbs), .ref (dds), .ref (wks), .ref (aa), .int (nI (nt + 1)), .int (dc), .int (wc), .int (brt), .int (yr), .int (wd)]))) (List.mem_of_getElem? (i := 0) rfl)), ew4, va_up_ne _ _ (show a9 ≠ tbs from h9 (tbs, (eR cs 5 (6) (va_up TR nt (some tb)))) (List.mem_of_getElem? (i := 1) rfl)), hx2.2 a9 (zm1 (show a9 ≠ tb from h9 (tb, (.inr (3, [.ref (fl), .ref (ra), .int (0), .int (0)]))) (List.mem_of_getElem? (i := 2) rfl)) (zm1 (show a9 ≠ fl from h9 (fl, (eJ cs (12) (fun _ => 0))) (List.mem_of_getElem? (i := 3) rfl)) (zm1 (show a9 ≠ ra from h9 (ra, (eI cs (12) (fun _ => 0))) (List.mem_of_getElem? (i := 4) rfl)) zm0))), ew1, va_up_ne _ _ (show a9 ≠ tb from h9 (tb, (.inr (3, [.ref (fl), .ref (ra), .int (0), .int (0)]))) (List.mem_of_getElem? (i := 2) rfl))]⟩
  exact z_iret hx hb hr hlocks hS (Nat.le_of_ble_eq_true rfl) (Nat.le_of_ble_eq_true rfl) dX6_table_49 ⟨tb, fl, ra, rfl, hz_tb, hz1, hz2, hflra, hex⟩
set_option maxHeartbeats 4000000 in
set_option maxRecDepth 100000 in
theorem t1_X6_table (l : Launch) (D : va_G) (cs : Nat → ClassId) (w : zw) (sz : Nat) (of tbs dds wks aa : Nat) (dc wc brt yr wd : Int32) (TR : Nat → Option Nat) (hlst : l.stackTraces = false) (h_f : w (of) = some (.inr (6, [.ref (tbs), .ref (dds), .ref (wks), .ref (aa), .int (6), .int (dc), .int (wc), .int (brt), .int (yr), .int (wd)]))) (h_tr : w (tbs) = some (eR cs 5 (6) (TR))) : zMX l D cs yX6_table wsX6_table 1 1 6 w sz [.ref (of)] (fun _ _ => False) (fun E9 => E9 = "java/lang/UnsupportedOperationException") := by
  refine z_metX (cc := cX6_table) (maxL := 2) (ret := (some .int)) (by decide) rfl (Nat.le_of_ble_eq_true rfl) ?_
  intro p e s m below meth c hx hb hr hml hown hts hlocks hnm hsz hK hE hS ls hl
  have hl : lv_has ls 2 [(0, .ref (of))] := hl
  refine lv_aload_n hx hb dX6_table_0 rfl (lv_at hl 0 rfl) ?_
  refine z_get (C := RX6) (T := TX6) (N := 10) (v := .int (6)) hx hb hts (by decide +kernel) hown hK hS h_f rfl 4 (by decide) (hts (.fieldLink RX6 34 "PayLedger" "tableCount" "I") (by decide +kernel)) rfl dX6_table_1 ?_
  refine lv_istore_n (lv' := [(1, .int (6)), (0, .ref (of))]) hx hb dX6_table_4 rfl hl (by decide) rfl (fun ls hl => ?_)
  refine lv_iload_n hx hb dX6_table_5 rfl (lv_at hl 0 rfl) ?_
  refine lv_if_lt (tgt := 18) hx hb dX6_table_6 (by decide) (fun cq9 => absurd cq9 (by decide)) (fun _ => ?_)
  refine lv_iload_n hx hb dX6_table_9 rfl (lv_at hl 0 rfl) ?_
  refine lv_aload_n hx hb dX6_table_10 rfl (lv_at hl 1 rfl) ?_
  refine z_get (C := RX6) (T := TX6) (N := 10) (v := .ref (tbs)) hx hb hts (by decide +kernel) hown hK hS h_f rfl 0 (by decide) (hts (.fieldLink RX6 11 "PayLedger" "tables" "[LPayLedger$Table;") (by decide +kernel)) rfl dX6_table_11 ?_
  refine z_alen (t0 := 5) (v := 6) hx hb hK hS h_tr rfl rfl dX6_table_14 ?_
  refine lv_icmp_lt (tgt := 28) hx hb dX6_table_15 (by decide) (fun cq9 => absurd cq9 (by decide)) (fun _ => ?_)
  exact z_thr (text := "there are as many tables as can be") hx hb hlst hown hts (by decide +kernel) (by decide +kernel) (by decide +kernel) zbad57 (by decide +kernel) (by decide +kernel) (by decide +kernel) (by decide +kernel) hE hS (hl.1.trans hml.symm) dX6_table_18 dX6_table_21 dX6_table_22 dX6_table_24 dX6_table_27 hnm ⟨Nat.le_of_ble_eq_true rfl, Nat.le_of_ble_eq_true rfl, Nat.le_of_ble_eq_true rfl, Nat.le_of_ble_eq_true rfl⟩ hlocks rfl (Nat.le_of_ble_eq_true rfl) (Nat.le_of_ble_eq_true rfl)
set_option maxHeartbeats 4000000 in
set_option maxRecDepth 100000 in
theorem c_X6_tax (l : Launch) (D : va_G) (cs : Nat → ClassId) (w : zw) (sz : Nat) (of tbs dds wks aa : Nat) (tc dc wc brt yr wd : Int32) (TR : Nat → Option Nat) (TA : Nat → Nat) (nt k fl ra n : Nat) (F : Nat → Int64) (G : Nat → Int32) (tk : Int32) (amount : Int64) (hT : zArrN 6 TR TA nt) (hk : k < nt) (hn : n ≤ 12) (hg : zUpTo amount 1000000000000 = 1) (h_f : w (of) = some (.inr (6, [.ref (tbs), .ref (dds), .ref (wks), .ref (aa), .int (tc), .int (dc), .int (wc), .int (brt), .int (yr), .int (wd)]))) (h_tr : w (tbs) = some (eR cs 5 (6) (TR))) (h_t : w (TA k) = some (.inr (3, [.ref (fl), .ref (ra), .int (nI n), .int (tk)]))) (h_fl : w (fl) = some (eJ cs (12) (F))) (h_ra : w (ra) = some (eI cs (12) (G))) : zMr l D cs yX6_tax wsX6_tax 2 w sz [.ref (of), .int (nI k), .long (amount)] (.long (zTax F G n amount)) := by
  refine z_met (cc := cX6_tax) (maxL := 5) (ret := (some .long)) (by decide) rfl (Nat.le_of_ble_eq_true rfl) ?_
  intro p e s m below meth c hx hb hr hml hown hts hlocks hnm hsz hK hE hS ls hl
  have hl : lv_has ls 5 [(0, .ref (of)), (1, .int (nI k)), (2, .long (amount))] := hl
  refine lv_aload_n hx hb dX6_tax_0 rfl (lv_at hl 0 rfl) ?_
  refine lv_iload_n hx hb dX6_tax_1 rfl (lv_at hl 1 rfl) ?_
  refine lv_i2l (v := ((nI k : Int32).toInt64)) hx hb dX6_tax_2 rfl ?_
  refine z_tl (y := lN k) (nI_l (by have := hT.1; omega)) ?_
  refine z_rV (As := [.long (lN k)]) (rest := []) (n := 1) ⟨hx, hb, hml, hown, hts⟩ (c_X6_tableNumbered l D cs w s.heap.size of tbs dds wks aa tc dc wc brt yr wd TR TA nt k hT hk h_f h_tr) gX6_tax_X6_tableNumbered rfl ⟨rfl, by decide +kernel, by decide +kernel, by decide +kernel⟩ ⟨Nat.le_of_ble_eq_true rfl, Nat.le_of_ble_eq_true rfl⟩ hK hE hS rfl h_f rfl hl.1 rfl (Nat.le_of_ble_eq_true rfl) dX6_tax_3 ⟨Nat.le_of_ble_eq_true rfl, Nat.le_of_ble_eq_true rfl⟩ (fun H locs hS => ?_)
  refine lv_astore (lv' := [(4, .ref (TA k)), (0, .ref (of)), (1, .int (nI k)), (2, .long (amount))]) hx hb dX6_tax_6 hl (by decide) rfl (fun ls hl => ?_)
  refine lv_lload_n hx hb dX6_tax_8 rfl (lv_at hl 3 rfl) ?_
  refine lv_ldc2 (v := 1000000000000) hx hb hown (hts (.constantLong RX6 99 (1000000000000)) (by decide +kernel)) dX6_tax_9 ?_
  refine z_rS (As := [.long (amount), .long (1000000000000)]) (rest := []) (n := 2) ⟨hx, hb, hml, hown, hts⟩ (c_X6_isUpTo l D cs w H.size amount 1000000000000) gX6_tax_X6_isUpTo rfl ⟨by decide +kernel, by decide +kernel, by decide +kernel⟩ ⟨Nat.le_of_ble_eq_true rfl, Nat.le_of_ble_eq_true rfl⟩ hK hE hS rfl hl.1 rfl (Nat.le_of_ble_eq_true rfl) dX6_tax_12 ⟨Nat.le_of_ble_eq_true rfl, Nat.le_of_ble_eq_true rfl⟩ (fun H locs hS => ?_)
  refine lv_if_ne (tgt := 28) hx hb dX6_tax_15 (by decide) (fun _ => ?_) (fun cq9 => absurd cq9 (by rw [hg]; decide))
  refine lv_aload hx hb dX6_tax_28 (lv_at hl 0 rfl) ?_
  refine lv_lload_n hx hb dX6_tax_30 rfl (lv_at hl 3 rfl) ?_
  refine z_rV (As := [.long (amount)]) (rest := []) (n := 1) ⟨hx, hb, hml, hown, hts⟩ (c_X3_taxOf l D cs w H.size (TA k) fl ra n F G tk amount hn h_t h_fl h_ra) gX6_tax_X3_taxOf rfl ⟨rfl, by decide +kernel, by decide +kernel, by decide +kernel⟩ ⟨Nat.le_of_ble_eq_true rfl, Nat.le_of_ble_eq_true rfl⟩ hK hE hS rfl h_t rfl hl.1 rfl (Nat.le_of_ble_eq_true rfl) dX6_tax_31 ⟨Nat.le_of_ble_eq_true rfl, Nat.le_of_ble_eq_true rfl⟩ (fun H locs hS => ?_)
  exact z_lret hx hb hr hlocks hS (Nat.le_of_ble_eq_true rfl) (Nat.le_of_ble_eq_true rfl) dX6_tax_34 ⟨rfl, rfl⟩
set_option maxHeartbeats 4000000 in
set_option maxRecDepth 100000 in
theorem t1_X6_tax (l : Launch) (D : va_G) (cs : Nat → ClassId) (w : zw) (sz : Nat) (of tbs dds wks aa : Nat) (tc dc wc brt yr wd : Int32) (TR : Nat → Option Nat) (TA : Nat → Nat) (nt : Nat) (x : Int32) (amount : Int64) (hlst : l.stackTraces = false) (hT : zArrN 6 TR TA nt) (hx9 : ∀ k : Nat, k < nt → x ≠ nI k) (h_f : w (of) = some (.inr (6, [.ref (tbs), .ref (dds), .ref (wks), .ref (aa), .int (tc), .int (dc), .int (wc), .int (brt), .int (yr), .int (wd)]))) (h_tr : w (tbs) = some (eR cs 5 (6) (TR))) : zMX l D cs yX6_tax wsX6_tax 2 1 6 w sz [.ref (of), .int (x), .long (amount)] (fun _ _ => False) (fun E9 => E9 = "java/lang/IndexOutOfBoundsException") := by
  refine z_metX (cc := cX6_tax) (maxL := 5) (ret := (some .long)) (by decide) rfl (Nat.le_of_ble_eq_true rfl) ?_
  intro p e s m below meth c hx hb hr hml hown hts hlocks hnm hsz hK hE hS ls hl
  have hl : lv_has ls 5 [(0, .ref (of)), (1, .int (x)), (2, .long (amount))] := hl
  refine lv_aload_n hx hb dX6_tax_0 rfl (lv_at hl 0 rfl) ?_
  refine lv_iload_n hx hb dX6_tax_1 rfl (lv_at hl 1 rfl) ?_
  refine lv_i2l (v := ((x : Int32).toInt64)) hx hb dX6_tax_2 rfl ?_
  refine z_invVX (As := [.long (((x : Int32).toInt64))]) (rest := []) (n := 1) ⟨hx, hb, hml, hown, hts⟩ (t_X6_tableNumbered l D cs w s.heap.size of tbs dds wks aa tc dc wc brt yr wd TR TA nt (x : Int32).toInt64 hlst hT (zi2l_ne (by have := hT.1; omega) hx9) h_f h_tr) gX6_tax_X6_tableNumbered rfl ⟨rfl, by decide +kernel, by decide +kernel, by decide +kernel⟩ ⟨Nat.le_of_ble_eq_true rfl, Nat.le_of_ble_eq_true rfl⟩ hK hE hS rfl h_f rfl hl.1 rfl (Nat.le_of_ble_eq_true rfl) dX6_tax_3 ⟨Nat.le_of_ble_eq_true rfl, Nat.le_of_ble_eq_true rfl⟩ (fun E9 ce9 q9 H9 locs9 hp9 hS9 h91 h92 h93 => z_out hS9 hnm hlocks h91 h92 h93 hp9 (Nat.le_of_ble_eq_true rfl) (Nat.le_of_ble_eq_true rfl)) (fun v9 u1 H locs hq hS => absurd hq id)
set_option maxHeartbeats 4000000 in
set_option maxRecDepth 100000 in
theorem t2_X6_tax (l : Launch) (D : va_G) (cs : Nat → ClassId) (w : zw) (sz : Nat) (of tbs dds wks aa : Nat) (tc dc wc brt yr wd : Int32) (TR : Nat → Option Nat) (TA : Nat → Nat) (nt k : Nat) (amount : Int64) (hlst : l.stackTraces = false) (hT : zArrN 6 TR TA nt) (hk : k < nt) (hg : zUpTo amount 1000000000000 = 0) (h_f : w (of) = some (.inr (6, [.ref (tbs), .ref (dds), .ref (wks), .ref (aa), .int (tc), .int (dc), .int (wc), .int (brt), .int (yr), .int (wd)]))) (h_tr : w (tbs) = some (eR cs 5 (6) (TR))) : zMX l D cs yX6_tax wsX6_tax 2 1 6 w sz [.ref (of), .int (nI k), .long (amount)] (fun _ _ => False) (fun E9 => E9 = "java/lang/IllegalArgumentException") := by
  refine z_metX (cc := cX6_tax) (maxL := 5) (ret := (some .long)) (by decide) rfl (Nat.le_of_ble_eq_true rfl) ?_
  intro p e s m below meth c hx hb hr hml hown hts hlocks hnm hsz hK hE hS ls hl
  have hl : lv_has ls 5 [(0, .ref (of)), (1, .int (nI k)), (2, .long (amount))] := hl
  refine lv_aload_n hx hb dX6_tax_0 rfl (lv_at hl 0 rfl) ?_
  refine lv_iload_n hx hb dX6_tax_1 rfl (lv_at hl 1 rfl) ?_
  refine lv_i2l (v := ((nI k : Int32).toInt64)) hx hb dX6_tax_2 rfl ?_
  refine z_tl (y := lN k) (nI_l (by have := hT.1; omega)) ?_
  refine z_rV (As := [.long (lN k)]) (rest := []) (n := 1) ⟨hx, hb, hml, hown, hts⟩ (c_X6_tableNumbered l D cs w s.heap.size of tbs dds wks aa tc dc wc brt yr wd TR TA nt k hT hk h_f h_tr) gX6_tax_X6_tableNumbered rfl ⟨rfl, by decide +kernel, by decide +kernel, by decide +kernel⟩ ⟨Nat.le_of_ble_eq_true rfl, Nat.le_of_ble_eq_true rfl⟩ hK hE hS rfl h_f rfl hl.1 rfl (Nat.le_of_ble_eq_true rfl) dX6_tax_3 ⟨Nat.le_of_ble_eq_true rfl, Nat.le_of_ble_eq_true rfl⟩ (fun H locs hS => ?_)
  refine lv_astore (lv' := [(4, .ref (TA k)), (0, .ref (of)), (1, .int (nI k)), (2, .long (amount))]) hx hb dX6_tax_6 hl (by decide) rfl (fun ls hl => ?_)
  refine lv_lload_n hx hb dX6_tax_8 rfl (lv_at hl 3 rfl) ?_
  refine lv_ldc2 (v := 1000000000000) hx hb hown (hts (.constantLong RX6 99 (1000000000000)) (by decide +kernel)) dX6_tax_9 ?_
  refine z_rS (As := [.long (amount), .long (1000000000000)]) (rest := []) (n := 2) ⟨hx, hb, hml, hown, hts⟩ (c_X6_isUpTo l D cs w H.size amount 1000000000000) gX6_tax_X6_isUpTo rfl ⟨by decide +kernel, by decide +kernel, by decide +kernel⟩ ⟨Nat.le_of_ble_eq_true rfl, Nat.le_of_ble_eq_true rfl⟩ hK hE hS rfl hl.1 rfl (Nat.le_of_ble_eq_true rfl) dX6_tax_12 ⟨Nat.le_of_ble_eq_true rfl, Nat.le_of_ble_eq_true rfl⟩ (fun H locs hS => ?_)
  refine lv_if_ne (tgt := 28) hx hb dX6_tax_15 (by decide) (fun cq9 => absurd hg cq9) (fun _ => ?_)
  exact z_thr (text := "no such amount") hx hb hlst hown hts (by decide +kernel) (by decide +kernel) (by decide +kernel) zbad76 (by decide +kernel) (by decide +kernel) (by decide +kernel) (by decide +kernel) hE hS (hl.1.trans hml.symm) dX6_tax_18 dX6_tax_21 dX6_tax_22 dX6_tax_24 dX6_tax_27 hnm ⟨Nat.le_of_ble_eq_true rfl, Nat.le_of_ble_eq_true rfl, Nat.le_of_ble_eq_true rfl, Nat.le_of_ble_eq_true rfl⟩ hlocks rfl (Nat.le_of_ble_eq_true rfl) (Nat.le_of_ble_eq_true rfl)
set_option maxHeartbeats 4000000 in
set_option maxRecDepth 100000 in
theorem c_X6_stage (l : Launch) (D : va_G) (cs : Nat → ClassId) (w : zw) (sz : Nat) (of tbs dds wks aa : Nat) (tc dc wc brt yr wd : Int32) (TR : Nat → Option Nat) (TA : Nat → Nat) (nt k fl ra n : Nat) (F : Nat → Int64) (G : Nat → Int32) (tk : Int32) (floor : Int64) (rate : Int32) (hT : zArrN 6 TR TA nt) (hk : k < nt) (hn : n ≤ 12) (hr9 : zUpTo rate.toInt64 1000000 = 1) (hmay : zMay F n floor = 1) (htk : tk = 0) (hn2 : n < 12) (h_f : w (of) = some (.inr (6, [.ref (tbs), .ref (dds), .ref (wks), .ref (aa), .int (tc), .int (dc), .int (wc), .int (brt), .int (yr), .int (wd)]))) (h_tr : w (tbs) = some (eR cs 5 (6) (TR))) (h_t : w (TA k) = some (.inr (3, [.ref (fl), .ref (ra), .int (nI n), .int (tk)]))) (h_fl : w (fl) = some (eJ cs (12) (F))) (h_ra : w (ra) = some (eI cs (12) (G))) : zM l D cs yX6_stage wsX6_stage 2 0 0 w sz [.ref (of), .int (nI k), .long (floor), .int (rate)] (fun r w2 => r = some (.int (nI (n + 1))) ∧ zEx w w2 [(TA k, .inr (3, [.ref fl, .ref ra, .int (nI (n + 1)), .int tk])), (fl, eJ cs 12 (vp_updL F n floor)), (ra, eI cs 12 (upd G n rate))]) := by
  refine z_met (cc := cX6_stage) (maxL := 6) (ret := (some .int)) (by decide) rfl (Nat.le_of_ble_eq_true rfl) ?_
  intro p e s m below meth c hx hb hr hml hown hts hlocks hnm hsz hK hE hS ls hl
  have hl : lv_has ls 6 [(0, .ref (of)), (1, .int (nI k)), (2, .long (floor)), (4, .int (rate))] := hl
  refine lv_aload_n hx hb dX6_stage_0 rfl (lv_at hl 0 rfl) ?_
  refine lv_iload_n hx hb dX6_stage_1 rfl (lv_at hl 1 rfl) ?_
  refine lv_i2l (v := ((nI k : Int32).toInt64)) hx hb dX6_stage_2 rfl ?_
  refine z_tl (y := lN k) (nI_l (by have := hT.1; omega)) ?_
  refine z_rV (As := [.long (lN k)]) (rest := []) (n := 1) ⟨hx, hb, hml, hown, hts⟩ (c_X6_tableNumbered l D cs w s.heap.size of tbs dds wks aa tc dc wc brt yr wd TR TA nt k hT hk h_f h_tr) gX6_stage_X6_tableNumbered rfl ⟨rfl, by decide +kernel, by decide +kernel, by decide +kernel⟩ ⟨Nat.le_of_ble_eq_true rfl, Nat.le_of_ble_eq_true rfl⟩ hK hE hS rfl h_f rfl hl.1 rfl (Nat.le_of_ble_eq_true rfl) dX6_stage_3 ⟨Nat.le_of_ble_eq_true rfl, Nat.le_of_ble_eq_true rfl⟩ (fun H locs hS => ?_)
  refine lv_astore (lv' := [(5, .ref (TA k)), (0, .ref (of)), (1, .int (nI k)), (2, .long (floor)), (4, .int (rate))]) hx hb dX6_stage_6 hl (by decide) rfl (fun ls hl => ?_)
  refine lv_iload hx hb dX6_stage_8 (lv_at hl 4 rfl) ?_
  refine lv_i2l (v := ((rate : Int32).toInt64)) hx hb dX6_stage_10 rfl ?_
  refine z_rS (As := [.long (((rate : Int32).toInt64))]) (rest := []) (n := 1) ⟨hx, hb, hml, hown, hts⟩ (c_X6_isRate l D cs w H.size (rate : Int32).toInt64) gX6_stage_X6_isRate rfl ⟨by decide +kernel, by decide +kernel, by decide +kernel⟩ ⟨Nat.le_of_ble_eq_true rfl, Nat.le_of_ble_eq_true rfl⟩ hK hE hS rfl hl.1 rfl (Nat.le_of_ble_eq_true rfl) dX6_stage_11 ⟨Nat.le_of_ble_eq_true rfl, Nat.le_of_ble_eq_true rfl⟩ (fun H locs hS => ?_)
  refine lv_if_eq (tgt := 26) hx hb dX6_stage_14 (by decide) (fun cq9 => absurd cq9 (by rw [hr9]; decide)) (fun _ => ?_)
  refine lv_aload hx hb dX6_stage_17 (lv_at hl 0 rfl) ?_
  refine lv_lload_n hx hb dX6_stage_19 rfl (lv_at hl 3 rfl) ?_
  refine z_rV (As := [.long (floor)]) (rest := []) (n := 1) ⟨hx, hb, hml, hown, hts⟩ (c_X3_mayFollow l D cs w H.size (TA k) fl ra n F G tk floor hn h_t h_fl h_ra) gX6_stage_X3_mayFollow rfl ⟨rfl, by decide +kernel, by decide +kernel, by decide +kernel⟩ ⟨Nat.le_of_ble_eq_true rfl, Nat.le_of_ble_eq_true rfl⟩ hK hE hS rfl h_t rfl hl.1 rfl (Nat.le_of_ble_eq_true rfl) dX6_stage_20 ⟨Nat.le_of_ble_eq_true rfl, Nat.le_of_ble_eq_true rfl⟩ (fun H locs hS => ?_)
  refine lv_if_ne (tgt := 36) hx hb dX6_stage_23 (by decide) (fun _ => ?_) (fun cq9 => absurd cq9 (by rw [hmay]; decide))
  refine lv_aload hx hb dX6_stage_36 (lv_at hl 0 rfl) ?_
  refine z_get (C := RX3) (T := TX3) (N := 4) (v := .int (tk)) hx hb hts (by decide +kernel) hown hK hS h_t rfl 3 (by decide) (hts (.fieldLink RX6 77 "PayLedger$Table" "taken" "Z") (by decide +kernel)) rfl dX6_stage_38 ?_
  refine lv_if_eq (tgt := 54) hx hb dX6_stage_41 (by decide) (fun _ => ?_) (fun cq9 => absurd htk cq9)
  refine lv_aload hx hb dX6_stage_54 (lv_at hl 0 rfl) ?_
  refine z_rV (As := []) (rest := []) (n := 0) ⟨hx, hb, hml, hown, hts⟩ (c_X3_isFull l D cs w H.size (TA k) fl ra n F G tk hn h_t h_fl h_ra) gX6_stage_X3_isFull rfl ⟨rfl, by decide +kernel, by decide +kernel, by decide +kernel⟩ ⟨Nat.le_of_ble_eq_true rfl, Nat.le_of_ble_eq_true rfl⟩ hK hE hS rfl h_t rfl hl.1 rfl (Nat.le_of_ble_eq_true rfl) dX6_stage_56 ⟨Nat.le_of_ble_eq_true rfl, Nat.le_of_ble_eq_true rfl⟩ (fun H locs hS => ?_)
  refine lv_if_eq (tgt := 72) hx hb dX6_stage_59 (by decide) (fun _ => ?_) (fun cq9 => absurd (zB_f (by omega)) cq9)
  refine lv_aload hx hb dX6_stage_72 (lv_at hl 0 rfl) ?_
  refine lv_lload_n hx hb dX6_stage_74 rfl (lv_at hl 3 rfl) ?_
  refine lv_iload hx hb dX6_stage_75 (lv_at hl 4 rfl) ?_
  refine z_invV (As := [.long (floor), .int (rate)]) (rest := []) (n := 2) ⟨hx, hb, hml, hown, hts⟩ (c_X3_append l D cs w H.size (TA k) fl ra n F G tk floor rate hn2 h_t h_fl h_ra) gX6_stage_X3_append rfl ⟨rfl, by decide +kernel, by decide +kernel, by decide +kernel⟩ ⟨Nat.le_of_ble_eq_true rfl, Nat.le_of_ble_eq_true rfl⟩ hK hE hS rfl h_t rfl hl.1 rfl (Nat.le_of_ble_eq_true rfl) dX6_stage_77 ⟨Nat.le_of_ble_eq_true rfl, Nat.le_of_ble_eq_true rfl⟩ (fun v9 u1 H locs hq hS => ?_)
  obtain ⟨rfl, hx1⟩ := hq
  have h2_TAk : u1 (TA k) = some (.inr (3, [.ref (fl), .ref (ra), .int (nI (n + 1)), .int (tk)])) := hx1.at 0 rfl
  have h2_fl : u1 (fl) = some (eJ cs (12) (vp_updL F n floor)) := hx1.at 1 rfl
  have h2_ra : u1 (ra) = some (eI cs (12) (upd G n rate)) := hx1.at 2 rfl
  have h2_of : u1 (of) = some (.inr (6, [.ref (tbs), .ref (dds), .ref (wks), .ref (aa), .int (tc), .int (dc), .int (wc), .int (brt), .int (yr), .int (wd)])) := hx1.old h_f (zm1 (zne h_f h_t (by intro q9; first | cases q9 | simp at q9)) (zm1 (zne h_f h_fl (by intro q9; first | cases q9 | simp at q9)) (zm1 (zne h_f h_ra (by intro q9; first | cases q9 | simp at q9)) zm0)))
  have h2_tbs : u1 (tbs) = some (eR cs 5 (6) (TR)) := hx1.old h_tr (zm1 (zne h_tr h_t (by intro q9; first | cases q9 | simp at q9)) (zm1 (zne h_tr h_fl (by intro q9; first | cases q9 | simp at q9)) (zm1 (zne h_tr h_ra (by intro q9; first | cases q9 | simp at q9)) zm0)))
  refine W.eq (g2 := F0 m 80 ls []) rfl ?_
  refine lv_aload hx hb dX6_stage_80 (lv_at hl 0 rfl) ?_
  refine z_get (C := RX3) (T := TX3) (N := 4) (v := .int (nI (n + 1))) hx hb hts (by decide +kernel) hown hK hS h2_TAk rfl 2 (by decide) (hts (.fieldLink RX6 96 "PayLedger$Table" "stages" "I") (by decide +kernel)) rfl dX6_stage_82 ?_
  have hex : zEx w u1 [(TA k, (.inr (3, [.ref (fl), .ref (ra), .int (nI (n + 1)), .int (tk)]))), (fl, (eJ cs (12) (vp_updL F n floor))), (ra, (eI cs (12) (upd G n rate)))] := ⟨(zm1 h2_TAk (zm1 h2_fl (zm1 h2_ra zm0))), fun a9 h9 => by rw [hx1.2 a9 (zm1 (show a9 ≠ TA k from h9 (TA k, (.inr (3, [.ref (fl), .ref (ra), .int (nI (n + 1)), .int (tk)]))) (List.mem_of_getElem? (i := 0) rfl)) (zm1 (show a9 ≠ fl from h9 (fl, (eJ cs (12) (vp_updL F n floor))) (List.mem_of_getElem? (i := 1) rfl)) (zm1 (show a9 ≠ ra from h9 (ra, (eI cs (12) (upd G n rate))) (List.mem_of_getElem? (i := 2) rfl)) zm0)))]⟩
  exact z_iret hx hb hr hlocks hS (Nat.le_of_ble_eq_true rfl) (Nat.le_of_ble_eq_true rfl) dX6_stage_85 ⟨rfl, hex⟩
set_option maxHeartbeats 4000000 in
set_option maxRecDepth 100000 in
theorem t1_X6_stage (l : Launch) (D : va_G) (cs : Nat → ClassId) (w : zw) (sz : Nat) (of tbs dds wks aa : Nat) (tc dc wc brt yr wd : Int32) (TR : Nat → Option Nat) (TA : Nat → Nat) (nt : Nat) (x : Int32) (floor : Int64) (rate : Int32) (hlst : l.stackTraces = false) (hT : zArrN 6 TR TA nt) (hx9 : ∀ k : Nat, k < nt → x ≠ nI k) (h_f : w (of) = some (.inr (6, [.ref (tbs), .ref (dds), .ref (wks), .ref (aa), .int (tc), .int (dc), .int (wc), .int (brt), .int (yr), .int (wd)]))) (h_tr : w (tbs) = some (eR cs 5 (6) (TR))) : zMX l D cs yX6_stage wsX6_stage 2 1 6 w sz [.ref (of), .int (x), .long (floor), .int (rate)] (fun _ _ => False) (fun E9 => E9 = "java/lang/IndexOutOfBoundsException") := by
  refine z_metX (cc := cX6_stage) (maxL := 6) (ret := (some .int)) (by decide) rfl (Nat.le_of_ble_eq_true rfl) ?_
  intro p e s m below meth c hx hb hr hml hown hts hlocks hnm hsz hK hE hS ls hl
  have hl : lv_has ls 6 [(0, .ref (of)), (1, .int (x)), (2, .long (floor)), (4, .int (rate))] := hl
  refine lv_aload_n hx hb dX6_stage_0 rfl (lv_at hl 0 rfl) ?_
  refine lv_iload_n hx hb dX6_stage_1 rfl (lv_at hl 1 rfl) ?_
  refine lv_i2l (v := ((x : Int32).toInt64)) hx hb dX6_stage_2 rfl ?_
  refine z_invVX (As := [.long (((x : Int32).toInt64))]) (rest := []) (n := 1) ⟨hx, hb, hml, hown, hts⟩ (t_X6_tableNumbered l D cs w s.heap.size of tbs dds wks aa tc dc wc brt yr wd TR TA nt (x : Int32).toInt64 hlst hT (zi2l_ne (by have := hT.1; omega) hx9) h_f h_tr) gX6_stage_X6_tableNumbered rfl ⟨rfl, by decide +kernel, by decide +kernel, by decide +kernel⟩ ⟨Nat.le_of_ble_eq_true rfl, Nat.le_of_ble_eq_true rfl⟩ hK hE hS rfl h_f rfl hl.1 rfl (Nat.le_of_ble_eq_true rfl) dX6_stage_3 ⟨Nat.le_of_ble_eq_true rfl, Nat.le_of_ble_eq_true rfl⟩ (fun E9 ce9 q9 H9 locs9 hp9 hS9 h91 h92 h93 => z_out hS9 hnm hlocks h91 h92 h93 hp9 (Nat.le_of_ble_eq_true rfl) (Nat.le_of_ble_eq_true rfl)) (fun v9 u1 H locs hq hS => absurd hq id)
set_option maxHeartbeats 4000000 in
set_option maxRecDepth 100000 in
theorem t2_X6_stage (l : Launch) (D : va_G) (cs : Nat → ClassId) (w : zw) (sz : Nat) (of tbs dds wks aa : Nat) (tc dc wc brt yr wd : Int32) (TR : Nat → Option Nat) (TA : Nat → Nat) (nt k fl ra n : Nat) (F : Nat → Int64) (G : Nat → Int32) (tk : Int32) (floor : Int64) (rate : Int32) (hlst : l.stackTraces = false) (hT : zArrN 6 TR TA nt) (hk : k < nt) (hn : n ≤ 12) (hr9 : zUpTo rate.toInt64 1000000 = 0) (h_f : w (of) = some (.inr (6, [.ref (tbs), .ref (dds), .ref (wks), .ref (aa), .int (tc), .int (dc), .int (wc), .int (brt), .int (yr), .int (wd)]))) (h_tr : w (tbs) = some (eR cs 5 (6) (TR))) (h_t : w (TA k) = some (.inr (3, [.ref (fl), .ref (ra), .int (nI n), .int (tk)]))) (h_fl : w (fl) = some (eJ cs (12) (F))) (h_ra : w (ra) = some (eI cs (12) (G))) : zMX l D cs yX6_stage wsX6_stage 2 1 6 w sz [.ref (of), .int (nI k), .long (floor), .int (rate)] (fun _ _ => False) (fun E9 => E9 = "java/lang/IllegalArgumentException") := by
  refine z_metX (cc := cX6_stage) (maxL := 6) (ret := (some .int)) (by decide) rfl (Nat.le_of_ble_eq_true rfl) ?_
  intro p e s m below meth c hx hb hr hml hown hts hlocks hnm hsz hK hE hS ls hl
  have hl : lv_has ls 6 [(0, .ref (of)), (1, .int (nI k)), (2, .long (floor)), (4, .int (rate))] := hl
  refine lv_aload_n hx hb dX6_stage_0 rfl (lv_at hl 0 rfl) ?_
  refine lv_iload_n hx hb dX6_stage_1 rfl (lv_at hl 1 rfl) ?_
  refine lv_i2l (v := ((nI k : Int32).toInt64)) hx hb dX6_stage_2 rfl ?_
  refine z_tl (y := lN k) (nI_l (by have := hT.1; omega)) ?_
  refine z_rV (As := [.long (lN k)]) (rest := []) (n := 1) ⟨hx, hb, hml, hown, hts⟩ (c_X6_tableNumbered l D cs w s.heap.size of tbs dds wks aa tc dc wc brt yr wd TR TA nt k hT hk h_f h_tr) gX6_stage_X6_tableNumbered rfl ⟨rfl, by decide +kernel, by decide +kernel, by decide +kernel⟩ ⟨Nat.le_of_ble_eq_true rfl, Nat.le_of_ble_eq_true rfl⟩ hK hE hS rfl h_f rfl hl.1 rfl (Nat.le_of_ble_eq_true rfl) dX6_stage_3 ⟨Nat.le_of_ble_eq_true rfl, Nat.le_of_ble_eq_true rfl⟩ (fun H locs hS => ?_)
  refine lv_astore (lv' := [(5, .ref (TA k)), (0, .ref (of)), (1, .int (nI k)), (2, .long (floor)), (4, .int (rate))]) hx hb dX6_stage_6 hl (by decide) rfl (fun ls hl => ?_)
  refine lv_iload hx hb dX6_stage_8 (lv_at hl 4 rfl) ?_
  refine lv_i2l (v := ((rate : Int32).toInt64)) hx hb dX6_stage_10 rfl ?_
  refine z_rS (As := [.long (((rate : Int32).toInt64))]) (rest := []) (n := 1) ⟨hx, hb, hml, hown, hts⟩ (c_X6_isRate l D cs w H.size (rate : Int32).toInt64) gX6_stage_X6_isRate rfl ⟨by decide +kernel, by decide +kernel, by decide +kernel⟩ ⟨Nat.le_of_ble_eq_true rfl, Nat.le_of_ble_eq_true rfl⟩ hK hE hS rfl hl.1 rfl (Nat.le_of_ble_eq_true rfl) dX6_stage_11 ⟨Nat.le_of_ble_eq_true rfl, Nat.le_of_ble_eq_true rfl⟩ (fun H locs hS => ?_)
  refine lv_if_eq (tgt := 26) hx hb dX6_stage_14 (by decide) (fun _ => ?_) (fun cq9 => absurd hr9 cq9)
  exact z_thr (text := "no such rate, or no such floor here") hx hb hlst hown hts (by decide +kernel) (by decide +kernel) (by decide +kernel) zbad76 (by decide +kernel) (by decide +kernel) (by decide +kernel) (by decide +kernel) hE hS (hl.1.trans hml.symm) dX6_stage_26 dX6_stage_29 dX6_stage_30 dX6_stage_32 dX6_stage_35 hnm ⟨Nat.le_of_ble_eq_true rfl, Nat.le_of_ble_eq_true rfl, Nat.le_of_ble_eq_true rfl, Nat.le_of_ble_eq_true rfl⟩ hlocks rfl (Nat.le_of_ble_eq_true rfl) (Nat.le_of_ble_eq_true rfl)
set_option maxHeartbeats 4000000 in
set_option maxRecDepth 100000 in
theorem t3_X6_stage (l : Launch) (D : va_G) (cs : Nat → ClassId) (w : zw) (sz : Nat) (of tbs dds wks aa : Nat) (tc dc wc brt yr wd : Int32) (TR : Nat → Option Nat) (TA : Nat → Nat) (nt k fl ra n : Nat) (F : Nat → Int64) (G : Nat → Int32) (tk : Int32) (floor : Int64) (rate : Int32) (hlst : l.stackTraces = false) (hT : zArrN 6 TR TA nt) (hk : k < nt) (hn : n ≤ 12) (hr9 : zUpTo rate.toInt64 1000000 = 1) (hmay : zMay F n floor = 0) (h_f : w (of) = some (.inr (6, [.ref (tbs), .ref (dds), .ref (wks), .ref (aa), .int (tc), .int (dc), .int (wc), .int (brt), .int (yr), .int (wd)]))) (h_tr : w (tbs) = some (eR cs 5 (6) (TR))) (h_t : w (TA k) = some (.inr (3, [.ref (fl), .ref (ra), .int (nI n), .int (tk)]))) (h_fl : w (fl) = some (eJ cs (12) (F))) (h_ra : w (ra) = some (eI cs (12) (G))) : zMX l D cs yX6_stage wsX6_stage 2 1 6 w sz [.ref (of), .int (nI k), .long (floor), .int (rate)] (fun _ _ => False) (fun E9 => E9 = "java/lang/IllegalArgumentException") := by
  refine z_metX (cc := cX6_stage) (maxL := 6) (ret := (some .int)) (by decide) rfl (Nat.le_of_ble_eq_true rfl) ?_
  intro p e s m below meth c hx hb hr hml hown hts hlocks hnm hsz hK hE hS ls hl
  have hl : lv_has ls 6 [(0, .ref (of)), (1, .int (nI k)), (2, .long (floor)), (4, .int (rate))] := hl
  refine lv_aload_n hx hb dX6_stage_0 rfl (lv_at hl 0 rfl) ?_
  refine lv_iload_n hx hb dX6_stage_1 rfl (lv_at hl 1 rfl) ?_
  refine lv_i2l (v := ((nI k : Int32).toInt64)) hx hb dX6_stage_2 rfl ?_
  refine z_tl (y := lN k) (nI_l (by have := hT.1; omega)) ?_
  refine z_rV (As := [.long (lN k)]) (rest := []) (n := 1) ⟨hx, hb, hml, hown, hts⟩ (c_X6_tableNumbered l D cs w s.heap.size of tbs dds wks aa tc dc wc brt yr wd TR TA nt k hT hk h_f h_tr) gX6_stage_X6_tableNumbered rfl ⟨rfl, by decide +kernel, by decide +kernel, by decide +kernel⟩ ⟨Nat.le_of_ble_eq_true rfl, Nat.le_of_ble_eq_true rfl⟩ hK hE hS rfl h_f rfl hl.1 rfl (Nat.le_of_ble_eq_true rfl) dX6_stage_3 ⟨Nat.le_of_ble_eq_true rfl, Nat.le_of_ble_eq_true rfl⟩ (fun H locs hS => ?_)
  refine lv_astore (lv' := [(5, .ref (TA k)), (0, .ref (of)), (1, .int (nI k)), (2, .long (floor)), (4, .int (rate))]) hx hb dX6_stage_6 hl (by decide) rfl (fun ls hl => ?_)
  refine lv_iload hx hb dX6_stage_8 (lv_at hl 4 rfl) ?_
  refine lv_i2l (v := ((rate : Int32).toInt64)) hx hb dX6_stage_10 rfl ?_
  refine z_rS (As := [.long (((rate : Int32).toInt64))]) (rest := []) (n := 1) ⟨hx, hb, hml, hown, hts⟩ (c_X6_isRate l D cs w H.size (rate : Int32).toInt64) gX6_stage_X6_isRate rfl ⟨by decide +kernel, by decide +kernel, by decide +kernel⟩ ⟨Nat.le_of_ble_eq_true rfl, Nat.le_of_ble_eq_true rfl⟩ hK hE hS rfl hl.1 rfl (Nat.le_of_ble_eq_true rfl) dX6_stage_11 ⟨Nat.le_of_ble_eq_true rfl, Nat.le_of_ble_eq_true rfl⟩ (fun H locs hS => ?_)
  refine lv_if_eq (tgt := 26) hx hb dX6_stage_14 (by decide) (fun cq9 => absurd cq9 (by rw [hr9]; decide)) (fun _ => ?_)
  refine lv_aload hx hb dX6_stage_17 (lv_at hl 0 rfl) ?_
  refine lv_lload_n hx hb dX6_stage_19 rfl (lv_at hl 3 rfl) ?_
  refine z_rV (As := [.long (floor)]) (rest := []) (n := 1) ⟨hx, hb, hml, hown, hts⟩ (c_X3_mayFollow l D cs w H.size (TA k) fl ra n F G tk floor hn h_t h_fl h_ra) gX6_stage_X3_mayFollow rfl ⟨rfl, by decide +kernel, by decide +kernel, by decide +kernel⟩ ⟨Nat.le_of_ble_eq_true rfl, Nat.le_of_ble_eq_true rfl⟩ hK hE hS rfl h_t rfl hl.1 rfl (Nat.le_of_ble_eq_true rfl) dX6_stage_20 ⟨Nat.le_of_ble_eq_true rfl, Nat.le_of_ble_eq_true rfl⟩ (fun H locs hS => ?_)
  refine lv_if_ne (tgt := 36) hx hb dX6_stage_23 (by decide) (fun cq9 => absurd hmay cq9) (fun _ => ?_)
  exact z_thr (text := "no such rate, or no such floor here") hx hb hlst hown hts (by decide +kernel) (by decide +kernel) (by decide +kernel) zbad76 (by decide +kernel) (by decide +kernel) (by decide +kernel) (by decide +kernel) hE hS (hl.1.trans hml.symm) dX6_stage_26 dX6_stage_29 dX6_stage_30 dX6_stage_32 dX6_stage_35 hnm ⟨Nat.le_of_ble_eq_true rfl, Nat.le_of_ble_eq_true rfl, Nat.le_of_ble_eq_true rfl, Nat.le_of_ble_eq_true rfl⟩ hlocks rfl (Nat.le_of_ble_eq_true rfl) (Nat.le_of_ble_eq_true rfl)
set_option maxHeartbeats 4000000 in
set_option maxRecDepth 100000 in
theorem t4_X6_stage (l : Launch) (D : va_G) (cs : Nat → ClassId) (w : zw) (sz : Nat) (of tbs dds wks aa : Nat) (tc dc wc brt yr wd : Int32) (TR : Nat → Option Nat) (TA : Nat → Nat) (nt k fl ra n : Nat) (F : Nat → Int64) (G : Nat → Int32) (tk : Int32) (floor : Int64) (rate : Int32) (hlst : l.stackTraces = false) (hT : zArrN 6 TR TA nt) (hk : k < nt) (hn : n ≤ 12) (hr9 : zUpTo rate.toInt64 1000000 = 1) (hmay : zMay F n floor = 1) (htk : ¬ tk = 0) (h_f : w (of) = some (.inr (6, [.ref (tbs), .ref (dds), .ref (wks), .ref (aa), .int (tc), .int (dc), .int (wc), .int (brt), .int (yr), .int (wd)]))) (h_tr : w (tbs) = some (eR cs 5 (6) (TR))) (h_t : w (TA k) = some (.inr (3, [.ref (fl), .ref (ra), .int (nI n), .int (tk)]))) (h_fl : w (fl) = some (eJ cs (12) (F))) (h_ra : w (ra) = some (eI cs (12) (G))) : zMX l D cs yX6_stage wsX6_stage 2 1 6 w sz [.ref (of), .int (nI k), .long (floor), .int (rate)] (fun _ _ => False) (fun E9 => E9 = "java/lang/IllegalStateException") := by
  refine z_metX (cc := cX6_stage) (maxL := 6) (ret := (some .int)) (by decide) rfl (Nat.le_of_ble_eq_true rfl) ?_
  intro p e s m below meth c hx hb hr hml hown hts hlocks hnm hsz hK hE hS ls hl
  have hl : lv_has ls 6 [(0, .ref (of)), (1, .int (nI k)), (2, .long (floor)), (4, .int (rate))] := hl
  refine lv_aload_n hx hb dX6_stage_0 rfl (lv_at hl 0 rfl) ?_
  refine lv_iload_n hx hb dX6_stage_1 rfl (lv_at hl 1 rfl) ?_
  refine lv_i2l (v := ((nI k : Int32).toInt64)) hx hb dX6_stage_2 rfl ?_
  refine z_tl (y := lN k) (nI_l (by have := hT.1; omega)) ?_
  refine z_rV (As := [.long (lN k)]) (rest := []) (n := 1) ⟨hx, hb, hml, hown, hts⟩ (c_X6_tableNumbered l D cs w s.heap.size of tbs dds wks aa tc dc wc brt yr wd TR TA nt k hT hk h_f h_tr) gX6_stage_X6_tableNumbered rfl ⟨rfl, by decide +kernel, by decide +kernel, by decide +kernel⟩ ⟨Nat.le_of_ble_eq_true rfl, Nat.le_of_ble_eq_true rfl⟩ hK hE hS rfl h_f rfl hl.1 rfl (Nat.le_of_ble_eq_true rfl) dX6_stage_3 ⟨Nat.le_of_ble_eq_true rfl, Nat.le_of_ble_eq_true rfl⟩ (fun H locs hS => ?_)
  refine lv_astore (lv' := [(5, .ref (TA k)), (0, .ref (of)), (1, .int (nI k)), (2, .long (floor)), (4, .int (rate))]) hx hb dX6_stage_6 hl (by decide) rfl (fun ls hl => ?_)
  refine lv_iload hx hb dX6_stage_8 (lv_at hl 4 rfl) ?_
  refine lv_i2l (v := ((rate : Int32).toInt64)) hx hb dX6_stage_10 rfl ?_
  refine z_rS (As := [.long (((rate : Int32).toInt64))]) (rest := []) (n := 1) ⟨hx, hb, hml, hown, hts⟩ (c_X6_isRate l D cs w H.size (rate : Int32).toInt64) gX6_stage_X6_isRate rfl ⟨by decide +kernel, by decide +kernel, by decide +kernel⟩ ⟨Nat.le_of_ble_eq_true rfl, Nat.le_of_ble_eq_true rfl⟩ hK hE hS rfl hl.1 rfl (Nat.le_of_ble_eq_true rfl) dX6_stage_11 ⟨Nat.le_of_ble_eq_true rfl, Nat.le_of_ble_eq_true rfl⟩ (fun H locs hS => ?_)
  refine lv_if_eq (tgt := 26) hx hb dX6_stage_14 (by decide) (fun cq9 => absurd cq9 (by rw [hr9]; decide)) (fun _ => ?_)
  refine lv_aload hx hb dX6_stage_17 (lv_at hl 0 rfl) ?_
  refine lv_lload_n hx hb dX6_stage_19 rfl (lv_at hl 3 rfl) ?_
  refine z_rV (As := [.long (floor)]) (rest := []) (n := 1) ⟨hx, hb, hml, hown, hts⟩ (c_X3_mayFollow l D cs w H.size (TA k) fl ra n F G tk floor hn h_t h_fl h_ra) gX6_stage_X3_mayFollow rfl ⟨rfl, by decide +kernel, by decide +kernel, by decide +kernel⟩ ⟨Nat.le_of_ble_eq_true rfl, Nat.le_of_ble_eq_true rfl⟩ hK hE hS rfl h_t rfl hl.1 rfl (Nat.le_of_ble_eq_true rfl) dX6_stage_20 ⟨Nat.le_of_ble_eq_true rfl, Nat.le_of_ble_eq_true rfl⟩ (fun H locs hS => ?_)
  refine lv_if_ne (tgt := 36) hx hb dX6_stage_23 (by decide) (fun _ => ?_) (fun cq9 => absurd cq9 (by rw [hmay]; decide))
  refine lv_aload hx hb dX6_stage_36 (lv_at hl 0 rfl) ?_
  refine z_get (C := RX3) (T := TX3) (N := 4) (v := .int (tk)) hx hb hts (by decide +kernel) hown hK hS h_t rfl 3 (by decide) (hts (.fieldLink RX6 77 "PayLedger$Table" "taken" "Z") (by decide +kernel)) rfl dX6_stage_38 ?_
  refine lv_if_eq (tgt := 54) hx hb dX6_stage_41 (by decide) (fun cq9 => absurd cq9 htk) (fun _ => ?_)
  exact z_thr (text := "a worker has the table or had it") hx hb hlst hown hts (by decide +kernel) (by decide +kernel) (by decide +kernel) zbad85 (by decide +kernel) (by decide +kernel) (by decide +kernel) (by decide +kernel) hE hS (hl.1.trans hml.symm) dX6_stage_44 dX6_stage_47 dX6_stage_48 dX6_stage_50 dX6_stage_53 hnm ⟨Nat.le_of_ble_eq_true rfl, Nat.le_of_ble_eq_true rfl, Nat.le_of_ble_eq_true rfl, Nat.le_of_ble_eq_true rfl⟩ hlocks rfl (Nat.le_of_ble_eq_true rfl) (Nat.le_of_ble_eq_true rfl)
set_option maxHeartbeats 4000000 in
set_option maxRecDepth 100000 in
theorem t5_X6_stage (l : Launch) (D : va_G) (cs : Nat → ClassId) (w : zw) (sz : Nat) (of tbs dds wks aa : Nat) (tc dc wc brt yr wd : Int32) (TR : Nat → Option Nat) (TA : Nat → Nat) (nt k fl ra n : Nat) (F : Nat → Int64) (G : Nat → Int32) (tk : Int32) (floor : Int64) (rate : Int32) (hlst : l.stackTraces = false) (hT : zArrN 6 TR TA nt) (hk : k < nt) (hn : n ≤ 12) (hr9 : zUpTo rate.toInt64 1000000 = 1) (hmay : zMay F n floor = 1) (htk : tk = 0) (hn2 : n = 12) (h_f : w (of) = some (.inr (6, [.ref (tbs), .ref (dds), .ref (wks), .ref (aa), .int (tc), .int (dc), .int (wc), .int (brt), .int (yr), .int (wd)]))) (h_tr : w (tbs) = some (eR cs 5 (6) (TR))) (h_t : w (TA k) = some (.inr (3, [.ref (fl), .ref (ra), .int (nI n), .int (tk)]))) (h_fl : w (fl) = some (eJ cs (12) (F))) (h_ra : w (ra) = some (eI cs (12) (G))) : zMX l D cs yX6_stage wsX6_stage 2 1 6 w sz [.ref (of), .int (nI k), .long (floor), .int (rate)] (fun _ _ => False) (fun E9 => E9 = "java/lang/UnsupportedOperationException") := by
  refine z_metX (cc := cX6_stage) (maxL := 6) (ret := (some .int)) (by decide) rfl (Nat.le_of_ble_eq_true rfl) ?_
  intro p e s m below meth c hx hb hr hml hown hts hlocks hnm hsz hK hE hS ls hl
  have hl : lv_has ls 6 [(0, .ref (of)), (1, .int (nI k)), (2, .long (floor)), (4, .int (rate))] := hl
  refine lv_aload_n hx hb dX6_stage_0 rfl (lv_at hl 0 rfl) ?_
  refine lv_iload_n hx hb dX6_stage_1 rfl (lv_at hl 1 rfl) ?_
  refine lv_i2l (v := ((nI k : Int32).toInt64)) hx hb dX6_stage_2 rfl ?_
  refine z_tl (y := lN k) (nI_l (by have := hT.1; omega)) ?_
  refine z_rV (As := [.long (lN k)]) (rest := []) (n := 1) ⟨hx, hb, hml, hown, hts⟩ (c_X6_tableNumbered l D cs w s.heap.size of tbs dds wks aa tc dc wc brt yr wd TR TA nt k hT hk h_f h_tr) gX6_stage_X6_tableNumbered rfl ⟨rfl, by decide +kernel, by decide +kernel, by decide +kernel⟩ ⟨Nat.le_of_ble_eq_true rfl, Nat.le_of_ble_eq_true rfl⟩ hK hE hS rfl h_f rfl hl.1 rfl (Nat.le_of_ble_eq_true rfl) dX6_stage_3 ⟨Nat.le_of_ble_eq_true rfl, Nat.le_of_ble_eq_true rfl⟩ (fun H locs hS => ?_)
  refine lv_astore (lv' := [(5, .ref (TA k)), (0, .ref (of)), (1, .int (nI k)), (2, .long (floor)), (4, .int (rate))]) hx hb dX6_stage_6 hl (by decide) rfl (fun ls hl => ?_)
  refine lv_iload hx hb dX6_stage_8 (lv_at hl 4 rfl) ?_
  refine lv_i2l (v := ((rate : Int32).toInt64)) hx hb dX6_stage_10 rfl ?_
  refine z_rS (As := [.long (((rate : Int32).toInt64))]) (rest := []) (n := 1) ⟨hx, hb, hml, hown, hts⟩ (c_X6_isRate l D cs w H.size (rate : Int32).toInt64) gX6_stage_X6_isRate rfl ⟨by decide +kernel, by decide +kernel, by decide +kernel⟩ ⟨Nat.le_of_ble_eq_true rfl, Nat.le_of_ble_eq_true rfl⟩ hK hE hS rfl hl.1 rfl (Nat.le_of_ble_eq_true rfl) dX6_stage_11 ⟨Nat.le_of_ble_eq_true rfl, Nat.le_of_ble_eq_true rfl⟩ (fun H locs hS => ?_)
  refine lv_if_eq (tgt := 26) hx hb dX6_stage_14 (by decide) (fun cq9 => absurd cq9 (by rw [hr9]; decide)) (fun _ => ?_)
  refine lv_aload hx hb dX6_stage_17 (lv_at hl 0 rfl) ?_
  refine lv_lload_n hx hb dX6_stage_19 rfl (lv_at hl 3 rfl) ?_
  refine z_rV (As := [.long (floor)]) (rest := []) (n := 1) ⟨hx, hb, hml, hown, hts⟩ (c_X3_mayFollow l D cs w H.size (TA k) fl ra n F G tk floor hn h_t h_fl h_ra) gX6_stage_X3_mayFollow rfl ⟨rfl, by decide +kernel, by decide +kernel, by decide +kernel⟩ ⟨Nat.le_of_ble_eq_true rfl, Nat.le_of_ble_eq_true rfl⟩ hK hE hS rfl h_t rfl hl.1 rfl (Nat.le_of_ble_eq_true rfl) dX6_stage_20 ⟨Nat.le_of_ble_eq_true rfl, Nat.le_of_ble_eq_true rfl⟩ (fun H locs hS => ?_)
  refine lv_if_ne (tgt := 36) hx hb dX6_stage_23 (by decide) (fun _ => ?_) (fun cq9 => absurd cq9 (by rw [hmay]; decide))
  refine lv_aload hx hb dX6_stage_36 (lv_at hl 0 rfl) ?_
  refine z_get (C := RX3) (T := TX3) (N := 4) (v := .int (tk)) hx hb hts (by decide +kernel) hown hK hS h_t rfl 3 (by decide) (hts (.fieldLink RX6 77 "PayLedger$Table" "taken" "Z") (by decide +kernel)) rfl dX6_stage_38 ?_
  refine lv_if_eq (tgt := 54) hx hb dX6_stage_41 (by decide) (fun _ => ?_) (fun cq9 => absurd htk cq9)
  refine lv_aload hx hb dX6_stage_54 (lv_at hl 0 rfl) ?_
  refine z_rV (As := []) (rest := []) (n := 0) ⟨hx, hb, hml, hown, hts⟩ (c_X3_isFull l D cs w H.size (TA k) fl ra n F G tk hn h_t h_fl h_ra) gX6_stage_X3_isFull rfl ⟨rfl, by decide +kernel, by decide +kernel, by decide +kernel⟩ ⟨Nat.le_of_ble_eq_true rfl, Nat.le_of_ble_eq_true rfl⟩ hK hE hS rfl h_t rfl hl.1 rfl (Nat.le_of_ble_eq_true rfl) dX6_stage_56 ⟨Nat.le_of_ble_eq_true rfl, Nat.le_of_ble_eq_true rfl⟩ (fun H locs hS => ?_)
  refine lv_if_eq (tgt := 72) hx hb dX6_stage_59 (by decide) (fun cq9 => absurd cq9 (by rw [zB_t hn2]; decide)) (fun _ => ?_)
  exact z_thr (text := "the table has as many stages as can be") hx hb hlst hown hts (by decide +kernel) (by decide +kernel) (by decide +kernel) zbad57 (by decide +kernel) (by decide +kernel) (by decide +kernel) (by decide +kernel) hE hS (hl.1.trans hml.symm) dX6_stage_62 dX6_stage_65 dX6_stage_66 dX6_stage_68 dX6_stage_71 hnm ⟨Nat.le_of_ble_eq_true rfl, Nat.le_of_ble_eq_true rfl, Nat.le_of_ble_eq_true rfl, Nat.le_of_ble_eq_true rfl⟩ hlocks rfl (Nat.le_of_ble_eq_true rfl) (Nat.le_of_ble_eq_true rfl)
set_option maxHeartbeats 4000000 in
set_option maxRecDepth 100000 in
theorem c_X6_deduction (l : Launch) (D : va_G) (cs : Nat → ClassId) (w : zw) (sz : Nat) (of tbs dds wks aa : Nat) (tc wc brt yr wd : Int32) (DR : Nat → Option Nat) (nd : Nat) (dea so : Int32) (si ca bs : Int64) (hdea : dea = 0 ∨ dea = 1) (hn : nd < 8) (hcap : ca = -1 ∨ zUpTo ca 1000000000000 = 1) (hsi : zSizeB so si = 1) (hbs : zUpTo bs 1000000000000 = 1) (h_f : w (of) = some (.inr (6, [.ref (tbs), .ref (dds), .ref (wks), .ref (aa), .int (tc), .int (nI nd), .int (wc), .int (brt), .int (yr), .int (wd)]))) (h_dr : w (dds) = some (eR cs 3 (8) (DR))) : zM l D cs yX6_deduction wsX6_deduction 3 1 5 w sz [.ref (of), .int (dea), .int (so), .long (si), .long (ca), .long (bs)] (fun r w2 => ∃ dd : Nat, r = some (.int (nI nd)) ∧ w dd = none ∧ zEx w w2 [(of, .inr (6, [.ref tbs, .ref dds, .ref wks, .ref aa, .int tc, .int (nI (nd + 1)), .int wc, .int brt, .int yr, .int wd])), (dds, eR cs 3 8 (va_up DR nd (some dd))), (dd, .inr (1, [.int dea, .int so, .long si, .long ca, .long bs]))]) := by
  refine z_met (cc := cX6_deduction) (maxL := 11) (ret := (some .int)) (by decide) rfl (Nat.le_of_ble_eq_true rfl) ?_
  intro p e s m below meth c hx hb hr hml hown hts hlocks hnm hsz hK hE hS ls hl
  have hl : lv_has ls 11 [(0, .ref (of)), (1, .int (dea)), (2, .int (so)), (3, .long (si)), (5, .long (ca)), (7, .long (bs))] := hl
  refine lv_lload hx hb dX6_deduction_0 (lv_at hl 4 rfl) ?_
  refine lv_ldc2 (v := -1) hx hb hown (hts (.constantLong RX6 111 (-1)) (by decide +kernel)) dX6_deduction_2 ?_
  refine z_lif_eq (tgt := 20) hx hb dX6_deduction_5 dX6_deduction_6 (by decide) (fun c5 => ?_) (fun c5 => ?_)
  · refine lv_iconst (v := 1) hx hb dX6_deduction_20 (by decide) ?_
    refine lv_goto (tgt := 25) hx hb dX6_deduction_21 (by decide) ?_
    refine lv_istore (lv' := [(9, .int (1)), (0, .ref (of)), (1, .int (dea)), (2, .int (so)), (3, .long (si)), (5, .long (ca)), (7, .long (bs))]) hx hb dX6_deduction_25 hl (by decide) rfl (fun ls hl => ?_)
    refine lv_iload_n hx hb dX6_deduction_27 rfl (lv_at hl 3 rfl) ?_
    refine lv_lload_n hx hb dX6_deduction_28 rfl (lv_at hl 4 rfl) ?_
    refine z_rS (As := [.int (so), .long (si)]) (rest := []) (n := 2) ⟨hx, hb, hml, hown, hts⟩ (c_X6_isSize l D cs w s.heap.size so si) gX6_deduction_X6_isSize rfl ⟨by decide +kernel, by decide +kernel, by decide +kernel⟩ ⟨Nat.le_of_ble_eq_true rfl, Nat.le_of_ble_eq_true rfl⟩ hK hE hS rfl hl.1 rfl (Nat.le_of_ble_eq_true rfl) dX6_deduction_29 ⟨Nat.le_of_ble_eq_true rfl, Nat.le_of_ble_eq_true rfl⟩ (fun H locs hS => ?_)
    refine lv_if_eq (tgt := 51) hx hb dX6_deduction_32 (by decide) (fun cq9 => absurd cq9 (by rw [hsi]; decide)) (fun _ => ?_)
    refine lv_iload hx hb dX6_deduction_35 (lv_at hl 0 rfl) ?_
    refine lv_if_eq (tgt := 51) hx hb dX6_deduction_37 (by decide) (fun cq9 => absurd cq9 (by decide)) (fun _ => ?_)
    refine lv_lload hx hb dX6_deduction_40 (lv_at hl 6 rfl) ?_
    refine lv_ldc2 (v := 1000000000000) hx hb hown (hts (.constantLong RX6 99 (1000000000000)) (by decide +kernel)) dX6_deduction_42 ?_
    refine z_rS (As := [.long (bs), .long (1000000000000)]) (rest := []) (n := 2) ⟨hx, hb, hml, hown, hts⟩ (c_X6_isUpTo l D cs w H.size bs 1000000000000) gX6_deduction_X6_isUpTo rfl ⟨by decide +kernel, by decide +kernel, by decide +kernel⟩ ⟨Nat.le_of_ble_eq_true rfl, Nat.le_of_ble_eq_true rfl⟩ hK hE hS rfl hl.1 rfl (Nat.le_of_ble_eq_true rfl) dX6_deduction_45 ⟨Nat.le_of_ble_eq_true rfl, Nat.le_of_ble_eq_true rfl⟩ (fun H locs hS => ?_)
    refine lv_if_ne (tgt := 61) hx hb dX6_deduction_48 (by decide) (fun _ => ?_) (fun cq9 => absurd cq9 (by rw [hbs]; decide))
    refine lv_aload_n hx hb dX6_deduction_61 rfl (lv_at hl 1 rfl) ?_
    refine z_get (C := RX6) (T := TX6) (N := 10) (v := .int (nI nd)) hx hb hts (by decide +kernel) hown hK hS h_f rfl 5 (by decide) (hts (.fieldLink RX6 38 "PayLedger" "deductionCount" "I") (by decide +kernel)) rfl dX6_deduction_62 ?_
    refine lv_istore (lv' := [(10, .int (nI nd)), (9, .int (1)), (0, .ref (of)), (1, .int (dea)), (2, .int (so)), (3, .long (si)), (5, .long (ca)), (7, .long (bs))]) hx hb dX6_deduction_65 hl (by decide) rfl (fun ls hl => ?_)
    refine lv_iload hx hb dX6_deduction_67 (lv_at hl 0 rfl) ?_
    refine lv_if_lt (tgt := 82) hx hb dX6_deduction_69 (by decide) (fun cq9 => absurd cq9 (nI_pos (by omega))) (fun _ => ?_)
    refine lv_iload hx hb dX6_deduction_72 (lv_at hl 0 rfl) ?_
    refine lv_aload_n hx hb dX6_deduction_74 rfl (lv_at hl 2 rfl) ?_
    refine z_get (C := RX6) (T := TX6) (N := 10) (v := .ref (dds)) hx hb hts (by decide +kernel) hown hK hS h_f rfl 1 (by decide) (hts (.fieldLink RX6 17 "PayLedger" "deductions" "[LPayLedger$Deduction;") (by decide +kernel)) rfl dX6_deduction_75 ?_
    refine z_alen (t0 := 3) (v := 8) hx hb hK hS h_dr rfl rfl dX6_deduction_78 ?_
    refine lv_icmp_lt (tgt := 92) hx hb dX6_deduction_79 (by decide) (fun _ => ?_) (fun cq9 => absurd (nI_lt (b := 8) hn (by omega)) cq9)
    refine lv_aload_n hx hb dX6_deduction_92 rfl (lv_at hl 2 rfl) ?_
    refine z_get (C := RX6) (T := TX6) (N := 10) (v := .ref (dds)) hx hb hts (by decide +kernel) hown hK hS h_f rfl 1 (by decide) (hts (.fieldLink RX6 17 "PayLedger" "deductions" "[LPayLedger$Deduction;") (by decide +kernel)) rfl dX6_deduction_93 ?_
    refine lv_iload hx hb dX6_deduction_96 (lv_at hl 0 rfl) ?_
    refine z_new (ci := 1) (fs := [.int (0), .int (0), .long (0), .long (0), .long (0)]) (C := RX1) (T := TX1) (N := 5) hx hb hts (by decide +kernel) tyX1 tyX1_ok hown (hts (.classLink RX6 15 RX1) (by decide +kernel)) (hts (.instantiable RX1 5) (by decide +kernel)) (hts (.initialized RX1) (by decide +kernel)) hK hS rfl (by decide +kernel) (Nat.le_of_ble_eq_true rfl) (Nat.le_of_ble_eq_true rfl) dX6_deduction_98 (fun dd H h_ndd hS => ?_)
    obtain ⟨w1, ew1⟩ : ∃ z : zw, z = va_up w (dd) (some (.inr (1, [.int (0), .int (0), .long (0), .long (0), .long (0)]))) := ⟨_, rfl⟩
    have hS : zS (zA w sz) D w1 s.heap H locs := by rw [ew1]; exact hS
    have h1_dd : w1 (dd) = some (.inr (1, [.int (0), .int (0), .long (0), .long (0), .long (0)])) := by rw [ew1]; exact va_up_self _ _ _
    have h1_of : w1 (of) = some (.inr (6, [.ref (tbs), .ref (dds), .ref (wks), .ref (aa), .int (tc), .int (nI nd), .int (wc), .int (brt), .int (yr), .int (wd)])) := by rw [ew1]; exact (va_up_ne _ _ (fun q9 => by rw [q9] at h_f; rw [h_ndd] at h_f; cases h_f)).trans h_f
    have h1_dds : w1 (dds) = some (eR cs 3 (8) (DR)) := by rw [ew1]; exact (va_up_ne _ _ (fun q9 => by rw [q9] at h_dr; rw [h_ndd] at h_dr; cases h_dr)).trans h_dr
    have hz_dd : w (dd) = none := by
      have q9 := h_ndd
      exact q9
    refine lv_dup hx hb dX6_deduction_101 rfl ?_
    refine lv_iload_n hx hb dX6_deduction_102 rfl (lv_at hl 3 rfl) ?_
    refine lv_iload_n hx hb dX6_deduction_103 rfl (lv_at hl 4 rfl) ?_
    refine lv_lload_n hx hb dX6_deduction_104 rfl (lv_at hl 5 rfl) ?_
    refine lv_lload hx hb dX6_deduction_105 (lv_at hl 6 rfl) ?_
    refine lv_lload hx hb dX6_deduction_107 (lv_at hl 7 rfl) ?_
    refine z_invI (b := dd) (As := [.int (dea), .int (so), .long (si), .long (ca), .long (bs)]) (rest := [.ref (dd), .int (nI nd), .ref (dds)]) (n := 5) ⟨hx, hb, hml, hown, hts⟩ (c_X1_init l D cs w1 H.size dd dea so si ca bs hdea h1_dd) gX6_deduction_X1_init rfl (hts (.initialized RX1) (by decide +kernel)) (hts (.methodLink RX6 121 yX1_init) (by decide +kernel)) (hts (.instanceMethod yX1_init) (by decide +kernel)) rfl ⟨by decide +kernel, by decide +kernel, by decide +kernel⟩ ⟨Nat.le_of_ble_eq_true rfl, Nat.le_of_ble_eq_true rfl⟩ hK hE hS rfl hl.1 rfl (Nat.le_of_ble_eq_true rfl) dX6_deduction_109 ⟨Nat.le_of_ble_eq_true rfl, Nat.le_of_ble_eq_true rfl⟩ (fun v9 u2 H locs hq hS => ?_)
    obtain ⟨rfl, hx2⟩ := hq
    have h3_dd : u2 (dd) = some (.inr (1, [.int (dea), .int (so), .long (si), .long (ca), .long (bs)])) := hx2.at 0 rfl
    have h3_of : u2 (of) = some (.inr (6, [.ref (tbs), .ref (dds), .ref (wks), .ref (aa), .int (tc), .int (nI nd), .int (wc), .int (brt), .int (yr), .int (wd)])) := hx2.old h1_of (zm1 (zne h1_of h1_dd (by intro q9; first | cases q9 | simp at q9)) zm0)
    have h3_dds : u2 (dds) = some (eR cs 3 (8) (DR)) := hx2.old h1_dds (zm1 (zne h1_dds h1_dd (by intro q9; first | cases q9 | simp at q9)) zm0)
    refine W.eq (g2 := F0 m 112 ls [.ref (dd), .int (nI nd), .ref (dds)]) rfl ?_
    refine z_aast hx hb hK hS h3_dds rfl h3_dd rfl (vp_in_nI hn (by omega)) dX6_deduction_112 (fun H locs hS => ?_)
    obtain ⟨w4, ew4⟩ : ∃ z : zw, z = va_up u2 (dds) (some (eR cs 3 (8) (va_up (DR) (nI nd : Int32).toNatClampNeg (some (dd))))) := ⟨_, rfl⟩
    have hS : zS (zA w sz) D w4 s.heap H locs := by rw [ew4]; exact hS
    have h4_dds : w4 (dds) = some (eR cs 3 (8) (va_up (DR) (nI nd : Int32).toNatClampNeg (some (dd)))) := by rw [ew4]; exact va_up_self _ _ _
    have h4_dd : w4 (dd) = some (.inr (1, [.int (dea), .int (so), .long (si), .long (ca), .long (bs)])) := by rw [ew4]; exact (va_up_ne _ _ (zne h3_dd h3_dds (by intro q9; first | cases q9 | simp at q9))).trans h3_dd
    have h4_of : w4 (of) = some (.inr (6, [.ref (tbs), .ref (dds), .ref (wks), .ref (aa), .int (tc), .int (nI nd), .int (wc), .int (brt), .int (yr), .int (wd)])) := by rw [ew4]; exact (va_up_ne _ _ (zne h3_of h3_dds (by intro q9; first | cases q9 | simp at q9))).trans h3_of
    rw [show (eR cs 3 (8) (va_up (DR) (nI nd : Int32).toNatClampNeg (some (dd)))) = (eR cs 3 (8) (va_up DR nd (some dd))) from (by rw [nI_clamp (by omega)])] at h4_dds
    refine lv_aload_n hx hb dX6_deduction_113 rfl (lv_at hl 2 rfl) ?_
    refine lv_iload hx hb dX6_deduction_114 (lv_at hl 0 rfl) ?_
    refine lv_iconst (v := 1) hx hb dX6_deduction_116 (by decide) ?_
    refine lv_iadd hx hb dX6_deduction_117 ?_
    refine z_ti (y := nI (nd + 1)) (nI_1 nd) ?_
    refine z_put (C := RX6) (T := TX6) (N := 10) (v := .int (nI (nd + 1))) hx hb hts (by decide +kernel) tyX6 tyX6_ok nmX6 hown hK hS h4_of rfl 5 (by decide) (hts (.fieldLink RX6 38 "PayLedger" "deductionCount" "I") (by decide +kernel)) rfl rfl rfl (Nat.le_of_ble_eq_true rfl) dX6_deduction_118 (fun H locs hS => ?_)
    obtain ⟨w5, ew5⟩ : ∃ z : zw, z = va_up w4 (of) (some (.inr (6, [.ref (tbs), .ref (dds), .ref (wks), .ref (aa), .int (tc), .int (nI (nd + 1)), .int (wc), .int (brt), .int (yr), .int (wd)]))) := ⟨_, rfl⟩
    have hS : zS (zA w sz) D w5 s.heap H locs := by rw [ew5]; exact hS
    have h5_of : w5 (of) = some (.inr (6, [.ref (tbs), .ref (dds), .ref (wks), .ref (aa), .int (tc), .int (nI (nd + 1)), .int (wc), .int (brt), .int (yr), .int (wd)])) := by rw [ew5]; exact va_up_self _ _ _
    have h5_dd : w5 (dd) = some (.inr (1, [.int (dea), .int (so), .long (si), .long (ca), .long (bs)])) := by rw [ew5]; exact (va_up_ne _ _ (zne h4_dd h4_of (by intro q9; first | cases q9 | simp at q9))).trans h4_dd
    have h5_dds : w5 (dds) = some (eR cs 3 (8) (va_up DR nd (some dd))) := by rw [ew5]; exact (va_up_ne _ _ (zne h4_dds h4_of (by intro q9; first | cases q9 | simp at q9))).trans h4_dds
    refine lv_iload hx hb dX6_deduction_121 (lv_at hl 0 rfl) ?_
    have hex : zEx w w5 [(of, (.inr (6, [.ref (tbs), .ref (dds), .ref (wks), .ref (aa), .int (tc), .int (nI (nd + 1)), .int (wc), .int (brt), .int (yr), .int (wd)]))), (dds, (eR cs 3 (8) (va_up DR nd (some dd)))), (dd, (.inr (1, [.int (dea), .int (so), .long (si), .long (ca), .long (bs)])))] := ⟨(zm1 h5_of (zm1 h5_dds (zm1 h5_dd zm0))), fun a9 h9 => by rw [ew5, va_up_ne _ _ (show a9 ≠ of from h9 (of, (.inr (6, [.ref (tbs), .ref (dds), .ref (wks), .ref (aa), .int (tc), .int (nI (nd + 1)), .int (wc), .int (brt), .int (yr), .int (wd)]))) (List.mem_of_getElem? (i := 0) rfl)), ew4, va_up_ne _ _ (show a9 ≠ dds from h9 (dds, (eR cs 3 (8) (va_up DR nd (some dd)))) (List.mem_of_getElem? (i := 1) rfl)), hx2.2 a9 (zm1 (show a9 ≠ dd from h9 (dd, (.inr (1, [.int (dea), .int (so), .long (si), .long (ca), .long (bs)]))) (List.mem_of_getElem? (i := 2) rfl)) zm0), ew1, va_up_ne _ _ (show a9 ≠ dd from h9 (dd, (.inr (1, [.int (dea), .int (so), .long (si), .long (ca), .long (bs)]))) (List.mem_of_getElem? (i := 2) rfl))]⟩
    exact z_iret hx hb hr hlocks hS (Nat.le_of_ble_eq_true rfl) (Nat.le_of_ble_eq_true rfl) dX6_deduction_123 ⟨dd, rfl, hz_dd, hex⟩
  · have hc9 : zUpTo ca 1000000000000 = 1 := hcap.resolve_left c5
    refine lv_lload hx hb dX6_deduction_9 (lv_at hl 4 rfl) ?_
    refine lv_ldc2 (v := 1000000000000) hx hb hown (hts (.constantLong RX6 99 (1000000000000)) (by decide +kernel)) dX6_deduction_11 ?_
    refine z_rS (As := [.long (ca), .long (1000000000000)]) (rest := []) (n := 2) ⟨hx, hb, hml, hown, hts⟩ (c_X6_isUpTo l D cs w s.heap.size ca 1000000000000) gX6_deduction_X6_isUpTo rfl ⟨by decide +kernel, by decide +kernel, by decide +kernel⟩ ⟨Nat.le_of_ble_eq_true rfl, Nat.le_of_ble_eq_true rfl⟩ hK hE hS rfl hl.1 rfl (Nat.le_of_ble_eq_true rfl) dX6_deduction_14 ⟨Nat.le_of_ble_eq_true rfl, Nat.le_of_ble_eq_true rfl⟩ (fun H locs hS => ?_)
    refine lv_if_eq (tgt := 24) hx hb dX6_deduction_17 (by decide) (fun cq9 => absurd cq9 (by rw [hc9]; decide)) (fun _ => ?_)
    refine lv_iconst (v := 1) hx hb dX6_deduction_20 (by decide) ?_
    refine lv_goto (tgt := 25) hx hb dX6_deduction_21 (by decide) ?_
    refine lv_istore (lv' := [(9, .int (1)), (0, .ref (of)), (1, .int (dea)), (2, .int (so)), (3, .long (si)), (5, .long (ca)), (7, .long (bs))]) hx hb dX6_deduction_25 hl (by decide) rfl (fun ls hl => ?_)
    refine lv_iload_n hx hb dX6_deduction_27 rfl (lv_at hl 3 rfl) ?_
    refine lv_lload_n hx hb dX6_deduction_28 rfl (lv_at hl 4 rfl) ?_
    refine z_rS (As := [.int (so), .long (si)]) (rest := []) (n := 2) ⟨hx, hb, hml, hown, hts⟩ (c_X6_isSize l D cs w H.size so si) gX6_deduction_X6_isSize rfl ⟨by decide +kernel, by decide +kernel, by decide +kernel⟩ ⟨Nat.le_of_ble_eq_true rfl, Nat.le_of_ble_eq_true rfl⟩ hK hE hS rfl hl.1 rfl (Nat.le_of_ble_eq_true rfl) dX6_deduction_29 ⟨Nat.le_of_ble_eq_true rfl, Nat.le_of_ble_eq_true rfl⟩ (fun H locs hS => ?_)
    refine lv_if_eq (tgt := 51) hx hb dX6_deduction_32 (by decide) (fun cq9 => absurd cq9 (by rw [hsi]; decide)) (fun _ => ?_)
    refine lv_iload hx hb dX6_deduction_35 (lv_at hl 0 rfl) ?_
    refine lv_if_eq (tgt := 51) hx hb dX6_deduction_37 (by decide) (fun cq9 => absurd cq9 (by decide)) (fun _ => ?_)
    refine lv_lload hx hb dX6_deduction_40 (lv_at hl 6 rfl) ?_
    refine lv_ldc2 (v := 1000000000000) hx hb hown (hts (.constantLong RX6 99 (1000000000000)) (by decide +kernel)) dX6_deduction_42 ?_
    refine z_rS (As := [.long (bs), .long (1000000000000)]) (rest := []) (n := 2) ⟨hx, hb, hml, hown, hts⟩ (c_X6_isUpTo l D cs w H.size bs 1000000000000) gX6_deduction_X6_isUpTo rfl ⟨by decide +kernel, by decide +kernel, by decide +kernel⟩ ⟨Nat.le_of_ble_eq_true rfl, Nat.le_of_ble_eq_true rfl⟩ hK hE hS rfl hl.1 rfl (Nat.le_of_ble_eq_true rfl) dX6_deduction_45 ⟨Nat.le_of_ble_eq_true rfl, Nat.le_of_ble_eq_true rfl⟩ (fun H locs hS => ?_)
    refine lv_if_ne (tgt := 61) hx hb dX6_deduction_48 (by decide) (fun _ => ?_) (fun cq9 => absurd cq9 (by rw [hbs]; decide))
    refine lv_aload_n hx hb dX6_deduction_61 rfl (lv_at hl 1 rfl) ?_
    refine z_get (C := RX6) (T := TX6) (N := 10) (v := .int (nI nd)) hx hb hts (by decide +kernel) hown hK hS h_f rfl 5 (by decide) (hts (.fieldLink RX6 38 "PayLedger" "deductionCount" "I") (by decide +kernel)) rfl dX6_deduction_62 ?_
    refine lv_istore (lv' := [(10, .int (nI nd)), (9, .int (1)), (0, .ref (of)), (1, .int (dea)), (2, .int (so)), (3, .long (si)), (5, .long (ca)), (7, .long (bs))]) hx hb dX6_deduction_65 hl (by decide) rfl (fun ls hl => ?_)
    refine lv_iload hx hb dX6_deduction_67 (lv_at hl 0 rfl) ?_
    refine lv_if_lt (tgt := 82) hx hb dX6_deduction_69 (by decide) (fun cq9 => absurd cq9 (nI_pos (by omega))) (fun _ => ?_)
    refine lv_iload hx hb dX6_deduction_72 (lv_at hl 0 rfl) ?_
    refine lv_aload_n hx hb dX6_deduction_74 rfl (lv_at hl 2 rfl) ?_
    refine z_get (C := RX6) (T := TX6) (N := 10) (v := .ref (dds)) hx hb hts (by decide +kernel) hown hK hS h_f rfl 1 (by decide) (hts (.fieldLink RX6 17 "PayLedger" "deductions" "[LPayLedger$Deduction;") (by decide +kernel)) rfl dX6_deduction_75 ?_
    refine z_alen (t0 := 3) (v := 8) hx hb hK hS h_dr rfl rfl dX6_deduction_78 ?_
    refine lv_icmp_lt (tgt := 92) hx hb dX6_deduction_79 (by decide) (fun _ => ?_) (fun cq9 => absurd (nI_lt (b := 8) hn (by omega)) cq9)
    refine lv_aload_n hx hb dX6_deduction_92 rfl (lv_at hl 2 rfl) ?_
    refine z_get (C := RX6) (T := TX6) (N := 10) (v := .ref (dds)) hx hb hts (by decide +kernel) hown hK hS h_f rfl 1 (by decide) (hts (.fieldLink RX6 17 "PayLedger" "deductions" "[LPayLedger$Deduction;") (by decide +kernel)) rfl dX6_deduction_93 ?_
    refine lv_iload hx hb dX6_deduction_96 (lv_at hl 0 rfl) ?_
    refine z_new (ci := 1) (fs := [.int (0), .int (0), .long (0), .long (0), .long (0)]) (C := RX1) (T := TX1) (N := 5) hx hb hts (by decide +kernel) tyX1 tyX1_ok hown (hts (.classLink RX6 15 RX1) (by decide +kernel)) (hts (.instantiable RX1 5) (by decide +kernel)) (hts (.initialized RX1) (by decide +kernel)) hK hS rfl (by decide +kernel) (Nat.le_of_ble_eq_true rfl) (Nat.le_of_ble_eq_true rfl) dX6_deduction_98 (fun dd H h_ndd hS => ?_)
    obtain ⟨w6, ew6⟩ : ∃ z : zw, z = va_up w (dd) (some (.inr (1, [.int (0), .int (0), .long (0), .long (0), .long (0)]))) := ⟨_, rfl⟩
    have hS : zS (zA w sz) D w6 s.heap H locs := by rw [ew6]; exact hS
    have h6_dd : w6 (dd) = some (.inr (1, [.int (0), .int (0), .long (0), .long (0), .long (0)])) := by rw [ew6]; exact va_up_self _ _ _
    have h6_of : w6 (of) = some (.inr (6, [.ref (tbs), .ref (dds), .ref (wks), .ref (aa), .int (tc), .int (nI nd), .int (wc), .int (brt), .int (yr), .int (wd)])) := by rw [ew6]; exact (va_up_ne _ _ (fun q9 => by rw [q9] at h_f; rw [h_ndd] at h_f; cases h_f)).trans h_f
    have h6_dds : w6 (dds) = some (eR cs 3 (8) (DR)) := by rw [ew6]; exact (va_up_ne _ _ (fun q9 => by rw [q9] at h_dr; rw [h_ndd] at h_dr; cases h_dr)).trans h_dr
    have hz_dd : w (dd) = none := by
      have q9 := h_ndd
      exact q9
    refine lv_dup hx hb dX6_deduction_101 rfl ?_
    refine lv_iload_n hx hb dX6_deduction_102 rfl (lv_at hl 3 rfl) ?_
    refine lv_iload_n hx hb dX6_deduction_103 rfl (lv_at hl 4 rfl) ?_
    refine lv_lload_n hx hb dX6_deduction_104 rfl (lv_at hl 5 rfl) ?_
    refine lv_lload hx hb dX6_deduction_105 (lv_at hl 6 rfl) ?_
    refine lv_lload hx hb dX6_deduction_107 (lv_at hl 7 rfl) ?_
    refine z_invI (b := dd) (As := [.int (dea), .int (so), .long (si), .long (ca), .long (bs)]) (rest := [.ref (dd), .int (nI nd), .ref (dds)]) (n := 5) ⟨hx, hb, hml, hown, hts⟩ (c_X1_init l D cs w6 H.size dd dea so si ca bs hdea h6_dd) gX6_deduction_X1_init rfl (hts (.initialized RX1) (by decide +kernel)) (hts (.methodLink RX6 121 yX1_init) (by decide +kernel)) (hts (.instanceMethod yX1_init) (by decide +kernel)) rfl ⟨by decide +kernel, by decide +kernel, by decide +kernel⟩ ⟨Nat.le_of_ble_eq_true rfl, Nat.le_of_ble_eq_true rfl⟩ hK hE hS rfl hl.1 rfl (Nat.le_of_ble_eq_true rfl) dX6_deduction_109 ⟨Nat.le_of_ble_eq_true rfl, Nat.le_of_ble_eq_true rfl⟩ (fun v9 u7 H locs hq hS => ?_)
    obtain ⟨rfl, hx7⟩ := hq
    have h8_dd : u7 (dd) = some (.inr (1, [.int (dea), .int (so), .long (si), .long (ca), .long (bs)])) := hx7.at 0 rfl
    have h8_of : u7 (of) = some (.inr (6, [.ref (tbs), .ref (dds), .ref (wks), .ref (aa), .int (tc), .int (nI nd), .int (wc), .int (brt), .int (yr), .int (wd)])) := hx7.old h6_of (zm1 (zne h6_of h6_dd (by intro q9; first | cases q9 | simp at q9)) zm0)
    have h8_dds : u7 (dds) = some (eR cs 3 (8) (DR)) := hx7.old h6_dds (zm1 (zne h6_dds h6_dd (by intro q9; first | cases q9 | simp at q9)) zm0)
    refine W.eq (g2 := F0 m 112 ls [.ref (dd), .int (nI nd), .ref (dds)]) rfl ?_
    refine z_aast hx hb hK hS h8_dds rfl h8_dd rfl (vp_in_nI hn (by omega)) dX6_deduction_112 (fun H locs hS => ?_)
    obtain ⟨w9, ew9⟩ : ∃ z : zw, z = va_up u7 (dds) (some (eR cs 3 (8) (va_up (DR) (nI nd : Int32).toNatClampNeg (some (dd))))) := ⟨_, rfl⟩
    have hS : zS (zA w sz) D w9 s.heap H locs := by rw [ew9]; exact hS
    have h9_dds : w9 (dds) = some (eR cs 3 (8) (va_up (DR) (nI nd : Int32).toNatClampNeg (some (dd)))) := by rw [ew9]; exact va_up_self _ _ _
    have h9_dd : w9 (dd) = some (.inr (1, [.int (dea), .int (so), .long (si), .long (ca), .long (bs)])) := by rw [ew9]; exact (va_up_ne _ _ (zne h8_dd h8_dds (by intro q9; first | cases q9 | simp at q9))).trans h8_dd
    have h9_of : w9 (of) = some (.inr (6, [.ref (tbs), .ref (dds), .ref (wks), .ref (aa), .int (tc), .int (nI nd), .int (wc), .int (brt), .int (yr), .int (wd)])) := by rw [ew9]; exact (va_up_ne _ _ (zne h8_of h8_dds (by intro q9; first | cases q9 | simp at q9))).trans h8_of
    rw [show (eR cs 3 (8) (va_up (DR) (nI nd : Int32).toNatClampNeg (some (dd)))) = (eR cs 3 (8) (va_up DR nd (some dd))) from (by rw [nI_clamp (by omega)])] at h9_dds
    refine lv_aload_n hx hb dX6_deduction_113 rfl (lv_at hl 2 rfl) ?_
    refine lv_iload hx hb dX6_deduction_114 (lv_at hl 0 rfl) ?_
    refine lv_iconst (v := 1) hx hb dX6_deduction_116 (by decide) ?_
    refine lv_iadd hx hb dX6_deduction_117 ?_
    refine z_ti (y := nI (nd + 1)) (nI_1 nd) ?_
    refine z_put (C := RX6) (T := TX6) (N := 10) (v := .int (nI (nd + 1))) hx hb hts (by decide +kernel) tyX6 tyX6_ok nmX6 hown hK hS h9_of rfl 5 (by decide) (hts (.fieldLink RX6 38 "PayLedger" "deductionCount" "I") (by decide +kernel)) rfl rfl rfl (Nat.le_of_ble_eq_true rfl) dX6_deduction_118 (fun H locs hS => ?_)
    obtain ⟨w10, ew10⟩ : ∃ z : zw, z = va_up w9 (of) (some (.inr (6, [.ref (tbs), .ref (dds), .ref (wks), .ref (aa), .int (tc), .int (nI (nd + 1)), .int (wc), .int (brt), .int (yr), .int (wd)]))) := ⟨_, rfl⟩
    have hS : zS (zA w sz) D w10 s.heap H locs := by rw [ew10]; exact hS
    have h10_of : w10 (of) = some (.inr (6, [.ref (tbs), .ref (dds), .ref (wks), .ref (aa), .int (tc), .int (nI (nd + 1)), .int (wc), .int (brt), .int (yr), .int (wd)])) := by rw [ew10]; exact va_up_self _ _ _
    have h10_dd : w10 (dd) = some (.inr (1, [.int (dea), .int (so), .long (si), .long (ca), .long (bs)])) := by rw [ew10]; exact (va_up_ne _ _ (zne h9_dd h9_of (by intro q9; first | cases q9 | simp at q9))).trans h9_dd
    have h10_dds : w10 (dds) = some (eR cs 3 (8) (va_up DR nd (some dd))) := by rw [ew10]; exact (va_up_ne _ _ (zne h9_dds h9_of (by intro q9; first | cases q9 | simp at q9))).trans h9_dds
    refine lv_iload hx hb dX6_deduction_121 (lv_at hl 0 rfl) ?_
    have hex : zEx w w10 [(of, (.inr (6, [.ref (tbs), .ref (dds), .ref (wks), .ref (aa), .int (tc), .int (nI (nd + 1)), .int (wc), .int (brt), .int (yr), .int (wd)]))), (dds, (eR cs 3 (8) (va_up DR nd (some dd)))), (dd, (.inr (1, [.int (dea), .int (so), .long (si), .long (ca), .long (bs)])))] := ⟨(zm1 h10_of (zm1 h10_dds (zm1 h10_dd zm0))), fun a9 h9 => by rw [ew10, va_up_ne _ _ (show a9 ≠ of from h9 (of, (.inr (6, [.ref (tbs), .ref (dds), .ref (wks), .ref (aa), .int (tc), .int (nI (nd + 1)), .int (wc), .int (brt), .int (yr), .int (wd)]))) (List.mem_of_getElem? (i := 0) rfl)), ew9, va_up_ne _ _ (show a9 ≠ dds from h9 (dds, (eR cs 3 (8) (va_up DR nd (some dd)))) (List.mem_of_getElem? (i := 1) rfl)), hx7.2 a9 (zm1 (show a9 ≠ dd from h9 (dd, (.inr (1, [.int (dea), .int (so), .long (si), .long (ca), .long (bs)]))) (List.mem_of_getElem? (i := 2) rfl)) zm0), ew6, va_up_ne _ _ (show a9 ≠ dd from h9 (dd, (.inr (1, [.int (dea), .int (so), .long (si), .long (ca), .long (bs)]))) (List.mem_of_getElem? (i := 2) rfl))]⟩
    exact z_iret hx hb hr hlocks hS (Nat.le_of_ble_eq_true rfl) (Nat.le_of_ble_eq_true rfl) dX6_deduction_123 ⟨dd, rfl, hz_dd, hex⟩
set_option maxHeartbeats 4000000 in
set_option maxRecDepth 100000 in
theorem t1_X6_deduction (l : Launch) (D : va_G) (cs : Nat → ClassId) (w : zw) (sz : Nat) (of tbs dds wks aa : Nat) (tc dc wc brt yr wd : Int32) (DR : Nat → Option Nat) (dea so : Int32) (si ca bs : Int64) (hlst : l.stackTraces = false) (hbad : ¬ (zSizeB so si = 1 ∧ (ca = -1 ∨ zUpTo ca 1000000000000 = 1) ∧ zUpTo bs 1000000000000 = 1)) (h_f : w (of) = some (.inr (6, [.ref (tbs), .ref (dds), .ref (wks), .ref (aa), .int (tc), .int (dc), .int (wc), .int (brt), .int (yr), .int (wd)]))) (h_dr : w (dds) = some (eR cs 3 (8) (DR))) : zMX l D cs yX6_deduction wsX6_deduction 3 1 6 w sz [.ref (of), .int (dea), .int (so), .long (si), .long (ca), .long (bs)] (fun _ _ => False) (fun E9 => E9 = "java/lang/IllegalArgumentException") := by
  refine z_metX (cc := cX6_deduction) (maxL := 11) (ret := (some .int)) (by decide) rfl (Nat.le_of_ble_eq_true rfl) ?_
  intro p e s m below meth c hx hb hr hml hown hts hlocks hnm hsz hK hE hS ls hl
  have hl : lv_has ls 11 [(0, .ref (of)), (1, .int (dea)), (2, .int (so)), (3, .long (si)), (5, .long (ca)), (7, .long (bs))] := hl
  refine lv_lload hx hb dX6_deduction_0 (lv_at hl 4 rfl) ?_
  refine lv_ldc2 (v := -1) hx hb hown (hts (.constantLong RX6 111 (-1)) (by decide +kernel)) dX6_deduction_2 ?_
  refine z_lif_eq (tgt := 20) hx hb dX6_deduction_5 dX6_deduction_6 (by decide) (fun c5 => ?_) (fun c5 => ?_)
  · refine lv_iconst (v := 1) hx hb dX6_deduction_20 (by decide) ?_
    refine lv_goto (tgt := 25) hx hb dX6_deduction_21 (by decide) ?_
    refine lv_istore (lv' := [(9, .int (1)), (0, .ref (of)), (1, .int (dea)), (2, .int (so)), (3, .long (si)), (5, .long (ca)), (7, .long (bs))]) hx hb dX6_deduction_25 hl (by decide) rfl (fun ls hl => ?_)
    refine lv_iload_n hx hb dX6_deduction_27 rfl (lv_at hl 3 rfl) ?_
    refine lv_lload_n hx hb dX6_deduction_28 rfl (lv_at hl 4 rfl) ?_
    refine z_rS (As := [.int (so), .long (si)]) (rest := []) (n := 2) ⟨hx, hb, hml, hown, hts⟩ (c_X6_isSize l D cs w s.heap.size so si) gX6_deduction_X6_isSize rfl ⟨by decide +kernel, by decide +kernel, by decide +kernel⟩ ⟨Nat.le_of_ble_eq_true rfl, Nat.le_of_ble_eq_true rfl⟩ hK hE hS rfl hl.1 rfl (Nat.le_of_ble_eq_true rfl) dX6_deduction_29 ⟨Nat.le_of_ble_eq_true rfl, Nat.le_of_ble_eq_true rfl⟩ (fun H locs hS => ?_)
    refine lv_if_eq (tgt := 51) hx hb dX6_deduction_32 (by decide) (fun c32 => ?_) (fun c32 => ?_)
    · exact z_thr (text := "no such deduction can be") hx hb hlst hown hts (by decide +kernel) (by decide +kernel) (by decide +kernel) zbad76 (by decide +kernel) (by decide +kernel) (by decide +kernel) (by decide +kernel) hE hS (hl.1.trans hml.symm) dX6_deduction_51 dX6_deduction_54 dX6_deduction_55 dX6_deduction_57 dX6_deduction_60 hnm ⟨Nat.le_of_ble_eq_true rfl, Nat.le_of_ble_eq_true rfl, Nat.le_of_ble_eq_true rfl, Nat.le_of_ble_eq_true rfl⟩ hlocks rfl (Nat.le_of_ble_eq_true rfl) (Nat.le_of_ble_eq_true rfl)
    · refine lv_iload hx hb dX6_deduction_35 (lv_at hl 0 rfl) ?_
      refine lv_if_eq (tgt := 51) hx hb dX6_deduction_37 (by decide) (fun c37 => ?_) (fun c37 => ?_)
      · exact z_thr (text := "no such deduction can be") hx hb hlst hown hts (by decide +kernel) (by decide +kernel) (by decide +kernel) zbad76 (by decide +kernel) (by decide +kernel) (by decide +kernel) (by decide +kernel) hE hS (hl.1.trans hml.symm) dX6_deduction_51 dX6_deduction_54 dX6_deduction_55 dX6_deduction_57 dX6_deduction_60 hnm ⟨Nat.le_of_ble_eq_true rfl, Nat.le_of_ble_eq_true rfl, Nat.le_of_ble_eq_true rfl, Nat.le_of_ble_eq_true rfl⟩ hlocks rfl (Nat.le_of_ble_eq_true rfl) (Nat.le_of_ble_eq_true rfl)
      · refine lv_lload hx hb dX6_deduction_40 (lv_at hl 6 rfl) ?_
        refine lv_ldc2 (v := 1000000000000) hx hb hown (hts (.constantLong RX6 99 (1000000000000)) (by decide +kernel)) dX6_deduction_42 ?_
        refine z_rS (As := [.long (bs), .long (1000000000000)]) (rest := []) (n := 2) ⟨hx, hb, hml, hown, hts⟩ (c_X6_isUpTo l D cs w H.size bs 1000000000000) gX6_deduction_X6_isUpTo rfl ⟨by decide +kernel, by decide +kernel, by decide +kernel⟩ ⟨Nat.le_of_ble_eq_true rfl, Nat.le_of_ble_eq_true rfl⟩ hK hE hS rfl hl.1 rfl (Nat.le_of_ble_eq_true rfl) dX6_deduction_45 ⟨Nat.le_of_ble_eq_true rfl, Nat.le_of_ble_eq_true rfl⟩ (fun H locs hS => ?_)
        refine lv_if_ne (tgt := 61) hx hb dX6_deduction_48 (by decide) (fun c48 => ?_) (fun c48 => ?_)
        · exact (hbad ⟨z1of (zSizeB_01 _ _) c32, (by first | exact Or.inl c5 | exact Or.inr (z1of (zUpTo_01 _ _) c17) | exact absurd rfl c37), z1of (zUpTo_01 _ _) c48⟩).elim
        · exact z_thr (text := "no such deduction can be") hx hb hlst hown hts (by decide +kernel) (by decide +kernel) (by decide +kernel) zbad76 (by decide +kernel) (by decide +kernel) (by decide +kernel) (by decide +kernel) hE hS (hl.1.trans hml.symm) dX6_deduction_51 dX6_deduction_54 dX6_deduction_55 dX6_deduction_57 dX6_deduction_60 hnm ⟨Nat.le_of_ble_eq_true rfl, Nat.le_of_ble_eq_true rfl, Nat.le_of_ble_eq_true rfl, Nat.le_of_ble_eq_true rfl⟩ hlocks rfl (Nat.le_of_ble_eq_true rfl) (Nat.le_of_ble_eq_true rfl)
  · refine lv_lload hx hb dX6_deduction_9 (lv_at hl 4 rfl) ?_
    refine lv_ldc2 (v := 1000000000000) hx hb hown (hts (.constantLong RX6 99 (1000000000000)) (by decide +kernel)) dX6_deduction_11 ?_
    refine z_rS (As := [.long (ca), .long (1000000000000)]) (rest := []) (n := 2) ⟨hx, hb, hml, hown, hts⟩ (c_X6_isUpTo l D cs w s.heap.size ca 1000000000000) gX6_deduction_X6_isUpTo rfl ⟨by decide +kernel, by decide +kernel, by decide +kernel⟩ ⟨Nat.le_of_ble_eq_true rfl, Nat.le_of_ble_eq_true rfl⟩ hK hE hS rfl hl.1 rfl (Nat.le_of_ble_eq_true rfl) dX6_deduction_14 ⟨Nat.le_of_ble_eq_true rfl, Nat.le_of_ble_eq_true rfl⟩ (fun H locs hS => ?_)
    refine lv_if_eq (tgt := 24) hx hb dX6_deduction_17 (by decide) (fun c17 => ?_) (fun c17 => ?_)
    · refine lv_iconst (v := 0) hx hb dX6_deduction_24 (by decide) ?_
      refine lv_istore (lv' := [(9, .int (0)), (0, .ref (of)), (1, .int (dea)), (2, .int (so)), (3, .long (si)), (5, .long (ca)), (7, .long (bs))]) hx hb dX6_deduction_25 hl (by decide) rfl (fun ls hl => ?_)
      refine lv_iload_n hx hb dX6_deduction_27 rfl (lv_at hl 3 rfl) ?_
      refine lv_lload_n hx hb dX6_deduction_28 rfl (lv_at hl 4 rfl) ?_
      refine z_rS (As := [.int (so), .long (si)]) (rest := []) (n := 2) ⟨hx, hb, hml, hown, hts⟩ (c_X6_isSize l D cs w H.size so si) gX6_deduction_X6_isSize rfl ⟨by decide +kernel, by decide +kernel, by decide +kernel⟩ ⟨Nat.le_of_ble_eq_true rfl, Nat.le_of_ble_eq_true rfl⟩ hK hE hS rfl hl.1 rfl (Nat.le_of_ble_eq_true rfl) dX6_deduction_29 ⟨Nat.le_of_ble_eq_true rfl, Nat.le_of_ble_eq_true rfl⟩ (fun H locs hS => ?_)
      refine lv_if_eq (tgt := 51) hx hb dX6_deduction_32 (by decide) (fun c32 => ?_) (fun c32 => ?_)
      · exact z_thr (text := "no such deduction can be") hx hb hlst hown hts (by decide +kernel) (by decide +kernel) (by decide +kernel) zbad76 (by decide +kernel) (by decide +kernel) (by decide +kernel) (by decide +kernel) hE hS (hl.1.trans hml.symm) dX6_deduction_51 dX6_deduction_54 dX6_deduction_55 dX6_deduction_57 dX6_deduction_60 hnm ⟨Nat.le_of_ble_eq_true rfl, Nat.le_of_ble_eq_true rfl, Nat.le_of_ble_eq_true rfl, Nat.le_of_ble_eq_true rfl⟩ hlocks rfl (Nat.le_of_ble_eq_true rfl) (Nat.le_of_ble_eq_true rfl)
      · refine lv_iload hx hb dX6_deduction_35 (lv_at hl 0 rfl) ?_
        refine lv_if_eq (tgt := 51) hx hb dX6_deduction_37 (by decide) (fun c37 => ?_) (fun c37 => ?_)
        · exact z_thr (text := "no such deduction can be") hx hb hlst hown hts (by decide +kernel) (by decide +kernel) (by decide +kernel) zbad76 (by decide +kernel) (by decide +kernel) (by decide +kernel) (by decide +kernel) hE hS (hl.1.trans hml.symm) dX6_deduction_51 dX6_deduction_54 dX6_deduction_55 dX6_deduction_57 dX6_deduction_60 hnm ⟨Nat.le_of_ble_eq_true rfl, Nat.le_of_ble_eq_true rfl, Nat.le_of_ble_eq_true rfl, Nat.le_of_ble_eq_true rfl⟩ hlocks rfl (Nat.le_of_ble_eq_true rfl) (Nat.le_of_ble_eq_true rfl)
        · refine lv_lload hx hb dX6_deduction_40 (lv_at hl 6 rfl) ?_
          refine lv_ldc2 (v := 1000000000000) hx hb hown (hts (.constantLong RX6 99 (1000000000000)) (by decide +kernel)) dX6_deduction_42 ?_
          refine z_rS (As := [.long (bs), .long (1000000000000)]) (rest := []) (n := 2) ⟨hx, hb, hml, hown, hts⟩ (c_X6_isUpTo l D cs w H.size bs 1000000000000) gX6_deduction_X6_isUpTo rfl ⟨by decide +kernel, by decide +kernel, by decide +kernel⟩ ⟨Nat.le_of_ble_eq_true rfl, Nat.le_of_ble_eq_true rfl⟩ hK hE hS rfl hl.1 rfl (Nat.le_of_ble_eq_true rfl) dX6_deduction_45 ⟨Nat.le_of_ble_eq_true rfl, Nat.le_of_ble_eq_true rfl⟩ (fun H locs hS => ?_)
          refine lv_if_ne (tgt := 61) hx hb dX6_deduction_48 (by decide) (fun c48 => ?_) (fun c48 => ?_)
          · exact (hbad ⟨z1of (zSizeB_01 _ _) c32, (by first | exact Or.inl c5 | exact Or.inr (z1of (zUpTo_01 _ _) c17) | exact absurd rfl c37), z1of (zUpTo_01 _ _) c48⟩).elim
          · exact z_thr (text := "no such deduction can be") hx hb hlst hown hts (by decide +kernel) (by decide +kernel) (by decide +kernel) zbad76 (by decide +kernel) (by decide +kernel) (by decide +kernel) (by decide +kernel) hE hS (hl.1.trans hml.symm) dX6_deduction_51 dX6_deduction_54 dX6_deduction_55 dX6_deduction_57 dX6_deduction_60 hnm ⟨Nat.le_of_ble_eq_true rfl, Nat.le_of_ble_eq_true rfl, Nat.le_of_ble_eq_true rfl, Nat.le_of_ble_eq_true rfl⟩ hlocks rfl (Nat.le_of_ble_eq_true rfl) (Nat.le_of_ble_eq_true rfl)
    · refine lv_iconst (v := 1) hx hb dX6_deduction_20 (by decide) ?_
      refine lv_goto (tgt := 25) hx hb dX6_deduction_21 (by decide) ?_
      refine lv_istore (lv' := [(9, .int (1)), (0, .ref (of)), (1, .int (dea)), (2, .int (so)), (3, .long (si)), (5, .long (ca)), (7, .long (bs))]) hx hb dX6_deduction_25 hl (by decide) rfl (fun ls hl => ?_)
      refine lv_iload_n hx hb dX6_deduction_27 rfl (lv_at hl 3 rfl) ?_
      refine lv_lload_n hx hb dX6_deduction_28 rfl (lv_at hl 4 rfl) ?_
      refine z_rS (As := [.int (so), .long (si)]) (rest := []) (n := 2) ⟨hx, hb, hml, hown, hts⟩ (c_X6_isSize l D cs w H.size so si) gX6_deduction_X6_isSize rfl ⟨by decide +kernel, by decide +kernel, by decide +kernel⟩ ⟨Nat.le_of_ble_eq_true rfl, Nat.le_of_ble_eq_true rfl⟩ hK hE hS rfl hl.1 rfl (Nat.le_of_ble_eq_true rfl) dX6_deduction_29 ⟨Nat.le_of_ble_eq_true rfl, Nat.le_of_ble_eq_true rfl⟩ (fun H locs hS => ?_)
      refine lv_if_eq (tgt := 51) hx hb dX6_deduction_32 (by decide) (fun c32 => ?_) (fun c32 => ?_)
      · exact z_thr (text := "no such deduction can be") hx hb hlst hown hts (by decide +kernel) (by decide +kernel) (by decide +kernel) zbad76 (by decide +kernel) (by decide +kernel) (by decide +kernel) (by decide +kernel) hE hS (hl.1.trans hml.symm) dX6_deduction_51 dX6_deduction_54 dX6_deduction_55 dX6_deduction_57 dX6_deduction_60 hnm ⟨Nat.le_of_ble_eq_true rfl, Nat.le_of_ble_eq_true rfl, Nat.le_of_ble_eq_true rfl, Nat.le_of_ble_eq_true rfl⟩ hlocks rfl (Nat.le_of_ble_eq_true rfl) (Nat.le_of_ble_eq_true rfl)
      · refine lv_iload hx hb dX6_deduction_35 (lv_at hl 0 rfl) ?_
        refine lv_if_eq (tgt := 51) hx hb dX6_deduction_37 (by decide) (fun c37 => ?_) (fun c37 => ?_)
        · exact z_thr (text := "no such deduction can be") hx hb hlst hown hts (by decide +kernel) (by decide +kernel) (by decide +kernel) zbad76 (by decide +kernel) (by decide +kernel) (by decide +kernel) (by decide +kernel) hE hS (hl.1.trans hml.symm) dX6_deduction_51 dX6_deduction_54 dX6_deduction_55 dX6_deduction_57 dX6_deduction_60 hnm ⟨Nat.le_of_ble_eq_true rfl, Nat.le_of_ble_eq_true rfl, Nat.le_of_ble_eq_true rfl, Nat.le_of_ble_eq_true rfl⟩ hlocks rfl (Nat.le_of_ble_eq_true rfl) (Nat.le_of_ble_eq_true rfl)
        · refine lv_lload hx hb dX6_deduction_40 (lv_at hl 6 rfl) ?_
          refine lv_ldc2 (v := 1000000000000) hx hb hown (hts (.constantLong RX6 99 (1000000000000)) (by decide +kernel)) dX6_deduction_42 ?_
          refine z_rS (As := [.long (bs), .long (1000000000000)]) (rest := []) (n := 2) ⟨hx, hb, hml, hown, hts⟩ (c_X6_isUpTo l D cs w H.size bs 1000000000000) gX6_deduction_X6_isUpTo rfl ⟨by decide +kernel, by decide +kernel, by decide +kernel⟩ ⟨Nat.le_of_ble_eq_true rfl, Nat.le_of_ble_eq_true rfl⟩ hK hE hS rfl hl.1 rfl (Nat.le_of_ble_eq_true rfl) dX6_deduction_45 ⟨Nat.le_of_ble_eq_true rfl, Nat.le_of_ble_eq_true rfl⟩ (fun H locs hS => ?_)
          refine lv_if_ne (tgt := 61) hx hb dX6_deduction_48 (by decide) (fun c48 => ?_) (fun c48 => ?_)
          · exact (hbad ⟨z1of (zSizeB_01 _ _) c32, (by first | exact Or.inl c5 | exact Or.inr (z1of (zUpTo_01 _ _) c17) | exact absurd rfl c37), z1of (zUpTo_01 _ _) c48⟩).elim
          · exact z_thr (text := "no such deduction can be") hx hb hlst hown hts (by decide +kernel) (by decide +kernel) (by decide +kernel) zbad76 (by decide +kernel) (by decide +kernel) (by decide +kernel) (by decide +kernel) hE hS (hl.1.trans hml.symm) dX6_deduction_51 dX6_deduction_54 dX6_deduction_55 dX6_deduction_57 dX6_deduction_60 hnm ⟨Nat.le_of_ble_eq_true rfl, Nat.le_of_ble_eq_true rfl, Nat.le_of_ble_eq_true rfl, Nat.le_of_ble_eq_true rfl⟩ hlocks rfl (Nat.le_of_ble_eq_true rfl) (Nat.le_of_ble_eq_true rfl)
set_option maxHeartbeats 4000000 in
set_option maxRecDepth 100000 in
theorem t2_X6_deduction (l : Launch) (D : va_G) (cs : Nat → ClassId) (w : zw) (sz : Nat) (of tbs dds wks aa : Nat) (tc wc brt yr wd : Int32) (DR : Nat → Option Nat) (dea so : Int32) (si ca bs : Int64) (hlst : l.stackTraces = false) (hcap : ca = -1 ∨ zUpTo ca 1000000000000 = 1) (hsi : zSizeB so si = 1) (hbs : zUpTo bs 1000000000000 = 1) (h_f : w (of) = some (.inr (6, [.ref (tbs), .ref (dds), .ref (wks), .ref (aa), .int (tc), .int (8), .int (wc), .int (brt), .int (yr), .int (wd)]))) (h_dr : w (dds) = some (eR cs 3 (8) (DR))) : zMX l D cs yX6_deduction wsX6_deduction 3 1 6 w sz [.ref (of), .int (dea), .int (so), .long (si), .long (ca), .long (bs)] (fun _ _ => False) (fun E9 => E9 = "java/lang/UnsupportedOperationException") := by
  refine z_metX (cc := cX6_deduction) (maxL := 11) (ret := (some .int)) (by decide) rfl (Nat.le_of_ble_eq_true rfl) ?_
  intro p e s m below meth c hx hb hr hml hown hts hlocks hnm hsz hK hE hS ls hl
  have hl : lv_has ls 11 [(0, .ref (of)), (1, .int (dea)), (2, .int (so)), (3, .long (si)), (5, .long (ca)), (7, .long (bs))] := hl
  refine lv_lload hx hb dX6_deduction_0 (lv_at hl 4 rfl) ?_
  refine lv_ldc2 (v := -1) hx hb hown (hts (.constantLong RX6 111 (-1)) (by decide +kernel)) dX6_deduction_2 ?_
  refine z_lif_eq (tgt := 20) hx hb dX6_deduction_5 dX6_deduction_6 (by decide) (fun c5 => ?_) (fun c5 => ?_)
  · refine lv_iconst (v := 1) hx hb dX6_deduction_20 (by decide) ?_
    refine lv_goto (tgt := 25) hx hb dX6_deduction_21 (by decide) ?_
    refine lv_istore (lv' := [(9, .int (1)), (0, .ref (of)), (1, .int (dea)), (2, .int (so)), (3, .long (si)), (5, .long (ca)), (7, .long (bs))]) hx hb dX6_deduction_25 hl (by decide) rfl (fun ls hl => ?_)
    refine lv_iload_n hx hb dX6_deduction_27 rfl (lv_at hl 3 rfl) ?_
    refine lv_lload_n hx hb dX6_deduction_28 rfl (lv_at hl 4 rfl) ?_
    refine z_rS (As := [.int (so), .long (si)]) (rest := []) (n := 2) ⟨hx, hb, hml, hown, hts⟩ (c_X6_isSize l D cs w s.heap.size so si) gX6_deduction_X6_isSize rfl ⟨by decide +kernel, by decide +kernel, by decide +kernel⟩ ⟨Nat.le_of_ble_eq_true rfl, Nat.le_of_ble_eq_true rfl⟩ hK hE hS rfl hl.1 rfl (Nat.le_of_ble_eq_true rfl) dX6_deduction_29 ⟨Nat.le_of_ble_eq_true rfl, Nat.le_of_ble_eq_true rfl⟩ (fun H locs hS => ?_)
    refine lv_if_eq (tgt := 51) hx hb dX6_deduction_32 (by decide) (fun cq9 => absurd cq9 (by rw [hsi]; decide)) (fun _ => ?_)
    refine lv_iload hx hb dX6_deduction_35 (lv_at hl 0 rfl) ?_
    refine lv_if_eq (tgt := 51) hx hb dX6_deduction_37 (by decide) (fun cq9 => absurd cq9 (by decide)) (fun _ => ?_)
    refine lv_lload hx hb dX6_deduction_40 (lv_at hl 6 rfl) ?_
    refine lv_ldc2 (v := 1000000000000) hx hb hown (hts (.constantLong RX6 99 (1000000000000)) (by decide +kernel)) dX6_deduction_42 ?_
    refine z_rS (As := [.long (bs), .long (1000000000000)]) (rest := []) (n := 2) ⟨hx, hb, hml, hown, hts⟩ (c_X6_isUpTo l D cs w H.size bs 1000000000000) gX6_deduction_X6_isUpTo rfl ⟨by decide +kernel, by decide +kernel, by decide +kernel⟩ ⟨Nat.le_of_ble_eq_true rfl, Nat.le_of_ble_eq_true rfl⟩ hK hE hS rfl hl.1 rfl (Nat.le_of_ble_eq_true rfl) dX6_deduction_45 ⟨Nat.le_of_ble_eq_true rfl, Nat.le_of_ble_eq_true rfl⟩ (fun H locs hS => ?_)
    refine lv_if_ne (tgt := 61) hx hb dX6_deduction_48 (by decide) (fun _ => ?_) (fun cq9 => absurd cq9 (by rw [hbs]; decide))
    refine lv_aload_n hx hb dX6_deduction_61 rfl (lv_at hl 1 rfl) ?_
    refine z_get (C := RX6) (T := TX6) (N := 10) (v := .int (8)) hx hb hts (by decide +kernel) hown hK hS h_f rfl 5 (by decide) (hts (.fieldLink RX6 38 "PayLedger" "deductionCount" "I") (by decide +kernel)) rfl dX6_deduction_62 ?_
    refine lv_istore (lv' := [(10, .int (8)), (9, .int (1)), (0, .ref (of)), (1, .int (dea)), (2, .int (so)), (3, .long (si)), (5, .long (ca)), (7, .long (bs))]) hx hb dX6_deduction_65 hl (by decide) rfl (fun ls hl => ?_)
    refine lv_iload hx hb dX6_deduction_67 (lv_at hl 0 rfl) ?_
    refine lv_if_lt (tgt := 82) hx hb dX6_deduction_69 (by decide) (fun cq9 => absurd cq9 (by decide)) (fun _ => ?_)
    refine lv_iload hx hb dX6_deduction_72 (lv_at hl 0 rfl) ?_
    refine lv_aload_n hx hb dX6_deduction_74 rfl (lv_at hl 2 rfl) ?_
    refine z_get (C := RX6) (T := TX6) (N := 10) (v := .ref (dds)) hx hb hts (by decide +kernel) hown hK hS h_f rfl 1 (by decide) (hts (.fieldLink RX6 17 "PayLedger" "deductions" "[LPayLedger$Deduction;") (by decide +kernel)) rfl dX6_deduction_75 ?_
    refine z_alen (t0 := 3) (v := 8) hx hb hK hS h_dr rfl rfl dX6_deduction_78 ?_
    refine lv_icmp_lt (tgt := 92) hx hb dX6_deduction_79 (by decide) (fun cq9 => absurd cq9 (by decide)) (fun _ => ?_)
    exact z_thr (text := "there are as many deductions as can be") hx hb hlst hown hts (by decide +kernel) (by decide +kernel) (by decide +kernel) zbad57 (by decide +kernel) (by decide +kernel) (by decide +kernel) (by decide +kernel) hE hS (hl.1.trans hml.symm) dX6_deduction_82 dX6_deduction_85 dX6_deduction_86 dX6_deduction_88 dX6_deduction_91 hnm ⟨Nat.le_of_ble_eq_true rfl, Nat.le_of_ble_eq_true rfl, Nat.le_of_ble_eq_true rfl, Nat.le_of_ble_eq_true rfl⟩ hlocks rfl (Nat.le_of_ble_eq_true rfl) (Nat.le_of_ble_eq_true rfl)
  · have hc9 : zUpTo ca 1000000000000 = 1 := hcap.resolve_left c5
    refine lv_lload hx hb dX6_deduction_9 (lv_at hl 4 rfl) ?_
    refine lv_ldc2 (v := 1000000000000) hx hb hown (hts (.constantLong RX6 99 (1000000000000)) (by decide +kernel)) dX6_deduction_11 ?_
    refine z_rS (As := [.long (ca), .long (1000000000000)]) (rest := []) (n := 2) ⟨hx, hb, hml, hown, hts⟩ (c_X6_isUpTo l D cs w s.heap.size ca 1000000000000) gX6_deduction_X6_isUpTo rfl ⟨by decide +kernel, by decide +kernel, by decide +kernel⟩ ⟨Nat.le_of_ble_eq_true rfl, Nat.le_of_ble_eq_true rfl⟩ hK hE hS rfl hl.1 rfl (Nat.le_of_ble_eq_true rfl) dX6_deduction_14 ⟨Nat.le_of_ble_eq_true rfl, Nat.le_of_ble_eq_true rfl⟩ (fun H locs hS => ?_)
    refine lv_if_eq (tgt := 24) hx hb dX6_deduction_17 (by decide) (fun cq9 => absurd cq9 (by rw [hc9]; decide)) (fun _ => ?_)
    refine lv_iconst (v := 1) hx hb dX6_deduction_20 (by decide) ?_
    refine lv_goto (tgt := 25) hx hb dX6_deduction_21 (by decide) ?_
    refine lv_istore (lv' := [(9, .int (1)), (0, .ref (of)), (1, .int (dea)), (2, .int (so)), (3, .long (si)), (5, .long (ca)), (7, .long (bs))]) hx hb dX6_deduction_25 hl (by decide) rfl (fun ls hl => ?_)
    refine lv_iload_n hx hb dX6_deduction_27 rfl (lv_at hl 3 rfl) ?_
    refine lv_lload_n hx hb dX6_deduction_28 rfl (lv_at hl 4 rfl) ?_
    refine z_rS (As := [.int (so), .long (si)]) (rest := []) (n := 2) ⟨hx, hb, hml, hown, hts⟩ (c_X6_isSize l D cs w H.size so si) gX6_deduction_X6_isSize rfl ⟨by decide +kernel, by decide +kernel, by decide +kernel⟩ ⟨Nat.le_of_ble_eq_true rfl, Nat.le_of_ble_eq_true rfl⟩ hK hE hS rfl hl.1 rfl (Nat.le_of_ble_eq_true rfl) dX6_deduction_29 ⟨Nat.le_of_ble_eq_true rfl, Nat.le_of_ble_eq_true rfl⟩ (fun H locs hS => ?_)
    refine lv_if_eq (tgt := 51) hx hb dX6_deduction_32 (by decide) (fun cq9 => absurd cq9 (by rw [hsi]; decide)) (fun _ => ?_)
    refine lv_iload hx hb dX6_deduction_35 (lv_at hl 0 rfl) ?_
    refine lv_if_eq (tgt := 51) hx hb dX6_deduction_37 (by decide) (fun cq9 => absurd cq9 (by decide)) (fun _ => ?_)
    refine lv_lload hx hb dX6_deduction_40 (lv_at hl 6 rfl) ?_
    refine lv_ldc2 (v := 1000000000000) hx hb hown (hts (.constantLong RX6 99 (1000000000000)) (by decide +kernel)) dX6_deduction_42 ?_
    refine z_rS (As := [.long (bs), .long (1000000000000)]) (rest := []) (n := 2) ⟨hx, hb, hml, hown, hts⟩ (c_X6_isUpTo l D cs w H.size bs 1000000000000) gX6_deduction_X6_isUpTo rfl ⟨by decide +kernel, by decide +kernel, by decide +kernel⟩ ⟨Nat.le_of_ble_eq_true rfl, Nat.le_of_ble_eq_true rfl⟩ hK hE hS rfl hl.1 rfl (Nat.le_of_ble_eq_true rfl) dX6_deduction_45 ⟨Nat.le_of_ble_eq_true rfl, Nat.le_of_ble_eq_true rfl⟩ (fun H locs hS => ?_)
    refine lv_if_ne (tgt := 61) hx hb dX6_deduction_48 (by decide) (fun _ => ?_) (fun cq9 => absurd cq9 (by rw [hbs]; decide))
    refine lv_aload_n hx hb dX6_deduction_61 rfl (lv_at hl 1 rfl) ?_
    refine z_get (C := RX6) (T := TX6) (N := 10) (v := .int (8)) hx hb hts (by decide +kernel) hown hK hS h_f rfl 5 (by decide) (hts (.fieldLink RX6 38 "PayLedger" "deductionCount" "I") (by decide +kernel)) rfl dX6_deduction_62 ?_
    refine lv_istore (lv' := [(10, .int (8)), (9, .int (1)), (0, .ref (of)), (1, .int (dea)), (2, .int (so)), (3, .long (si)), (5, .long (ca)), (7, .long (bs))]) hx hb dX6_deduction_65 hl (by decide) rfl (fun ls hl => ?_)
    refine lv_iload hx hb dX6_deduction_67 (lv_at hl 0 rfl) ?_
    refine lv_if_lt (tgt := 82) hx hb dX6_deduction_69 (by decide) (fun cq9 => absurd cq9 (by decide)) (fun _ => ?_)
    refine lv_iload hx hb dX6_deduction_72 (lv_at hl 0 rfl) ?_
    refine lv_aload_n hx hb dX6_deduction_74 rfl (lv_at hl 2 rfl) ?_
    refine z_get (C := RX6) (T := TX6) (N := 10) (v := .ref (dds)) hx hb hts (by decide +kernel) hown hK hS h_f rfl 1 (by decide) (hts (.fieldLink RX6 17 "PayLedger" "deductions" "[LPayLedger$Deduction;") (by decide +kernel)) rfl dX6_deduction_75 ?_
    refine z_alen (t0 := 3) (v := 8) hx hb hK hS h_dr rfl rfl dX6_deduction_78 ?_
    refine lv_icmp_lt (tgt := 92) hx hb dX6_deduction_79 (by decide) (fun cq9 => absurd cq9 (by decide)) (fun _ => ?_)
    exact z_thr (text := "there are as many deductions as can be") hx hb hlst hown hts (by decide +kernel) (by decide +kernel) (by decide +kernel) zbad57 (by decide +kernel) (by decide +kernel) (by decide +kernel) (by decide +kernel) hE hS (hl.1.trans hml.symm) dX6_deduction_82 dX6_deduction_85 dX6_deduction_86 dX6_deduction_88 dX6_deduction_91 hnm ⟨Nat.le_of_ble_eq_true rfl, Nat.le_of_ble_eq_true rfl, Nat.le_of_ble_eq_true rfl, Nat.le_of_ble_eq_true rfl⟩ hlocks rfl (Nat.le_of_ble_eq_true rfl) (Nat.le_of_ble_eq_true rfl)
