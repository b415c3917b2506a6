/-! ===== the model: table .. change ===== -/
set_option maxHeartbeats 4000000 in
set_option maxRecDepth 100000 in
theorem c_X7_table (l : Launch) (D : va_G) (cs : Nat → ClassId) (w : zw) (sz : Nat) (mm : Nat) (ad : Nat → Nat) (J : Nat → Nat → Int64) (K : Nat → Nat → Int32) (th dd wk br yr wd : Int32) (nb : Nat) (hinj : ∀ i j : Nat, i ≠ j → ad i ≠ ad j) (hM : zMA cs w ad J K) (hn : nb < 6) (h_m : w (mm) = some (mo ad (th) (nI nb) (dd) (wk) (br) (yr) (wd))) : zM l D cs yX7_table wsX7_table 3 0 0 w sz [.ref (mm)] (fun r w2 => r = some (.int (nI nb)) ∧ zMQ cs w w2 ad mm (mo ad (0) (nI (nb + 1)) (dd) (wk) (br) (yr) (wd)) J K) := by
  refine z_met (cc := cX7_table) (maxL := 1) (ret := (some .int)) (by decide) rfl (Nat.le_of_ble_eq_true rfl) ?_
  intro p e s m below meth c hx hb hr hml hown hts hlocks hnm hsz hK hE hS ls hl
  have hl : lv_has ls 1 [(0, .ref (mm))] := hl
  refine lv_aload_n hx hb dX7_table_0 rfl (lv_at hl 0 rfl) ?_
  refine lv_iconst (v := 0) hx hb dX7_table_1 (by decide) ?_
  refine z_put (C := RX7) (T := TX7) (N := 45) (v := .int (0)) hx hb hts (by decide +kernel) tyX7 tyX7_ok nmX7 hown hK hS h_m rfl 0 (by decide) (hts (.fieldLink RX7 126 "PayLedgerModel" "thrown" "I") (by decide +kernel)) rfl rfl rfl (Nat.le_of_ble_eq_true rfl) dX7_table_2 (fun H locs hS => ?_)
  obtain ⟨w1, ew1⟩ : ∃ z : zw, z = va_up w (mm) (some (mo ad (0) (nI nb) (dd) (wk) (br) (yr) (wd))) := ⟨_, rfl⟩
  have hS : zS (zA w sz) D w1 s.heap H locs := by rw [ew1]; exact hS
  have h1_mm : w1 (mm) = some (mo ad (0) (nI nb) (dd) (wk) (br) (yr) (wd)) := by rw [ew1]; exact va_up_self _ _ _
  refine lv_aload_n hx hb dX7_table_5 rfl (lv_at hl 0 rfl) ?_
  refine lv_aload_n hx hb dX7_table_6 rfl (lv_at hl 0 rfl) ?_
  refine z_get (C := RX7) (T := TX7) (N := 45) (v := .int (nI nb)) hx hb hts (by decide +kernel) hown hK hS h1_mm rfl 5 (by decide) (hts (.fieldLink RX7 180 "PayLedgerModel" "tables" "I") (by decide +kernel)) rfl dX7_table_7 ?_
  refine lv_bipush (v := 6) hx hb dX7_table_10 (by decide) ?_
  refine lv_icmp_ne (tgt := 19) hx hb dX7_table_12 (by decide) (fun _ => ?_) (fun cq9 => absurd cq9 (fun q9 => by have := (nI_eq (a := nb) (b := 6) (by omega) (by omega)).mp q9; omega))
  refine lv_iconst (v := 0) hx hb dX7_table_19 (by decide) ?_
  refine lv_iconst (v := 1) hx hb dX7_table_20 (by decide) ?_
  refine z_rV (As := [.int (0), .int (1)]) (rest := []) (n := 2) ⟨hx, hb, hml, hown, hts⟩ (c0_X7_throwsIf l D cs w1 H.size mm ad (0) (nI nb) (dd) (wk) (br) (yr) (wd) 1 h1_mm) gX7_table_X7_throwsIf rfl ⟨rfl, by decide +kernel, by decide +kernel, by decide +kernel⟩ ⟨Nat.le_of_ble_eq_true rfl, Nat.le_of_ble_eq_true rfl⟩ hK hE hS rfl h1_mm rfl hl.1 rfl (Nat.le_of_ble_eq_true rfl) dX7_table_21 ⟨Nat.le_of_ble_eq_true rfl, Nat.le_of_ble_eq_true rfl⟩ (fun H locs hS => ?_)
  refine lv_if_eq (tgt := 29) hx hb dX7_table_24 (by decide) (fun _ => ?_) (fun cq9 => absurd rfl cq9)
  refine lv_aload_n hx hb dX7_table_29 rfl (lv_at hl 0 rfl) ?_
  refine lv_dup hx hb dX7_table_30 rfl ?_
  refine z_get (C := RX7) (T := TX7) (N := 45) (v := .int (nI nb)) hx hb hts (by decide +kernel) hown hK hS h1_mm rfl 5 (by decide) (hts (.fieldLink RX7 180 "PayLedgerModel" "tables" "I") (by decide +kernel)) rfl dX7_table_31 ?_
  refine lv_iconst (v := 1) hx hb dX7_table_34 (by decide) ?_
  refine lv_iadd hx hb dX7_table_35 ?_
  refine z_ti (y := nI (nb + 1)) (nI_add (nb) (1)) ?_
  refine z_put (C := RX7) (T := TX7) (N := 45) (v := .int (nI (nb + 1))) hx hb hts (by decide +kernel) tyX7 tyX7_ok nmX7 hown hK hS h1_mm rfl 5 (by decide) (hts (.fieldLink RX7 180 "PayLedgerModel" "tables" "I") (by decide +kernel)) rfl rfl rfl (Nat.le_of_ble_eq_true rfl) dX7_table_36 (fun H locs hS => ?_)
  obtain ⟨w2, ew2⟩ : ∃ z : zw, z = va_up w1 (mm) (some (mo ad (0) (nI (nb + 1)) (dd) (wk) (br) (yr) (wd))) := ⟨_, rfl⟩
  have hS : zS (zA w sz) D w2 s.heap H locs := by rw [ew2]; exact hS
  have h2_mm : w2 (mm) = some (mo ad (0) (nI (nb + 1)) (dd) (wk) (br) (yr) (wd)) := by rw [ew2]; exact va_up_self _ _ _
  refine lv_aload_n hx hb dX7_table_39 rfl (lv_at hl 0 rfl) ?_
  refine z_get (C := RX7) (T := TX7) (N := 45) (v := .int (nI (nb + 1))) hx hb hts (by decide +kernel) hown hK hS h2_mm rfl 5 (by decide) (hts (.fieldLink RX7 180 "PayLedgerModel" "tables" "I") (by decide +kernel)) rfl dX7_table_40 ?_
  refine lv_iconst (v := 1) hx hb dX7_table_43 (by decide) ?_
  refine lv_isub hx hb dX7_table_44 ?_
  refine z_ti (y := nI nb) (nI_pred nb) ?_
  have hex : zEx w w2 [(mm, (mo ad (0) (nI (nb + 1)) (dd) (wk) (br) (yr) (wd)))] := ⟨(zm1 h2_mm zm0), fun a9 h9 => by rw [ew2, va_up_ne _ _ (show a9 ≠ mm from h9 (mm, (mo ad (0) (nI (nb + 1)) (dd) (wk) (br) (yr) (wd))) (List.mem_of_getElem? (i := 0) rfl)), ew1, va_up_ne _ _ (show a9 ≠ mm from h9 (mm, (mo ad (0) (nI (nb + 1)) (dd) (wk) (br) (yr) (wd))) (List.mem_of_getElem? (i := 0) rfl))]⟩
  exact z_iret hx hb hr hlocks hS (Nat.le_of_ble_eq_true rfl) (Nat.le_of_ble_eq_true rfl) dX7_table_45 ⟨rfl, zMQ.o hM h_m hinj hex⟩
set_option maxHeartbeats 4000000 in
set_option maxRecDepth 100000 in
theorem t1_X7_table (l : Launch) (D : va_G) (cs : Nat → ClassId) (w : zw) (sz : Nat) (mm : Nat) (ad : Nat → Nat) (J : Nat → Nat → Int64) (K : Nat → Nat → Int32) (th dd wk br yr wd : Int32) (hinj : ∀ i j : Nat, i ≠ j → ad i ≠ ad j) (hM : zMA cs w ad J K) (h_m : w (mm) = some (mo ad (th) (6) (dd) (wk) (br) (yr) (wd))) : zM l D cs yX7_table wsX7_table 3 0 0 w sz [.ref (mm)] (fun r w2 => r = some (.int 0) ∧ zMQ cs w w2 ad mm (mo ad (1) (6) (dd) (wk) (br) (yr) (wd)) J K) := by
  refine z_met (cc := cX7_table) (maxL := 1) (ret := (some .int)) (by decide) rfl (Nat.le_of_ble_eq_true rfl) ?_
  intro p e s m below meth c hx hb hr hml hown hts hlocks hnm hsz hK hE hS ls hl
  have hl : lv_has ls 1 [(0, .ref (mm))] := hl
  refine lv_aload_n hx hb dX7_table_0 rfl (lv_at hl 0 rfl) ?_
  refine lv_iconst (v := 0) hx hb dX7_table_1 (by decide) ?_
  refine z_put (C := RX7) (T := TX7) (N := 45) (v := .int (0)) hx hb hts (by decide +kernel) tyX7 tyX7_ok nmX7 hown hK hS h_m rfl 0 (by decide) (hts (.fieldLink RX7 126 "PayLedgerModel" "thrown" "I") (by decide +kernel)) rfl rfl rfl (Nat.le_of_ble_eq_true rfl) dX7_table_2 (fun H locs hS => ?_)
  obtain ⟨w1, ew1⟩ : ∃ z : zw, z = va_up w (mm) (some (mo ad (0) (6) (dd) (wk) (br) (yr) (wd))) := ⟨_, rfl⟩
  have hS : zS (zA w sz) D w1 s.heap H locs := by rw [ew1]; exact hS
  have h1_mm : w1 (mm) = some (mo ad (0) (6) (dd) (wk) (br) (yr) (wd)) := by rw [ew1]; exact va_up_self _ _ _
  refine lv_aload_n hx hb dX7_table_5 rfl (lv_at hl 0 rfl) ?_
  refine lv_aload_n hx hb dX7_table_6 rfl (lv_at hl 0 rfl) ?_
  refine z_get (C := RX7) (T := TX7) (N := 45) (v := .int (6)) hx hb hts (by decide +kernel) hown hK hS h1_mm rfl 5 (by decide) (hts (.fieldLink RX7 180 "PayLedgerModel" "tables" "I") (by decide +kernel)) rfl dX7_table_7 ?_
  refine lv_bipush (v := 6) hx hb dX7_table_10 (by decide) ?_
  refine lv_icmp_ne (tgt := 19) hx hb dX7_table_12 (by decide) (fun cq9 => absurd rfl cq9) (fun _ => ?_)
  refine lv_iconst (v := 1) hx hb dX7_table_15 (by decide) ?_
  refine lv_goto (tgt := 20) hx hb dX7_table_16 (by decide) ?_
  refine lv_iconst (v := 1) hx hb dX7_table_20 (by decide) ?_
  refine z_invV (As := [.int (1), .int (1)]) (rest := []) (n := 2) ⟨hx, hb, hml, hown, hts⟩ (c1_X7_throwsIf l D cs w1 H.size mm ad (0) (6) (dd) (wk) (br) (yr) (wd) 1 h1_mm) gX7_table_X7_throwsIf rfl ⟨rfl, by decide +kernel, by decide +kernel, by decide +kernel⟩ ⟨Nat.le_of_ble_eq_true rfl, Nat.le_of_ble_eq_true rfl⟩ hK hE hS rfl h1_mm rfl hl.1 rfl (Nat.le_of_ble_eq_true rfl) dX7_table_21 ⟨Nat.le_of_ble_eq_true rfl, Nat.le_of_ble_eq_true rfl⟩ (fun v9 u2 H locs hq hS => ?_)
  obtain ⟨rfl, hx2⟩ := hq
  have h3_mm : u2 (mm) = some (mo ad (1) (6) (dd) (wk) (br) (yr) (wd)) := hx2.at 0 rfl
  refine W.eq (g2 := F0 m 24 ls [.int (1)]) rfl ?_
  refine lv_if_eq (tgt := 29) hx hb dX7_table_24 (by decide) (fun cq9 => absurd cq9 (by decide)) (fun _ => ?_)
  refine lv_iconst (v := 0) hx hb dX7_table_27 (by decide) ?_
  have hex : zEx w u2 [(mm, (mo ad (1) (6) (dd) (wk) (br) (yr) (wd)))] := ⟨(zm1 h3_mm zm0), fun a9 h9 => by rw [hx2.2 a9 (zm1 (show a9 ≠ mm from h9 (mm, (mo ad (1) (6) (dd) (wk) (br) (yr) (wd))) (List.mem_of_getElem? (i := 0) rfl)) zm0), ew1, va_up_ne _ _ (show a9 ≠ mm from h9 (mm, (mo ad (1) (6) (dd) (wk) (br) (yr) (wd))) (List.mem_of_getElem? (i := 0) rfl))]⟩
  exact z_iret hx hb hr hlocks hS (Nat.le_of_ble_eq_true rfl) (Nat.le_of_ble_eq_true rfl) dX7_table_28 ⟨rfl, zMQ.o hM h_m hinj hex⟩
set_option maxHeartbeats 4000000 in
set_option maxRecDepth 100000 in
theorem t1_X7_tax (l : Launch) (D : va_G) (cs : Nat → ClassId) (w : zw) (sz : Nat) (mm : Nat) (ad : Nat → Nat) (J : Nat → Nat → Int64) (K : Nat → Nat → Int32) (th dd wk br yr wd : Int32) (nb : Nat) (x : Int32) (y : Int64) (hinj : ∀ i j : Nat, i ≠ j → ad i ≠ ad j) (hM : zMA cs w ad J K) (hnb : nb ≤ 6) (hx9 : ∀ k : Nat, k < nb → x ≠ nI k) (h_m : w (mm) = some (mo ad (th) (nI nb) (dd) (wk) (br) (yr) (wd))) : zM l D cs yX7_tax wsX7_tax 3 0 0 w sz [.ref (mm), .int (x), .long (y)] (fun r w2 => r = some (.long 0) ∧ zMQ cs w w2 ad mm (mo ad (1) (nI nb) (dd) (wk) (br) (yr) (wd)) J K) := by
  refine z_met (cc := cX7_tax) (maxL := 4) (ret := (some .long)) (by decide) rfl (Nat.le_of_ble_eq_true rfl) ?_
  intro p e s m below meth c hx hb hr hml hown hts hlocks hnm hsz hK hE hS ls hl
  have hl : lv_has ls 4 [(0, .ref (mm)), (1, .int (x)), (2, .long (y))] := hl
  refine lv_aload_n hx hb dX7_tax_0 rfl (lv_at hl 0 rfl) ?_
  refine lv_iconst (v := 0) hx hb dX7_tax_1 (by decide) ?_
  refine z_put (C := RX7) (T := TX7) (N := 45) (v := .int (0)) hx hb hts (by decide +kernel) tyX7 tyX7_ok nmX7 hown hK hS h_m rfl 0 (by decide) (hts (.fieldLink RX7 126 "PayLedgerModel" "thrown" "I") (by decide +kernel)) rfl rfl rfl (Nat.le_of_ble_eq_true rfl) dX7_tax_2 (fun H locs hS => ?_)
  obtain ⟨w1, ew1⟩ : ∃ z : zw, z = va_up w (mm) (some (mo ad (0) (nI nb) (dd) (wk) (br) (yr) (wd))) := ⟨_, rfl⟩
  have hS : zS (zA w sz) D w1 s.heap H locs := by rw [ew1]; exact hS
  have h1_mm : w1 (mm) = some (mo ad (0) (nI nb) (dd) (wk) (br) (yr) (wd)) := by rw [ew1]; exact va_up_self _ _ _
  refine lv_aload_n hx hb dX7_tax_5 rfl (lv_at hl 0 rfl) ?_
  refine lv_aload_n hx hb dX7_tax_6 rfl (lv_at hl 0 rfl) ?_
  refine lv_iload_n hx hb dX7_tax_7 rfl (lv_at hl 1 rfl) ?_
  refine lv_i2l (v := ((x : Int32).toInt64)) hx hb dX7_tax_8 rfl ?_
  refine z_rV (As := [.long (((x : Int32).toInt64))]) (rest := [.ref (mm)]) (n := 1) ⟨hx, hb, hml, hown, hts⟩ (n_X7_noTable l D cs w1 H.size mm ad (0) (dd) (wk) (br) (yr) (wd) nb (x.toInt64) (by omega) (zi2l_ne (by omega) hx9) h1_mm) gX7_tax_X7_noTable rfl ⟨rfl, by decide +kernel, by decide +kernel, by decide +kernel⟩ ⟨Nat.le_of_ble_eq_true rfl, Nat.le_of_ble_eq_true rfl⟩ hK hE hS rfl h1_mm rfl hl.1 rfl (Nat.le_of_ble_eq_true rfl) dX7_tax_9 ⟨Nat.le_of_ble_eq_true rfl, Nat.le_of_ble_eq_true rfl⟩ (fun H locs hS => ?_)
  refine lv_iconst (v := 1) hx hb dX7_tax_12 (by decide) ?_
  refine z_invV (As := [.int (1), .int (1)]) (rest := []) (n := 2) ⟨hx, hb, hml, hown, hts⟩ (c1_X7_throwsIf l D cs w1 H.size mm ad (0) (nI nb) (dd) (wk) (br) (yr) (wd) 1 h1_mm) gX7_tax_X7_throwsIf rfl ⟨rfl, by decide +kernel, by decide +kernel, by decide +kernel⟩ ⟨Nat.le_of_ble_eq_true rfl, Nat.le_of_ble_eq_true rfl⟩ hK hE hS rfl h1_mm rfl hl.1 rfl (Nat.le_of_ble_eq_true rfl) dX7_tax_13 ⟨Nat.le_of_ble_eq_true rfl, Nat.le_of_ble_eq_true rfl⟩ (fun v9 u2 H locs hq hS => ?_)
  obtain ⟨rfl, hx2⟩ := hq
  have h3_mm : u2 (mm) = some (mo ad (1) (nI nb) (dd) (wk) (br) (yr) (wd)) := hx2.at 0 rfl
  refine W.eq (g2 := F0 m 16 ls [.int (1)]) rfl ?_
  refine lv_if_ne (tgt := 43) hx hb dX7_tax_16 (by decide) (fun _ => ?_) (fun cq9 => absurd cq9 (by decide))
  refine lv_lconst (v := 0) hx hb dX7_tax_43 (by decide) ?_
  have hex : zEx w u2 [(mm, (mo ad (1) (nI nb) (dd) (wk) (br) (yr) (wd)))] := ⟨(zm1 h3_mm zm0), fun a9 h9 => by rw [hx2.2 a9 (zm1 (show a9 ≠ mm from h9 (mm, (mo ad (1) (nI nb) (dd) (wk) (br) (yr) (wd))) (List.mem_of_getElem? (i := 0) rfl)) zm0), ew1, va_up_ne _ _ (show a9 ≠ mm from h9 (mm, (mo ad (1) (nI nb) (dd) (wk) (br) (yr) (wd))) (List.mem_of_getElem? (i := 0) rfl))]⟩
  exact z_lret hx hb hr hlocks hS (Nat.le_of_ble_eq_true rfl) (Nat.le_of_ble_eq_true rfl) dX7_tax_44 ⟨rfl, zMQ.o hM h_m hinj hex⟩
set_option maxHeartbeats 4000000 in
set_option maxRecDepth 100000 in
theorem t2_X7_tax (l : Launch) (D : va_G) (cs : Nat → ClassId) (w : zw) (sz : Nat) (mm : Nat) (ad : Nat → Nat) (J : Nat → Nat → Int64) (K : Nat → Nat → Int32) (th dd wk br yr wd : Int32) (nb t : Nat) (y : Int64) (hinj : ∀ i j : Nat, i ≠ j → ad i ≠ ad j) (hM : zMA cs w ad J K) (hnb : nb ≤ 6) (ht : t < nb) (hy : zUpTo y 1000000000000 = 0) (h_m : w (mm) = some (mo ad (th) (nI nb) (dd) (wk) (br) (yr) (wd))) : zM l D cs yX7_tax wsX7_tax 3 0 0 w sz [.ref (mm), .int (nI t), .long (y)] (fun r w2 => r = some (.long 0) ∧ zMQ cs w w2 ad mm (mo ad (2) (nI nb) (dd) (wk) (br) (yr) (wd)) J K) := by
  refine z_met (cc := cX7_tax) (maxL := 4) (ret := (some .long)) (by decide) rfl (Nat.le_of_ble_eq_true rfl) ?_
  intro p e s m below meth c hx hb hr hml hown hts hlocks hnm hsz hK hE hS ls hl
  have hl : lv_has ls 4 [(0, .ref (mm)), (1, .int (nI t)), (2, .long (y))] := hl
  refine lv_aload_n hx hb dX7_tax_0 rfl (lv_at hl 0 rfl) ?_
  refine lv_iconst (v := 0) hx hb dX7_tax_1 (by decide) ?_
  refine z_put (C := RX7) (T := TX7) (N := 45) (v := .int (0)) hx hb hts (by decide +kernel) tyX7 tyX7_ok nmX7 hown hK hS h_m rfl 0 (by decide) (hts (.fieldLink RX7 126 "PayLedgerModel" "thrown" "I") (by decide +kernel)) rfl rfl rfl (Nat.le_of_ble_eq_true rfl) dX7_tax_2 (fun H locs hS => ?_)
  obtain ⟨w1, ew1⟩ : ∃ z : zw, z = va_up w (mm) (some (mo ad (0) (nI nb) (dd) (wk) (br) (yr) (wd))) := ⟨_, rfl⟩
  have hS : zS (zA w sz) D w1 s.heap H locs := by rw [ew1]; exact hS
  have h1_mm : w1 (mm) = some (mo ad (0) (nI nb) (dd) (wk) (br) (yr) (wd)) := by rw [ew1]; exact va_up_self _ _ _
  refine lv_aload_n hx hb dX7_tax_5 rfl (lv_at hl 0 rfl) ?_
  refine lv_aload_n hx hb dX7_tax_6 rfl (lv_at hl 0 rfl) ?_
  refine lv_iload_n hx hb dX7_tax_7 rfl (lv_at hl 1 rfl) ?_
  refine lv_i2l (v := ((nI t : Int32).toInt64)) hx hb dX7_tax_8 rfl ?_
  refine z_tl (y := lN t) (nI_l (by omega)) ?_
  refine z_rV (As := [.long (lN t)]) (rest := [.ref (mm)]) (n := 1) ⟨hx, hb, hml, hown, hts⟩ (c_X7_noTable l D cs w1 H.size mm ad (0) (dd) (wk) (br) (yr) (wd) nb t (by omega) ht h1_mm) gX7_tax_X7_noTable rfl ⟨rfl, by decide +kernel, by decide +kernel, by decide +kernel⟩ ⟨Nat.le_of_ble_eq_true rfl, Nat.le_of_ble_eq_true rfl⟩ hK hE hS rfl h1_mm rfl hl.1 rfl (Nat.le_of_ble_eq_true rfl) dX7_tax_9 ⟨Nat.le_of_ble_eq_true rfl, Nat.le_of_ble_eq_true rfl⟩ (fun H locs hS => ?_)
  refine lv_iconst (v := 1) hx hb dX7_tax_12 (by decide) ?_
  refine z_rV (As := [.int (0), .int (1)]) (rest := []) (n := 2) ⟨hx, hb, hml, hown, hts⟩ (c0_X7_throwsIf l D cs w1 H.size mm ad (0) (nI nb) (dd) (wk) (br) (yr) (wd) 1 h1_mm) gX7_tax_X7_throwsIf rfl ⟨rfl, by decide +kernel, by decide +kernel, by decide +kernel⟩ ⟨Nat.le_of_ble_eq_true rfl, Nat.le_of_ble_eq_true rfl⟩ hK hE hS rfl h1_mm rfl hl.1 rfl (Nat.le_of_ble_eq_true rfl) dX7_tax_13 ⟨Nat.le_of_ble_eq_true rfl, Nat.le_of_ble_eq_true rfl⟩ (fun H locs hS => ?_)
  refine lv_if_ne (tgt := 43) hx hb dX7_tax_16 (by decide) (fun cq9 => absurd rfl cq9) (fun _ => ?_)
  refine lv_aload_n hx hb dX7_tax_19 rfl (lv_at hl 0 rfl) ?_
  refine lv_lload_n hx hb dX7_tax_20 rfl (lv_at hl 2 rfl) ?_
  refine lv_lconst (v := 0) hx hb dX7_tax_21 (by decide) ?_
  refine lv_ldc2 (v := 1000000000000) hx hb hown (hts (.constantLong RX7 210 (1000000000000)) (by decide +kernel)) dX7_tax_22 ?_
  refine z_rS (As := [.long (y), .long (0), .long (1000000000000)]) (rest := [.ref (mm)]) (n := 3) ⟨hx, hb, hml, hown, hts⟩ (c_X7_in l D cs w1 H.size (y) (0) (1000000000000)) gX7_tax_X7_in rfl ⟨by decide +kernel, by decide +kernel, by decide +kernel⟩ ⟨Nat.le_of_ble_eq_true rfl, Nat.le_of_ble_eq_true rfl⟩ hK hE hS rfl hl.1 rfl (Nat.le_of_ble_eq_true rfl) dX7_tax_25 ⟨Nat.le_of_ble_eq_true rfl, Nat.le_of_ble_eq_true rfl⟩ (fun H locs hS => ?_)
  refine lv_if_ne (tgt := 35) hx hb dX7_tax_28 (by decide) (fun cq9 => absurd hy cq9) (fun _ => ?_)
  refine lv_iconst (v := 1) hx hb dX7_tax_31 (by decide) ?_
  refine lv_goto (tgt := 36) hx hb dX7_tax_32 (by decide) ?_
  refine lv_iconst (v := 2) hx hb dX7_tax_36 (by decide) ?_
  refine z_invV (As := [.int (1), .int (2)]) (rest := []) (n := 2) ⟨hx, hb, hml, hown, hts⟩ (c1_X7_throwsIf l D cs w1 H.size mm ad (0) (nI nb) (dd) (wk) (br) (yr) (wd) 2 h1_mm) gX7_tax_X7_throwsIf rfl ⟨rfl, by decide +kernel, by decide +kernel, by decide +kernel⟩ ⟨Nat.le_of_ble_eq_true rfl, Nat.le_of_ble_eq_true rfl⟩ hK hE hS rfl h1_mm rfl hl.1 rfl (Nat.le_of_ble_eq_true rfl) dX7_tax_37 ⟨Nat.le_of_ble_eq_true rfl, Nat.le_of_ble_eq_true rfl⟩ (fun v9 u2 H locs hq hS => ?_)
  obtain ⟨rfl, hx2⟩ := hq
  have h3_mm : u2 (mm) = some (mo ad (2) (nI nb) (dd) (wk) (br) (yr) (wd)) := hx2.at 0 rfl
  refine W.eq (g2 := F0 m 40 ls [.int (1)]) rfl ?_
  refine lv_if_eq (tgt := 45) hx hb dX7_tax_40 (by decide) (fun cq9 => absurd cq9 (by decide)) (fun _ => ?_)
  refine lv_lconst (v := 0) hx hb dX7_tax_43 (by decide) ?_
  have hex : zEx w u2 [(mm, (mo ad (2) (nI nb) (dd) (wk) (br) (yr) (wd)))] := ⟨(zm1 h3_mm zm0), fun a9 h9 => by rw [hx2.2 a9 (zm1 (show a9 ≠ mm from h9 (mm, (mo ad (2) (nI nb) (dd) (wk) (br) (yr) (wd))) (List.mem_of_getElem? (i := 0) rfl)) zm0), ew1, va_up_ne _ _ (show a9 ≠ mm from h9 (mm, (mo ad (2) (nI nb) (dd) (wk) (br) (yr) (wd))) (List.mem_of_getElem? (i := 0) rfl))]⟩
  exact z_lret hx hb hr hlocks hS (Nat.le_of_ble_eq_true rfl) (Nat.le_of_ble_eq_true rfl) dX7_tax_44 ⟨rfl, zMQ.o hM h_m hinj hex⟩
set_option maxHeartbeats 4000000 in
set_option maxRecDepth 100000 in
theorem c_X7_tax (l : Launch) (D : va_G) (cs : Nat → ClassId) (w : zw) (sz : Nat) (mm : Nat) (ad : Nat → Nat) (J : Nat → Nat → Int64) (K : Nat → Nat → Int32) (th dd wk br yr wd : Int32) (nb t n : Nat) (Fx : Nat → Int64) (Gx : Nat → Int32) (y : Int64) (hinj : ∀ i j : Nat, i ≠ j → ad i ≠ ad j) (hM : zMA cs w ad J K) (hnb : nb ≤ 6) (ht : t < nb) (hk3 : K 3 t = nI n) (hn : n ≤ 12) (hF : ∀ i : Nat, i < n → J 1 (12 * t + i) = Fx i ∧ K 2 (12 * t + i) = Gx i) (hy : zUpTo y 1000000000000 = 1) (h_m : w (mm) = some (mo ad (th) (nI nb) (dd) (wk) (br) (yr) (wd))) : zM l D cs yX7_tax wsX7_tax 3 0 0 w sz [.ref (mm), .int (nI t), .long (y)] (fun r w2 => r = some (.long (mTax Fx Gx n y)) ∧ zMQ cs w w2 ad mm (mo ad (0) (nI nb) (dd) (wk) (br) (yr) (wd)) J K) := by
  refine z_met (cc := cX7_tax) (maxL := 4) (ret := (some .long)) (by decide) rfl (Nat.le_of_ble_eq_true rfl) ?_
  intro p e s m below meth c hx hb hr hml hown hts hlocks hnm hsz hK hE hS ls hl
  have hl : lv_has ls 4 [(0, .ref (mm)), (1, .int (nI t)), (2, .long (y))] := hl
  have h_1 : w (ad 1) = some (eJ cs (72) (J 1)) := hM 1 (by decide)
  have h_2 : w (ad 2) = some (eI cs (72) (K 2)) := hM 2 (by decide)
  have h_3 : w (ad 3) = some (eI cs (6) (K 3)) := hM 3 (by decide)
  refine lv_aload_n hx hb dX7_tax_0 rfl (lv_at hl 0 rfl) ?_
  refine lv_iconst (v := 0) hx hb dX7_tax_1 (by decide) ?_
  refine z_put (C := RX7) (T := TX7) (N := 45) (v := .int (0)) hx hb hts (by decide +kernel) tyX7 tyX7_ok nmX7 hown hK hS h_m rfl 0 (by decide) (hts (.fieldLink RX7 126 "PayLedgerModel" "thrown" "I") (by decide +kernel)) rfl rfl rfl (Nat.le_of_ble_eq_true rfl) dX7_tax_2 (fun H locs hS => ?_)
  obtain ⟨w1, ew1⟩ : ∃ z : zw, z = va_up w (mm) (some (mo ad (0) (nI nb) (dd) (wk) (br) (yr) (wd))) := ⟨_, rfl⟩
  have hS : zS (zA w sz) D w1 s.heap H locs := by rw [ew1]; exact hS
  have h1_mm : w1 (mm) = some (mo ad (0) (nI nb) (dd) (wk) (br) (yr) (wd)) := by rw [ew1]; exact va_up_self _ _ _
  have h1_ad1 : w1 (ad 1) = some (eJ cs (72) (J 1)) := by rw [ew1]; exact (va_up_ne _ _ (zne h_1 h_m (by intro q9; first | cases q9 | simp at q9))).trans h_1
  have h1_ad2 : w1 (ad 2) = some (eI cs (72) (K 2)) := by rw [ew1]; exact (va_up_ne _ _ (zne h_2 h_m (by intro q9; first | cases q9 | simp at q9))).trans h_2
  have h1_ad3 : w1 (ad 3) = some (eI cs (6) (K 3)) := by rw [ew1]; exact (va_up_ne _ _ (zne h_3 h_m (by intro q9; first | cases q9 | simp at q9))).trans h_3
  refine lv_aload_n hx hb dX7_tax_5 rfl (lv_at hl 0 rfl) ?_
  refine lv_aload_n hx hb dX7_tax_6 rfl (lv_at hl 0 rfl) ?_
  refine lv_iload_n hx hb dX7_tax_7 rfl (lv_at hl 1 rfl) ?_
  refine lv_i2l (v := ((nI t : Int32).toInt64)) hx hb dX7_tax_8 rfl ?_
  refine z_tl (y := lN t) (nI_l (by omega)) ?_
  refine z_rV (As := [.long (lN t)]) (rest := [.ref (mm)]) (n := 1) ⟨hx, hb, hml, hown, hts⟩ (c_X7_noTable l D cs w1 H.size mm ad (0) (dd) (wk) (br) (yr) (wd) nb t (by omega) ht h1_mm) gX7_tax_X7_noTable rfl ⟨rfl, by decide +kernel, by decide +kernel, by decide +kernel⟩ ⟨Nat.le_of_ble_eq_true rfl, Nat.le_of_ble_eq_true rfl⟩ hK hE hS rfl h1_mm rfl hl.1 rfl (Nat.le_of_ble_eq_true rfl) dX7_tax_9 ⟨Nat.le_of_ble_eq_true rfl, Nat.le_of_ble_eq_true rfl⟩ (fun H locs hS => ?_)
  refine lv_iconst (v := 1) hx hb dX7_tax_12 (by decide) ?_
  refine z_rV (As := [.int (0), .int (1)]) (rest := []) (n := 2) ⟨hx, hb, hml, hown, hts⟩ (c0_X7_throwsIf l D cs w1 H.size mm ad (0) (nI nb) (dd) (wk) (br) (yr) (wd) 1 h1_mm) gX7_tax_X7_throwsIf rfl ⟨rfl, by decide +kernel, by decide +kernel, by decide +kernel⟩ ⟨Nat.le_of_ble_eq_true rfl, Nat.le_of_ble_eq_true rfl⟩ hK hE hS rfl h1_mm rfl hl.1 rfl (Nat.le_of_ble_eq_true rfl) dX7_tax_13 ⟨Nat.le_of_ble_eq_true rfl, Nat.le_of_ble_eq_true rfl⟩ (fun H locs hS => ?_)
  refine lv_if_ne (tgt := 43) hx hb dX7_tax_16 (by decide) (fun cq9 => absurd rfl cq9) (fun _ => ?_)
  refine lv_aload_n hx hb dX7_tax_19 rfl (lv_at hl 0 rfl) ?_
  refine lv_lload_n hx hb dX7_tax_20 rfl (lv_at hl 2 rfl) ?_
  refine lv_lconst (v := 0) hx hb dX7_tax_21 (by decide) ?_
  refine lv_ldc2 (v := 1000000000000) hx hb hown (hts (.constantLong RX7 210 (1000000000000)) (by decide +kernel)) dX7_tax_22 ?_
  refine z_rS (As := [.long (y), .long (0), .long (1000000000000)]) (rest := [.ref (mm)]) (n := 3) ⟨hx, hb, hml, hown, hts⟩ (c_X7_in l D cs w1 H.size (y) (0) (1000000000000)) gX7_tax_X7_in rfl ⟨by decide +kernel, by decide +kernel, by decide +kernel⟩ ⟨Nat.le_of_ble_eq_true rfl, Nat.le_of_ble_eq_true rfl⟩ hK hE hS rfl hl.1 rfl (Nat.le_of_ble_eq_true rfl) dX7_tax_25 ⟨Nat.le_of_ble_eq_true rfl, Nat.le_of_ble_eq_true rfl⟩ (fun H locs hS => ?_)
  refine lv_if_ne (tgt := 35) hx hb dX7_tax_28 (by decide) (fun _ => ?_) (fun cq9 => absurd cq9 (by rw [show mIn y 0 1000000000000 = 1 from hy]; decide))
  refine lv_iconst (v := 0) hx hb dX7_tax_35 (by decide) ?_
  refine lv_iconst (v := 2) hx hb dX7_tax_36 (by decide) ?_
  refine z_rV (As := [.int (0), .int (2)]) (rest := []) (n := 2) ⟨hx, hb, hml, hown, hts⟩ (c0_X7_throwsIf l D cs w1 H.size mm ad (0) (nI nb) (dd) (wk) (br) (yr) (wd) 2 h1_mm) gX7_tax_X7_throwsIf rfl ⟨rfl, by decide +kernel, by decide +kernel, by decide +kernel⟩ ⟨Nat.le_of_ble_eq_true rfl, Nat.le_of_ble_eq_true rfl⟩ hK hE hS rfl h1_mm rfl hl.1 rfl (Nat.le_of_ble_eq_true rfl) dX7_tax_37 ⟨Nat.le_of_ble_eq_true rfl, Nat.le_of_ble_eq_true rfl⟩ (fun H locs hS => ?_)
  refine lv_if_eq (tgt := 45) hx hb dX7_tax_40 (by decide) (fun _ => ?_) (fun cq9 => absurd rfl cq9)
  refine lv_aload_n hx hb dX7_tax_45 rfl (lv_at hl 0 rfl) ?_
  refine lv_iload_n hx hb dX7_tax_46 rfl (lv_at hl 1 rfl) ?_
  refine lv_lload_n hx hb dX7_tax_47 rfl (lv_at hl 2 rfl) ?_
  refine z_rV (As := [.int (nI t), .long (y)]) (rest := []) (n := 2) ⟨hx, hb, hml, hown, hts⟩ (c_X7_taxed l D cs w1 H.size mm ad J K 0 (nI nb) dd wk br yr wd t n Fx Gx y (by omega) hk3 hn hF h1_mm h1_ad1 h1_ad2 h1_ad3) gX7_tax_X7_taxed rfl ⟨rfl, by decide +kernel, by decide +kernel, by decide +kernel⟩ ⟨Nat.le_of_ble_eq_true rfl, Nat.le_of_ble_eq_true rfl⟩ hK hE hS rfl h1_mm rfl hl.1 rfl (Nat.le_of_ble_eq_true rfl) dX7_tax_48 ⟨Nat.le_of_ble_eq_true rfl, Nat.le_of_ble_eq_true rfl⟩ (fun H locs hS => ?_)
  have hex : zEx w w1 [(mm, (mo ad (0) (nI nb) (dd) (wk) (br) (yr) (wd)))] := ⟨(zm1 h1_mm zm0), fun a9 h9 => by rw [ew1, va_up_ne _ _ (show a9 ≠ mm from h9 (mm, (mo ad (0) (nI nb) (dd) (wk) (br) (yr) (wd))) (List.mem_of_getElem? (i := 0) rfl))]⟩
  exact z_lret hx hb hr hlocks hS (Nat.le_of_ble_eq_true rfl) (Nat.le_of_ble_eq_true rfl) dX7_tax_51 ⟨rfl, zMQ.o hM h_m hinj hex⟩
set_option maxHeartbeats 4000000 in
set_option maxRecDepth 100000 in
theorem t1_X7_stage (l : Launch) (D : va_G) (cs : Nat → ClassId) (w : zw) (sz : Nat) (mm : Nat) (ad : Nat → Nat) (J : Nat → Nat → Int64) (K : Nat → Nat → Int32) (th dd wk br yr wd : Int32) (nb : Nat) (x : Int32) (floor : Int64) (rate : Int32) (hinj : ∀ i j : Nat, i ≠ j → ad i ≠ ad j) (hM : zMA cs w ad J K) (hnb : nb ≤ 6) (hx9 : ∀ k : Nat, k < nb → x ≠ nI k) (h_m : w (mm) = some (mo ad (th) (nI nb) (dd) (wk) (br) (yr) (wd))) : zM l D cs yX7_stage wsX7_stage 3 0 0 w sz [.ref (mm), .int (x), .long (floor), .int (rate)] (fun r w2 => r = some (.int 0) ∧ zMQ cs w w2 ad mm (mo ad (1) (nI nb) (dd) (wk) (br) (yr) (wd)) J K) := by
  refine z_met (cc := cX7_stage) (maxL := 7) (ret := (some .int)) (by decide) rfl (Nat.le_of_ble_eq_true rfl) ?_
  intro p e s m below meth c hx hb hr hml hown hts hlocks hnm hsz hK hE hS ls hl
  have hl : lv_has ls 7 [(0, .ref (mm)), (1, .int (x)), (2, .long (floor)), (4, .int (rate))] := hl
  refine lv_aload_n hx hb dX7_stage_0 rfl (lv_at hl 0 rfl) ?_
  refine lv_iconst (v := 0) hx hb dX7_stage_1 (by decide) ?_
  refine z_put (C := RX7) (T := TX7) (N := 45) (v := .int (0)) hx hb hts (by decide +kernel) tyX7 tyX7_ok nmX7 hown hK hS h_m rfl 0 (by decide) (hts (.fieldLink RX7 126 "PayLedgerModel" "thrown" "I") (by decide +kernel)) rfl rfl rfl (Nat.le_of_ble_eq_true rfl) dX7_stage_2 (fun H locs hS => ?_)
  obtain ⟨w1, ew1⟩ : ∃ z : zw, z = va_up w (mm) (some (mo ad (0) (nI nb) (dd) (wk) (br) (yr) (wd))) := ⟨_, rfl⟩
  have hS : zS (zA w sz) D w1 s.heap H locs := by rw [ew1]; exact hS
  have h1_mm : w1 (mm) = some (mo ad (0) (nI nb) (dd) (wk) (br) (yr) (wd)) := by rw [ew1]; exact va_up_self _ _ _
  refine lv_aload_n hx hb dX7_stage_5 rfl (lv_at hl 0 rfl) ?_
  refine lv_aload_n hx hb dX7_stage_6 rfl (lv_at hl 0 rfl) ?_
  refine lv_iload_n hx hb dX7_stage_7 rfl (lv_at hl 1 rfl) ?_
  refine lv_i2l (v := ((x : Int32).toInt64)) hx hb dX7_stage_8 rfl ?_
  refine z_rV (As := [.long (((x : Int32).toInt64))]) (rest := [.ref (mm)]) (n := 1) ⟨hx, hb, hml, hown, hts⟩ (n_X7_noTable l D cs w1 H.size mm ad (0) (dd) (wk) (br) (yr) (wd) nb (x.toInt64) (by omega) (zi2l_ne (by omega) hx9) h1_mm) gX7_stage_X7_noTable rfl ⟨rfl, by decide +kernel, by decide +kernel, by decide +kernel⟩ ⟨Nat.le_of_ble_eq_true rfl, Nat.le_of_ble_eq_true rfl⟩ hK hE hS rfl h1_mm rfl hl.1 rfl (Nat.le_of_ble_eq_true rfl) dX7_stage_9 ⟨Nat.le_of_ble_eq_true rfl, Nat.le_of_ble_eq_true rfl⟩ (fun H locs hS => ?_)
  refine lv_iconst (v := 1) hx hb dX7_stage_12 (by decide) ?_
  refine z_invV (As := [.int (1), .int (1)]) (rest := []) (n := 2) ⟨hx, hb, hml, hown, hts⟩ (c1_X7_throwsIf l D cs w1 H.size mm ad (0) (nI nb) (dd) (wk) (br) (yr) (wd) 1 h1_mm) gX7_stage_X7_throwsIf rfl ⟨rfl, by decide +kernel, by decide +kernel, by decide +kernel⟩ ⟨Nat.le_of_ble_eq_true rfl, Nat.le_of_ble_eq_true rfl⟩ hK hE hS rfl h1_mm rfl hl.1 rfl (Nat.le_of_ble_eq_true rfl) dX7_stage_13 ⟨Nat.le_of_ble_eq_true rfl, Nat.le_of_ble_eq_true rfl⟩ (fun v9 u2 H locs hq hS => ?_)
  obtain ⟨rfl, hx2⟩ := hq
  have h3_mm : u2 (mm) = some (mo ad (1) (nI nb) (dd) (wk) (br) (yr) (wd)) := hx2.at 0 rfl
  refine W.eq (g2 := F0 m 16 ls [.int (1)]) rfl ?_
  refine lv_if_eq (tgt := 21) hx hb dX7_stage_16 (by decide) (fun cq9 => absurd cq9 (by decide)) (fun _ => ?_)
  refine lv_iconst (v := 0) hx hb dX7_stage_19 (by decide) ?_
  have hex : zEx w u2 [(mm, (mo ad (1) (nI nb) (dd) (wk) (br) (yr) (wd)))] := ⟨(zm1 h3_mm zm0), fun a9 h9 => by rw [hx2.2 a9 (zm1 (show a9 ≠ mm from h9 (mm, (mo ad (1) (nI nb) (dd) (wk) (br) (yr) (wd))) (List.mem_of_getElem? (i := 0) rfl)) zm0), ew1, va_up_ne _ _ (show a9 ≠ mm from h9 (mm, (mo ad (1) (nI nb) (dd) (wk) (br) (yr) (wd))) (List.mem_of_getElem? (i := 0) rfl))]⟩
  exact z_iret hx hb hr hlocks hS (Nat.le_of_ble_eq_true rfl) (Nat.le_of_ble_eq_true rfl) dX7_stage_20 ⟨rfl, zMQ.o hM h_m hinj hex⟩
set_option maxHeartbeats 4000000 in
set_option maxRecDepth 100000 in
theorem t2_X7_stage (l : Launch) (D : va_G) (cs : Nat → ClassId) (w : zw) (sz : Nat) (mm : Nat) (ad : Nat → Nat) (J : Nat → Nat → Int64) (K : Nat → Nat → Int32) (th dd wk br yr wd : Int32) (nb t n : Nat) (Fx : Nat → Int64) (floor : Int64) (rate : Int32) (hinj : ∀ i j : Nat, i ≠ j → ad i ≠ ad j) (hM : zMA cs w ad J K) (hnb : nb ≤ 6) (ht : t < nb) (hk3 : K 3 t = nI n) (hn : n ≤ 12) (hF : ∀ i : Nat, i < n → J 1 (12 * t + i) = Fx i) (hbad : ¬ (zUpTo rate.toInt64 1000000 = 1 ∧ zMay Fx n floor = 1)) (h_m : w (mm) = some (mo ad (th) (nI nb) (dd) (wk) (br) (yr) (wd))) : zM l D cs yX7_stage wsX7_stage 3 0 0 w sz [.ref (mm), .int (nI t), .long (floor), .int (rate)] (fun r w2 => r = some (.int 0) ∧ zMQ cs w w2 ad mm (mo ad (2) (nI nb) (dd) (wk) (br) (yr) (wd)) J K) := by
  refine z_met (cc := cX7_stage) (maxL := 7) (ret := (some .int)) (by decide) rfl (Nat.le_of_ble_eq_true rfl) ?_
  intro p e s m below meth c hx hb hr hml hown hts hlocks hnm hsz hK hE hS ls hl
  have hl : lv_has ls 7 [(0, .ref (mm)), (1, .int (nI t)), (2, .long (floor)), (4, .int (rate))] := hl
  have h_1 : w (ad 1) = some (eJ cs (72) (J 1)) := hM 1 (by decide)
  have h_3 : w (ad 3) = some (eI cs (6) (K 3)) := hM 3 (by decide)
  refine lv_aload_n hx hb dX7_stage_0 rfl (lv_at hl 0 rfl) ?_
  refine lv_iconst (v := 0) hx hb dX7_stage_1 (by decide) ?_
  refine z_put (C := RX7) (T := TX7) (N := 45) (v := .int (0)) hx hb hts (by decide +kernel) tyX7 tyX7_ok nmX7 hown hK hS h_m rfl 0 (by decide) (hts (.fieldLink RX7 126 "PayLedgerModel" "thrown" "I") (by decide +kernel)) rfl rfl rfl (Nat.le_of_ble_eq_true rfl) dX7_stage_2 (fun H locs hS => ?_)
  obtain ⟨w1, ew1⟩ : ∃ z : zw, z = va_up w (mm) (some (mo ad (0) (nI nb) (dd) (wk) (br) (yr) (wd))) := ⟨_, rfl⟩
  have hS : zS (zA w sz) D w1 s.heap H locs := by rw [ew1]; exact hS
  have h1_mm : w1 (mm) = some (mo ad (0) (nI nb) (dd) (wk) (br) (yr) (wd)) := by rw [ew1]; exact va_up_self _ _ _
  have h1_ad1 : w1 (ad 1) = some (eJ cs (72) (J 1)) := by rw [ew1]; exact (va_up_ne _ _ (zne h_1 h_m (by intro q9; first | cases q9 | simp at q9))).trans h_1
  have h1_ad3 : w1 (ad 3) = some (eI cs (6) (K 3)) := by rw [ew1]; exact (va_up_ne _ _ (zne h_3 h_m (by intro q9; first | cases q9 | simp at q9))).trans h_3
  refine lv_aload_n hx hb dX7_stage_5 rfl (lv_at hl 0 rfl) ?_
  refine lv_aload_n hx hb dX7_stage_6 rfl (lv_at hl 0 rfl) ?_
  refine lv_iload_n hx hb dX7_stage_7 rfl (lv_at hl 1 rfl) ?_
  refine lv_i2l (v := ((nI t : Int32).toInt64)) hx hb dX7_stage_8 rfl ?_
  refine z_tl (y := lN t) (nI_l (by omega)) ?_
  refine z_rV (As := [.long (lN t)]) (rest := [.ref (mm)]) (n := 1) ⟨hx, hb, hml, hown, hts⟩ (c_X7_noTable l D cs w1 H.size mm ad (0) (dd) (wk) (br) (yr) (wd) nb t (by omega) ht h1_mm) gX7_stage_X7_noTable rfl ⟨rfl, by decide +kernel, by decide +kernel, by decide +kernel⟩ ⟨Nat.le_of_ble_eq_true rfl, Nat.le_of_ble_eq_true rfl⟩ hK hE hS rfl h1_mm rfl hl.1 rfl (Nat.le_of_ble_eq_true rfl) dX7_stage_9 ⟨Nat.le_of_ble_eq_true rfl, Nat.le_of_ble_eq_true rfl⟩ (fun H locs hS => ?_)
  refine lv_iconst (v := 1) hx hb dX7_stage_12 (by decide) ?_
  refine z_rV (As := [.int (0), .int (1)]) (rest := []) (n := 2) ⟨hx, hb, hml, hown, hts⟩ (c0_X7_throwsIf l D cs w1 H.size mm ad (0) (nI nb) (dd) (wk) (br) (yr) (wd) 1 h1_mm) gX7_stage_X7_throwsIf rfl ⟨rfl, by decide +kernel, by decide +kernel, by decide +kernel⟩ ⟨Nat.le_of_ble_eq_true rfl, Nat.le_of_ble_eq_true rfl⟩ hK hE hS rfl h1_mm rfl hl.1 rfl (Nat.le_of_ble_eq_true rfl) dX7_stage_13 ⟨Nat.le_of_ble_eq_true rfl, Nat.le_of_ble_eq_true rfl⟩ (fun H locs hS => ?_)
  refine lv_if_eq (tgt := 21) hx hb dX7_stage_16 (by decide) (fun _ => ?_) (fun cq9 => absurd rfl cq9)
  refine lv_aload_n hx hb dX7_stage_21 rfl (lv_at hl 0 rfl) ?_
  refine z_get (C := RX7) (T := TX7) (N := 45) (v := .ref (ad 3)) hx hb hts (by decide +kernel) hown hK hS h1_mm rfl 3 (by decide) (hts (.fieldLink RX7 17 "PayLedgerModel" "stages" "[I") (by decide +kernel)) rfl dX7_stage_22 ?_
  refine lv_iload_n hx hb dX7_stage_25 rfl (lv_at hl 1 rfl) ?_
  refine z_iald hx hb hK hS h1_ad3 (vp_in_nI (by omega) (by decide)) dX7_stage_26 ?_
  refine z_ti (y := ((K 3) (t))) (congrArg _ (nI_clamp (by omega))) ?_
  refine z_ti (y := nI n) hk3 ?_
  refine lv_istore (lv' := [(5, .int (nI n)), (0, .ref (mm)), (1, .int (nI t)), (2, .long (floor)), (4, .int (rate))]) hx hb dX7_stage_27 hl (by decide) rfl (fun ls hl => ?_)
  refine lv_iload hx hb dX7_stage_29 (lv_at hl 4 rfl) ?_
  refine lv_i2l (v := ((rate : Int32).toInt64)) hx hb dX7_stage_31 rfl ?_
  refine lv_lconst (v := 0) hx hb dX7_stage_32 (by decide) ?_
  refine lv_ldc2 (v := 1000000) hx hb hown (hts (.constantLong RX7 136 (1000000)) (by decide +kernel)) dX7_stage_33 ?_
  refine z_rS (As := [.long (((rate : Int32).toInt64)), .long (0), .long (1000000)]) (rest := []) (n := 3) ⟨hx, hb, hml, hown, hts⟩ (c_X7_in l D cs w1 H.size (rate.toInt64) (0) (1000000)) gX7_stage_X7_in rfl ⟨by decide +kernel, by decide +kernel, by decide +kernel⟩ ⟨Nat.le_of_ble_eq_true rfl, Nat.le_of_ble_eq_true rfl⟩ hK hE hS rfl hl.1 rfl (Nat.le_of_ble_eq_true rfl) dX7_stage_36 ⟨Nat.le_of_ble_eq_true rfl, Nat.le_of_ble_eq_true rfl⟩ (fun H locs hS => ?_)
  refine lv_if_eq (tgt := 87) hx hb dX7_stage_39 (by decide) (fun c39 => ?_) (fun c39 => ?_)
  · refine lv_iconst (v := 0) hx hb dX7_stage_87 (by decide) ?_
    refine lv_istore (lv' := [(6, .int (0)), (5, .int (nI n)), (0, .ref (mm)), (1, .int (nI t)), (2, .long (floor)), (4, .int (rate))]) hx hb dX7_stage_88 hl (by decide) rfl (fun ls hl => ?_)
    refine lv_aload_n hx hb dX7_stage_90 rfl (lv_at hl 2 rfl) ?_
    refine lv_iload hx hb dX7_stage_91 (lv_at hl 0 rfl) ?_
    refine lv_if_ne (tgt := 100) hx hb dX7_stage_93 (by decide) (fun cq9 => absurd rfl cq9) (fun _ => ?_)
    refine lv_iconst (v := 1) hx hb dX7_stage_96 (by decide) ?_
    refine lv_goto (tgt := 101) hx hb dX7_stage_97 (by decide) ?_
    refine lv_iconst (v := 2) hx hb dX7_stage_101 (by decide) ?_
    refine z_invV (As := [.int (1), .int (2)]) (rest := []) (n := 2) ⟨hx, hb, hml, hown, hts⟩ (c1_X7_throwsIf l D cs w1 H.size mm ad (0) (nI nb) (dd) (wk) (br) (yr) (wd) 2 h1_mm) gX7_stage_X7_throwsIf rfl ⟨rfl, by decide +kernel, by decide +kernel, by decide +kernel⟩ ⟨Nat.le_of_ble_eq_true rfl, Nat.le_of_ble_eq_true rfl⟩ hK hE hS rfl h1_mm rfl hl.1 rfl (Nat.le_of_ble_eq_true rfl) dX7_stage_102 ⟨Nat.le_of_ble_eq_true rfl, Nat.le_of_ble_eq_true rfl⟩ (fun v9 u2 H locs hq hS => ?_)
    obtain ⟨rfl, hx2⟩ := hq
    have h3_mm : u2 (mm) = some (mo ad (2) (nI nb) (dd) (wk) (br) (yr) (wd)) := hx2.at 0 rfl
    have h3_ad1 : u2 (ad 1) = some (eJ cs (72) (J 1)) := hx2.old h1_ad1 (zm1 (zne h1_ad1 h1_mm (by intro q9; first | cases q9 | simp at q9)) zm0)
    have h3_ad3 : u2 (ad 3) = some (eI cs (6) (K 3)) := hx2.old h1_ad3 (zm1 (zne h1_ad3 h1_mm (by intro q9; first | cases q9 | simp at q9)) zm0)
    refine W.eq (g2 := F0 m 105 ls [.int (1)]) rfl ?_
    refine lv_if_ne (tgt := 142) hx hb dX7_stage_105 (by decide) (fun _ => ?_) (fun cq9 => absurd cq9 (by decide))
    refine lv_iconst (v := 0) hx hb dX7_stage_142 (by decide) ?_
    have hex : zEx w u2 [(mm, (mo ad (2) (nI nb) (dd) (wk) (br) (yr) (wd)))] := ⟨(zm1 h3_mm zm0), fun a9 h9 => by rw [hx2.2 a9 (zm1 (show a9 ≠ mm from h9 (mm, (mo ad (2) (nI nb) (dd) (wk) (br) (yr) (wd))) (List.mem_of_getElem? (i := 0) rfl)) zm0), ew1, va_up_ne _ _ (show a9 ≠ mm from h9 (mm, (mo ad (2) (nI nb) (dd) (wk) (br) (yr) (wd))) (List.mem_of_getElem? (i := 0) rfl))]⟩
    exact z_iret hx hb hr hlocks hS (Nat.le_of_ble_eq_true rfl) (Nat.le_of_ble_eq_true rfl) dX7_stage_143 ⟨rfl, zMQ.o hM h_m hinj hex⟩
  · refine lv_lload_n hx hb dX7_stage_42 rfl (lv_at hl 3 rfl) ?_
    refine lv_ldc2 (v := 1000000000000) hx hb hown (hts (.constantLong RX7 210 (1000000000000)) (by decide +kernel)) dX7_stage_43 ?_
    refine z_lif_gt (tgt := 87) hx hb dX7_stage_46 dX7_stage_47 (by decide) (fun c46 => ?_) (fun c46 => ?_)
    · refine lv_iconst (v := 0) hx hb dX7_stage_87 (by decide) ?_
      refine lv_istore (lv' := [(6, .int (0)), (5, .int (nI n)), (0, .ref (mm)), (1, .int (nI t)), (2, .long (floor)), (4, .int (rate))]) hx hb dX7_stage_88 hl (by decide) rfl (fun ls hl => ?_)
      refine lv_aload_n hx hb dX7_stage_90 rfl (lv_at hl 2 rfl) ?_
      refine lv_iload hx hb dX7_stage_91 (lv_at hl 0 rfl) ?_
      refine lv_if_ne (tgt := 100) hx hb dX7_stage_93 (by decide) (fun cq9 => absurd rfl cq9) (fun _ => ?_)
      refine lv_iconst (v := 1) hx hb dX7_stage_96 (by decide) ?_
      refine lv_goto (tgt := 101) hx hb dX7_stage_97 (by decide) ?_
      refine lv_iconst (v := 2) hx hb dX7_stage_101 (by decide) ?_
      refine z_invV (As := [.int (1), .int (2)]) (rest := []) (n := 2) ⟨hx, hb, hml, hown, hts⟩ (c1_X7_throwsIf l D cs w1 H.size mm ad (0) (nI nb) (dd) (wk) (br) (yr) (wd) 2 h1_mm) gX7_stage_X7_throwsIf rfl ⟨rfl, by decide +kernel, by decide +kernel, by decide +kernel⟩ ⟨Nat.le_of_ble_eq_true rfl, Nat.le_of_ble_eq_true rfl⟩ hK hE hS rfl h1_mm rfl hl.1 rfl (Nat.le_of_ble_eq_true rfl) dX7_stage_102 ⟨Nat.le_of_ble_eq_true rfl, Nat.le_of_ble_eq_true rfl⟩ (fun v9 u4 H locs hq hS => ?_)
      obtain ⟨rfl, hx4⟩ := hq
      have h5_mm : u4 (mm) = some (mo ad (2) (nI nb) (dd) (wk) (br) (yr) (wd)) := hx4.at 0 rfl
      have h5_ad1 : u4 (ad 1) = some (eJ cs (72) (J 1)) := hx4.old h1_ad1 (zm1 (zne h1_ad1 h1_mm (by intro q9; first | cases q9 | simp at q9)) zm0)
      have h5_ad3 : u4 (ad 3) = some (eI cs (6) (K 3)) := hx4.old h1_ad3 (zm1 (zne h1_ad3 h1_mm (by intro q9; first | cases q9 | simp at q9)) zm0)
      refine W.eq (g2 := F0 m 105 ls [.int (1)]) rfl ?_
      refine lv_if_ne (tgt := 142) hx hb dX7_stage_105 (by decide) (fun _ => ?_) (fun cq9 => absurd cq9 (by decide))
      refine lv_iconst (v := 0) hx hb dX7_stage_142 (by decide) ?_
      have hex : zEx w u4 [(mm, (mo ad (2) (nI nb) (dd) (wk) (br) (yr) (wd)))] := ⟨(zm1 h5_mm zm0), fun a9 h9 => by rw [hx4.2 a9 (zm1 (show a9 ≠ mm from h9 (mm, (mo ad (2) (nI nb) (dd) (wk) (br) (yr) (wd))) (List.mem_of_getElem? (i := 0) rfl)) zm0), ew1, va_up_ne _ _ (show a9 ≠ mm from h9 (mm, (mo ad (2) (nI nb) (dd) (wk) (br) (yr) (wd))) (List.mem_of_getElem? (i := 0) rfl))]⟩
      exact z_iret hx hb hr hlocks hS (Nat.le_of_ble_eq_true rfl) (Nat.le_of_ble_eq_true rfl) dX7_stage_143 ⟨rfl, zMQ.o hM h_m hinj hex⟩
    · refine lv_iload hx hb dX7_stage_50 (lv_at hl 0 rfl) ?_
      refine lv_if_ne (tgt := 64) hx hb dX7_stage_52 (by decide) (fun c52 => ?_) (fun c52 => ?_)
      · have hn0 : n ≠ 0 := fun q9 => c52 (by rw [q9]; rfl)
        refine lv_lload_n hx hb dX7_stage_64 rfl (lv_at hl 3 rfl) ?_
        refine lv_aload_n hx hb dX7_stage_65 rfl (lv_at hl 1 rfl) ?_
        refine z_get (C := RX7) (T := TX7) (N := 45) (v := .ref (ad 1)) hx hb hts (by decide +kernel) hown hK hS h1_mm rfl 1 (by decide) (hts (.fieldLink RX7 9 "PayLedgerModel" "floors" "[J") (by decide +kernel)) rfl dX7_stage_66 ?_
        refine lv_bipush (v := 12) hx hb dX7_stage_69 (by decide) ?_
        refine lv_iload_n hx hb dX7_stage_71 rfl (lv_at hl 2 rfl) ?_
        refine lv_imul hx hb dX7_stage_72 ?_
        refine z_ti (y := nI (12 * t)) (zI_mul (12) (t)) ?_
        refine lv_iload hx hb dX7_stage_73 (lv_at hl 0 rfl) ?_
        refine lv_iadd hx hb dX7_stage_75 ?_
        refine z_ti (y := nI ((12 * t) + n)) (nI_add ((12 * t)) (n)) ?_
        refine lv_iconst (v := 1) hx hb dX7_stage_76 (by decide) ?_
        refine lv_isub hx hb dX7_stage_77 ?_
        refine z_ti (y := nI (12 * t + (n - 1))) (zI_pred1 hn0) ?_
        refine z_lald hx hb hK hS h1_ad1 (vp_in_nI (by omega) (by decide)) dX7_stage_78 ?_
        refine z_tl (y := ((J 1) ((12 * t + (n - 1))))) (congrArg _ (nI_clamp (by omega))) ?_
        refine z_tl (y := Fx (n - 1)) (hF (n - 1) (by omega)) ?_
        refine z_lif_le (tgt := 87) hx hb dX7_stage_79 dX7_stage_80 (by decide) (fun c79 => ?_) (fun c79 => ?_)
        · refine lv_iconst (v := 0) hx hb dX7_stage_87 (by decide) ?_
          refine lv_istore (lv' := [(6, .int (0)), (5, .int (nI n)), (0, .ref (mm)), (1, .int (nI t)), (2, .long (floor)), (4, .int (rate))]) hx hb dX7_stage_88 hl (by decide) rfl (fun ls hl => ?_)
          refine lv_aload_n hx hb dX7_stage_90 rfl (lv_at hl 2 rfl) ?_
          refine lv_iload hx hb dX7_stage_91 (lv_at hl 0 rfl) ?_
          refine lv_if_ne (tgt := 100) hx hb dX7_stage_93 (by decide) (fun cq9 => absurd rfl cq9) (fun _ => ?_)
          refine lv_iconst (v := 1) hx hb dX7_stage_96 (by decide) ?_
          refine lv_goto (tgt := 101) hx hb dX7_stage_97 (by decide) ?_
          refine lv_iconst (v := 2) hx hb dX7_stage_101 (by decide) ?_
          refine z_invV (As := [.int (1), .int (2)]) (rest := []) (n := 2) ⟨hx, hb, hml, hown, hts⟩ (c1_X7_throwsIf l D cs w1 H.size mm ad (0) (nI nb) (dd) (wk) (br) (yr) (wd) 2 h1_mm) gX7_stage_X7_throwsIf rfl ⟨rfl, by decide +kernel, by decide +kernel, by decide +kernel⟩ ⟨Nat.le_of_ble_eq_true rfl, Nat.le_of_ble_eq_true rfl⟩ hK hE hS rfl h1_mm rfl hl.1 rfl (Nat.le_of_ble_eq_true rfl) dX7_stage_102 ⟨Nat.le_of_ble_eq_true rfl, Nat.le_of_ble_eq_true rfl⟩ (fun v9 u6 H locs hq hS => ?_)
          obtain ⟨rfl, hx6⟩ := hq
          have h7_mm : u6 (mm) = some (mo ad (2) (nI nb) (dd) (wk) (br) (yr) (wd)) := hx6.at 0 rfl
          have h7_ad1 : u6 (ad 1) = some (eJ cs (72) (J 1)) := hx6.old h1_ad1 (zm1 (zne h1_ad1 h1_mm (by intro q9; first | cases q9 | simp at q9)) zm0)
          have h7_ad3 : u6 (ad 3) = some (eI cs (6) (K 3)) := hx6.old h1_ad3 (zm1 (zne h1_ad3 h1_mm (by intro q9; first | cases q9 | simp at q9)) zm0)
          refine W.eq (g2 := F0 m 105 ls [.int (1)]) rfl ?_
          refine lv_if_ne (tgt := 142) hx hb dX7_stage_105 (by decide) (fun _ => ?_) (fun cq9 => absurd cq9 (by decide))
          refine lv_iconst (v := 0) hx hb dX7_stage_142 (by decide) ?_
          have hex : zEx w u6 [(mm, (mo ad (2) (nI nb) (dd) (wk) (br) (yr) (wd)))] := ⟨(zm1 h7_mm zm0), fun a9 h9 => by rw [hx6.2 a9 (zm1 (show a9 ≠ mm from h9 (mm, (mo ad (2) (nI nb) (dd) (wk) (br) (yr) (wd))) (List.mem_of_getElem? (i := 0) rfl)) zm0), ew1, va_up_ne _ _ (show a9 ≠ mm from h9 (mm, (mo ad (2) (nI nb) (dd) (wk) (br) (yr) (wd))) (List.mem_of_getElem? (i := 0) rfl))]⟩
          exact z_iret hx hb hr hlocks hS (Nat.le_of_ble_eq_true rfl) (Nat.le_of_ble_eq_true rfl) dX7_stage_143 ⟨rfl, zMQ.o hM h_m hinj hex⟩
        · exact absurd ⟨mIn_ne c39, zMay_p hn0 c79 c46⟩ hbad
      · refine lv_lload_n hx hb dX7_stage_55 rfl (lv_at hl 3 rfl) ?_
        refine lv_lconst (v := 0) hx hb dX7_stage_56 (by decide) ?_
        refine z_lif_ne (tgt := 87) hx hb dX7_stage_57 dX7_stage_58 (by decide) (fun c57 => ?_) (fun c57 => ?_)
        · refine lv_iconst (v := 0) hx hb dX7_stage_87 (by decide) ?_
          refine lv_istore (lv' := [(6, .int (0)), (5, .int (nI n)), (0, .ref (mm)), (1, .int (nI t)), (2, .long (floor)), (4, .int (rate))]) hx hb dX7_stage_88 hl (by decide) rfl (fun ls hl => ?_)
          refine lv_aload_n hx hb dX7_stage_90 rfl (lv_at hl 2 rfl) ?_
          refine lv_iload hx hb dX7_stage_91 (lv_at hl 0 rfl) ?_
          refine lv_if_ne (tgt := 100) hx hb dX7_stage_93 (by decide) (fun cq9 => absurd rfl cq9) (fun _ => ?_)
          refine lv_iconst (v := 1) hx hb dX7_stage_96 (by decide) ?_
          refine lv_goto (tgt := 101) hx hb dX7_stage_97 (by decide) ?_
          refine lv_iconst (v := 2) hx hb dX7_stage_101 (by decide) ?_
          refine z_invV (As := [.int (1), .int (2)]) (rest := []) (n := 2) ⟨hx, hb, hml, hown, hts⟩ (c1_X7_throwsIf l D cs w1 H.size mm ad (0) (nI nb) (dd) (wk) (br) (yr) (wd) 2 h1_mm) gX7_stage_X7_throwsIf rfl ⟨rfl, by decide +kernel, by decide +kernel, by decide +kernel⟩ ⟨Nat.le_of_ble_eq_true rfl, Nat.le_of_ble_eq_true rfl⟩ hK hE hS rfl h1_mm rfl hl.1 rfl (Nat.le_of_ble_eq_true rfl) dX7_stage_102 ⟨Nat.le_of_ble_eq_true rfl, Nat.le_of_ble_eq_true rfl⟩ (fun v9 u8 H locs hq hS => ?_)
          obtain ⟨rfl, hx8⟩ := hq
          have h9_mm : u8 (mm) = some (mo ad (2) (nI nb) (dd) (wk) (br) (yr) (wd)) := hx8.at 0 rfl
          have h9_ad1 : u8 (ad 1) = some (eJ cs (72) (J 1)) := hx8.old h1_ad1 (zm1 (zne h1_ad1 h1_mm (by intro q9; first | cases q9 | simp at q9)) zm0)
          have h9_ad3 : u8 (ad 3) = some (eI cs (6) (K 3)) := hx8.old h1_ad3 (zm1 (zne h1_ad3 h1_mm (by intro q9; first | cases q9 | simp at q9)) zm0)
          refine W.eq (g2 := F0 m 105 ls [.int (1)]) rfl ?_
          refine lv_if_ne (tgt := 142) hx hb dX7_stage_105 (by decide) (fun _ => ?_) (fun cq9 => absurd cq9 (by decide))
          refine lv_iconst (v := 0) hx hb dX7_stage_142 (by decide) ?_
          have hex : zEx w u8 [(mm, (mo ad (2) (nI nb) (dd) (wk) (br) (yr) (wd)))] := ⟨(zm1 h9_mm zm0), fun a9 h9 => by rw [hx8.2 a9 (zm1 (show a9 ≠ mm from h9 (mm, (mo ad (2) (nI nb) (dd) (wk) (br) (yr) (wd))) (List.mem_of_getElem? (i := 0) rfl)) zm0), ew1, va_up_ne _ _ (show a9 ≠ mm from h9 (mm, (mo ad (2) (nI nb) (dd) (wk) (br) (yr) (wd))) (List.mem_of_getElem? (i := 0) rfl))]⟩
          exact z_iret hx hb hr hlocks hS (Nat.le_of_ble_eq_true rfl) (Nat.le_of_ble_eq_true rfl) dX7_stage_143 ⟨rfl, zMQ.o hM h_m hinj hex⟩
        · refine lv_goto (tgt := 83) hx hb dX7_stage_61 (by decide) ?_
          exact absurd ⟨mIn_ne c39, zMay_z (nI_0e (by omega) c52) c57⟩ hbad
set_option maxHeartbeats 4000000 in
set_option maxRecDepth 100000 in
theorem t3_X7_stage (l : Launch) (D : va_G) (cs : Nat → ClassId) (w : zw) (sz : Nat) (mm : Nat) (ad : Nat → Nat) (J : Nat → Nat → Int64) (K : Nat → Nat → Int32) (th dd wk br yr wd : Int32) (nb t n : Nat) (Fx : Nat → Int64) (floor : Int64) (rate : Int32) (hinj : ∀ i j : Nat, i ≠ j → ad i ≠ ad j) (hM : zMA cs w ad J K) (hnb : nb ≤ 6) (ht : t < nb) (hk3 : K 3 t = nI n) (hn : n ≤ 12) (hF : ∀ i : Nat, i < n → J 1 (12 * t + i) = Fx i) (hrt : zUpTo rate.toInt64 1000000 = 1) (hmay : zMay Fx n floor = 1) (hu : K 4 t = 1) (h_m : w (mm) = some (mo ad (th) (nI nb) (dd) (wk) (br) (yr) (wd))) : zM l D cs yX7_stage wsX7_stage 3 0 0 w sz [.ref (mm), .int (nI t), .long (floor), .int (rate)] (fun r w2 => r = some (.int 0) ∧ zMQ cs w w2 ad mm (mo ad (3) (nI nb) (dd) (wk) (br) (yr) (wd)) J K) := by
  refine z_met (cc := cX7_stage) (maxL := 7) (ret := (some .int)) (by decide) rfl (Nat.le_of_ble_eq_true rfl) ?_
  intro p e s m below meth c hx hb hr hml hown hts hlocks hnm hsz hK hE hS ls hl
  have hl : lv_has ls 7 [(0, .ref (mm)), (1, .int (nI t)), (2, .long (floor)), (4, .int (rate))] := hl
  have h_1 : w (ad 1) = some (eJ cs (72) (J 1)) := hM 1 (by decide)
  have h_3 : w (ad 3) = some (eI cs (6) (K 3)) := hM 3 (by decide)
  have h_4 : w (ad 4) = some (eZ cs (6) (K 4)) := hM 4 (by decide)
  refine lv_aload_n hx hb dX7_stage_0 rfl (lv_at hl 0 rfl) ?_
  refine lv_iconst (v := 0) hx hb dX7_stage_1 (by decide) ?_
  refine z_put (C := RX7) (T := TX7) (N := 45) (v := .int (0)) hx hb hts (by decide +kernel) tyX7 tyX7_ok nmX7 hown hK hS h_m rfl 0 (by decide) (hts (.fieldLink RX7 126 "PayLedgerModel" "thrown" "I") (by decide +kernel)) rfl rfl rfl (Nat.le_of_ble_eq_true rfl) dX7_stage_2 (fun H locs hS => ?_)
  obtain ⟨w1, ew1⟩ : ∃ z : zw, z = va_up w (mm) (some (mo ad (0) (nI nb) (dd) (wk) (br) (yr) (wd))) := ⟨_, rfl⟩
  have hS : zS (zA w sz) D w1 s.heap H locs := by rw [ew1]; exact hS
  have h1_mm : w1 (mm) = some (mo ad (0) (nI nb) (dd) (wk) (br) (yr) (wd)) := by rw [ew1]; exact va_up_self _ _ _
  have h1_ad1 : w1 (ad 1) = some (eJ cs (72) (J 1)) := by rw [ew1]; exact (va_up_ne _ _ (zne h_1 h_m (by intro q9; first | cases q9 | simp at q9))).trans h_1
  have h1_ad3 : w1 (ad 3) = some (eI cs (6) (K 3)) := by rw [ew1]; exact (va_up_ne _ _ (zne h_3 h_m (by intro q9; first | cases q9 | simp at q9))).trans h_3
  have h1_ad4 : w1 (ad 4) = some (eZ cs (6) (K 4)) := by rw [ew1]; exact (va_up_ne _ _ (zne h_4 h_m (by intro q9; first | cases q9 | simp at q9))).trans h_4
  refine lv_aload_n hx hb dX7_stage_5 rfl (lv_at hl 0 rfl) ?_
  refine lv_aload_n hx hb dX7_stage_6 rfl (lv_at hl 0 rfl) ?_
  refine lv_iload_n hx hb dX7_stage_7 rfl (lv_at hl 1 rfl) ?_
  refine lv_i2l (v := ((nI t : Int32).toInt64)) hx hb dX7_stage_8 rfl ?_
  refine z_tl (y := lN t) (nI_l (by omega)) ?_
  refine z_rV (As := [.long (lN t)]) (rest := [.ref (mm)]) (n := 1) ⟨hx, hb, hml, hown, hts⟩ (c_X7_noTable l D cs w1 H.size mm ad (0) (dd) (wk) (br) (yr) (wd) nb t (by omega) ht h1_mm) gX7_stage_X7_noTable rfl ⟨rfl, by decide +kernel, by decide +kernel, by decide +kernel⟩ ⟨Nat.le_of_ble_eq_true rfl, Nat.le_of_ble_eq_true rfl⟩ hK hE hS rfl h1_mm rfl hl.1 rfl (Nat.le_of_ble_eq_true rfl) dX7_stage_9 ⟨Nat.le_of_ble_eq_true rfl, Nat.le_of_ble_eq_true rfl⟩ (fun H locs hS => ?_)
  refine lv_iconst (v := 1) hx hb dX7_stage_12 (by decide) ?_
  refine z_rV (As := [.int (0), .int (1)]) (rest := []) (n := 2) ⟨hx, hb, hml, hown, hts⟩ (c0_X7_throwsIf l D cs w1 H.size mm ad (0) (nI nb) (dd) (wk) (br) (yr) (wd) 1 h1_mm) gX7_stage_X7_throwsIf rfl ⟨rfl, by decide +kernel, by decide +kernel, by decide +kernel⟩ ⟨Nat.le_of_ble_eq_true rfl, Nat.le_of_ble_eq_true rfl⟩ hK hE hS rfl h1_mm rfl hl.1 rfl (Nat.le_of_ble_eq_true rfl) dX7_stage_13 ⟨Nat.le_of_ble_eq_true rfl, Nat.le_of_ble_eq_true rfl⟩ (fun H locs hS => ?_)
  refine lv_if_eq (tgt := 21) hx hb dX7_stage_16 (by decide) (fun _ => ?_) (fun cq9 => absurd rfl cq9)
  refine lv_aload_n hx hb dX7_stage_21 rfl (lv_at hl 0 rfl) ?_
  refine z_get (C := RX7) (T := TX7) (N := 45) (v := .ref (ad 3)) hx hb hts (by decide +kernel) hown hK hS h1_mm rfl 3 (by decide) (hts (.fieldLink RX7 17 "PayLedgerModel" "stages" "[I") (by decide +kernel)) rfl dX7_stage_22 ?_
  refine lv_iload_n hx hb dX7_stage_25 rfl (lv_at hl 1 rfl) ?_
  refine z_iald hx hb hK hS h1_ad3 (vp_in_nI (by omega) (by decide)) dX7_stage_26 ?_
  refine z_ti (y := ((K 3) (t))) (congrArg _ (nI_clamp (by omega))) ?_
  refine z_ti (y := nI n) hk3 ?_
  refine lv_istore (lv' := [(5, .int (nI n)), (0, .ref (mm)), (1, .int (nI t)), (2, .long (floor)), (4, .int (rate))]) hx hb dX7_stage_27 hl (by decide) rfl (fun ls hl => ?_)
  refine lv_iload hx hb dX7_stage_29 (lv_at hl 4 rfl) ?_
  refine lv_i2l (v := ((rate : Int32).toInt64)) hx hb dX7_stage_31 rfl ?_
  refine lv_lconst (v := 0) hx hb dX7_stage_32 (by decide) ?_
  refine lv_ldc2 (v := 1000000) hx hb hown (hts (.constantLong RX7 136 (1000000)) (by decide +kernel)) dX7_stage_33 ?_
  refine z_rS (As := [.long (((rate : Int32).toInt64)), .long (0), .long (1000000)]) (rest := []) (n := 3) ⟨hx, hb, hml, hown, hts⟩ (c_X7_in l D cs w1 H.size (rate.toInt64) (0) (1000000)) gX7_stage_X7_in rfl ⟨by decide +kernel, by decide +kernel, by decide +kernel⟩ ⟨Nat.le_of_ble_eq_true rfl, Nat.le_of_ble_eq_true rfl⟩ hK hE hS rfl hl.1 rfl (Nat.le_of_ble_eq_true rfl) dX7_stage_36 ⟨Nat.le_of_ble_eq_true rfl, Nat.le_of_ble_eq_true rfl⟩ (fun H locs hS => ?_)
  refine lv_if_eq (tgt := 87) hx hb dX7_stage_39 (by decide) (fun cq9 => absurd cq9 (by rw [show mIn rate.toInt64 0 1000000 = 1 from hrt]; decide)) (fun _ => ?_)
  refine lv_lload_n hx hb dX7_stage_42 rfl (lv_at hl 3 rfl) ?_
  refine lv_ldc2 (v := 1000000000000) hx hb hown (hts (.constantLong RX7 210 (1000000000000)) (by decide +kernel)) dX7_stage_43 ?_
  refine z_lif_gt (tgt := 87) hx hb dX7_stage_46 dX7_stage_47 (by decide) (fun cq9 => absurd cq9 (zMay_1 hmay).1) (fun _ => ?_)
  refine lv_iload hx hb dX7_stage_50 (lv_at hl 0 rfl) ?_
  refine lv_if_ne (tgt := 64) hx hb dX7_stage_52 (by decide) (fun c52 => ?_) (fun c52 => ?_)
  · have hn0 : n ≠ 0 := fun q9 => c52 (by rw [q9]; rfl)
    refine lv_lload_n hx hb dX7_stage_64 rfl (lv_at hl 3 rfl) ?_
    refine lv_aload_n hx hb dX7_stage_65 rfl (lv_at hl 1 rfl) ?_
    refine z_get (C := RX7) (T := TX7) (N := 45) (v := .ref (ad 1)) hx hb hts (by decide +kernel) hown hK hS h1_mm rfl 1 (by decide) (hts (.fieldLink RX7 9 "PayLedgerModel" "floors" "[J") (by decide +kernel)) rfl dX7_stage_66 ?_
    refine lv_bipush (v := 12) hx hb dX7_stage_69 (by decide) ?_
    refine lv_iload_n hx hb dX7_stage_71 rfl (lv_at hl 2 rfl) ?_
    refine lv_imul hx hb dX7_stage_72 ?_
    refine z_ti (y := nI (12 * t)) (zI_mul (12) (t)) ?_
    refine lv_iload hx hb dX7_stage_73 (lv_at hl 0 rfl) ?_
    refine lv_iadd hx hb dX7_stage_75 ?_
    refine z_ti (y := nI ((12 * t) + n)) (nI_add ((12 * t)) (n)) ?_
    refine lv_iconst (v := 1) hx hb dX7_stage_76 (by decide) ?_
    refine lv_isub hx hb dX7_stage_77 ?_
    refine z_ti (y := nI (12 * t + (n - 1))) (zI_pred1 hn0) ?_
    refine z_lald hx hb hK hS h1_ad1 (vp_in_nI (by omega) (by decide)) dX7_stage_78 ?_
    refine z_tl (y := ((J 1) ((12 * t + (n - 1))))) (congrArg _ (nI_clamp (by omega))) ?_
    refine z_tl (y := Fx (n - 1)) (hF (n - 1) (by omega)) ?_
    refine z_lif_le (tgt := 87) hx hb dX7_stage_79 dX7_stage_80 (by decide) (fun cq9 => absurd cq9 ((zMay_1 hmay).2.2 hn0)) (fun _ => ?_)
    refine lv_iconst (v := 1) hx hb dX7_stage_83 (by decide) ?_
    refine lv_goto (tgt := 88) hx hb dX7_stage_84 (by decide) ?_
    refine lv_istore (lv' := [(6, .int (1)), (5, .int (nI n)), (0, .ref (mm)), (1, .int (nI t)), (2, .long (floor)), (4, .int (rate))]) hx hb dX7_stage_88 hl (by decide) rfl (fun ls hl => ?_)
    refine lv_aload_n hx hb dX7_stage_90 rfl (lv_at hl 2 rfl) ?_
    refine lv_iload hx hb dX7_stage_91 (lv_at hl 0 rfl) ?_
    refine lv_if_ne (tgt := 100) hx hb dX7_stage_93 (by decide) (fun _ => ?_) (fun cq9 => absurd cq9 (by decide))
    refine lv_iconst (v := 0) hx hb dX7_stage_100 (by decide) ?_
    refine lv_iconst (v := 2) hx hb dX7_stage_101 (by decide) ?_
    refine z_rV (As := [.int (0), .int (2)]) (rest := []) (n := 2) ⟨hx, hb, hml, hown, hts⟩ (c0_X7_throwsIf l D cs w1 H.size mm ad (0) (nI nb) (dd) (wk) (br) (yr) (wd) 2 h1_mm) gX7_stage_X7_throwsIf rfl ⟨rfl, by decide +kernel, by decide +kernel, by decide +kernel⟩ ⟨Nat.le_of_ble_eq_true rfl, Nat.le_of_ble_eq_true rfl⟩ hK hE hS rfl h1_mm rfl hl.1 rfl (Nat.le_of_ble_eq_true rfl) dX7_stage_102 ⟨Nat.le_of_ble_eq_true rfl, Nat.le_of_ble_eq_true rfl⟩ (fun H locs hS => ?_)
    refine lv_if_ne (tgt := 142) hx hb dX7_stage_105 (by decide) (fun cq9 => absurd rfl cq9) (fun _ => ?_)
    refine lv_aload_n hx hb dX7_stage_108 rfl (lv_at hl 2 rfl) ?_
    refine lv_aload_n hx hb dX7_stage_109 rfl (lv_at hl 2 rfl) ?_
    refine z_get (C := RX7) (T := TX7) (N := 45) (v := .ref (ad 4)) hx hb hts (by decide +kernel) hown hK hS h1_mm rfl 4 (by decide) (hts (.fieldLink RX7 20 "PayLedgerModel" "used" "[Z") (by decide +kernel)) rfl dX7_stage_110 ?_
    refine lv_iload_n hx hb dX7_stage_113 rfl (lv_at hl 3 rfl) ?_
    refine z_zald hx hb hK hS h1_ad4 (vp_in_nI (by omega) (by decide)) dX7_stage_114 ?_
    refine z_ti (y := ((K 4) (t))) (congrArg _ (nI_clamp (by omega))) ?_
    refine z_ti (y := 1) hu ?_
    refine lv_iconst (v := 3) hx hb dX7_stage_115 (by decide) ?_
    refine z_invV (As := [.int (1), .int (3)]) (rest := []) (n := 2) ⟨hx, hb, hml, hown, hts⟩ (c1_X7_throwsIf l D cs w1 H.size mm ad (0) (nI nb) (dd) (wk) (br) (yr) (wd) 3 h1_mm) gX7_stage_X7_throwsIf rfl ⟨rfl, by decide +kernel, by decide +kernel, by decide +kernel⟩ ⟨Nat.le_of_ble_eq_true rfl, Nat.le_of_ble_eq_true rfl⟩ hK hE hS rfl h1_mm rfl hl.1 rfl (Nat.le_of_ble_eq_true rfl) dX7_stage_116 ⟨Nat.le_of_ble_eq_true rfl, Nat.le_of_ble_eq_true rfl⟩ (fun v9 u2 H locs hq hS => ?_)
    obtain ⟨rfl, hx2⟩ := hq
    have h3_mm : u2 (mm) = some (mo ad (3) (nI nb) (dd) (wk) (br) (yr) (wd)) := hx2.at 0 rfl
    have h3_ad1 : u2 (ad 1) = some (eJ cs (72) (J 1)) := hx2.old h1_ad1 (zm1 (zne h1_ad1 h1_mm (by intro q9; first | cases q9 | simp at q9)) zm0)
    have h3_ad3 : u2 (ad 3) = some (eI cs (6) (K 3)) := hx2.old h1_ad3 (zm1 (zne h1_ad3 h1_mm (by intro q9; first | cases q9 | simp at q9)) zm0)
    have h3_ad4 : u2 (ad 4) = some (eZ cs (6) (K 4)) := hx2.old h1_ad4 (zm1 (zne h1_ad4 h1_mm (by intro q9; first | cases q9 | simp at q9)) zm0)
    refine W.eq (g2 := F0 m 119 ls [.int (1)]) rfl ?_
    refine lv_if_ne (tgt := 142) hx hb dX7_stage_119 (by decide) (fun _ => ?_) (fun cq9 => absurd cq9 (by decide))
    refine lv_iconst (v := 0) hx hb dX7_stage_142 (by decide) ?_
    have hex : zEx w u2 [(mm, (mo ad (3) (nI nb) (dd) (wk) (br) (yr) (wd)))] := ⟨(zm1 h3_mm zm0), fun a9 h9 => by rw [hx2.2 a9 (zm1 (show a9 ≠ mm from h9 (mm, (mo ad (3) (nI nb) (dd) (wk) (br) (yr) (wd))) (List.mem_of_getElem? (i := 0) rfl)) zm0), ew1, va_up_ne _ _ (show a9 ≠ mm from h9 (mm, (mo ad (3) (nI nb) (dd) (wk) (br) (yr) (wd))) (List.mem_of_getElem? (i := 0) rfl))]⟩
    exact z_iret hx hb hr hlocks hS (Nat.le_of_ble_eq_true rfl) (Nat.le_of_ble_eq_true rfl) dX7_stage_143 ⟨rfl, zMQ.o hM h_m hinj hex⟩
  · refine lv_lload_n hx hb dX7_stage_55 rfl (lv_at hl 3 rfl) ?_
    refine lv_lconst (v := 0) hx hb dX7_stage_56 (by decide) ?_
    refine z_lif_ne (tgt := 87) hx hb dX7_stage_57 dX7_stage_58 (by decide) (fun cq9 => absurd ((zMay_1 hmay).2.1 (nI_0e (by omega) c52)) cq9) (fun _ => ?_)
    refine lv_goto (tgt := 83) hx hb dX7_stage_61 (by decide) ?_
    refine lv_iconst (v := 1) hx hb dX7_stage_83 (by decide) ?_
    refine lv_goto (tgt := 88) hx hb dX7_stage_84 (by decide) ?_
    refine lv_istore (lv' := [(6, .int (1)), (5, .int (nI n)), (0, .ref (mm)), (1, .int (nI t)), (2, .long (floor)), (4, .int (rate))]) hx hb dX7_stage_88 hl (by decide) rfl (fun ls hl => ?_)
    refine lv_aload_n hx hb dX7_stage_90 rfl (lv_at hl 2 rfl) ?_
    refine lv_iload hx hb dX7_stage_91 (lv_at hl 0 rfl) ?_
    refine lv_if_ne (tgt := 100) hx hb dX7_stage_93 (by decide) (fun _ => ?_) (fun cq9 => absurd cq9 (by decide))
    refine lv_iconst (v := 0) hx hb dX7_stage_100 (by decide) ?_
    refine lv_iconst (v := 2) hx hb dX7_stage_101 (by decide) ?_
    refine z_rV (As := [.int (0), .int (2)]) (rest := []) (n := 2) ⟨hx, hb, hml, hown, hts⟩ (c0_X7_throwsIf l D cs w1 H.size mm ad (0) (nI nb) (dd) (wk) (br) (yr) (wd) 2 h1_mm) gX7_stage_X7_throwsIf rfl ⟨rfl, by decide +kernel, by decide +kernel, by decide +kernel⟩ ⟨Nat.le_of_ble_eq_true rfl, Nat.le_of_ble_eq_true rfl⟩ hK hE hS rfl h1_mm rfl hl.1 rfl (Nat.le_of_ble_eq_true rfl) dX7_stage_102 ⟨Nat.le_of_ble_eq_true rfl, Nat.le_of_ble_eq_true rfl⟩ (fun H locs hS => ?_)
    refine lv_if_ne (tgt := 142) hx hb dX7_stage_105 (by decide) (fun cq9 => absurd rfl cq9) (fun _ => ?_)
    refine lv_aload_n hx hb dX7_stage_108 rfl (lv_at hl 2 rfl) ?_
    refine lv_aload_n hx hb dX7_stage_109 rfl (lv_at hl 2 rfl) ?_
    refine z_get (C := RX7) (T := TX7) (N := 45) (v := .ref (ad 4)) hx hb hts (by decide +kernel) hown hK hS h1_mm rfl 4 (by decide) (hts (.fieldLink RX7 20 "PayLedgerModel" "used" "[Z") (by decide +kernel)) rfl dX7_stage_110 ?_
    refine lv_iload_n hx hb dX7_stage_113 rfl (lv_at hl 3 rfl) ?_
    refine z_zald hx hb hK hS h1_ad4 (vp_in_nI (by omega) (by decide)) dX7_stage_114 ?_
    refine z_ti (y := ((K 4) (t))) (congrArg _ (nI_clamp (by omega))) ?_
    refine z_ti (y := 1) hu ?_
    refine lv_iconst (v := 3) hx hb dX7_stage_115 (by decide) ?_
    refine z_invV (As := [.int (1), .int (3)]) (rest := []) (n := 2) ⟨hx, hb, hml, hown, hts⟩ (c1_X7_throwsIf l D cs w1 H.size mm ad (0) (nI nb) (dd) (wk) (br) (yr) (wd) 3 h1_mm) gX7_stage_X7_throwsIf rfl ⟨rfl, by decide +kernel, by decide +kernel, by decide +kernel⟩ ⟨Nat.le_of_ble_eq_true rfl, Nat.le_of_ble_eq_true rfl⟩ hK hE hS rfl h1_mm rfl hl.1 rfl (Nat.le_of_ble_eq_true rfl) dX7_stage_116 ⟨Nat.le_of_ble_eq_true rfl, Nat.le_of_ble_eq_true rfl⟩ (fun v9 u4 H locs hq hS => ?_)
    obtain ⟨rfl, hx4⟩ := hq
    have h5_mm : u4 (mm) = some (mo ad (3) (nI nb) (dd) (wk) (br) (yr) (wd)) := hx4.at 0 rfl
    have h5_ad1 : u4 (ad 1) = some (eJ cs (72) (J 1)) := hx4.old h1_ad1 (zm1 (zne h1_ad1 h1_mm (by intro q9; first | cases q9 | simp at q9)) zm0)
    have h5_ad3 : u4 (ad 3) = some (eI cs (6) (K 3)) := hx4.old h1_ad3 (zm1 (zne h1_ad3 h1_mm (by intro q9; first | cases q9 | simp at q9)) zm0)
    have h5_ad4 : u4 (ad 4) = some (eZ cs (6) (K 4)) := hx4.old h1_ad4 (zm1 (zne h1_ad4 h1_mm (by intro q9; first | cases q9 | simp at q9)) zm0)
    refine W.eq (g2 := F0 m 119 ls [.int (1)]) rfl ?_
    refine lv_if_ne (tgt := 142) hx hb dX7_stage_119 (by decide) (fun _ => ?_) (fun cq9 => absurd cq9 (by decide))
    refine lv_iconst (v := 0) hx hb dX7_stage_142 (by decide) ?_
    have hex : zEx w u4 [(mm, (mo ad (3) (nI nb) (dd) (wk) (br) (yr) (wd)))] := ⟨(zm1 h5_mm zm0), fun a9 h9 => by rw [hx4.2 a9 (zm1 (show a9 ≠ mm from h9 (mm, (mo ad (3) (nI nb) (dd) (wk) (br) (yr) (wd))) (List.mem_of_getElem? (i := 0) rfl)) zm0), ew1, va_up_ne _ _ (show a9 ≠ mm from h9 (mm, (mo ad (3) (nI nb) (dd) (wk) (br) (yr) (wd))) (List.mem_of_getElem? (i := 0) rfl))]⟩
    exact z_iret hx hb hr hlocks hS (Nat.le_of_ble_eq_true rfl) (Nat.le_of_ble_eq_true rfl) dX7_stage_143 ⟨rfl, zMQ.o hM h_m hinj hex⟩
set_option maxHeartbeats 4000000 in
set_option maxRecDepth 100000 in
theorem t4_X7_stage (l : Launch) (D : va_G) (cs : Nat → ClassId) (w : zw) (sz : Nat) (mm : Nat) (ad : Nat → Nat) (J : Nat → Nat → Int64) (K : Nat → Nat → Int32) (th dd wk br yr wd : Int32) (nb t n : Nat) (Fx : Nat → Int64) (floor : Int64) (rate : Int32) (hinj : ∀ i j : Nat, i ≠ j → ad i ≠ ad j) (hM : zMA cs w ad J K) (hnb : nb ≤ 6) (ht : t < nb) (hk3 : K 3 t = nI n) (hn : n ≤ 12) (hF : ∀ i : Nat, i < n → J 1 (12 * t + i) = Fx i) (hrt : zUpTo rate.toInt64 1000000 = 1) (hmay : zMay Fx n floor = 1) (hu : K 4 t = 0) (h12 : n = 12) (h_m : w (mm) = some (mo ad (th) (nI nb) (dd) (wk) (br) (yr) (wd))) : zM l D cs yX7_stage wsX7_stage 3 0 0 w sz [.ref (mm), .int (nI t), .long (floor), .int (rate)] (fun r w2 => r = some (.int 0) ∧ zMQ cs w w2 ad mm (mo ad (4) (nI nb) (dd) (wk) (br) (yr) (wd)) J K) := by
  refine z_met (cc := cX7_stage) (maxL := 7) (ret := (some .int)) (by decide) rfl (Nat.le_of_ble_eq_true rfl) ?_
  intro p e s m below meth c hx hb hr hml hown hts hlocks hnm hsz hK hE hS ls hl
  have hl : lv_has ls 7 [(0, .ref (mm)), (1, .int (nI t)), (2, .long (floor)), (4, .int (rate))] := hl
  have h_1 : w (ad 1) = some (eJ cs (72) (J 1)) := hM 1 (by decide)
  have h_3 : w (ad 3) = some (eI cs (6) (K 3)) := hM 3 (by decide)
  have h_4 : w (ad 4) = some (eZ cs (6) (K 4)) := hM 4 (by decide)
  refine lv_aload_n hx hb dX7_stage_0 rfl (lv_at hl 0 rfl) ?_
  refine lv_iconst (v := 0) hx hb dX7_stage_1 (by decide) ?_
  refine z_put (C := RX7) (T := TX7) (N := 45) (v := .int (0)) hx hb hts (by decide +kernel) tyX7 tyX7_ok nmX7 hown hK hS h_m rfl 0 (by decide) (hts (.fieldLink RX7 126 "PayLedgerModel" "thrown" "I") (by decide +kernel)) rfl rfl rfl (Nat.le_of_ble_eq_true rfl) dX7_stage_2 (fun H locs hS => ?_)
  obtain ⟨w1, ew1⟩ : ∃ z : zw, z = va_up w (mm) (some (mo ad (0) (nI nb) (dd) (wk) (br) (yr) (wd))) := ⟨_, rfl⟩
  have hS : zS (zA w sz) D w1 s.heap H locs := by rw [ew1]; exact hS
  have h1_mm : w1 (mm) = some (mo ad (0) (nI nb) (dd) (wk) (br) (yr) (wd)) := by rw [ew1]; exact va_up_self _ _ _
  have h1_ad1 : w1 (ad 1) = some (eJ cs (72) (J 1)) := by rw [ew1]; exact (va_up_ne _ _ (zne h_1 h_m (by intro q9; first | cases q9 | simp at q9))).trans h_1
  have h1_ad3 : w1 (ad 3) = some (eI cs (6) (K 3)) := by rw [ew1]; exact (va_up_ne _ _ (zne h_3 h_m (by intro q9; first | cases q9 | simp at q9))).trans h_3
  have h1_ad4 : w1 (ad 4) = some (eZ cs (6) (K 4)) := by rw [ew1]; exact (va_up_ne _ _ (zne h_4 h_m (by intro q9; first | cases q9 | simp at q9))).trans h_4
  refine lv_aload_n hx hb dX7_stage_5 rfl (lv_at hl 0 rfl) ?_
  refine lv_aload_n hx hb dX7_stage_6 rfl (lv_at hl 0 rfl) ?_
  refine lv_iload_n hx hb dX7_stage_7 rfl (lv_at hl 1 rfl) ?_
  refine lv_i2l (v := ((nI t : Int32).toInt64)) hx hb dX7_stage_8 rfl ?_
  refine z_tl (y := lN t) (nI_l (by omega)) ?_
  refine z_rV (As := [.long (lN t)]) (rest := [.ref (mm)]) (n := 1) ⟨hx, hb, hml, hown, hts⟩ (c_X7_noTable l D cs w1 H.size mm ad (0) (dd) (wk) (br) (yr) (wd) nb t (by omega) ht h1_mm) gX7_stage_X7_noTable rfl ⟨rfl, by decide +kernel, by decide +kernel, by decide +kernel⟩ ⟨Nat.le_of_ble_eq_true rfl, Nat.le_of_ble_eq_true rfl⟩ hK hE hS rfl h1_mm rfl hl.1 rfl (Nat.le_of_ble_eq_true rfl) dX7_stage_9 ⟨Nat.le_of_ble_eq_true rfl, Nat.le_of_ble_eq_true rfl⟩ (fun H locs hS => ?_)
  refine lv_iconst (v := 1) hx hb dX7_stage_12 (by decide) ?_
  refine z_rV (As := [.int (0), .int (1)]) (rest := []) (n := 2) ⟨hx, hb, hml, hown, hts⟩ (c0_X7_throwsIf l D cs w1 H.size mm ad (0) (nI nb) (dd) (wk) (br) (yr) (wd) 1 h1_mm) gX7_stage_X7_throwsIf rfl ⟨rfl, by decide +kernel, by decide +kernel, by decide +kernel⟩ ⟨Nat.le_of_ble_eq_true rfl, Nat.le_of_ble_eq_true rfl⟩ hK hE hS rfl h1_mm rfl hl.1 rfl (Nat.le_of_ble_eq_true rfl) dX7_stage_13 ⟨Nat.le_of_ble_eq_true rfl, Nat.le_of_ble_eq_true rfl⟩ (fun H locs hS => ?_)
  refine lv_if_eq (tgt := 21) hx hb dX7_stage_16 (by decide) (fun _ => ?_) (fun cq9 => absurd rfl cq9)
  refine lv_aload_n hx hb dX7_stage_21 rfl (lv_at hl 0 rfl) ?_
  refine z_get (C := RX7) (T := TX7) (N := 45) (v := .ref (ad 3)) hx hb hts (by decide +kernel) hown hK hS h1_mm rfl 3 (by decide) (hts (.fieldLink RX7 17 "PayLedgerModel" "stages" "[I") (by decide +kernel)) rfl dX7_stage_22 ?_
  refine lv_iload_n hx hb dX7_stage_25 rfl (lv_at hl 1 rfl) ?_
  refine z_iald hx hb hK hS h1_ad3 (vp_in_nI (by omega) (by decide)) dX7_stage_26 ?_
  refine z_ti (y := ((K 3) (t))) (congrArg _ (nI_clamp (by omega))) ?_
  refine z_ti (y := nI n) hk3 ?_
  refine lv_istore (lv' := [(5, .int (nI n)), (0, .ref (mm)), (1, .int (nI t)), (2, .long (floor)), (4, .int (rate))]) hx hb dX7_stage_27 hl (by decide) rfl (fun ls hl => ?_)
  refine lv_iload hx hb dX7_stage_29 (lv_at hl 4 rfl) ?_
  refine lv_i2l (v := ((rate : Int32).toInt64)) hx hb dX7_stage_31 rfl ?_
  refine lv_lconst (v := 0) hx hb dX7_stage_32 (by decide) ?_
  refine lv_ldc2 (v := 1000000) hx hb hown (hts (.constantLong RX7 136 (1000000)) (by decide +kernel)) dX7_stage_33 ?_
  refine z_rS (As := [.long (((rate : Int32).toInt64)), .long (0), .long (1000000)]) (rest := []) (n := 3) ⟨hx, hb, hml, hown, hts⟩ (c_X7_in l D cs w1 H.size (rate.toInt64) (0) (1000000)) gX7_stage_X7_in rfl ⟨by decide +kernel, by decide +kernel, by decide +kernel⟩ ⟨Nat.le_of_ble_eq_true rfl, Nat.le_of_ble_eq_true rfl⟩ hK hE hS rfl hl.1 rfl (Nat.le_of_ble_eq_true rfl) dX7_stage_36 ⟨Nat.le_of_ble_eq_true rfl, Nat.le_of_ble_eq_true rfl⟩ (fun H locs hS => ?_)
  refine lv_if_eq (tgt := 87) hx hb dX7_stage_39 (by decide) (fun cq9 => absurd cq9 (by rw [show mIn rate.toInt64 0 1000000 = 1 from hrt]; decide)) (fun _ => ?_)
  refine lv_lload_n hx hb dX7_stage_42 rfl (lv_at hl 3 rfl) ?_
  refine lv_ldc2 (v := 1000000000000) hx hb hown (hts (.constantLong RX7 210 (1000000000000)) (by decide +kernel)) dX7_stage_43 ?_
  refine z_lif_gt (tgt := 87) hx hb dX7_stage_46 dX7_stage_47 (by decide) (fun cq9 => absurd cq9 (zMay_1 hmay).1) (fun _ => ?_)
  refine lv_iload hx hb dX7_stage_50 (lv_at hl 0 rfl) ?_
  refine lv_if_ne (tgt := 64) hx hb dX7_stage_52 (by decide) (fun c52 => ?_) (fun c52 => ?_)
  · have hn0 : n ≠ 0 := fun q9 => c52 (by rw [q9]; rfl)
    refine lv_lload_n hx hb dX7_stage_64 rfl (lv_at hl 3 rfl) ?_
    refine lv_aload_n hx hb dX7_stage_65 rfl (lv_at hl 1 rfl) ?_
    refine z_get (C := RX7) (T := TX7) (N := 45) (v := .ref (ad 1)) hx hb hts (by decide +kernel) hown hK hS h1_mm rfl 1 (by decide) (hts (.fieldLink RX7 9 "PayLedgerModel" "floors" "[J") (by decide +kernel)) rfl dX7_stage_66 ?_
    refine lv_bipush (v := 12) hx hb dX7_stage_69 (by decide) ?_
    refine lv_iload_n hx hb dX7_stage_71 rfl (lv_at hl 2 rfl) ?_
    refine lv_imul hx hb dX7_stage_72 ?_
    refine z_ti (y := nI (12 * t)) (zI_mul (12) (t)) ?_
    refine lv_iload hx hb dX7_stage_73 (lv_at hl 0 rfl) ?_
    refine lv_iadd hx hb dX7_stage_75 ?_
    refine z_ti (y := nI ((12 * t) + n)) (nI_add ((12 * t)) (n)) ?_
    refine lv_iconst (v := 1) hx hb dX7_stage_76 (by decide) ?_
    refine lv_isub hx hb dX7_stage_77 ?_
    refine z_ti (y := nI (12 * t + (n - 1))) (zI_pred1 hn0) ?_
    refine z_lald hx hb hK hS h1_ad1 (vp_in_nI (by omega) (by decide)) dX7_stage_78 ?_
    refine z_tl (y := ((J 1) ((12 * t + (n - 1))))) (congrArg _ (nI_clamp (by omega))) ?_
    refine z_tl (y := Fx (n - 1)) (hF (n - 1) (by omega)) ?_
    refine z_lif_le (tgt := 87) hx hb dX7_stage_79 dX7_stage_80 (by decide) (fun cq9 => absurd cq9 ((zMay_1 hmay).2.2 hn0)) (fun _ => ?_)
    refine lv_iconst (v := 1) hx hb dX7_stage_83 (by decide) ?_
    refine lv_goto (tgt := 88) hx hb dX7_stage_84 (by decide) ?_
    refine lv_istore (lv' := [(6, .int (1)), (5, .int (nI n)), (0, .ref (mm)), (1, .int (nI t)), (2, .long (floor)), (4, .int (rate))]) hx hb dX7_stage_88 hl (by decide) rfl (fun ls hl => ?_)
    refine lv_aload_n hx hb dX7_stage_90 rfl (lv_at hl 2 rfl) ?_
    refine lv_iload hx hb dX7_stage_91 (lv_at hl 0 rfl) ?_
    refine lv_if_ne (tgt := 100) hx hb dX7_stage_93 (by decide) (fun _ => ?_) (fun cq9 => absurd cq9 (by decide))
    refine lv_iconst (v := 0) hx hb dX7_stage_100 (by decide) ?_
    refine lv_iconst (v := 2) hx hb dX7_stage_101 (by decide) ?_
    refine z_rV (As := [.int (0), .int (2)]) (rest := []) (n := 2) ⟨hx, hb, hml, hown, hts⟩ (c0_X7_throwsIf l D cs w1 H.size mm ad (0) (nI nb) (dd) (wk) (br) (yr) (wd) 2 h1_mm) gX7_stage_X7_throwsIf rfl ⟨rfl, by decide +kernel, by decide +kernel, by decide +kernel⟩ ⟨Nat.le_of_ble_eq_true rfl, Nat.le_of_ble_eq_true rfl⟩ hK hE hS rfl h1_mm rfl hl.1 rfl (Nat.le_of_ble_eq_true rfl) dX7_stage_102 ⟨Nat.le_of_ble_eq_true rfl, Nat.le_of_ble_eq_true rfl⟩ (fun H locs hS => ?_)
    refine lv_if_ne (tgt := 142) hx hb dX7_stage_105 (by decide) (fun cq9 => absurd rfl cq9) (fun _ => ?_)
    refine lv_aload_n hx hb dX7_stage_108 rfl (lv_at hl 2 rfl) ?_
    refine lv_aload_n hx hb dX7_stage_109 rfl (lv_at hl 2 rfl) ?_
    refine z_get (C := RX7) (T := TX7) (N := 45) (v := .ref (ad 4)) hx hb hts (by decide +kernel) hown hK hS h1_mm rfl 4 (by decide) (hts (.fieldLink RX7 20 "PayLedgerModel" "used" "[Z") (by decide +kernel)) rfl dX7_stage_110 ?_
    refine lv_iload_n hx hb dX7_stage_113 rfl (lv_at hl 3 rfl) ?_
    refine z_zald hx hb hK hS h1_ad4 (vp_in_nI (by omega) (by decide)) dX7_stage_114 ?_
    refine z_ti (y := ((K 4) (t))) (congrArg _ (nI_clamp (by omega))) ?_
    refine z_ti (y := 0) hu ?_
    refine lv_iconst (v := 3) hx hb dX7_stage_115 (by decide) ?_
    refine z_rV (As := [.int (0), .int (3)]) (rest := []) (n := 2) ⟨hx, hb, hml, hown, hts⟩ (c0_X7_throwsIf l D cs w1 H.size mm ad (0) (nI nb) (dd) (wk) (br) (yr) (wd) 3 h1_mm) gX7_stage_X7_throwsIf rfl ⟨rfl, by decide +kernel, by decide +kernel, by decide +kernel⟩ ⟨Nat.le_of_ble_eq_true rfl, Nat.le_of_ble_eq_true rfl⟩ hK hE hS rfl h1_mm rfl hl.1 rfl (Nat.le_of_ble_eq_true rfl) dX7_stage_116 ⟨Nat.le_of_ble_eq_true rfl, Nat.le_of_ble_eq_true rfl⟩ (fun H locs hS => ?_)
    refine lv_if_ne (tgt := 142) hx hb dX7_stage_119 (by decide) (fun cq9 => absurd rfl cq9) (fun _ => ?_)
    refine lv_aload_n hx hb dX7_stage_122 rfl (lv_at hl 2 rfl) ?_
    refine lv_iload hx hb dX7_stage_123 (lv_at hl 1 rfl) ?_
    refine lv_bipush (v := 12) hx hb dX7_stage_125 (by decide) ?_
    refine lv_icmp_ne (tgt := 134) hx hb dX7_stage_127 (by decide) (fun cq9 => absurd (by rw [h12]; rfl) cq9) (fun _ => ?_)
    refine lv_iconst (v := 1) hx hb dX7_stage_130 (by decide) ?_
    refine lv_goto (tgt := 135) hx hb dX7_stage_131 (by decide) ?_
    refine lv_iconst (v := 4) hx hb dX7_stage_135 (by decide) ?_
    refine z_invV (As := [.int (1), .int (4)]) (rest := []) (n := 2) ⟨hx, hb, hml, hown, hts⟩ (c1_X7_throwsIf l D cs w1 H.size mm ad (0) (nI nb) (dd) (wk) (br) (yr) (wd) 4 h1_mm) gX7_stage_X7_throwsIf rfl ⟨rfl, by decide +kernel, by decide +kernel, by decide +kernel⟩ ⟨Nat.le_of_ble_eq_true rfl, Nat.le_of_ble_eq_true rfl⟩ hK hE hS rfl h1_mm rfl hl.1 rfl (Nat.le_of_ble_eq_true rfl) dX7_stage_136 ⟨Nat.le_of_ble_eq_true rfl, Nat.le_of_ble_eq_true rfl⟩ (fun v9 u2 H locs hq hS => ?_)
    obtain ⟨rfl, hx2⟩ := hq
    have h3_mm : u2 (mm) = some (mo ad (4) (nI nb) (dd) (wk) (br) (yr) (wd)) := hx2.at 0 rfl
    have h3_ad1 : u2 (ad 1) = some (eJ cs (72) (J 1)) := hx2.old h1_ad1 (zm1 (zne h1_ad1 h1_mm (by intro q9; first | cases q9 | simp at q9)) zm0)
    have h3_ad3 : u2 (ad 3) = some (eI cs (6) (K 3)) := hx2.old h1_ad3 (zm1 (zne h1_ad3 h1_mm (by intro q9; first | cases q9 | simp at q9)) zm0)
    have h3_ad4 : u2 (ad 4) = some (eZ cs (6) (K 4)) := hx2.old h1_ad4 (zm1 (zne h1_ad4 h1_mm (by intro q9; first | cases q9 | simp at q9)) zm0)
    refine W.eq (g2 := F0 m 139 ls [.int (1)]) rfl ?_
    refine lv_if_eq (tgt := 144) hx hb dX7_stage_139 (by decide) (fun cq9 => absurd cq9 (by decide)) (fun _ => ?_)
    refine lv_iconst (v := 0) hx hb dX7_stage_142 (by decide) ?_
    have hex : zEx w u2 [(mm, (mo ad (4) (nI nb) (dd) (wk) (br) (yr) (wd)))] := ⟨(zm1 h3_mm zm0), fun a9 h9 => by rw [hx2.2 a9 (zm1 (show a9 ≠ mm from h9 (mm, (mo ad (4) (nI nb) (dd) (wk) (br) (yr) (wd))) (List.mem_of_getElem? (i := 0) rfl)) zm0), ew1, va_up_ne _ _ (show a9 ≠ mm from h9 (mm, (mo ad (4) (nI nb) (dd) (wk) (br) (yr) (wd))) (List.mem_of_getElem? (i := 0) rfl))]⟩
    exact z_iret hx hb hr hlocks hS (Nat.le_of_ble_eq_true rfl) (Nat.le_of_ble_eq_true rfl) dX7_stage_143 ⟨rfl, zMQ.o hM h_m hinj hex⟩
  · refine lv_lload_n hx hb dX7_stage_55 rfl (lv_at hl 3 rfl) ?_
    refine lv_lconst (v := 0) hx hb dX7_stage_56 (by decide) ?_
    refine z_lif_ne (tgt := 87) hx hb dX7_stage_57 dX7_stage_58 (by decide) (fun cq9 => absurd ((zMay_1 hmay).2.1 (nI_0e (by omega) c52)) cq9) (fun _ => ?_)
    refine lv_goto (tgt := 83) hx hb dX7_stage_61 (by decide) ?_
    refine lv_iconst (v := 1) hx hb dX7_stage_83 (by decide) ?_
    refine lv_goto (tgt := 88) hx hb dX7_stage_84 (by decide) ?_
    refine lv_istore (lv' := [(6, .int (1)), (5, .int (nI n)), (0, .ref (mm)), (1, .int (nI t)), (2, .long (floor)), (4, .int (rate))]) hx hb dX7_stage_88 hl (by decide) rfl (fun ls hl => ?_)
    refine lv_aload_n hx hb dX7_stage_90 rfl (lv_at hl 2 rfl) ?_
    refine lv_iload hx hb dX7_stage_91 (lv_at hl 0 rfl) ?_
    refine lv_if_ne (tgt := 100) hx hb dX7_stage_93 (by decide) (fun _ => ?_) (fun cq9 => absurd cq9 (by decide))
    refine lv_iconst (v := 0) hx hb dX7_stage_100 (by decide) ?_
    refine lv_iconst (v := 2) hx hb dX7_stage_101 (by decide) ?_
    refine z_rV (As := [.int (0), .int (2)]) (rest := []) (n := 2) ⟨hx, hb, hml, hown, hts⟩ (c0_X7_throwsIf l D cs w1 H.size mm ad (0) (nI nb) (dd) (wk) (br) (yr) (wd) 2 h1_mm) gX7_stage_X7_throwsIf rfl ⟨rfl, by decide +kernel, by decide +kernel, by decide +kernel⟩ ⟨Nat.le_of_ble_eq_true rfl, Nat.le_of_ble_eq_true rfl⟩ hK hE hS rfl h1_mm rfl hl.1 rfl (Nat.le_of_ble_eq_true rfl) dX7_stage_102 ⟨Nat.le_of_ble_eq_true rfl, Nat.le_of_ble_eq_true rfl⟩ (fun H locs hS => ?_)
    refine lv_if_ne (tgt := 142) hx hb dX7_stage_105 (by decide) (fun cq9 => absurd rfl cq9) (fun _ => ?_)
    refine lv_aload_n hx hb dX7_stage_108 rfl (lv_at hl 2 rfl) ?_
    refine lv_aload_n hx hb dX7_stage_109 rfl (lv_at hl 2 rfl) ?_
    refine z_get (C := RX7) (T := TX7) (N := 45) (v := .ref (ad 4)) hx hb hts (by decide +kernel) hown hK hS h1_mm rfl 4 (by decide) (hts (.fieldLink RX7 20 "PayLedgerModel" "used" "[Z") (by decide +kernel)) rfl dX7_stage_110 ?_
    refine lv_iload_n hx hb dX7_stage_113 rfl (lv_at hl 3 rfl) ?_
    refine z_zald hx hb hK hS h1_ad4 (vp_in_nI (by omega) (by decide)) dX7_stage_114 ?_
    refine z_ti (y := ((K 4) (t))) (congrArg _ (nI_clamp (by omega))) ?_
    refine z_ti (y := 0) hu ?_
    refine lv_iconst (v := 3) hx hb dX7_stage_115 (by decide) ?_
    refine z_rV (As := [.int (0), .int (3)]) (rest := []) (n := 2) ⟨hx, hb, hml, hown, hts⟩ (c0_X7_throwsIf l D cs w1 H.size mm ad (0) (nI nb) (dd) (wk) (br) (yr) (wd) 3 h1_mm) gX7_stage_X7_throwsIf rfl ⟨rfl, by decide +kernel, by decide +kernel, by decide +kernel⟩ ⟨Nat.le_of_ble_eq_true rfl, Nat.le_of_ble_eq_true rfl⟩ hK hE hS rfl h1_mm rfl hl.1 rfl (Nat.le_of_ble_eq_true rfl) dX7_stage_116 ⟨Nat.le_of_ble_eq_true rfl, Nat.le_of_ble_eq_true rfl⟩ (fun H locs hS => ?_)
    refine lv_if_ne (tgt := 142) hx hb dX7_stage_119 (by decide) (fun cq9 => absurd rfl cq9) (fun _ => ?_)
    refine lv_aload_n hx hb dX7_stage_122 rfl (lv_at hl 2 rfl) ?_
    refine lv_iload hx hb dX7_stage_123 (lv_at hl 1 rfl) ?_
    refine lv_bipush (v := 12) hx hb dX7_stage_125 (by decide) ?_
    refine lv_icmp_ne (tgt := 134) hx hb dX7_stage_127 (by decide) (fun cq9 => absurd (by rw [h12]; rfl) cq9) (fun _ => ?_)
    refine lv_iconst (v := 1) hx hb dX7_stage_130 (by decide) ?_
    refine lv_goto (tgt := 135) hx hb dX7_stage_131 (by decide) ?_
    refine lv_iconst (v := 4) hx hb dX7_stage_135 (by decide) ?_
    refine z_invV (As := [.int (1), .int (4)]) (rest := []) (n := 2) ⟨hx, hb, hml, hown, hts⟩ (c1_X7_throwsIf l D cs w1 H.size mm ad (0) (nI nb) (dd) (wk) (br) (yr) (wd) 4 h1_mm) gX7_stage_X7_throwsIf rfl ⟨rfl, by decide +kernel, by decide +kernel, by decide +kernel⟩ ⟨Nat.le_of_ble_eq_true rfl, Nat.le_of_ble_eq_true rfl⟩ hK hE hS rfl h1_mm rfl hl.1 rfl (Nat.le_of_ble_eq_true rfl) dX7_stage_136 ⟨Nat.le_of_ble_eq_true rfl, Nat.le_of_ble_eq_true rfl⟩ (fun v9 u4 H locs hq hS => ?_)
    obtain ⟨rfl, hx4⟩ := hq
    have h5_mm : u4 (mm) = some (mo ad (4) (nI nb) (dd) (wk) (br) (yr) (wd)) := hx4.at 0 rfl
    have h5_ad1 : u4 (ad 1) = some (eJ cs (72) (J 1)) := hx4.old h1_ad1 (zm1 (zne h1_ad1 h1_mm (by intro q9; first | cases q9 | simp at q9)) zm0)
    have h5_ad3 : u4 (ad 3) = some (eI cs (6) (K 3)) := hx4.old h1_ad3 (zm1 (zne h1_ad3 h1_mm (by intro q9; first | cases q9 | simp at q9)) zm0)
    have h5_ad4 : u4 (ad 4) = some (eZ cs (6) (K 4)) := hx4.old h1_ad4 (zm1 (zne h1_ad4 h1_mm (by intro q9; first | cases q9 | simp at q9)) zm0)
    refine W.eq (g2 := F0 m 139 ls [.int (1)]) rfl ?_
    refine lv_if_eq (tgt := 144) hx hb dX7_stage_139 (by decide) (fun cq9 => absurd cq9 (by decide)) (fun _ => ?_)
    refine lv_iconst (v := 0) hx hb dX7_stage_142 (by decide) ?_
    have hex : zEx w u4 [(mm, (mo ad (4) (nI nb) (dd) (wk) (br) (yr) (wd)))] := ⟨(zm1 h5_mm zm0), fun a9 h9 => by rw [hx4.2 a9 (zm1 (show a9 ≠ mm from h9 (mm, (mo ad (4) (nI nb) (dd) (wk) (br) (yr) (wd))) (List.mem_of_getElem? (i := 0) rfl)) zm0), ew1, va_up_ne _ _ (show a9 ≠ mm from h9 (mm, (mo ad (4) (nI nb) (dd) (wk) (br) (yr) (wd))) (List.mem_of_getElem? (i := 0) rfl))]⟩
    exact z_iret hx hb hr hlocks hS (Nat.le_of_ble_eq_true rfl) (Nat.le_of_ble_eq_true rfl) dX7_stage_143 ⟨rfl, zMQ.o hM h_m hinj hex⟩
set_option maxHeartbeats 4000000 in
set_option maxRecDepth 100000 in
theorem c_X7_stage (l : Launch) (D : va_G) (cs : Nat → ClassId) (w : zw) (sz : Nat) (mm : Nat) (ad : Nat → Nat) (J : Nat → Nat → Int64) (K : Nat → Nat → Int32) (th dd wk br yr wd : Int32) (nb t n : Nat) (Fx : Nat → Int64) (floor : Int64) (rate : Int32) (hinj : ∀ i j : Nat, i ≠ j → ad i ≠ ad j) (hM : zMA cs w ad J K) (hnb : nb ≤ 6) (ht : t < nb) (hk3 : K 3 t = nI n) (hn : n ≤ 12) (hF : ∀ i : Nat, i < n → J 1 (12 * t + i) = Fx i) (hrt : zUpTo rate.toInt64 1000000 = 1) (hmay : zMay Fx n floor = 1) (hu : K 4 t = 0) (h12 : ¬ n = 12) (h_m : w (mm) = some (mo ad (th) (nI nb) (dd) (wk) (br) (yr) (wd))) : zM l D cs yX7_stage wsX7_stage 3 0 0 w sz [.ref (mm), .int (nI t), .long (floor), .int (rate)] (fun r w2 => r = some (.int (nI (n + 1))) ∧ zMQ cs w w2 ad mm (mo ad (0) (nI nb) (dd) (wk) (br) (yr) (wd)) (va_up J 1 (vp_updL (J 1) (12 * t + n) floor)) (va_up (va_up K 2 (upd (K 2) (12 * t + n) rate)) 3 (upd (K 3) t (nI (n + 1))))) := by
  refine z_met (cc := cX7_stage) (maxL := 7) (ret := (some .int)) (by decide) rfl (Nat.le_of_ble_eq_true rfl) ?_
  intro p e s m below meth c hx hb hr hml hown hts hlocks hnm hsz hK hE hS ls hl
  have hl : lv_has ls 7 [(0, .ref (mm)), (1, .int (nI t)), (2, .long (floor)), (4, .int (rate))] := hl
  have h_1 : w (ad 1) = some (eJ cs (72) (J 1)) := hM 1 (by decide)
  have h_2 : w (ad 2) = some (eI cs (72) (K 2)) := hM 2 (by decide)
  have h_3 : w (ad 3) = some (eI cs (6) (K 3)) := hM 3 (by decide)
  have h_4 : w (ad 4) = some (eZ cs (6) (K 4)) := hM 4 (by decide)
  refine lv_aload_n hx hb dX7_stage_0 rfl (lv_at hl 0 rfl) ?_
  refine lv_iconst (v := 0) hx hb dX7_stage_1 (by decide) ?_
  refine z_put (C := RX7) (T := TX7) (N := 45) (v := .int (0)) hx hb hts (by decide +kernel) tyX7 tyX7_ok nmX7 hown hK hS h_m rfl 0 (by decide) (hts (.fieldLink RX7 126 "PayLedgerModel" "thrown" "I") (by decide +kernel)) rfl rfl rfl (Nat.le_of_ble_eq_true rfl) dX7_stage_2 (fun H locs hS => ?_)
  obtain ⟨w1, ew1⟩ : ∃ z : zw, z = va_up w (mm) (some (mo ad (0) (nI nb) (dd) (wk) (br) (yr) (wd))) := ⟨_, rfl⟩
  have hS : zS (zA w sz) D w1 s.heap H locs := by rw [ew1]; exact hS
  have h1_mm : w1 (mm) = some (mo ad (0) (nI nb) (dd) (wk) (br) (yr) (wd)) := by rw [ew1]; exact va_up_self _ _ _
  have h1_ad1 : w1 (ad 1) = some (eJ cs (72) (J 1)) := by rw [ew1]; exact (va_up_ne _ _ (zne h_1 h_m (by intro q9; first | cases q9 | simp at q9))).trans h_1
  have h1_ad2 : w1 (ad 2) = some (eI cs (72) (K 2)) := by rw [ew1]; exact (va_up_ne _ _ (zne h_2 h_m (by intro q9; first | cases q9 | simp at q9))).trans h_2
  have h1_ad3 : w1 (ad 3) = some (eI cs (6) (K 3)) := by rw [ew1]; exact (va_up_ne _ _ (zne h_3 h_m (by intro q9; first | cases q9 | simp at q9))).trans h_3
  have h1_ad4 : w1 (ad 4) = some (eZ cs (6) (K 4)) := by rw [ew1]; exact (va_up_ne _ _ (zne h_4 h_m (by intro q9; first | cases q9 | simp at q9))).trans h_4
  refine lv_aload_n hx hb dX7_stage_5 rfl (lv_at hl 0 rfl) ?_
  refine lv_aload_n hx hb dX7_stage_6 rfl (lv_at hl 0 rfl) ?_
  refine lv_iload_n hx hb dX7_stage_7 rfl (lv_at hl 1 rfl) ?_
  refine lv_i2l (v := ((nI t : Int32).toInt64)) hx hb dX7_stage_8 rfl ?_
  refine z_tl (y := lN t) (nI_l (by omega)) ?_
  refine z_rV (As := [.long (lN t)]) (rest := [.ref (mm)]) (n := 1) ⟨hx, hb, hml, hown, hts⟩ (c_X7_noTable l D cs w1 H.size mm ad (0) (dd) (wk) (br) (yr) (wd) nb t (by omega) ht h1_mm) gX7_stage_X7_noTable rfl ⟨rfl, by decide +kernel, by decide +kernel, by decide +kernel⟩ ⟨Nat.le_of_ble_eq_true rfl, Nat.le_of_ble_eq_true rfl⟩ hK hE hS rfl h1_mm rfl hl.1 rfl (Nat.le_of_ble_eq_true rfl) dX7_stage_9 ⟨Nat.le_of_ble_eq_true rfl, Nat.le_of_ble_eq_true rfl⟩ (fun H locs hS => ?_)
  refine lv_iconst (v := 1) hx hb dX7_stage_12 (by decide) ?_
  refine z_rV (As := [.int (0), .int (1)]) (rest := []) (n := 2) ⟨hx, hb, hml, hown, hts⟩ (c0_X7_throwsIf l D cs w1 H.size mm ad (0) (nI nb) (dd) (wk) (br) (yr) (wd) 1 h1_mm) gX7_stage_X7_throwsIf rfl ⟨rfl, by decide +kernel, by decide +kernel, by decide +kernel⟩ ⟨Nat.le_of_ble_eq_true rfl, Nat.le_of_ble_eq_true rfl⟩ hK hE hS rfl h1_mm rfl hl.1 rfl (Nat.le_of_ble_eq_true rfl) dX7_stage_13 ⟨Nat.le_of_ble_eq_true rfl, Nat.le_of_ble_eq_true rfl⟩ (fun H locs hS => ?_)
  refine lv_if_eq (tgt := 21) hx hb dX7_stage_16 (by decide) (fun _ => ?_) (fun cq9 => absurd rfl cq9)
  refine lv_aload_n hx hb dX7_stage_21 rfl (lv_at hl 0 rfl) ?_
  refine z_get (C := RX7) (T := TX7) (N := 45) (v := .ref (ad 3)) hx hb hts (by decide +kernel) hown hK hS h1_mm rfl 3 (by decide) (hts (.fieldLink RX7 17 "PayLedgerModel" "stages" "[I") (by decide +kernel)) rfl dX7_stage_22 ?_
  refine lv_iload_n hx hb dX7_stage_25 rfl (lv_at hl 1 rfl) ?_
  refine z_iald hx hb hK hS h1_ad3 (vp_in_nI (by omega) (by decide)) dX7_stage_26 ?_
  refine z_ti (y := ((K 3) (t))) (congrArg _ (nI_clamp (by omega))) ?_
  refine z_ti (y := nI n) hk3 ?_
  refine lv_istore (lv' := [(5, .int (nI n)), (0, .ref (mm)), (1, .int (nI t)), (2, .long (floor)), (4, .int (rate))]) hx hb dX7_stage_27 hl (by decide) rfl (fun ls hl => ?_)
  refine lv_iload hx hb dX7_stage_29 (lv_at hl 4 rfl) ?_
  refine lv_i2l (v := ((rate : Int32).toInt64)) hx hb dX7_stage_31 rfl ?_
  refine lv_lconst (v := 0) hx hb dX7_stage_32 (by decide) ?_
  refine lv_ldc2 (v := 1000000) hx hb hown (hts (.constantLong RX7 136 (1000000)) (by decide +kernel)) dX7_stage_33 ?_
  refine z_rS (As := [.long (((rate : Int32).toInt64)), .long (0), .long (1000000)]) (rest := []) (n := 3) ⟨hx, hb, hml, hown, hts⟩ (c_X7_in l D cs w1 H.size (rate.toInt64) (0) (1000000)) gX7_stage_X7_in rfl ⟨by decide +kernel, by decide +kernel, by decide +kernel⟩ ⟨Nat.le_of_ble_eq_true rfl, Nat.le_of_ble_eq_true rfl⟩ hK hE hS rfl hl.1 rfl (Nat.le_of_ble_eq_true rfl) dX7_stage_36 ⟨Nat.le_of_ble_eq_true rfl, Nat.le_of_ble_eq_true rfl⟩ (fun H locs hS => ?_)
  refine lv_if_eq (tgt := 87) hx hb dX7_stage_39 (by decide) (fun cq9 => absurd cq9 (by rw [show mIn rate.toInt64 0 1000000 = 1 from hrt]; decide)) (fun _ => ?_)
  refine lv_lload_n hx hb dX7_stage_42 rfl (lv_at hl 3 rfl) ?_
  refine lv_ldc2 (v := 1000000000000) hx hb hown (hts (.constantLong RX7 210 (1000000000000)) (by decide +kernel)) dX7_stage_43 ?_
  refine z_lif_gt (tgt := 87) hx hb dX7_stage_46 dX7_stage_47 (by decide) (fun cq9 => absurd cq9 (zMay_1 hmay).1) (fun _ => ?_)
  refine lv_iload hx hb dX7_stage_50 (lv_at hl 0 rfl) ?_
  refine lv_if_ne (tgt := 64) hx hb dX7_stage_52 (by decide) (fun c52 => ?_) (fun c52 => ?_)
  · have hn0 : n ≠ 0 := fun q9 => c52 (by rw [q9]; rfl)
    refine lv_lload_n hx hb dX7_stage_64 rfl (lv_at hl 3 rfl) ?_
    refine lv_aload_n hx hb dX7_stage_65 rfl (lv_at hl 1 rfl) ?_
    refine z_get (C := RX7) (T := TX7) (N := 45) (v := .ref (ad 1)) hx hb hts (by decide +kernel) hown hK hS h1_mm rfl 1 (by decide) (hts (.fieldLink RX7 9 "PayLedgerModel" "floors" "[J") (by decide +kernel)) rfl dX7_stage_66 ?_
    refine lv_bipush (v := 12) hx hb dX7_stage_69 (by decide) ?_
    refine lv_iload_n hx hb dX7_stage_71 rfl (lv_at hl 2 rfl) ?_
    refine lv_imul hx hb dX7_stage_72 ?_
    refine z_ti (y := nI (12 * t)) (zI_mul (12) (t)) ?_
    refine lv_iload hx hb dX7_stage_73 (lv_at hl 0 rfl) ?_
    refine lv_iadd hx hb dX7_stage_75 ?_
    refine z_ti (y := nI ((12 * t) + n)) (nI_add ((12 * t)) (n)) ?_
    refine lv_iconst (v := 1) hx hb dX7_stage_76 (by decide) ?_
    refine lv_isub hx hb dX7_stage_77 ?_
    refine z_ti (y := nI (12 * t + (n - 1))) (zI_pred1 hn0) ?_
    refine z_lald hx hb hK hS h1_ad1 (vp_in_nI (by omega) (by decide)) dX7_stage_78 ?_
    refine z_tl (y := ((J 1) ((12 * t + (n - 1))))) (congrArg _ (nI_clamp (by omega))) ?_
    refine z_tl (y := Fx (n - 1)) (hF (n - 1) (by omega)) ?_
    refine z_lif_le (tgt := 87) hx hb dX7_stage_79 dX7_stage_80 (by decide) (fun cq9 => absurd cq9 ((zMay_1 hmay).2.2 hn0)) (fun _ => ?_)
    refine lv_iconst (v := 1) hx hb dX7_stage_83 (by decide) ?_
    refine lv_goto (tgt := 88) hx hb dX7_stage_84 (by decide) ?_
    refine lv_istore (lv' := [(6, .int (1)), (5, .int (nI n)), (0, .ref (mm)), (1, .int (nI t)), (2, .long (floor)), (4, .int (rate))]) hx hb dX7_stage_88 hl (by decide) rfl (fun ls hl => ?_)
    refine lv_aload_n hx hb dX7_stage_90 rfl (lv_at hl 2 rfl) ?_
    refine lv_iload hx hb dX7_stage_91 (lv_at hl 0 rfl) ?_
    refine lv_if_ne (tgt := 100) hx hb dX7_stage_93 (by decide) (fun _ => ?_) (fun cq9 => absurd cq9 (by decide))
    refine lv_iconst (v := 0) hx hb dX7_stage_100 (by decide) ?_
    refine lv_iconst (v := 2) hx hb dX7_stage_101 (by decide) ?_
    refine z_rV (As := [.int (0), .int (2)]) (rest := []) (n := 2) ⟨hx, hb, hml, hown, hts⟩ (c0_X7_throwsIf l D cs w1 H.size mm ad (0) (nI nb) (dd) (wk) (br) (yr) (wd) 2 h1_mm) gX7_stage_X7_throwsIf rfl ⟨rfl, by decide +kernel, by decide +kernel, by decide +kernel⟩ ⟨Nat.le_of_ble_eq_true rfl, Nat.le_of_ble_eq_true rfl⟩ hK hE hS rfl h1_mm rfl hl.1 rfl (Nat.le_of_ble_eq_true rfl) dX7_stage_102 ⟨Nat.le_of_ble_eq_true rfl, Nat.le_of_ble_eq_true rfl⟩ (fun H locs hS => ?_)
    refine lv_if_ne (tgt := 142) hx hb dX7_stage_105 (by decide) (fun cq9 => absurd rfl cq9) (fun _ => ?_)
    refine lv_aload_n hx hb dX7_stage_108 rfl (lv_at hl 2 rfl) ?_
    refine lv_aload_n hx hb dX7_stage_109 rfl (lv_at hl 2 rfl) ?_
    refine z_get (C := RX7) (T := TX7) (N := 45) (v := .ref (ad 4)) hx hb hts (by decide +kernel) hown hK hS h1_mm rfl 4 (by decide) (hts (.fieldLink RX7 20 "PayLedgerModel" "used" "[Z") (by decide +kernel)) rfl dX7_stage_110 ?_
    refine lv_iload_n hx hb dX7_stage_113 rfl (lv_at hl 3 rfl) ?_
    refine z_zald hx hb hK hS h1_ad4 (vp_in_nI (by omega) (by decide)) dX7_stage_114 ?_
    refine z_ti (y := ((K 4) (t))) (congrArg _ (nI_clamp (by omega))) ?_
    refine z_ti (y := 0) hu ?_
    refine lv_iconst (v := 3) hx hb dX7_stage_115 (by decide) ?_
    refine z_rV (As := [.int (0), .int (3)]) (rest := []) (n := 2) ⟨hx, hb, hml, hown, hts⟩ (c0_X7_throwsIf l D cs w1 H.size mm ad (0) (nI nb) (dd) (wk) (br) (yr) (wd) 3 h1_mm) gX7_stage_X7_throwsIf rfl ⟨rfl, by decide +kernel, by decide +kernel, by decide +kernel⟩ ⟨Nat.le_of_ble_eq_true rfl, Nat.le_of_ble_eq_true rfl⟩ hK hE hS rfl h1_mm rfl hl.1 rfl (Nat.le_of_ble_eq_true rfl) dX7_stage_116 ⟨Nat.le_of_ble_eq_true rfl, Nat.le_of_ble_eq_true rfl⟩ (fun H locs hS => ?_)
    refine lv_if_ne (tgt := 142) hx hb dX7_stage_119 (by decide) (fun cq9 => absurd rfl cq9) (fun _ => ?_)
    refine lv_aload_n hx hb dX7_stage_122 rfl (lv_at hl 2 rfl) ?_
    refine lv_iload hx hb dX7_stage_123 (lv_at hl 1 rfl) ?_
    refine lv_bipush (v := 12) hx hb dX7_stage_125 (by decide) ?_
    refine lv_icmp_ne (tgt := 134) hx hb dX7_stage_127 (by decide) (fun _ => ?_) (fun cq9 => absurd cq9 (fun q9 => h12 ((nI_eq (b := 12) (by omega) (by omega)).mp q9)))
    refine lv_iconst (v := 0) hx hb dX7_stage_134 (by decide) ?_
    refine lv_iconst (v := 4) hx hb dX7_stage_135 (by decide) ?_
    refine z_rV (As := [.int (0), .int (4)]) (rest := []) (n := 2) ⟨hx, hb, hml, hown, hts⟩ (c0_X7_throwsIf l D cs w1 H.size mm ad (0) (nI nb) (dd) (wk) (br) (yr) (wd) 4 h1_mm) gX7_stage_X7_throwsIf rfl ⟨rfl, by decide +kernel, by decide +kernel, by decide +kernel⟩ ⟨Nat.le_of_ble_eq_true rfl, Nat.le_of_ble_eq_true rfl⟩ hK hE hS rfl h1_mm rfl hl.1 rfl (Nat.le_of_ble_eq_true rfl) dX7_stage_136 ⟨Nat.le_of_ble_eq_true rfl, Nat.le_of_ble_eq_true rfl⟩ (fun H locs hS => ?_)
    refine lv_if_eq (tgt := 144) hx hb dX7_stage_139 (by decide) (fun _ => ?_) (fun cq9 => absurd rfl cq9)
    refine lv_aload_n hx hb dX7_stage_144 rfl (lv_at hl 2 rfl) ?_
    refine z_get (C := RX7) (T := TX7) (N := 45) (v := .ref (ad 1)) hx hb hts (by decide +kernel) hown hK hS h1_mm rfl 1 (by decide) (hts (.fieldLink RX7 9 "PayLedgerModel" "floors" "[J") (by decide +kernel)) rfl dX7_stage_145 ?_
    refine lv_bipush (v := 12) hx hb dX7_stage_148 (by decide) ?_
    refine lv_iload_n hx hb dX7_stage_150 rfl (lv_at hl 3 rfl) ?_
    refine lv_imul hx hb dX7_stage_151 ?_
    refine z_ti (y := nI (12 * t)) (zI_mul (12) (t)) ?_
    refine lv_iload hx hb dX7_stage_152 (lv_at hl 1 rfl) ?_
    refine lv_iadd hx hb dX7_stage_154 ?_
    refine z_ti (y := nI ((12 * t) + n)) (nI_add ((12 * t)) (n)) ?_
    refine lv_lload_n hx hb dX7_stage_155 rfl (lv_at hl 4 rfl) ?_
    refine z_last hx hb hK hS h1_ad1 (vp_in_nI (by omega) (by decide)) dX7_stage_156 (fun H locs hS => ?_)
    obtain ⟨w2, ew2⟩ : ∃ z : zw, z = va_up w1 (ad 1) (some (eJ cs (72) (vp_updL (J 1) (nI ((12 * t) + n) : Int32).toNatClampNeg (floor)))) := ⟨_, rfl⟩
    have hS : zS (zA w sz) D w2 s.heap H locs := by rw [ew2]; exact hS
    have h2_ad1 : w2 (ad 1) = some (eJ cs (72) (vp_updL (J 1) (nI ((12 * t) + n) : Int32).toNatClampNeg (floor))) := by rw [ew2]; exact va_up_self _ _ _
    have h2_ad2 : w2 (ad 2) = some (eI cs (72) (K 2)) := by rw [ew2]; exact (va_up_ne _ _ (hinj 2 1 (by decide))).trans h1_ad2
    have h2_ad3 : w2 (ad 3) = some (eI cs (6) (K 3)) := by rw [ew2]; exact (va_up_ne _ _ (hinj 3 1 (by decide))).trans h1_ad3
    have h2_ad4 : w2 (ad 4) = some (eZ cs (6) (K 4)) := by rw [ew2]; exact (va_up_ne _ _ (hinj 4 1 (by decide))).trans h1_ad4
    have h2_mm : w2 (mm) = some (mo ad (0) (nI nb) (dd) (wk) (br) (yr) (wd)) := by rw [ew2]; exact (va_up_ne _ _ (zne h1_mm h1_ad1 (by intro q9; first | cases q9 | simp at q9))).trans h1_mm
    have h2_ad1 : w2 (ad 1) = some (eJ cs (72) (vp_updL (J 1) (((12 * t) + n)) (floor))) := by rw [nI_clamp (by omega)] at h2_ad1; exact h2_ad1
    refine lv_aload_n hx hb dX7_stage_157 rfl (lv_at hl 2 rfl) ?_
    refine z_get (C := RX7) (T := TX7) (N := 45) (v := .ref (ad 2)) hx hb hts (by decide +kernel) hown hK hS h2_mm rfl 2 (by decide) (hts (.fieldLink RX7 13 "PayLedgerModel" "rates" "[I") (by decide +kernel)) rfl dX7_stage_158 ?_
    refine lv_bipush (v := 12) hx hb dX7_stage_161 (by decide) ?_
    refine lv_iload_n hx hb dX7_stage_163 rfl (lv_at hl 3 rfl) ?_
    refine lv_imul hx hb dX7_stage_164 ?_
    refine z_ti (y := nI (12 * t)) (zI_mul (12) (t)) ?_
    refine lv_iload hx hb dX7_stage_165 (lv_at hl 1 rfl) ?_
    refine lv_iadd hx hb dX7_stage_167 ?_
    refine z_ti (y := nI ((12 * t) + n)) (nI_add ((12 * t)) (n)) ?_
    refine lv_iload hx hb dX7_stage_168 (lv_at hl 5 rfl) ?_
    refine z_iast hx hb hK hS h2_ad2 (vp_in_nI (by omega) (by decide)) dX7_stage_170 (fun H locs hS => ?_)
    obtain ⟨w3, ew3⟩ : ∃ z : zw, z = va_up w2 (ad 2) (some (eI cs (72) (upd (K 2) (nI ((12 * t) + n) : Int32).toNatClampNeg (rate)))) := ⟨_, rfl⟩
    have hS : zS (zA w sz) D w3 s.heap H locs := by rw [ew3]; exact hS
    have h3_ad2 : w3 (ad 2) = some (eI cs (72) (upd (K 2) (nI ((12 * t) + n) : Int32).toNatClampNeg (rate))) := by rw [ew3]; exact va_up_self _ _ _
    have h3_ad3 : w3 (ad 3) = some (eI cs (6) (K 3)) := by rw [ew3]; exact (va_up_ne _ _ (hinj 3 2 (by decide))).trans h2_ad3
    have h3_ad4 : w3 (ad 4) = some (eZ cs (6) (K 4)) := by rw [ew3]; exact (va_up_ne _ _ (hinj 4 2 (by decide))).trans h2_ad4
    have h3_mm : w3 (mm) = some (mo ad (0) (nI nb) (dd) (wk) (br) (yr) (wd)) := by rw [ew3]; exact (va_up_ne _ _ (zne h2_mm h2_ad2 (by intro q9; first | cases q9 | simp at q9))).trans h2_mm
    have h3_ad1 : w3 (ad 1) = some (eJ cs (72) (vp_updL (J 1) (((12 * t) + n)) (floor))) := by rw [ew3]; exact (va_up_ne _ _ (hinj 1 2 (by decide))).trans h2_ad1
    have h3_ad2 : w3 (ad 2) = some (eI cs (72) (upd (K 2) (((12 * t) + n)) (rate))) := by rw [nI_clamp (by omega)] at h3_ad2; exact h3_ad2
    refine lv_aload_n hx hb dX7_stage_171 rfl (lv_at hl 2 rfl) ?_
    refine z_get (C := RX7) (T := TX7) (N := 45) (v := .ref (ad 3)) hx hb hts (by decide +kernel) hown hK hS h3_mm rfl 3 (by decide) (hts (.fieldLink RX7 17 "PayLedgerModel" "stages" "[I") (by decide +kernel)) rfl dX7_stage_172 ?_
    refine lv_iload_n hx hb dX7_stage_175 rfl (lv_at hl 3 rfl) ?_
    refine lv_dup2_11 hx hb dX7_stage_176 rfl rfl ?_
    refine z_iald hx hb hK hS h3_ad3 (vp_in_nI (by omega) (by decide)) dX7_stage_177 ?_
    refine z_ti (y := ((K 3) (t))) (congrArg _ (nI_clamp (by omega))) ?_
    refine z_ti (y := nI n) hk3 ?_
    refine lv_iconst (v := 1) hx hb dX7_stage_178 (by decide) ?_
    refine lv_iadd hx hb dX7_stage_179 ?_
    refine z_ti (y := nI (n + 1)) (nI_add (n) (1)) ?_
    refine z_iast hx hb hK hS h3_ad3 (vp_in_nI (by omega) (by decide)) dX7_stage_180 (fun H locs hS => ?_)
    obtain ⟨w4, ew4⟩ : ∃ z : zw, z = va_up w3 (ad 3) (some (eI cs (6) (upd (K 3) (nI t : Int32).toNatClampNeg (nI (n + 1))))) := ⟨_, rfl⟩
    have hS : zS (zA w sz) D w4 s.heap H locs := by rw [ew4]; exact hS
    have h4_ad3 : w4 (ad 3) = some (eI cs (6) (upd (K 3) (nI t : Int32).toNatClampNeg (nI (n + 1)))) := by rw [ew4]; exact va_up_self _ _ _
    have h4_ad4 : w4 (ad 4) = some (eZ cs (6) (K 4)) := by rw [ew4]; exact (va_up_ne _ _ (hinj 4 3 (by decide))).trans h3_ad4
    have h4_mm : w4 (mm) = some (mo ad (0) (nI nb) (dd) (wk) (br) (yr) (wd)) := by rw [ew4]; exact (va_up_ne _ _ (zne h3_mm h3_ad3 (by intro q9; first | cases q9 | simp at q9))).trans h3_mm
    have h4_ad1 : w4 (ad 1) = some (eJ cs (72) (vp_updL (J 1) (((12 * t) + n)) (floor))) := by rw [ew4]; exact (va_up_ne _ _ (hinj 1 3 (by decide))).trans h3_ad1
    have h4_ad2 : w4 (ad 2) = some (eI cs (72) (upd (K 2) (((12 * t) + n)) (rate))) := by rw [ew4]; exact (va_up_ne _ _ (hinj 2 3 (by decide))).trans h3_ad2
    have h4_ad3 : w4 (ad 3) = some (eI cs (6) (upd (K 3) (t) (nI (n + 1)))) := by rw [nI_clamp (by omega)] at h4_ad3; exact h4_ad3
    refine lv_aload_n hx hb dX7_stage_181 rfl (lv_at hl 2 rfl) ?_
    refine z_get (C := RX7) (T := TX7) (N := 45) (v := .ref (ad 3)) hx hb hts (by decide +kernel) hown hK hS h4_mm rfl 3 (by decide) (hts (.fieldLink RX7 17 "PayLedgerModel" "stages" "[I") (by decide +kernel)) rfl dX7_stage_182 ?_
    refine lv_iload_n hx hb dX7_stage_185 rfl (lv_at hl 3 rfl) ?_
    refine z_iald hx hb hK hS h4_ad3 (vp_in_nI (by omega) (by decide)) dX7_stage_186 ?_
    refine z_ti (y := ((upd (K 3) (t) (nI (n + 1))) (t))) (congrArg _ (nI_clamp (by omega))) ?_
    refine z_ti (y := nI (n + 1)) (up_self _ _ _) ?_
    have hex : zEx w w4 [(mm, (mo ad (0) (nI nb) (dd) (wk) (br) (yr) (wd))), (ad 1, (eJ cs (72) (vp_updL (J 1) (((12 * t) + n)) (floor)))), (ad 2, (eI cs (72) (upd (K 2) (((12 * t) + n)) (rate)))), (ad 3, (eI cs (6) (upd (K 3) (t) (nI (n + 1)))))] := ⟨(zm1 h4_mm (zm1 h4_ad1 (zm1 h4_ad2 (zm1 h4_ad3 zm0)))), fun a9 h9 => by rw [ew4, va_up_ne _ _ (show a9 ≠ ad 3 from h9 (ad 3, (eI cs (6) (upd (K 3) (t) (nI (n + 1))))) (List.mem_of_getElem? (i := 3) rfl)), ew3, va_up_ne _ _ (show a9 ≠ ad 2 from h9 (ad 2, (eI cs (72) (upd (K 2) (((12 * t) + n)) (rate)))) (List.mem_of_getElem? (i := 2) rfl)), ew2, va_up_ne _ _ (show a9 ≠ ad 1 from h9 (ad 1, (eJ cs (72) (vp_updL (J 1) (((12 * t) + n)) (floor)))) (List.mem_of_getElem? (i := 1) rfl)), ew1, va_up_ne _ _ (show a9 ≠ mm from h9 (mm, (mo ad (0) (nI nb) (dd) (wk) (br) (yr) (wd))) (List.mem_of_getElem? (i := 0) rfl))]⟩
    exact z_iret hx hb hr hlocks hS (Nat.le_of_ble_eq_true rfl) (Nat.le_of_ble_eq_true rfl) dX7_stage_187 ⟨rfl, zMQ.of [1, 2, 3] (by decide) hM h_m hinj hex (fun s hs => va_up_ne _ _ (fun e => hs (by rw [e]; decide))) (fun s hs => (va_up_ne _ _ (fun e => hs (by rw [e]; decide))).trans (va_up_ne _ _ (fun e => hs (by rw [e]; decide))))⟩
  · refine lv_lload_n hx hb dX7_stage_55 rfl (lv_at hl 3 rfl) ?_
    refine lv_lconst (v := 0) hx hb dX7_stage_56 (by decide) ?_
    refine z_lif_ne (tgt := 87) hx hb dX7_stage_57 dX7_stage_58 (by decide) (fun cq9 => absurd ((zMay_1 hmay).2.1 (nI_0e (by omega) c52)) cq9) (fun _ => ?_)
    refine lv_goto (tgt := 83) hx hb dX7_stage_61 (by decide) ?_
    refine lv_iconst (v := 1) hx hb dX7_stage_83 (by decide) ?_
    refine lv_goto (tgt := 88) hx hb dX7_stage_84 (by decide) ?_
    refine lv_istore (lv' := [(6, .int (1)), (5, .int (nI n)), (0, .ref (mm)), (1, .int (nI t)), (2, .long (floor)), (4, .int (rate))]) hx hb dX7_stage_88 hl (by decide) rfl (fun ls hl => ?_)
    refine lv_aload_n hx hb dX7_stage_90 rfl (lv_at hl 2 rfl) ?_
    refine lv_iload hx hb dX7_stage_91 (lv_at hl 0 rfl) ?_
    refine lv_if_ne (tgt := 100) hx hb dX7_stage_93 (by decide) (fun _ => ?_) (fun cq9 => absurd cq9 (by decide))
    refine lv_iconst (v := 0) hx hb dX7_stage_100 (by decide) ?_
    refine lv_iconst (v := 2) hx hb dX7_stage_101 (by decide) ?_
    refine z_rV (As := [.int (0), .int (2)]) (rest := []) (n := 2) ⟨hx, hb, hml, hown, hts⟩ (c0_X7_throwsIf l D cs w1 H.size mm ad (0) (nI nb) (dd) (wk) (br) (yr) (wd) 2 h1_mm) gX7_stage_X7_throwsIf rfl ⟨rfl, by decide +kernel, by decide +kernel, by decide +kernel⟩ ⟨Nat.le_of_ble_eq_true rfl, Nat.le_of_ble_eq_true rfl⟩ hK hE hS rfl h1_mm rfl hl.1 rfl (Nat.le_of_ble_eq_true rfl) dX7_stage_102 ⟨Nat.le_of_ble_eq_true rfl, Nat.le_of_ble_eq_true rfl⟩ (fun H locs hS => ?_)
    refine lv_if_ne (tgt := 142) hx hb dX7_stage_105 (by decide) (fun cq9 => absurd rfl cq9) (fun _ => ?_)
    refine lv_aload_n hx hb dX7_stage_108 rfl (lv_at hl 2 rfl) ?_
    refine lv_aload_n hx hb dX7_stage_109 rfl (lv_at hl 2 rfl) ?_
    refine z_get (C := RX7) (T := TX7) (N := 45) (v := .ref (ad 4)) hx hb hts (by decide +kernel) hown hK hS h1_mm rfl 4 (by decide) (hts (.fieldLink RX7 20 "PayLedgerModel" "used" "[Z") (by decide +kernel)) rfl dX7_stage_110 ?_
    refine lv_iload_n hx hb dX7_stage_113 rfl (lv_at hl 3 rfl) ?_
    refine z_zald hx hb hK hS h1_ad4 (vp_in_nI (by omega) (by decide)) dX7_stage_114 ?_
    refine z_ti (y := ((K 4) (t))) (congrArg _ (nI_clamp (by omega))) ?_
    refine z_ti (y := 0) hu ?_
    refine lv_iconst (v := 3) hx hb dX7_stage_115 (by decide) ?_
    refine z_rV (As := [.int (0), .int (3)]) (rest := []) (n := 2) ⟨hx, hb, hml, hown, hts⟩ (c0_X7_throwsIf l D cs w1 H.size mm ad (0) (nI nb) (dd) (wk) (br) (yr) (wd) 3 h1_mm) gX7_stage_X7_throwsIf rfl ⟨rfl, by decide +kernel, by decide +kernel, by decide +kernel⟩ ⟨Nat.le_of_ble_eq_true rfl, Nat.le_of_ble_eq_true rfl⟩ hK hE hS rfl h1_mm rfl hl.1 rfl (Nat.le_of_ble_eq_true rfl) dX7_stage_116 ⟨Nat.le_of_ble_eq_true rfl, Nat.le_of_ble_eq_true rfl⟩ (fun H locs hS => ?_)
    refine lv_if_ne (tgt := 142) hx hb dX7_stage_119 (by decide) (fun cq9 => absurd rfl cq9) (fun _ => ?_)
    refine lv_aload_n hx hb dX7_stage_122 rfl (lv_at hl 2 rfl) ?_
    refine lv_iload hx hb dX7_stage_123 (lv_at hl 1 rfl) ?_
    refine lv_bipush (v := 12) hx hb dX7_stage_125 (by decide) ?_
    refine lv_icmp_ne (tgt := 134) hx hb dX7_stage_127 (by decide) (fun _ => ?_) (fun cq9 => absurd cq9 (fun q9 => h12 ((nI_eq (b := 12) (by omega) (by omega)).mp q9)))
    refine lv_iconst (v := 0) hx hb dX7_stage_134 (by decide) ?_
    refine lv_iconst (v := 4) hx hb dX7_stage_135 (by decide) ?_
    refine z_rV (As := [.int (0), .int (4)]) (rest := []) (n := 2) ⟨hx, hb, hml, hown, hts⟩ (c0_X7_throwsIf l D cs w1 H.size mm ad (0) (nI nb) (dd) (wk) (br) (yr) (wd) 4 h1_mm) gX7_stage_X7_throwsIf rfl ⟨rfl, by decide +kernel, by decide +kernel, by decide +kernel⟩ ⟨Nat.le_of_ble_eq_true rfl, Nat.le_of_ble_eq_true rfl⟩ hK hE hS rfl h1_mm rfl hl.1 rfl (Nat.le_of_ble_eq_true rfl) dX7_stage_136 ⟨Nat.le_of_ble_eq_true rfl, Nat.le_of_ble_eq_true rfl⟩ (fun H locs hS => ?_)
    refine lv_if_eq (tgt := 144) hx hb dX7_stage_139 (by decide) (fun _ => ?_) (fun cq9 => absurd rfl cq9)
    refine lv_aload_n hx hb dX7_stage_144 rfl (lv_at hl 2 rfl) ?_
    refine z_get (C := RX7) (T := TX7) (N := 45) (v := .ref (ad 1)) hx hb hts (by decide +kernel) hown hK hS h1_mm rfl 1 (by decide) (hts (.fieldLink RX7 9 "PayLedgerModel" "floors" "[J") (by decide +kernel)) rfl dX7_stage_145 ?_
    refine lv_bipush (v := 12) hx hb dX7_stage_148 (by decide) ?_
    refine lv_iload_n hx hb dX7_stage_150 rfl (lv_at hl 3 rfl) ?_
    refine lv_imul hx hb dX7_stage_151 ?_
    refine z_ti (y := nI (12 * t)) (zI_mul (12) (t)) ?_
    refine lv_iload hx hb dX7_stage_152 (lv_at hl 1 rfl) ?_
    refine lv_iadd hx hb dX7_stage_154 ?_
    refine z_ti (y := nI ((12 * t) + n)) (nI_add ((12 * t)) (n)) ?_
    refine lv_lload_n hx hb dX7_stage_155 rfl (lv_at hl 4 rfl) ?_
    refine z_last hx hb hK hS h1_ad1 (vp_in_nI (by omega) (by decide)) dX7_stage_156 (fun H locs hS => ?_)
    obtain ⟨w5, ew5⟩ : ∃ z : zw, z = va_up w1 (ad 1) (some (eJ cs (72) (vp_updL (J 1) (nI ((12 * t) + n) : Int32).toNatClampNeg (floor)))) := ⟨_, rfl⟩
    have hS : zS (zA w sz) D w5 s.heap H locs := by rw [ew5]; exact hS
    have h5_ad1 : w5 (ad 1) = some (eJ cs (72) (vp_updL (J 1) (nI ((12 * t) + n) : Int32).toNatClampNeg (floor))) := by rw [ew5]; exact va_up_self _ _ _
    have h5_ad2 : w5 (ad 2) = some (eI cs (72) (K 2)) := by rw [ew5]; exact (va_up_ne _ _ (hinj 2 1 (by decide))).trans h1_ad2
    have h5_ad3 : w5 (ad 3) = some (eI cs (6) (K 3)) := by rw [ew5]; exact (va_up_ne _ _ (hinj 3 1 (by decide))).trans h1_ad3
    have h5_ad4 : w5 (ad 4) = some (eZ cs (6) (K 4)) := by rw [ew5]; exact (va_up_ne _ _ (hinj 4 1 (by decide))).trans h1_ad4
    have h5_mm : w5 (mm) = some (mo ad (0) (nI nb) (dd) (wk) (br) (yr) (wd)) := by rw [ew5]; exact (va_up_ne _ _ (zne h1_mm h1_ad1 (by intro q9; first | cases q9 | simp at q9))).trans h1_mm
    have h5_ad1 : w5 (ad 1) = some (eJ cs (72) (vp_updL (J 1) (((12 * t) + n)) (floor))) := by rw [nI_clamp (by omega)] at h5_ad1; exact h5_ad1
    refine lv_aload_n hx hb dX7_stage_157 rfl (lv_at hl 2 rfl) ?_
    refine z_get (C := RX7) (T := TX7) (N := 45) (v := .ref (ad 2)) hx hb hts (by decide +kernel) hown hK hS h5_mm rfl 2 (by decide) (hts (.fieldLink RX7 13 "PayLedgerModel" "rates" "[I") (by decide +kernel)) rfl dX7_stage_158 ?_
    refine lv_bipush (v := 12) hx hb dX7_stage_161 (by decide) ?_
    refine lv_iload_n hx hb dX7_stage_163 rfl (lv_at hl 3 rfl) ?_
    refine lv_imul hx hb dX7_stage_164 ?_
    refine z_ti (y := nI (12 * t)) (zI_mul (12) (t)) ?_
    refine lv_iload hx hb dX7_stage_165 (lv_at hl 1 rfl) ?_
    refine lv_iadd hx hb dX7_stage_167 ?_
    refine z_ti (y := nI ((12 * t) + n)) (nI_add ((12 * t)) (n)) ?_
    refine lv_iload hx hb dX7_stage_168 (lv_at hl 5 rfl) ?_
    refine z_iast hx hb hK hS h5_ad2 (vp_in_nI (by omega) (by decide)) dX7_stage_170 (fun H locs hS => ?_)
    obtain ⟨w6, ew6⟩ : ∃ z : zw, z = va_up w5 (ad 2) (some (eI cs (72) (upd (K 2) (nI ((12 * t) + n) : Int32).toNatClampNeg (rate)))) := ⟨_, rfl⟩
    have hS : zS (zA w sz) D w6 s.heap H locs := by rw [ew6]; exact hS
    have h6_ad2 : w6 (ad 2) = some (eI cs (72) (upd (K 2) (nI ((12 * t) + n) : Int32).toNatClampNeg (rate))) := by rw [ew6]; exact va_up_self _ _ _
    have h6_ad3 : w6 (ad 3) = some (eI cs (6) (K 3)) := by rw [ew6]; exact (va_up_ne _ _ (hinj 3 2 (by decide))).trans h5_ad3
    have h6_ad4 : w6 (ad 4) = some (eZ cs (6) (K 4)) := by rw [ew6]; exact (va_up_ne _ _ (hinj 4 2 (by decide))).trans h5_ad4
    have h6_mm : w6 (mm) = some (mo ad (0) (nI nb) (dd) (wk) (br) (yr) (wd)) := by rw [ew6]; exact (va_up_ne _ _ (zne h5_mm h5_ad2 (by intro q9; first | cases q9 | simp at q9))).trans h5_mm
    have h6_ad1 : w6 (ad 1) = some (eJ cs (72) (vp_updL (J 1) (((12 * t) + n)) (floor))) := by rw [ew6]; exact (va_up_ne _ _ (hinj 1 2 (by decide))).trans h5_ad1
    have h6_ad2 : w6 (ad 2) = some (eI cs (72) (upd (K 2) (((12 * t) + n)) (rate))) := by rw [nI_clamp (by omega)] at h6_ad2; exact h6_ad2
    refine lv_aload_n hx hb dX7_stage_171 rfl (lv_at hl 2 rfl) ?_
    refine z_get (C := RX7) (T := TX7) (N := 45) (v := .ref (ad 3)) hx hb hts (by decide +kernel) hown hK hS h6_mm rfl 3 (by decide) (hts (.fieldLink RX7 17 "PayLedgerModel" "stages" "[I") (by decide +kernel)) rfl dX7_stage_172 ?_
    refine lv_iload_n hx hb dX7_stage_175 rfl (lv_at hl 3 rfl) ?_
    refine lv_dup2_11 hx hb dX7_stage_176 rfl rfl ?_
    refine z_iald hx hb hK hS h6_ad3 (vp_in_nI (by omega) (by decide)) dX7_stage_177 ?_
    refine z_ti (y := ((K 3) (t))) (congrArg _ (nI_clamp (by omega))) ?_
    refine z_ti (y := nI n) hk3 ?_
    refine lv_iconst (v := 1) hx hb dX7_stage_178 (by decide) ?_
    refine lv_iadd hx hb dX7_stage_179 ?_
    refine z_ti (y := nI (n + 1)) (nI_add (n) (1)) ?_
    refine z_iast hx hb hK hS h6_ad3 (vp_in_nI (by omega) (by decide)) dX7_stage_180 (fun H locs hS => ?_)
    obtain ⟨w7, ew7⟩ : ∃ z : zw, z = va_up w6 (ad 3) (some (eI cs (6) (upd (K 3) (nI t : Int32).toNatClampNeg (nI (n + 1))))) := ⟨_, rfl⟩
    have hS : zS (zA w sz) D w7 s.heap H locs := by rw [ew7]; exact hS
    have h7_ad3 : w7 (ad 3) = some (eI cs (6) (upd (K 3) (nI t : Int32).toNatClampNeg (nI (n + 1)))) := by rw [ew7]; exact va_up_self _ _ _
    have h7_ad4 : w7 (ad 4) = some (eZ cs (6) (K 4)) := by rw [ew7]; exact (va_up_ne _ _ (hinj 4 3 (by decide))).trans h6_ad4
    have h7_mm : w7 (mm) = some (mo ad (0) (nI nb) (dd) (wk) (br) (yr) (wd)) := by rw [ew7]; exact (va_up_ne _ _ (zne h6_mm h6_ad3 (by intro q9; first | cases q9 | simp at q9))).trans h6_mm
    have h7_ad1 : w7 (ad 1) = some (eJ cs (72) (vp_updL (J 1) (((12 * t) + n)) (floor))) := by rw [ew7]; exact (va_up_ne _ _ (hinj 1 3 (by decide))).trans h6_ad1
    have h7_ad2 : w7 (ad 2) = some (eI cs (72) (upd (K 2) (((12 * t) + n)) (rate))) := by rw [ew7]; exact (va_up_ne _ _ (hinj 2 3 (by decide))).trans h6_ad2
    have h7_ad3 : w7 (ad 3) = some (eI cs (6) (upd (K 3) (t) (nI (n + 1)))) := by rw [nI_clamp (by omega)] at h7_ad3; exact h7_ad3
    refine lv_aload_n hx hb dX7_stage_181 rfl (lv_at hl 2 rfl) ?_
    refine z_get (C := RX7) (T := TX7) (N := 45) (v := .ref (ad 3)) hx hb hts (by decide +kernel) hown hK hS h7_mm rfl 3 (by decide) (hts (.fieldLink RX7 17 "PayLedgerModel" "stages" "[I") (by decide +kernel)) rfl dX7_stage_182 ?_
    refine lv_iload_n hx hb dX7_stage_185 rfl (lv_at hl 3 rfl) ?_
    refine z_iald hx hb hK hS h7_ad3 (vp_in_nI (by omega) (by decide)) dX7_stage_186 ?_
    refine z_ti (y := ((upd (K 3) (t) (nI (n + 1))) (t))) (congrArg _ (nI_clamp (by omega))) ?_
    refine z_ti (y := nI (n + 1)) (up_self _ _ _) ?_
    have hex : zEx w w7 [(mm, (mo ad (0) (nI nb) (dd) (wk) (br) (yr) (wd))), (ad 1, (eJ cs (72) (vp_updL (J 1) (((12 * t) + n)) (floor)))), (ad 2, (eI cs (72) (upd (K 2) (((12 * t) + n)) (rate)))), (ad 3, (eI cs (6) (upd (K 3) (t) (nI (n + 1)))))] := ⟨(zm1 h7_mm (zm1 h7_ad1 (zm1 h7_ad2 (zm1 h7_ad3 zm0)))), fun a9 h9 => by rw [ew7, va_up_ne _ _ (show a9 ≠ ad 3 from h9 (ad 3, (eI cs (6) (upd (K 3) (t) (nI (n + 1))))) (List.mem_of_getElem? (i := 3) rfl)), ew6, va_up_ne _ _ (show a9 ≠ ad 2 from h9 (ad 2, (eI cs (72) (upd (K 2) (((12 * t) + n)) (rate)))) (List.mem_of_getElem? (i := 2) rfl)), ew5, va_up_ne _ _ (show a9 ≠ ad 1 from h9 (ad 1, (eJ cs (72) (vp_updL (J 1) (((12 * t) + n)) (floor)))) (List.mem_of_getElem? (i := 1) rfl)), ew1, va_up_ne _ _ (show a9 ≠ mm from h9 (mm, (mo ad (0) (nI nb) (dd) (wk) (br) (yr) (wd))) (List.mem_of_getElem? (i := 0) rfl))]⟩
    exact z_iret hx hb hr hlocks hS (Nat.le_of_ble_eq_true rfl) (Nat.le_of_ble_eq_true rfl) dX7_stage_187 ⟨rfl, zMQ.of [1, 2, 3] (by decide) hM h_m hinj hex (fun s hs => va_up_ne _ _ (fun e => hs (by rw [e]; decide))) (fun s hs => (va_up_ne _ _ (fun e => hs (by rw [e]; decide))).trans (va_up_ne _ _ (fun e => hs (by rw [e]; decide))))⟩
set_option maxHeartbeats 4000000 in
set_option maxRecDepth 100000 in
theorem t1_X7_deduction (l : Launch) (D : va_G) (cs : Nat → ClassId) (w : zw) (sz : Nat) (mm : Nat) (ad : Nat → Nat) (J : Nat → Nat → Int64) (K : Nat → Nat → Int32) (th tb wk br yr wd : Int32) (nd : Nat) (ea so : Int32) (si ca bs : Int64) (hinj : ∀ i j : Nat, i ≠ j → ad i ≠ ad j) (hM : zMA cs w ad J K) (hnd : nd ≤ 8) (hbad : ¬ (zSizeB so si = 1 ∧ (ca = -1 ∨ zUpTo ca 1000000000000 = 1) ∧ zUpTo bs 1000000000000 = 1)) (h_m : w (mm) = some (mo ad (th) (tb) (nI nd) (wk) (br) (yr) (wd))) : zM l D cs yX7_deduction wsX7_deduction 3 0 0 w sz [.ref (mm), .int (ea), .int (so), .long (si), .long (ca), .long (bs)] (fun r w2 => r = some (.int 0) ∧ zMQ cs w w2 ad mm (mo ad (1) (tb) (nI nd) (wk) (br) (yr) (wd)) J K) := by
  refine z_met (cc := cX7_deduction) (maxL := 10) (ret := (some .int)) (by decide) rfl (Nat.le_of_ble_eq_true rfl) ?_
  intro p e s m below meth c hx hb hr hml hown hts hlocks hnm hsz hK hE hS ls hl
  have hl : lv_has ls 10 [(0, .ref (mm)), (1, .int (ea)), (2, .int (so)), (3, .long (si)), (5, .long (ca)), (7, .long (bs))] := hl
  refine lv_aload_n hx hb dX7_deduction_0 rfl (lv_at hl 0 rfl) ?_
  refine lv_iconst (v := 0) hx hb dX7_deduction_1 (by decide) ?_
  refine z_put (C := RX7) (T := TX7) (N := 45) (v := .int (0)) hx hb hts (by decide +kernel) tyX7 tyX7_ok nmX7 hown hK hS h_m rfl 0 (by decide) (hts (.fieldLink RX7 126 "PayLedgerModel" "thrown" "I") (by decide +kernel)) rfl rfl rfl (Nat.le_of_ble_eq_true rfl) dX7_deduction_2 (fun H locs hS => ?_)
  obtain ⟨w1, ew1⟩ : ∃ z : zw, z = va_up w (mm) (some (mo ad (0) (tb) (nI nd) (wk) (br) (yr) (wd))) := ⟨_, rfl⟩
  have hS : zS (zA w sz) D w1 s.heap H locs := by rw [ew1]; exact hS
  have h1_mm : w1 (mm) = some (mo ad (0) (tb) (nI nd) (wk) (br) (yr) (wd)) := by rw [ew1]; exact va_up_self _ _ _
  refine lv_iload_n hx hb dX7_deduction_5 rfl (lv_at hl 2 rfl) ?_
  refine lv_i2l (v := ((so : Int32).toInt64)) hx hb dX7_deduction_6 rfl ?_
  refine lv_lconst (v := 0) hx hb dX7_deduction_7 (by decide) ?_
  refine lv_ldc2 (v := 2) hx hb hown (hts (.constantLong RX7 130 (2)) (by decide +kernel)) dX7_deduction_8 ?_
  refine z_rS (As := [.long (((so : Int32).toInt64)), .long (0), .long (2)]) (rest := []) (n := 3) ⟨hx, hb, hml, hown, hts⟩ (c_X7_in l D cs w1 H.size (so.toInt64) (0) (2)) gX7_deduction_X7_in rfl ⟨by decide +kernel, by decide +kernel, by decide +kernel⟩ ⟨Nat.le_of_ble_eq_true rfl, Nat.le_of_ble_eq_true rfl⟩ hK hE hS rfl hl.1 rfl (Nat.le_of_ble_eq_true rfl) dX7_deduction_11 ⟨Nat.le_of_ble_eq_true rfl, Nat.le_of_ble_eq_true rfl⟩ (fun H locs hS => ?_)
  refine lv_if_eq (tgt := 68) hx hb dX7_deduction_14 (by decide) (fun c14 => ?_) (fun c14 => ?_)
  · refine lv_iconst (v := 0) hx hb dX7_deduction_68 (by decide) ?_
    refine lv_istore (lv' := [(9, .int (0)), (0, .ref (mm)), (1, .int (ea)), (2, .int (so)), (3, .long (si)), (5, .long (ca)), (7, .long (bs))]) hx hb dX7_deduction_69 hl (by decide) rfl (fun ls hl => ?_)
    refine lv_aload_n hx hb dX7_deduction_71 rfl (lv_at hl 1 rfl) ?_
    refine lv_iload hx hb dX7_deduction_72 (lv_at hl 0 rfl) ?_
    refine lv_if_ne (tgt := 81) hx hb dX7_deduction_74 (by decide) (fun cq9 => absurd rfl cq9) (fun _ => ?_)
    refine lv_iconst (v := 1) hx hb dX7_deduction_77 (by decide) ?_
    refine lv_goto (tgt := 82) hx hb dX7_deduction_78 (by decide) ?_
    refine lv_iconst (v := 1) hx hb dX7_deduction_82 (by decide) ?_
    refine z_invV (As := [.int (1), .int (1)]) (rest := []) (n := 2) ⟨hx, hb, hml, hown, hts⟩ (c1_X7_throwsIf l D cs w1 H.size mm ad (0) (tb) (nI nd) (wk) (br) (yr) (wd) 1 h1_mm) gX7_deduction_X7_throwsIf rfl ⟨rfl, by decide +kernel, by decide +kernel, by decide +kernel⟩ ⟨Nat.le_of_ble_eq_true rfl, Nat.le_of_ble_eq_true rfl⟩ hK hE hS rfl h1_mm rfl hl.1 rfl (Nat.le_of_ble_eq_true rfl) dX7_deduction_83 ⟨Nat.le_of_ble_eq_true rfl, Nat.le_of_ble_eq_true rfl⟩ (fun v9 u2 H locs hq hS => ?_)
    obtain ⟨rfl, hx2⟩ := hq
    have h3_mm : u2 (mm) = some (mo ad (1) (tb) (nI nd) (wk) (br) (yr) (wd)) := hx2.at 0 rfl
    refine W.eq (g2 := F0 m 86 ls [.int (1)]) rfl ?_
    refine lv_if_ne (tgt := 111) hx hb dX7_deduction_86 (by decide) (fun _ => ?_) (fun cq9 => absurd cq9 (by decide))
    refine lv_iconst (v := 0) hx hb dX7_deduction_111 (by decide) ?_
    have hex : zEx w u2 [(mm, (mo ad (1) (tb) (nI nd) (wk) (br) (yr) (wd)))] := ⟨(zm1 h3_mm zm0), fun a9 h9 => by rw [hx2.2 a9 (zm1 (show a9 ≠ mm from h9 (mm, (mo ad (1) (tb) (nI nd) (wk) (br) (yr) (wd))) (List.mem_of_getElem? (i := 0) rfl)) zm0), ew1, va_up_ne _ _ (show a9 ≠ mm from h9 (mm, (mo ad (1) (tb) (nI nd) (wk) (br) (yr) (wd))) (List.mem_of_getElem? (i := 0) rfl))]⟩
    exact z_iret hx hb hr hlocks hS (Nat.le_of_ble_eq_true rfl) (Nat.le_of_ble_eq_true rfl) dX7_deduction_112 ⟨rfl, zMQ.o hM h_m hinj hex⟩
  · refine lv_lload_n hx hb dX7_deduction_17 rfl (lv_at hl 3 rfl) ?_
    refine lv_lconst (v := 0) hx hb dX7_deduction_18 (by decide) ?_
    refine lv_iload_n hx hb dX7_deduction_19 rfl (lv_at hl 2 rfl) ?_
    refine lv_if_ne (tgt := 29) hx hb dX7_deduction_20 (by decide) (fun c20 => ?_) (fun c20 => ?_)
    · refine lv_ldc2 (v := 1000000) hx hb hown (hts (.constantLong RX7 136 (1000000)) (by decide +kernel)) dX7_deduction_29 ?_
      refine z_rS (As := [.long (si), .long (0), .long (1000000)]) (rest := []) (n := 3) ⟨hx, hb, hml, hown, hts⟩ (c_X7_in l D cs w1 H.size (si) (0) (1000000)) gX7_deduction_X7_in rfl ⟨by decide +kernel, by decide +kernel, by decide +kernel⟩ ⟨Nat.le_of_ble_eq_true rfl, Nat.le_of_ble_eq_true rfl⟩ hK hE hS rfl hl.1 rfl (Nat.le_of_ble_eq_true rfl) dX7_deduction_32 ⟨Nat.le_of_ble_eq_true rfl, Nat.le_of_ble_eq_true rfl⟩ (fun H locs hS => ?_)
      refine lv_if_eq (tgt := 68) hx hb dX7_deduction_35 (by decide) (fun c35 => ?_) (fun c35 => ?_)
      · refine lv_iconst (v := 0) hx hb dX7_deduction_68 (by decide) ?_
        refine lv_istore (lv' := [(9, .int (0)), (0, .ref (mm)), (1, .int (ea)), (2, .int (so)), (3, .long (si)), (5, .long (ca)), (7, .long (bs))]) hx hb dX7_deduction_69 hl (by decide) rfl (fun ls hl => ?_)
        refine lv_aload_n hx hb dX7_deduction_71 rfl (lv_at hl 1 rfl) ?_
        refine lv_iload hx hb dX7_deduction_72 (lv_at hl 0 rfl) ?_
        refine lv_if_ne (tgt := 81) hx hb dX7_deduction_74 (by decide) (fun cq9 => absurd rfl cq9) (fun _ => ?_)
        refine lv_iconst (v := 1) hx hb dX7_deduction_77 (by decide) ?_
        refine lv_goto (tgt := 82) hx hb dX7_deduction_78 (by decide) ?_
        refine lv_iconst (v := 1) hx hb dX7_deduction_82 (by decide) ?_
        refine z_invV (As := [.int (1), .int (1)]) (rest := []) (n := 2) ⟨hx, hb, hml, hown, hts⟩ (c1_X7_throwsIf l D cs w1 H.size mm ad (0) (tb) (nI nd) (wk) (br) (yr) (wd) 1 h1_mm) gX7_deduction_X7_throwsIf rfl ⟨rfl, by decide +kernel, by decide +kernel, by decide +kernel⟩ ⟨Nat.le_of_ble_eq_true rfl, Nat.le_of_ble_eq_true rfl⟩ hK hE hS rfl h1_mm rfl hl.1 rfl (Nat.le_of_ble_eq_true rfl) dX7_deduction_83 ⟨Nat.le_of_ble_eq_true rfl, Nat.le_of_ble_eq_true rfl⟩ (fun v9 u4 H locs hq hS => ?_)
        obtain ⟨rfl, hx4⟩ := hq
        have h5_mm : u4 (mm) = some (mo ad (1) (tb) (nI nd) (wk) (br) (yr) (wd)) := hx4.at 0 rfl
        refine W.eq (g2 := F0 m 86 ls [.int (1)]) rfl ?_
        refine lv_if_ne (tgt := 111) hx hb dX7_deduction_86 (by decide) (fun _ => ?_) (fun cq9 => absurd cq9 (by decide))
        refine lv_iconst (v := 0) hx hb dX7_deduction_111 (by decide) ?_
        have hex : zEx w u4 [(mm, (mo ad (1) (tb) (nI nd) (wk) (br) (yr) (wd)))] := ⟨(zm1 h5_mm zm0), fun a9 h9 => by rw [hx4.2 a9 (zm1 (show a9 ≠ mm from h9 (mm, (mo ad (1) (tb) (nI nd) (wk) (br) (yr) (wd))) (List.mem_of_getElem? (i := 0) rfl)) zm0), ew1, va_up_ne _ _ (show a9 ≠ mm from h9 (mm, (mo ad (1) (tb) (nI nd) (wk) (br) (yr) (wd))) (List.mem_of_getElem? (i := 0) rfl))]⟩
        exact z_iret hx hb hr hlocks hS (Nat.le_of_ble_eq_true rfl) (Nat.le_of_ble_eq_true rfl) dX7_deduction_112 ⟨rfl, zMQ.o hM h_m hinj hex⟩
      · refine lv_lload hx hb dX7_deduction_38 (lv_at hl 4 rfl) ?_
        refine lv_ldc2 (v := -1) hx hb hown (hts (.constantLong RX7 214 (-1)) (by decide +kernel)) dX7_deduction_40 ?_
        refine lv_ldc2 (v := 1000000000000) hx hb hown (hts (.constantLong RX7 210 (1000000000000)) (by decide +kernel)) dX7_deduction_43 ?_
        refine z_rS (As := [.long (ca), .long ((-1)), .long (1000000000000)]) (rest := []) (n := 3) ⟨hx, hb, hml, hown, hts⟩ (c_X7_in l D cs w1 H.size (ca) (-1) (1000000000000)) gX7_deduction_X7_in rfl ⟨by decide +kernel, by decide +kernel, by decide +kernel⟩ ⟨Nat.le_of_ble_eq_true rfl, Nat.le_of_ble_eq_true rfl⟩ hK hE hS rfl hl.1 rfl (Nat.le_of_ble_eq_true rfl) dX7_deduction_46 ⟨Nat.le_of_ble_eq_true rfl, Nat.le_of_ble_eq_true rfl⟩ (fun H locs hS => ?_)
        refine lv_if_eq (tgt := 68) hx hb dX7_deduction_49 (by decide) (fun c49 => ?_) (fun c49 => ?_)
        · refine lv_iconst (v := 0) hx hb dX7_deduction_68 (by decide) ?_
          refine lv_istore (lv' := [(9, .int (0)), (0, .ref (mm)), (1, .int (ea)), (2, .int (so)), (3, .long (si)), (5, .long (ca)), (7, .long (bs))]) hx hb dX7_deduction_69 hl (by decide) rfl (fun ls hl => ?_)
          refine lv_aload_n hx hb dX7_deduction_71 rfl (lv_at hl 1 rfl) ?_
          refine lv_iload hx hb dX7_deduction_72 (lv_at hl 0 rfl) ?_
          refine lv_if_ne (tgt := 81) hx hb dX7_deduction_74 (by decide) (fun cq9 => absurd rfl cq9) (fun _ => ?_)
          refine lv_iconst (v := 1) hx hb dX7_deduction_77 (by decide) ?_
          refine lv_goto (tgt := 82) hx hb dX7_deduction_78 (by decide) ?_
          refine lv_iconst (v := 1) hx hb dX7_deduction_82 (by decide) ?_
          refine z_invV (As := [.int (1), .int (1)]) (rest := []) (n := 2) ⟨hx, hb, hml, hown, hts⟩ (c1_X7_throwsIf l D cs w1 H.size mm ad (0) (tb) (nI nd) (wk) (br) (yr) (wd) 1 h1_mm) gX7_deduction_X7_throwsIf rfl ⟨rfl, by decide +kernel, by decide +kernel, by decide +kernel⟩ ⟨Nat.le_of_ble_eq_true rfl, Nat.le_of_ble_eq_true rfl⟩ hK hE hS rfl h1_mm rfl hl.1 rfl (Nat.le_of_ble_eq_true rfl) dX7_deduction_83 ⟨Nat.le_of_ble_eq_true rfl, Nat.le_of_ble_eq_true rfl⟩ (fun v9 u6 H locs hq hS => ?_)
          obtain ⟨rfl, hx6⟩ := hq
          have h7_mm : u6 (mm) = some (mo ad (1) (tb) (nI nd) (wk) (br) (yr) (wd)) := hx6.at 0 rfl
          refine W.eq (g2 := F0 m 86 ls [.int (1)]) rfl ?_
          refine lv_if_ne (tgt := 111) hx hb dX7_deduction_86 (by decide) (fun _ => ?_) (fun cq9 => absurd cq9 (by decide))
          refine lv_iconst (v := 0) hx hb dX7_deduction_111 (by decide) ?_
          have hex : zEx w u6 [(mm, (mo ad (1) (tb) (nI nd) (wk) (br) (yr) (wd)))] := ⟨(zm1 h7_mm zm0), fun a9 h9 => by rw [hx6.2 a9 (zm1 (show a9 ≠ mm from h9 (mm, (mo ad (1) (tb) (nI nd) (wk) (br) (yr) (wd))) (List.mem_of_getElem? (i := 0) rfl)) zm0), ew1, va_up_ne _ _ (show a9 ≠ mm from h9 (mm, (mo ad (1) (tb) (nI nd) (wk) (br) (yr) (wd))) (List.mem_of_getElem? (i := 0) rfl))]⟩
          exact z_iret hx hb hr hlocks hS (Nat.le_of_ble_eq_true rfl) (Nat.le_of_ble_eq_true rfl) dX7_deduction_112 ⟨rfl, zMQ.o hM h_m hinj hex⟩
        · refine lv_lload hx hb dX7_deduction_52 (lv_at hl 5 rfl) ?_
          refine lv_lconst (v := 0) hx hb dX7_deduction_54 (by decide) ?_
          refine lv_ldc2 (v := 1000000000000) hx hb hown (hts (.constantLong RX7 210 (1000000000000)) (by decide +kernel)) dX7_deduction_55 ?_
          refine z_rS (As := [.long (bs), .long (0), .long (1000000000000)]) (rest := []) (n := 3) ⟨hx, hb, hml, hown, hts⟩ (c_X7_in l D cs w1 H.size (bs) (0) (1000000000000)) gX7_deduction_X7_in rfl ⟨by decide +kernel, by decide +kernel, by decide +kernel⟩ ⟨Nat.le_of_ble_eq_true rfl, Nat.le_of_ble_eq_true rfl⟩ hK hE hS rfl hl.1 rfl (Nat.le_of_ble_eq_true rfl) dX7_deduction_58 ⟨Nat.le_of_ble_eq_true rfl, Nat.le_of_ble_eq_true rfl⟩ (fun H locs hS => ?_)
          refine lv_if_eq (tgt := 68) hx hb dX7_deduction_61 (by decide) (fun c61 => ?_) (fun c61 => ?_)
          · refine lv_iconst (v := 0) hx hb dX7_deduction_68 (by decide) ?_
            refine lv_istore (lv' := [(9, .int (0)), (0, .ref (mm)), (1, .int (ea)), (2, .int (so)), (3, .long (si)), (5, .long (ca)), (7, .long (bs))]) hx hb dX7_deduction_69 hl (by decide) rfl (fun ls hl => ?_)
            refine lv_aload_n hx hb dX7_deduction_71 rfl (lv_at hl 1 rfl) ?_
            refine lv_iload hx hb dX7_deduction_72 (lv_at hl 0 rfl) ?_
            refine lv_if_ne (tgt := 81) hx hb dX7_deduction_74 (by decide) (fun cq9 => absurd rfl cq9) (fun _ => ?_)
            refine lv_iconst (v := 1) hx hb dX7_deduction_77 (by decide) ?_
            refine lv_goto (tgt := 82) hx hb dX7_deduction_78 (by decide) ?_
            refine lv_iconst (v := 1) hx hb dX7_deduction_82 (by decide) ?_
            refine z_invV (As := [.int (1), .int (1)]) (rest := []) (n := 2) ⟨hx, hb, hml, hown, hts⟩ (c1_X7_throwsIf l D cs w1 H.size mm ad (0) (tb) (nI nd) (wk) (br) (yr) (wd) 1 h1_mm) gX7_deduction_X7_throwsIf rfl ⟨rfl, by decide +kernel, by decide +kernel, by decide +kernel⟩ ⟨Nat.le_of_ble_eq_true rfl, Nat.le_of_ble_eq_true rfl⟩ hK hE hS rfl h1_mm rfl hl.1 rfl (Nat.le_of_ble_eq_true rfl) dX7_deduction_83 ⟨Nat.le_of_ble_eq_true rfl, Nat.le_of_ble_eq_true rfl⟩ (fun v9 u8 H locs hq hS => ?_)
            obtain ⟨rfl, hx8⟩ := hq
            have h9_mm : u8 (mm) = some (mo ad (1) (tb) (nI nd) (wk) (br) (yr) (wd)) := hx8.at 0 rfl
            refine W.eq (g2 := F0 m 86 ls [.int (1)]) rfl ?_
            refine lv_if_ne (tgt := 111) hx hb dX7_deduction_86 (by decide) (fun _ => ?_) (fun cq9 => absurd cq9 (by decide))
            refine lv_iconst (v := 0) hx hb dX7_deduction_111 (by decide) ?_
            have hex : zEx w u8 [(mm, (mo ad (1) (tb) (nI nd) (wk) (br) (yr) (wd)))] := ⟨(zm1 h9_mm zm0), fun a9 h9 => by rw [hx8.2 a9 (zm1 (show a9 ≠ mm from h9 (mm, (mo ad (1) (tb) (nI nd) (wk) (br) (yr) (wd))) (List.mem_of_getElem? (i := 0) rfl)) zm0), ew1, va_up_ne _ _ (show a9 ≠ mm from h9 (mm, (mo ad (1) (tb) (nI nd) (wk) (br) (yr) (wd))) (List.mem_of_getElem? (i := 0) rfl))]⟩
            exact z_iret hx hb hr hlocks hS (Nat.le_of_ble_eq_true rfl) (Nat.le_of_ble_eq_true rfl) dX7_deduction_112 ⟨rfl, zMQ.o hM h_m hinj hex⟩
          · exact absurd (mGood.mpr ⟨mIn_ne c14, by rw [if_neg c20]; exact mIn_ne c35, mIn_ne c49, mIn_ne c61⟩) hbad
    · refine lv_ldc2 (v := 1000000000) hx hb hown (hts (.constantLong RX7 212 (1000000000)) (by decide +kernel)) dX7_deduction_23 ?_
      refine lv_goto (tgt := 32) hx hb dX7_deduction_26 (by decide) ?_
      refine z_rS (As := [.long (si), .long (0), .long (1000000000)]) (rest := []) (n := 3) ⟨hx, hb, hml, hown, hts⟩ (c_X7_in l D cs w1 H.size (si) (0) (1000000000)) gX7_deduction_X7_in rfl ⟨by decide +kernel, by decide +kernel, by decide +kernel⟩ ⟨Nat.le_of_ble_eq_true rfl, Nat.le_of_ble_eq_true rfl⟩ hK hE hS rfl hl.1 rfl (Nat.le_of_ble_eq_true rfl) dX7_deduction_32 ⟨Nat.le_of_ble_eq_true rfl, Nat.le_of_ble_eq_true rfl⟩ (fun H locs hS => ?_)
      refine lv_if_eq (tgt := 68) hx hb dX7_deduction_35 (by decide) (fun c35 => ?_) (fun c35 => ?_)
      · refine lv_iconst (v := 0) hx hb dX7_deduction_68 (by decide) ?_
        refine lv_istore (lv' := [(9, .int (0)), (0, .ref (mm)), (1, .int (ea)), (2, .int (so)), (3, .long (si)), (5, .long (ca)), (7, .long (bs))]) hx hb dX7_deduction_69 hl (by decide) rfl (fun ls hl => ?_)
        refine lv_aload_n hx hb dX7_deduction_71 rfl (lv_at hl 1 rfl) ?_
        refine lv_iload hx hb dX7_deduction_72 (lv_at hl 0 rfl) ?_
        refine lv_if_ne (tgt := 81) hx hb dX7_deduction_74 (by decide) (fun cq9 => absurd rfl cq9) (fun _ => ?_)
        refine lv_iconst (v := 1) hx hb dX7_deduction_77 (by decide) ?_
        refine lv_goto (tgt := 82) hx hb dX7_deduction_78 (by decide) ?_
        refine lv_iconst (v := 1) hx hb dX7_deduction_82 (by decide) ?_
        refine z_invV (As := [.int (1), .int (1)]) (rest := []) (n := 2) ⟨hx, hb, hml, hown, hts⟩ (c1_X7_throwsIf l D cs w1 H.size mm ad (0) (tb) (nI nd) (wk) (br) (yr) (wd) 1 h1_mm) gX7_deduction_X7_throwsIf rfl ⟨rfl, by decide +kernel, by decide +kernel, by decide +kernel⟩ ⟨Nat.le_of_ble_eq_true rfl, Nat.le_of_ble_eq_true rfl⟩ hK hE hS rfl h1_mm rfl hl.1 rfl (Nat.le_of_ble_eq_true rfl) dX7_deduction_83 ⟨Nat.le_of_ble_eq_true rfl, Nat.le_of_ble_eq_true rfl⟩ (fun v9 u10 H locs hq hS => ?_)
        obtain ⟨rfl, hx10⟩ := hq
        have h11_mm : u10 (mm) = some (mo ad (1) (tb) (nI nd) (wk) (br) (yr) (wd)) := hx10.at 0 rfl
        refine W.eq (g2 := F0 m 86 ls [.int (1)]) rfl ?_
        refine lv_if_ne (tgt := 111) hx hb dX7_deduction_86 (by decide) (fun _ => ?_) (fun cq9 => absurd cq9 (by decide))
        refine lv_iconst (v := 0) hx hb dX7_deduction_111 (by decide) ?_
        have hex : zEx w u10 [(mm, (mo ad (1) (tb) (nI nd) (wk) (br) (yr) (wd)))] := ⟨(zm1 h11_mm zm0), fun a9 h9 => by rw [hx10.2 a9 (zm1 (show a9 ≠ mm from h9 (mm, (mo ad (1) (tb) (nI nd) (wk) (br) (yr) (wd))) (List.mem_of_getElem? (i := 0) rfl)) zm0), ew1, va_up_ne _ _ (show a9 ≠ mm from h9 (mm, (mo ad (1) (tb) (nI nd) (wk) (br) (yr) (wd))) (List.mem_of_getElem? (i := 0) rfl))]⟩
        exact z_iret hx hb hr hlocks hS (Nat.le_of_ble_eq_true rfl) (Nat.le_of_ble_eq_true rfl) dX7_deduction_112 ⟨rfl, zMQ.o hM h_m hinj hex⟩
      · refine lv_lload hx hb dX7_deduction_38 (lv_at hl 4 rfl) ?_
        refine lv_ldc2 (v := -1) hx hb hown (hts (.constantLong RX7 214 (-1)) (by decide +kernel)) dX7_deduction_40 ?_
        refine lv_ldc2 (v := 1000000000000) hx hb hown (hts (.constantLong RX7 210 (1000000000000)) (by decide +kernel)) dX7_deduction_43 ?_
        refine z_rS (As := [.long (ca), .long ((-1)), .long (1000000000000)]) (rest := []) (n := 3) ⟨hx, hb, hml, hown, hts⟩ (c_X7_in l D cs w1 H.size (ca) (-1) (1000000000000)) gX7_deduction_X7_in rfl ⟨by decide +kernel, by decide +kernel, by decide +kernel⟩ ⟨Nat.le_of_ble_eq_true rfl, Nat.le_of_ble_eq_true rfl⟩ hK hE hS rfl hl.1 rfl (Nat.le_of_ble_eq_true rfl) dX7_deduction_46 ⟨Nat.le_of_ble_eq_true rfl, Nat.le_of_ble_eq_true rfl⟩ (fun H locs hS => ?_)
        refine lv_if_eq (tgt := 68) hx hb dX7_deduction_49 (by decide) (fun c49 => ?_) (fun c49 => ?_)
        · refine lv_iconst (v := 0) hx hb dX7_deduction_68 (by decide) ?_
          refine lv_istore (lv' := [(9, .int (0)), (0, .ref (mm)), (1, .int (ea)), (2, .int (so)), (3, .long (si)), (5, .long (ca)), (7, .long (bs))]) hx hb dX7_deduction_69 hl (by decide) rfl (fun ls hl => ?_)
          refine lv_aload_n hx hb dX7_deduction_71 rfl (lv_at hl 1 rfl) ?_
          refine lv_iload hx hb dX7_deduction_72 (lv_at hl 0 rfl) ?_
          refine lv_if_ne (tgt := 81) hx hb dX7_deduction_74 (by decide) (fun cq9 => absurd rfl cq9) (fun _ => ?_)
          refine lv_iconst (v := 1) hx hb dX7_deduction_77 (by decide) ?_
          refine lv_goto (tgt := 82) hx hb dX7_deduction_78 (by decide) ?_
          refine lv_iconst (v := 1) hx hb dX7_deduction_82 (by decide) ?_
          refine z_invV (As := [.int (1), .int (1)]) (rest := []) (n := 2) ⟨hx, hb, hml, hown, hts⟩ (c1_X7_throwsIf l D cs w1 H.size mm ad (0) (tb) (nI nd) (wk) (br) (yr) (wd) 1 h1_mm) gX7_deduction_X7_throwsIf rfl ⟨rfl, by decide +kernel, by decide +kernel, by decide +kernel⟩ ⟨Nat.le_of_ble_eq_true rfl, Nat.le_of_ble_eq_true rfl⟩ hK hE hS rfl h1_mm rfl hl.1 rfl (Nat.le_of_ble_eq_true rfl) dX7_deduction_83 ⟨Nat.le_of_ble_eq_true rfl, Nat.le_of_ble_eq_true rfl⟩ (fun v9 u12 H locs hq hS => ?_)
          obtain ⟨rfl, hx12⟩ := hq
          have h13_mm : u12 (mm) = some (mo ad (1) (tb) (nI nd) (wk) (br) (yr) (wd)) := hx12.at 0 rfl
          refine W.eq (g2 := F0 m 86 ls [.int (1)]) rfl ?_
          refine lv_if_ne (tgt := 111) hx hb dX7_deduction_86 (by decide) (fun _ => ?_) (fun cq9 => absurd cq9 (by decide))
          refine lv_iconst (v := 0) hx hb dX7_deduction_111 (by decide) ?_
          have hex : zEx w u12 [(mm, (mo ad (1) (tb) (nI nd) (wk) (br) (yr) (wd)))] := ⟨(zm1 h13_mm zm0), fun a9 h9 => by rw [hx12.2 a9 (zm1 (show a9 ≠ mm from h9 (mm, (mo ad (1) (tb) (nI nd) (wk) (br) (yr) (wd))) (List.mem_of_getElem? (i := 0) rfl)) zm0), ew1, va_up_ne _ _ (show a9 ≠ mm from h9 (mm, (mo ad (1) (tb) (nI nd) (wk) (br) (yr) (wd))) (List.mem_of_getElem? (i := 0) rfl))]⟩
          exact z_iret hx hb hr hlocks hS (Nat.le_of_ble_eq_true rfl) (Nat.le_of_ble_eq_true rfl) dX7_deduction_112 ⟨rfl, zMQ.o hM h_m hinj hex⟩
        · refine lv_lload hx hb dX7_deduction_52 (lv_at hl 5 rfl) ?_
          refine lv_lconst (v := 0) hx hb dX7_deduction_54 (by decide) ?_
          refine lv_ldc2 (v := 1000000000000) hx hb hown (hts (.constantLong RX7 210 (1000000000000)) (by decide +kernel)) dX7_deduction_55 ?_
          refine z_rS (As := [.long (bs), .long (0), .long (1000000000000)]) (rest := []) (n := 3) ⟨hx, hb, hml, hown, hts⟩ (c_X7_in l D cs w1 H.size (bs) (0) (1000000000000)) gX7_deduction_X7_in rfl ⟨by decide +kernel, by decide +kernel, by decide +kernel⟩ ⟨Nat.le_of_ble_eq_true rfl, Nat.le_of_ble_eq_true rfl⟩ hK hE hS rfl hl.1 rfl (Nat.le_of_ble_eq_true rfl) dX7_deduction_58 ⟨Nat.le_of_ble_eq_true rfl, Nat.le_of_ble_eq_true rfl⟩ (fun H locs hS => ?_)
          refine lv_if_eq (tgt := 68) hx hb dX7_deduction_61 (by decide) (fun c61 => ?_) (fun c61 => ?_)
          · refine lv_iconst (v := 0) hx hb dX7_deduction_68 (by decide) ?_
            refine lv_istore (lv' := [(9, .int (0)), (0, .ref (mm)), (1, .int (ea)), (2, .int (so)), (3, .long (si)), (5, .long (ca)), (7, .long (bs))]) hx hb dX7_deduction_69 hl (by decide) rfl (fun ls hl => ?_)
            refine lv_aload_n hx hb dX7_deduction_71 rfl (lv_at hl 1 rfl) ?_
            refine lv_iload hx hb dX7_deduction_72 (lv_at hl 0 rfl) ?_
            refine lv_if_ne (tgt := 81) hx hb dX7_deduction_74 (by decide) (fun cq9 => absurd rfl cq9) (fun _ => ?_)
            refine lv_iconst (v := 1) hx hb dX7_deduction_77 (by decide) ?_
            refine lv_goto (tgt := 82) hx hb dX7_deduction_78 (by decide) ?_
            refine lv_iconst (v := 1) hx hb dX7_deduction_82 (by decide) ?_
            refine z_invV (As := [.int (1), .int (1)]) (rest := []) (n := 2) ⟨hx, hb, hml, hown, hts⟩ (c1_X7_throwsIf l D cs w1 H.size mm ad (0) (tb) (nI nd) (wk) (br) (yr) (wd) 1 h1_mm) gX7_deduction_X7_throwsIf rfl ⟨rfl, by decide +kernel, by decide +kernel, by decide +kernel⟩ ⟨Nat.le_of_ble_eq_true rfl, Nat.le_of_ble_eq_true rfl⟩ hK hE hS rfl h1_mm rfl hl.1 rfl (Nat.le_of_ble_eq_true rfl) dX7_deduction_83 ⟨Nat.le_of_ble_eq_true rfl, Nat.le_of_ble_eq_true rfl⟩ (fun v9 u14 H locs hq hS => ?_)
            obtain ⟨rfl, hx14⟩ := hq
            have h15_mm : u14 (mm) = some (mo ad (1) (tb) (nI nd) (wk) (br) (yr) (wd)) := hx14.at 0 rfl
            refine W.eq (g2 := F0 m 86 ls [.int (1)]) rfl ?_
            refine lv_if_ne (tgt := 111) hx hb dX7_deduction_86 (by decide) (fun _ => ?_) (fun cq9 => absurd cq9 (by decide))
            refine lv_iconst (v := 0) hx hb dX7_deduction_111 (by decide) ?_
            have hex : zEx w u14 [(mm, (mo ad (1) (tb) (nI nd) (wk) (br) (yr) (wd)))] := ⟨(zm1 h15_mm zm0), fun a9 h9 => by rw [hx14.2 a9 (zm1 (show a9 ≠ mm from h9 (mm, (mo ad (1) (tb) (nI nd) (wk) (br) (yr) (wd))) (List.mem_of_getElem? (i := 0) rfl)) zm0), ew1, va_up_ne _ _ (show a9 ≠ mm from h9 (mm, (mo ad (1) (tb) (nI nd) (wk) (br) (yr) (wd))) (List.mem_of_getElem? (i := 0) rfl))]⟩
            exact z_iret hx hb hr hlocks hS (Nat.le_of_ble_eq_true rfl) (Nat.le_of_ble_eq_true rfl) dX7_deduction_112 ⟨rfl, zMQ.o hM h_m hinj hex⟩
          · exact absurd (mGood.mpr ⟨mIn_ne c14, by rw [if_pos c20]; exact mIn_ne c35, mIn_ne c49, mIn_ne c61⟩) hbad
set_option maxHeartbeats 4000000 in
set_option maxRecDepth 100000 in
theorem t2_X7_deduction (l : Launch) (D : va_G) (cs : Nat → ClassId) (w : zw) (sz : Nat) (mm : Nat) (ad : Nat → Nat) (J : Nat → Nat → Int64) (K : Nat → Nat → Int32) (th tb wk br yr wd : Int32) (nd : Nat) (ea so : Int32) (si ca bs : Int64) (hinj : ∀ i j : Nat, i ≠ j → ad i ≠ ad j) (hM : zMA cs w ad J K) (hnd : nd ≤ 8) (hgood : zSizeB so si = 1 ∧ (ca = -1 ∨ zUpTo ca 1000000000000 = 1) ∧ zUpTo bs 1000000000000 = 1) (h8 : nd = 8) (h_m : w (mm) = some (mo ad (th) (tb) (nI nd) (wk) (br) (yr) (wd))) : zM l D cs yX7_deduction wsX7_deduction 3 0 0 w sz [.ref (mm), .int (ea), .int (so), .long (si), .long (ca), .long (bs)] (fun r w2 => r = some (.int 0) ∧ zMQ cs w w2 ad mm (mo ad (2) (tb) (nI nd) (wk) (br) (yr) (wd)) J K) := by
  refine z_met (cc := cX7_deduction) (maxL := 10) (ret := (some .int)) (by decide) rfl (Nat.le_of_ble_eq_true rfl) ?_
  intro p e s m below meth c hx hb hr hml hown hts hlocks hnm hsz hK hE hS ls hl
  have hl : lv_has ls 10 [(0, .ref (mm)), (1, .int (ea)), (2, .int (so)), (3, .long (si)), (5, .long (ca)), (7, .long (bs))] := hl
  have hg := mGood.mp hgood
  have hg1 := hg.1
  have hg2 := hg.2.1
  have hg3 := hg.2.2.1
  have hg4 := hg.2.2.2
  refine lv_aload_n hx hb dX7_deduction_0 rfl (lv_at hl 0 rfl) ?_
  refine lv_iconst (v := 0) hx hb dX7_deduction_1 (by decide) ?_
  refine z_put (C := RX7) (T := TX7) (N := 45) (v := .int (0)) hx hb hts (by decide +kernel) tyX7 tyX7_ok nmX7 hown hK hS h_m rfl 0 (by decide) (hts (.fieldLink RX7 126 "PayLedgerModel" "thrown" "I") (by decide +kernel)) rfl rfl rfl (Nat.le_of_ble_eq_true rfl) dX7_deduction_2 (fun H locs hS => ?_)
  obtain ⟨w1, ew1⟩ : ∃ z : zw, z = va_up w (mm) (some (mo ad (0) (tb) (nI nd) (wk) (br) (yr) (wd))) := ⟨_, rfl⟩
  have hS : zS (zA w sz) D w1 s.heap H locs := by rw [ew1]; exact hS
  have h1_mm : w1 (mm) = some (mo ad (0) (tb) (nI nd) (wk) (br) (yr) (wd)) := by rw [ew1]; exact va_up_self _ _ _
  refine lv_iload_n hx hb dX7_deduction_5 rfl (lv_at hl 2 rfl) ?_
  refine lv_i2l (v := ((so : Int32).toInt64)) hx hb dX7_deduction_6 rfl ?_
  refine lv_lconst (v := 0) hx hb dX7_deduction_7 (by decide) ?_
  refine lv_ldc2 (v := 2) hx hb hown (hts (.constantLong RX7 130 (2)) (by decide +kernel)) dX7_deduction_8 ?_
  refine z_rS (As := [.long (((so : Int32).toInt64)), .long (0), .long (2)]) (rest := []) (n := 3) ⟨hx, hb, hml, hown, hts⟩ (c_X7_in l D cs w1 H.size (so.toInt64) (0) (2)) gX7_deduction_X7_in rfl ⟨by decide +kernel, by decide +kernel, by decide +kernel⟩ ⟨Nat.le_of_ble_eq_true rfl, Nat.le_of_ble_eq_true rfl⟩ hK hE hS rfl hl.1 rfl (Nat.le_of_ble_eq_true rfl) dX7_deduction_11 ⟨Nat.le_of_ble_eq_true rfl, Nat.le_of_ble_eq_true rfl⟩ (fun H locs hS => ?_)
  refine lv_if_eq (tgt := 68) hx hb dX7_deduction_14 (by decide) (fun cq9 => absurd cq9 (by rw [hg1]; decide)) (fun _ => ?_)
  refine lv_lload_n hx hb dX7_deduction_17 rfl (lv_at hl 3 rfl) ?_
  refine lv_lconst (v := 0) hx hb dX7_deduction_18 (by decide) ?_
  refine lv_iload_n hx hb dX7_deduction_19 rfl (lv_at hl 2 rfl) ?_
  refine lv_if_ne (tgt := 29) hx hb dX7_deduction_20 (by decide) (fun c20 => ?_) (fun c20 => ?_)
  · rw [if_neg c20] at hg2
    refine lv_ldc2 (v := 1000000) hx hb hown (hts (.constantLong RX7 136 (1000000)) (by decide +kernel)) dX7_deduction_29 ?_
    refine z_rS (As := [.long (si), .long (0), .long (1000000)]) (rest := []) (n := 3) ⟨hx, hb, hml, hown, hts⟩ (c_X7_in l D cs w1 H.size (si) (0) (1000000)) gX7_deduction_X7_in rfl ⟨by decide +kernel, by decide +kernel, by decide +kernel⟩ ⟨Nat.le_of_ble_eq_true rfl, Nat.le_of_ble_eq_true rfl⟩ hK hE hS rfl hl.1 rfl (Nat.le_of_ble_eq_true rfl) dX7_deduction_32 ⟨Nat.le_of_ble_eq_true rfl, Nat.le_of_ble_eq_true rfl⟩ (fun H locs hS => ?_)
    refine lv_if_eq (tgt := 68) hx hb dX7_deduction_35 (by decide) (fun cq9 => absurd cq9 (by rw [hg2]; decide)) (fun _ => ?_)
    refine lv_lload hx hb dX7_deduction_38 (lv_at hl 4 rfl) ?_
    refine lv_ldc2 (v := -1) hx hb hown (hts (.constantLong RX7 214 (-1)) (by decide +kernel)) dX7_deduction_40 ?_
    refine lv_ldc2 (v := 1000000000000) hx hb hown (hts (.constantLong RX7 210 (1000000000000)) (by decide +kernel)) dX7_deduction_43 ?_
    refine z_rS (As := [.long (ca), .long ((-1)), .long (1000000000000)]) (rest := []) (n := 3) ⟨hx, hb, hml, hown, hts⟩ (c_X7_in l D cs w1 H.size (ca) (-1) (1000000000000)) gX7_deduction_X7_in rfl ⟨by decide +kernel, by decide +kernel, by decide +kernel⟩ ⟨Nat.le_of_ble_eq_true rfl, Nat.le_of_ble_eq_true rfl⟩ hK hE hS rfl hl.1 rfl (Nat.le_of_ble_eq_true rfl) dX7_deduction_46 ⟨Nat.le_of_ble_eq_true rfl, Nat.le_of_ble_eq_true rfl⟩ (fun H locs hS => ?_)
    refine lv_if_eq (tgt := 68) hx hb dX7_deduction_49 (by decide) (fun cq9 => absurd cq9 (by rw [hg3]; decide)) (fun _ => ?_)
    refine lv_lload hx hb dX7_deduction_52 (lv_at hl 5 rfl) ?_
    refine lv_lconst (v := 0) hx hb dX7_deduction_54 (by decide) ?_
    refine lv_ldc2 (v := 1000000000000) hx hb hown (hts (.constantLong RX7 210 (1000000000000)) (by decide +kernel)) dX7_deduction_55 ?_
    refine z_rS (As := [.long (bs), .long (0), .long (1000000000000)]) (rest := []) (n := 3) ⟨hx, hb, hml, hown, hts⟩ (c_X7_in l D cs w1 H.size (bs) (0) (1000000000000)) gX7_deduction_X7_in rfl ⟨by decide +kernel, by decide +kernel, by decide +kernel⟩ ⟨Nat.le_of_ble_eq_true rfl, Nat.le_of_ble_eq_true rfl⟩ hK hE hS rfl hl.1 rfl (Nat.le_of_ble_eq_true rfl) dX7_deduction_58 ⟨Nat.le_of_ble_eq_true rfl, Nat.le_of_ble_eq_true rfl⟩ (fun H locs hS => ?_)
    refine lv_if_eq (tgt := 68) hx hb dX7_deduction_61 (by decide) (fun cq9 => absurd cq9 (by rw [hg4]; decide)) (fun _ => ?_)
    refine lv_iconst (v := 1) hx hb dX7_deduction_64 (by decide) ?_
    refine lv_goto (tgt := 69) hx hb dX7_deduction_65 (by decide) ?_
    refine lv_istore (lv' := [(9, .int (1)), (0, .ref (mm)), (1, .int (ea)), (2, .int (so)), (3, .long (si)), (5, .long (ca)), (7, .long (bs))]) hx hb dX7_deduction_69 hl (by decide) rfl (fun ls hl => ?_)
    refine lv_aload_n hx hb dX7_deduction_71 rfl (lv_at hl 1 rfl) ?_
    refine lv_iload hx hb dX7_deduction_72 (lv_at hl 0 rfl) ?_
    refine lv_if_ne (tgt := 81) hx hb dX7_deduction_74 (by decide) (fun _ => ?_) (fun cq9 => absurd cq9 (by decide))
    refine lv_iconst (v := 0) hx hb dX7_deduction_81 (by decide) ?_
    refine lv_iconst (v := 1) hx hb dX7_deduction_82 (by decide) ?_
    refine z_rV (As := [.int (0), .int (1)]) (rest := []) (n := 2) ⟨hx, hb, hml, hown, hts⟩ (c0_X7_throwsIf l D cs w1 H.size mm ad (0) (tb) (nI nd) (wk) (br) (yr) (wd) 1 h1_mm) gX7_deduction_X7_throwsIf rfl ⟨rfl, by decide +kernel, by decide +kernel, by decide +kernel⟩ ⟨Nat.le_of_ble_eq_true rfl, Nat.le_of_ble_eq_true rfl⟩ hK hE hS rfl h1_mm rfl hl.1 rfl (Nat.le_of_ble_eq_true rfl) dX7_deduction_83 ⟨Nat.le_of_ble_eq_true rfl, Nat.le_of_ble_eq_true rfl⟩ (fun H locs hS => ?_)
    refine lv_if_ne (tgt := 111) hx hb dX7_deduction_86 (by decide) (fun cq9 => absurd rfl cq9) (fun _ => ?_)
    refine lv_aload_n hx hb dX7_deduction_89 rfl (lv_at hl 1 rfl) ?_
    refine lv_aload_n hx hb dX7_deduction_90 rfl (lv_at hl 1 rfl) ?_
    refine z_get (C := RX7) (T := TX7) (N := 45) (v := .int (nI nd)) hx hb hts (by decide +kernel) hown hK hS h1_mm rfl 11 (by decide) (hts (.fieldLink RX7 157 "PayLedgerModel" "deductions" "I") (by decide +kernel)) rfl dX7_deduction_91 ?_
    refine lv_bipush (v := 8) hx hb dX7_deduction_94 (by decide) ?_
    refine lv_icmp_ne (tgt := 103) hx hb dX7_deduction_96 (by decide) (fun cq9 => absurd (by rw [h8]; rfl) cq9) (fun _ => ?_)
    refine lv_iconst (v := 1) hx hb dX7_deduction_99 (by decide) ?_
    refine lv_goto (tgt := 104) hx hb dX7_deduction_100 (by decide) ?_
    refine lv_iconst (v := 2) hx hb dX7_deduction_104 (by decide) ?_
    refine z_invV (As := [.int (1), .int (2)]) (rest := []) (n := 2) ⟨hx, hb, hml, hown, hts⟩ (c1_X7_throwsIf l D cs w1 H.size mm ad (0) (tb) (nI nd) (wk) (br) (yr) (wd) 2 h1_mm) gX7_deduction_X7_throwsIf rfl ⟨rfl, by decide +kernel, by decide +kernel, by decide +kernel⟩ ⟨Nat.le_of_ble_eq_true rfl, Nat.le_of_ble_eq_true rfl⟩ hK hE hS rfl h1_mm rfl hl.1 rfl (Nat.le_of_ble_eq_true rfl) dX7_deduction_105 ⟨Nat.le_of_ble_eq_true rfl, Nat.le_of_ble_eq_true rfl⟩ (fun v9 u2 H locs hq hS => ?_)
    obtain ⟨rfl, hx2⟩ := hq
    have h3_mm : u2 (mm) = some (mo ad (2) (tb) (nI nd) (wk) (br) (yr) (wd)) := hx2.at 0 rfl
    refine W.eq (g2 := F0 m 108 ls [.int (1)]) rfl ?_
    refine lv_if_eq (tgt := 113) hx hb dX7_deduction_108 (by decide) (fun cq9 => absurd cq9 (by decide)) (fun _ => ?_)
    refine lv_iconst (v := 0) hx hb dX7_deduction_111 (by decide) ?_
    have hex : zEx w u2 [(mm, (mo ad (2) (tb) (nI nd) (wk) (br) (yr) (wd)))] := ⟨(zm1 h3_mm zm0), fun a9 h9 => by rw [hx2.2 a9 (zm1 (show a9 ≠ mm from h9 (mm, (mo ad (2) (tb) (nI nd) (wk) (br) (yr) (wd))) (List.mem_of_getElem? (i := 0) rfl)) zm0), ew1, va_up_ne _ _ (show a9 ≠ mm from h9 (mm, (mo ad (2) (tb) (nI nd) (wk) (br) (yr) (wd))) (List.mem_of_getElem? (i := 0) rfl))]⟩
    exact z_iret hx hb hr hlocks hS (Nat.le_of_ble_eq_true rfl) (Nat.le_of_ble_eq_true rfl) dX7_deduction_112 ⟨rfl, zMQ.o hM h_m hinj hex⟩
  · rw [if_pos c20] at hg2
    refine lv_ldc2 (v := 1000000000) hx hb hown (hts (.constantLong RX7 212 (1000000000)) (by decide +kernel)) dX7_deduction_23 ?_
    refine lv_goto (tgt := 32) hx hb dX7_deduction_26 (by decide) ?_
    refine z_rS (As := [.long (si), .long (0), .long (1000000000)]) (rest := []) (n := 3) ⟨hx, hb, hml, hown, hts⟩ (c_X7_in l D cs w1 H.size (si) (0) (1000000000)) gX7_deduction_X7_in rfl ⟨by decide +kernel, by decide +kernel, by decide +kernel⟩ ⟨Nat.le_of_ble_eq_true rfl, Nat.le_of_ble_eq_true rfl⟩ hK hE hS rfl hl.1 rfl (Nat.le_of_ble_eq_true rfl) dX7_deduction_32 ⟨Nat.le_of_ble_eq_true rfl, Nat.le_of_ble_eq_true rfl⟩ (fun H locs hS => ?_)
    refine lv_if_eq (tgt := 68) hx hb dX7_deduction_35 (by decide) (fun cq9 => absurd cq9 (by rw [hg2]; decide)) (fun _ => ?_)
    refine lv_lload hx hb dX7_deduction_38 (lv_at hl 4 rfl) ?_
    refine lv_ldc2 (v := -1) hx hb hown (hts (.constantLong RX7 214 (-1)) (by decide +kernel)) dX7_deduction_40 ?_
    refine lv_ldc2 (v := 1000000000000) hx hb hown (hts (.constantLong RX7 210 (1000000000000)) (by decide +kernel)) dX7_deduction_43 ?_
    refine z_rS (As := [.long (ca), .long ((-1)), .long (1000000000000)]) (rest := []) (n := 3) ⟨hx, hb, hml, hown, hts⟩ (c_X7_in l D cs w1 H.size (ca) (-1) (1000000000000)) gX7_deduction_X7_in rfl ⟨by decide +kernel, by decide +kernel, by decide +kernel⟩ ⟨Nat.le_of_ble_eq_true rfl, Nat.le_of_ble_eq_true rfl⟩ hK hE hS rfl hl.1 rfl (Nat.le_of_ble_eq_true rfl) dX7_deduction_46 ⟨Nat.le_of_ble_eq_true rfl, Nat.le_of_ble_eq_true rfl⟩ (fun H locs hS => ?_)
    refine lv_if_eq (tgt := 68) hx hb dX7_deduction_49 (by decide) (fun cq9 => absurd cq9 (by rw [hg3]; decide)) (fun _ => ?_)
    refine lv_lload hx hb dX7_deduction_52 (lv_at hl 5 rfl) ?_
    refine lv_lconst (v := 0) hx hb dX7_deduction_54 (by decide) ?_
    refine lv_ldc2 (v := 1000000000000) hx hb hown (hts (.constantLong RX7 210 (1000000000000)) (by decide +kernel)) dX7_deduction_55 ?_
    refine z_rS (As := [.long (bs), .long (0), .long (1000000000000)]) (rest := []) (n := 3) ⟨hx, hb, hml, hown, hts⟩ (c_X7_in l D cs w1 H.size (bs) (0) (1000000000000)) gX7_deduction_X7_in rfl ⟨by decide +kernel, by decide +kernel, by decide +kernel⟩ ⟨Nat.le_of_ble_eq_true rfl, Nat.le_of_ble_eq_true rfl⟩ hK hE hS rfl hl.1 rfl (Nat.le_of_ble_eq_true rfl) dX7_deduction_58 ⟨Nat.le_of_ble_eq_true rfl, Nat.le_of_ble_eq_true rfl⟩ (fun H locs hS => ?_)
    refine lv_if_eq (tgt := 68) hx hb dX7_deduction_61 (by decide) (fun cq9 => absurd cq9 (by rw [hg4]; decide)) (fun _ => ?_)
    refine lv_iconst (v := 1) hx hb dX7_deduction_64 (by decide) ?_
    refine lv_goto (tgt := 69) hx hb dX7_deduction_65 (by decide) ?_
    refine lv_istore (lv' := [(9, .int (1)), (0, .ref (mm)), (1, .int (ea)), (2, .int (so)), (3, .long (si)), (5, .long (ca)), (7, .long (bs))]) hx hb dX7_deduction_69 hl (by decide) rfl (fun ls hl => ?_)
    refine lv_aload_n hx hb dX7_deduction_71 rfl (lv_at hl 1 rfl) ?_
    refine lv_iload hx hb dX7_deduction_72 (lv_at hl 0 rfl) ?_
    refine lv_if_ne (tgt := 81) hx hb dX7_deduction_74 (by decide) (fun _ => ?_) (fun cq9 => absurd cq9 (by decide))
    refine lv_iconst (v := 0) hx hb dX7_deduction_81 (by decide) ?_
    refine lv_iconst (v := 1) hx hb dX7_deduction_82 (by decide) ?_
    refine z_rV (As := [.int (0), .int (1)]) (rest := []) (n := 2) ⟨hx, hb, hml, hown, hts⟩ (c0_X7_throwsIf l D cs w1 H.size mm ad (0) (tb) (nI nd) (wk) (br) (yr) (wd) 1 h1_mm) gX7_deduction_X7_throwsIf rfl ⟨rfl, by decide +kernel, by decide +kernel, by decide +kernel⟩ ⟨Nat.le_of_ble_eq_true rfl, Nat.le_of_ble_eq_true rfl⟩ hK hE hS rfl h1_mm rfl hl.1 rfl (Nat.le_of_ble_eq_true rfl) dX7_deduction_83 ⟨Nat.le_of_ble_eq_true rfl, Nat.le_of_ble_eq_true rfl⟩ (fun H locs hS => ?_)
    refine lv_if_ne (tgt := 111) hx hb dX7_deduction_86 (by decide) (fun cq9 => absurd rfl cq9) (fun _ => ?_)
    refine lv_aload_n hx hb dX7_deduction_89 rfl (lv_at hl 1 rfl) ?_
    refine lv_aload_n hx hb dX7_deduction_90 rfl (lv_at hl 1 rfl) ?_
    refine z_get (C := RX7) (T := TX7) (N := 45) (v := .int (nI nd)) hx hb hts (by decide +kernel) hown hK hS h1_mm rfl 11 (by decide) (hts (.fieldLink RX7 157 "PayLedgerModel" "deductions" "I") (by decide +kernel)) rfl dX7_deduction_91 ?_
    refine lv_bipush (v := 8) hx hb dX7_deduction_94 (by decide) ?_
    refine lv_icmp_ne (tgt := 103) hx hb dX7_deduction_96 (by decide) (fun cq9 => absurd (by rw [h8]; rfl) cq9) (fun _ => ?_)
    refine lv_iconst (v := 1) hx hb dX7_deduction_99 (by decide) ?_
    refine lv_goto (tgt := 104) hx hb dX7_deduction_100 (by decide) ?_
    refine lv_iconst (v := 2) hx hb dX7_deduction_104 (by decide) ?_
    refine z_invV (As := [.int (1), .int (2)]) (rest := []) (n := 2) ⟨hx, hb, hml, hown, hts⟩ (c1_X7_throwsIf l D cs w1 H.size mm ad (0) (tb) (nI nd) (wk) (br) (yr) (wd) 2 h1_mm) gX7_deduction_X7_throwsIf rfl ⟨rfl, by decide +kernel, by decide +kernel, by decide +kernel⟩ ⟨Nat.le_of_ble_eq_true rfl, Nat.le_of_ble_eq_true rfl⟩ hK hE hS rfl h1_mm rfl hl.1 rfl (Nat.le_of_ble_eq_true rfl) dX7_deduction_105 ⟨Nat.le_of_ble_eq_true rfl, Nat.le_of_ble_eq_true rfl⟩ (fun v9 u4 H locs hq hS => ?_)
    obtain ⟨rfl, hx4⟩ := hq
    have h5_mm : u4 (mm) = some (mo ad (2) (tb) (nI nd) (wk) (br) (yr) (wd)) := hx4.at 0 rfl
    refine W.eq (g2 := F0 m 108 ls [.int (1)]) rfl ?_
    refine lv_if_eq (tgt := 113) hx hb dX7_deduction_108 (by decide) (fun cq9 => absurd cq9 (by decide)) (fun _ => ?_)
    refine lv_iconst (v := 0) hx hb dX7_deduction_111 (by decide) ?_
    have hex : zEx w u4 [(mm, (mo ad (2) (tb) (nI nd) (wk) (br) (yr) (wd)))] := ⟨(zm1 h5_mm zm0), fun a9 h9 => by rw [hx4.2 a9 (zm1 (show a9 ≠ mm from h9 (mm, (mo ad (2) (tb) (nI nd) (wk) (br) (yr) (wd))) (List.mem_of_getElem? (i := 0) rfl)) zm0), ew1, va_up_ne _ _ (show a9 ≠ mm from h9 (mm, (mo ad (2) (tb) (nI nd) (wk) (br) (yr) (wd))) (List.mem_of_getElem? (i := 0) rfl))]⟩
    exact z_iret hx hb hr hlocks hS (Nat.le_of_ble_eq_true rfl) (Nat.le_of_ble_eq_true rfl) dX7_deduction_112 ⟨rfl, zMQ.o hM h_m hinj hex⟩
set_option maxHeartbeats 4000000 in
set_option maxRecDepth 100000 in
theorem c_X7_deduction (l : Launch) (D : va_G) (cs : Nat → ClassId) (w : zw) (sz : Nat) (mm : Nat) (ad : Nat → Nat) (J : Nat → Nat → Int64) (K : Nat → Nat → Int32) (th tb wk br yr wd : Int32) (nd : Nat) (ea so : Int32) (si ca bs : Int64) (hinj : ∀ i j : Nat, i ≠ j → ad i ≠ ad j) (hM : zMA cs w ad J K) (hnd : nd ≤ 8) (hgood : zSizeB so si = 1 ∧ (ca = -1 ∨ zUpTo ca 1000000000000 = 1) ∧ zUpTo bs 1000000000000 = 1) (h8 : ¬ nd = 8) (he : ea = 0 ∨ ea = 1) (h_m : w (mm) = some (mo ad (th) (tb) (nI nd) (wk) (br) (yr) (wd))) : zM l D cs yX7_deduction wsX7_deduction 3 0 0 w sz [.ref (mm), .int (ea), .int (so), .long (si), .long (ca), .long (bs)] (fun r w2 => r = some (.int (nI nd)) ∧ zMQ cs w w2 ad mm (mo ad (0) (tb) (nI (nd + 1)) (wk) (br) (yr) (wd)) (va_up (va_up (va_up J 8 (vp_updL (J 8) nd si)) 9 (vp_updL (J 9) nd ca)) 10 (vp_updL (J 10) nd bs)) (va_up (va_up K 6 (upd (K 6) nd ea)) 7 (upd (K 7) nd so))) := by
  refine z_met (cc := cX7_deduction) (maxL := 10) (ret := (some .int)) (by decide) rfl (Nat.le_of_ble_eq_true rfl) ?_
  intro p e s m below meth c hx hb hr hml hown hts hlocks hnm hsz hK hE hS ls hl
  have hl : lv_has ls 10 [(0, .ref (mm)), (1, .int (ea)), (2, .int (so)), (3, .long (si)), (5, .long (ca)), (7, .long (bs))] := hl
  have hg := mGood.mp hgood
  have hg1 := hg.1
  have hg2 := hg.2.1
  have hg3 := hg.2.2.1
  have hg4 := hg.2.2.2
  have h_6 : w (ad 6) = some (eZ cs (8) (K 6)) := hM 6 (by decide)
  have h_7 : w (ad 7) = some (eI cs (8) (K 7)) := hM 7 (by decide)
  have h_8 : w (ad 8) = some (eJ cs (8) (J 8)) := hM 8 (by decide)
  have h_9 : w (ad 9) = some (eJ cs (8) (J 9)) := hM 9 (by decide)
  have h_10 : w (ad 10) = some (eJ cs (8) (J 10)) := hM 10 (by decide)
  refine lv_aload_n hx hb dX7_deduction_0 rfl (lv_at hl 0 rfl) ?_
  refine lv_iconst (v := 0) hx hb dX7_deduction_1 (by decide) ?_
  refine z_put (C := RX7) (T := TX7) (N := 45) (v := .int (0)) hx hb hts (by decide +kernel) tyX7 tyX7_ok nmX7 hown hK hS h_m rfl 0 (by decide) (hts (.fieldLink RX7 126 "PayLedgerModel" "thrown" "I") (by decide +kernel)) rfl rfl rfl (Nat.le_of_ble_eq_true rfl) dX7_deduction_2 (fun H locs hS => ?_)
  obtain ⟨w1, ew1⟩ : ∃ z : zw, z = va_up w (mm) (some (mo ad (0) (tb) (nI nd) (wk) (br) (yr) (wd))) := ⟨_, rfl⟩
  have hS : zS (zA w sz) D w1 s.heap H locs := by rw [ew1]; exact hS
  have h1_mm : w1 (mm) = some (mo ad (0) (tb) (nI nd) (wk) (br) (yr) (wd)) := by rw [ew1]; exact va_up_self _ _ _
  have h1_ad6 : w1 (ad 6) = some (eZ cs (8) (K 6)) := by rw [ew1]; exact (va_up_ne _ _ (zne h_6 h_m (by intro q9; first | cases q9 | simp at q9))).trans h_6
  have h1_ad7 : w1 (ad 7) = some (eI cs (8) (K 7)) := by rw [ew1]; exact (va_up_ne _ _ (zne h_7 h_m (by intro q9; first | cases q9 | simp at q9))).trans h_7
  have h1_ad8 : w1 (ad 8) = some (eJ cs (8) (J 8)) := by rw [ew1]; exact (va_up_ne _ _ (zne h_8 h_m (by intro q9; first | cases q9 | simp at q9))).trans h_8
  have h1_ad9 : w1 (ad 9) = some (eJ cs (8) (J 9)) := by rw [ew1]; exact (va_up_ne _ _ (zne h_9 h_m (by intro q9; first | cases q9 | simp at q9))).trans h_9
  have h1_ad10 : w1 (ad 10) = some (eJ cs (8) (J 10)) := by rw [ew1]; exact (va_up_ne _ _ (zne h_10 h_m (by intro q9; first | cases q9 | simp at q9))).trans h_10
  refine lv_iload_n hx hb dX7_deduction_5 rfl (lv_at hl 2 rfl) ?_
  refine lv_i2l (v := ((so : Int32).toInt64)) hx hb dX7_deduction_6 rfl ?_
  refine lv_lconst (v := 0) hx hb dX7_deduction_7 (by decide) ?_
  refine lv_ldc2 (v := 2) hx hb hown (hts (.constantLong RX7 130 (2)) (by decide +kernel)) dX7_deduction_8 ?_
  refine z_rS (As := [.long (((so : Int32).toInt64)), .long (0), .long (2)]) (rest := []) (n := 3) ⟨hx, hb, hml, hown, hts⟩ (c_X7_in l D cs w1 H.size (so.toInt64) (0) (2)) gX7_deduction_X7_in rfl ⟨by decide +kernel, by decide +kernel, by decide +kernel⟩ ⟨Nat.le_of_ble_eq_true rfl, Nat.le_of_ble_eq_true rfl⟩ hK hE hS rfl hl.1 rfl (Nat.le_of_ble_eq_true rfl) dX7_deduction_11 ⟨Nat.le_of_ble_eq_true rfl, Nat.le_of_ble_eq_true rfl⟩ (fun H locs hS => ?_)
  refine lv_if_eq (tgt := 68) hx hb dX7_deduction_14 (by decide) (fun cq9 => absurd cq9 (by rw [hg1]; decide)) (fun _ => ?_)
  refine lv_lload_n hx hb dX7_deduction_17 rfl (lv_at hl 3 rfl) ?_
  refine lv_lconst (v := 0) hx hb dX7_deduction_18 (by decide) ?_
  refine lv_iload_n hx hb dX7_deduction_19 rfl (lv_at hl 2 rfl) ?_
  refine lv_if_ne (tgt := 29) hx hb dX7_deduction_20 (by decide) (fun c20 => ?_) (fun c20 => ?_)
  · rw [if_neg c20] at hg2
    refine lv_ldc2 (v := 1000000) hx hb hown (hts (.constantLong RX7 136 (1000000)) (by decide +kernel)) dX7_deduction_29 ?_
    refine z_rS (As := [.long (si), .long (0), .long (1000000)]) (rest := []) (n := 3) ⟨hx, hb, hml, hown, hts⟩ (c_X7_in l D cs w1 H.size (si) (0) (1000000)) gX7_deduction_X7_in rfl ⟨by decide +kernel, by decide +kernel, by decide +kernel⟩ ⟨Nat.le_of_ble_eq_true rfl, Nat.le_of_ble_eq_true rfl⟩ hK hE hS rfl hl.1 rfl (Nat.le_of_ble_eq_true rfl) dX7_deduction_32 ⟨Nat.le_of_ble_eq_true rfl, Nat.le_of_ble_eq_true rfl⟩ (fun H locs hS => ?_)
    refine lv_if_eq (tgt := 68) hx hb dX7_deduction_35 (by decide) (fun cq9 => absurd cq9 (by rw [hg2]; decide)) (fun _ => ?_)
    refine lv_lload hx hb dX7_deduction_38 (lv_at hl 4 rfl) ?_
    refine lv_ldc2 (v := -1) hx hb hown (hts (.constantLong RX7 214 (-1)) (by decide +kernel)) dX7_deduction_40 ?_
    refine lv_ldc2 (v := 1000000000000) hx hb hown (hts (.constantLong RX7 210 (1000000000000)) (by decide +kernel)) dX7_deduction_43 ?_
    refine z_rS (As := [.long (ca), .long ((-1)), .long (1000000000000)]) (rest := []) (n := 3) ⟨hx, hb, hml, hown, hts⟩ (c_X7_in l D cs w1 H.size (ca) (-1) (1000000000000)) gX7_deduction_X7_in rfl ⟨by decide +kernel, by decide +kernel, by decide +kernel⟩ ⟨Nat.le_of_ble_eq_true rfl, Nat.le_of_ble_eq_true rfl⟩ hK hE hS rfl hl.1 rfl (Nat.le_of_ble_eq_true rfl) dX7_deduction_46 ⟨Nat.le_of_ble_eq_true rfl, Nat.le_of_ble_eq_true rfl⟩ (fun H locs hS => ?_)
    refine lv_if_eq (tgt := 68) hx hb dX7_deduction_49 (by decide) (fun cq9 => absurd cq9 (by rw [hg3]; decide)) (fun _ => ?_)
    refine lv_lload hx hb dX7_deduction_52 (lv_at hl 5 rfl) ?_
    refine lv_lconst (v := 0) hx hb dX7_deduction_54 (by decide) ?_
    refine lv_ldc2 (v := 1000000000000) hx hb hown (hts (.constantLong RX7 210 (1000000000000)) (by decide +kernel)) dX7_deduction_55 ?_
    refine z_rS (As := [.long (bs), .long (0), .long (1000000000000)]) (rest := []) (n := 3) ⟨hx, hb, hml, hown, hts⟩ (c_X7_in l D cs w1 H.size (bs) (0) (1000000000000)) gX7_deduction_X7_in rfl ⟨by decide +kernel, by decide +kernel, by decide +kernel⟩ ⟨Nat.le_of_ble_eq_true rfl, Nat.le_of_ble_eq_true rfl⟩ hK hE hS rfl hl.1 rfl (Nat.le_of_ble_eq_true rfl) dX7_deduction_58 ⟨Nat.le_of_ble_eq_true rfl, Nat.le_of_ble_eq_true rfl⟩ (fun H locs hS => ?_)
    refine lv_if_eq (tgt := 68) hx hb dX7_deduction_61 (by decide) (fun cq9 => absurd cq9 (by rw [hg4]; decide)) (fun _ => ?_)
    refine lv_iconst (v := 1) hx hb dX7_deduction_64 (by decide) ?_
    refine lv_goto (tgt := 69) hx hb dX7_deduction_65 (by decide) ?_
    refine lv_istore (lv' := [(9, .int (1)), (0, .ref (mm)), (1, .int (ea)), (2, .int (so)), (3, .long (si)), (5, .long (ca)), (7, .long (bs))]) hx hb dX7_deduction_69 hl (by decide) rfl (fun ls hl => ?_)
    refine lv_aload_n hx hb dX7_deduction_71 rfl (lv_at hl 1 rfl) ?_
    refine lv_iload hx hb dX7_deduction_72 (lv_at hl 0 rfl) ?_
    refine lv_if_ne (tgt := 81) hx hb dX7_deduction_74 (by decide) (fun _ => ?_) (fun cq9 => absurd cq9 (by decide))
    refine lv_iconst (v := 0) hx hb dX7_deduction_81 (by decide) ?_
    refine lv_iconst (v := 1) hx hb dX7_deduction_82 (by decide) ?_
    refine z_rV (As := [.int (0), .int (1)]) (rest := []) (n := 2) ⟨hx, hb, hml, hown, hts⟩ (c0_X7_throwsIf l D cs w1 H.size mm ad (0) (tb) (nI nd) (wk) (br) (yr) (wd) 1 h1_mm) gX7_deduction_X7_throwsIf rfl ⟨rfl, by decide +kernel, by decide +kernel, by decide +kernel⟩ ⟨Nat.le_of_ble_eq_true rfl, Nat.le_of_ble_eq_true rfl⟩ hK hE hS rfl h1_mm rfl hl.1 rfl (Nat.le_of_ble_eq_true rfl) dX7_deduction_83 ⟨Nat.le_of_ble_eq_true rfl, Nat.le_of_ble_eq_true rfl⟩ (fun H locs hS => ?_)
    refine lv_if_ne (tgt := 111) hx hb dX7_deduction_86 (by decide) (fun cq9 => absurd rfl cq9) (fun _ => ?_)
    refine lv_aload_n hx hb dX7_deduction_89 rfl (lv_at hl 1 rfl) ?_
    refine lv_aload_n hx hb dX7_deduction_90 rfl (lv_at hl 1 rfl) ?_
    refine z_get (C := RX7) (T := TX7) (N := 45) (v := .int (nI nd)) hx hb hts (by decide +kernel) hown hK hS h1_mm rfl 11 (by decide) (hts (.fieldLink RX7 157 "PayLedgerModel" "deductions" "I") (by decide +kernel)) rfl dX7_deduction_91 ?_
    refine lv_bipush (v := 8) hx hb dX7_deduction_94 (by decide) ?_
    refine lv_icmp_ne (tgt := 103) hx hb dX7_deduction_96 (by decide) (fun _ => ?_) (fun cq9 => absurd cq9 (fun q9 => h8 ((nI_eq (b := 8) (by omega) (by omega)).mp q9)))
    refine lv_iconst (v := 0) hx hb dX7_deduction_103 (by decide) ?_
    refine lv_iconst (v := 2) hx hb dX7_deduction_104 (by decide) ?_
    refine z_rV (As := [.int (0), .int (2)]) (rest := []) (n := 2) ⟨hx, hb, hml, hown, hts⟩ (c0_X7_throwsIf l D cs w1 H.size mm ad (0) (tb) (nI nd) (wk) (br) (yr) (wd) 2 h1_mm) gX7_deduction_X7_throwsIf rfl ⟨rfl, by decide +kernel, by decide +kernel, by decide +kernel⟩ ⟨Nat.le_of_ble_eq_true rfl, Nat.le_of_ble_eq_true rfl⟩ hK hE hS rfl h1_mm rfl hl.1 rfl (Nat.le_of_ble_eq_true rfl) dX7_deduction_105 ⟨Nat.le_of_ble_eq_true rfl, Nat.le_of_ble_eq_true rfl⟩ (fun H locs hS => ?_)
    refine lv_if_eq (tgt := 113) hx hb dX7_deduction_108 (by decide) (fun _ => ?_) (fun cq9 => absurd rfl cq9)
    refine lv_aload_n hx hb dX7_deduction_113 rfl (lv_at hl 1 rfl) ?_
    refine z_get (C := RX7) (T := TX7) (N := 45) (v := .ref (ad 6)) hx hb hts (by decide +kernel) hown hK hS h1_mm rfl 6 (by decide) (hts (.fieldLink RX7 24 "PayLedgerModel" "early" "[Z") (by decide +kernel)) rfl dX7_deduction_114 ?_
    refine lv_aload_n hx hb dX7_deduction_117 rfl (lv_at hl 1 rfl) ?_
    refine z_get (C := RX7) (T := TX7) (N := 45) (v := .int (nI nd)) hx hb hts (by decide +kernel) hown hK hS h1_mm rfl 11 (by decide) (hts (.fieldLink RX7 157 "PayLedgerModel" "deductions" "I") (by decide +kernel)) rfl dX7_deduction_118 ?_
    refine lv_iload_n hx hb dX7_deduction_121 rfl (lv_at hl 2 rfl) ?_
    refine z_zast hx hb hK hS h1_ad6 (vp_in_nI (by omega) (by decide)) dX7_deduction_122 (fun H locs hS => ?_)
    obtain ⟨w2, ew2⟩ : ∃ z : zw, z = va_up w1 (ad 6) (some (eZ cs (8) (upd (K 6) (nI nd : Int32).toNatClampNeg ((vp_nar .boolean (ea)))))) := ⟨_, rfl⟩
    have hS : zS (zA w sz) D w2 s.heap H locs := by rw [ew2]; exact hS
    have h2_ad6 : w2 (ad 6) = some (eZ cs (8) (upd (K 6) (nI nd : Int32).toNatClampNeg ((vp_nar .boolean (ea))))) := by rw [ew2]; exact va_up_self _ _ _
    have h2_ad7 : w2 (ad 7) = some (eI cs (8) (K 7)) := by rw [ew2]; exact (va_up_ne _ _ (hinj 7 6 (by decide))).trans h1_ad7
    have h2_ad8 : w2 (ad 8) = some (eJ cs (8) (J 8)) := by rw [ew2]; exact (va_up_ne _ _ (hinj 8 6 (by decide))).trans h1_ad8
    have h2_ad9 : w2 (ad 9) = some (eJ cs (8) (J 9)) := by rw [ew2]; exact (va_up_ne _ _ (hinj 9 6 (by decide))).trans h1_ad9
    have h2_ad10 : w2 (ad 10) = some (eJ cs (8) (J 10)) := by rw [ew2]; exact (va_up_ne _ _ (hinj 10 6 (by decide))).trans h1_ad10
    have h2_mm : w2 (mm) = some (mo ad (0) (tb) (nI nd) (wk) (br) (yr) (wd)) := by rw [ew2]; exact (va_up_ne _ _ (zne h1_mm h1_ad6 (by intro q9; first | cases q9 | simp at q9))).trans h1_mm
    have h2_ad6 : w2 (ad 6) = some (eZ cs (8) (upd (K 6) (nd) ((vp_nar .boolean (ea))))) := by rw [nI_clamp (by omega)] at h2_ad6; exact h2_ad6
    rw [show (eZ cs (8) (upd (K 6) (nd) ((vp_nar .boolean (ea))))) = (eZ cs (8) (upd (K 6) (nd) (ea))) from (by rw [show vp_nar .boolean ea = ea from by rcases he with q | q <;> rw [q] <;> rfl])] at h2_ad6
    refine lv_aload_n hx hb dX7_deduction_123 rfl (lv_at hl 1 rfl) ?_
    refine z_get (C := RX7) (T := TX7) (N := 45) (v := .ref (ad 7)) hx hb hts (by decide +kernel) hown hK hS h2_mm rfl 7 (by decide) (hts (.fieldLink RX7 27 "PayLedgerModel" "sort" "[I") (by decide +kernel)) rfl dX7_deduction_124 ?_
    refine lv_aload_n hx hb dX7_deduction_127 rfl (lv_at hl 1 rfl) ?_
    refine z_get (C := RX7) (T := TX7) (N := 45) (v := .int (nI nd)) hx hb hts (by decide +kernel) hown hK hS h2_mm rfl 11 (by decide) (hts (.fieldLink RX7 157 "PayLedgerModel" "deductions" "I") (by decide +kernel)) rfl dX7_deduction_128 ?_
    refine lv_iload_n hx hb dX7_deduction_131 rfl (lv_at hl 3 rfl) ?_
    refine z_iast hx hb hK hS h2_ad7 (vp_in_nI (by omega) (by decide)) dX7_deduction_132 (fun H locs hS => ?_)
    obtain ⟨w3, ew3⟩ : ∃ z : zw, z = va_up w2 (ad 7) (some (eI cs (8) (upd (K 7) (nI nd : Int32).toNatClampNeg (so)))) := ⟨_, rfl⟩
    have hS : zS (zA w sz) D w3 s.heap H locs := by rw [ew3]; exact hS
    have h3_ad7 : w3 (ad 7) = some (eI cs (8) (upd (K 7) (nI nd : Int32).toNatClampNeg (so))) := by rw [ew3]; exact va_up_self _ _ _
    have h3_ad8 : w3 (ad 8) = some (eJ cs (8) (J 8)) := by rw [ew3]; exact (va_up_ne _ _ (hinj 8 7 (by decide))).trans h2_ad8
    have h3_ad9 : w3 (ad 9) = some (eJ cs (8) (J 9)) := by rw [ew3]; exact (va_up_ne _ _ (hinj 9 7 (by decide))).trans h2_ad9
    have h3_ad10 : w3 (ad 10) = some (eJ cs (8) (J 10)) := by rw [ew3]; exact (va_up_ne _ _ (hinj 10 7 (by decide))).trans h2_ad10
    have h3_mm : w3 (mm) = some (mo ad (0) (tb) (nI nd) (wk) (br) (yr) (wd)) := by rw [ew3]; exact (va_up_ne _ _ (zne h2_mm h2_ad7 (by intro q9; first | cases q9 | simp at q9))).trans h2_mm
    have h3_ad6 : w3 (ad 6) = some (eZ cs (8) (upd (K 6) (nd) (ea))) := by rw [ew3]; exact (va_up_ne _ _ (hinj 6 7 (by decide))).trans h2_ad6
    have h3_ad7 : w3 (ad 7) = some (eI cs (8) (upd (K 7) (nd) (so))) := by rw [nI_clamp (by omega)] at h3_ad7; exact h3_ad7
    refine lv_aload_n hx hb dX7_deduction_133 rfl (lv_at hl 1 rfl) ?_
    refine z_get (C := RX7) (T := TX7) (N := 45) (v := .ref (ad 8)) hx hb hts (by decide +kernel) hown hK hS h3_mm rfl 8 (by decide) (hts (.fieldLink RX7 30 "PayLedgerModel" "size" "[J") (by decide +kernel)) rfl dX7_deduction_134 ?_
    refine lv_aload_n hx hb dX7_deduction_137 rfl (lv_at hl 1 rfl) ?_
    refine z_get (C := RX7) (T := TX7) (N := 45) (v := .int (nI nd)) hx hb hts (by decide +kernel) hown hK hS h3_mm rfl 11 (by decide) (hts (.fieldLink RX7 157 "PayLedgerModel" "deductions" "I") (by decide +kernel)) rfl dX7_deduction_138 ?_
    refine lv_lload_n hx hb dX7_deduction_141 rfl (lv_at hl 4 rfl) ?_
    refine z_last hx hb hK hS h3_ad8 (vp_in_nI (by omega) (by decide)) dX7_deduction_142 (fun H locs hS => ?_)
    obtain ⟨w4, ew4⟩ : ∃ z : zw, z = va_up w3 (ad 8) (some (eJ cs (8) (vp_updL (J 8) (nI nd : Int32).toNatClampNeg (si)))) := ⟨_, rfl⟩
    have hS : zS (zA w sz) D w4 s.heap H locs := by rw [ew4]; exact hS
    have h4_ad8 : w4 (ad 8) = some (eJ cs (8) (vp_updL (J 8) (nI nd : Int32).toNatClampNeg (si))) := by rw [ew4]; exact va_up_self _ _ _
    have h4_ad9 : w4 (ad 9) = some (eJ cs (8) (J 9)) := by rw [ew4]; exact (va_up_ne _ _ (hinj 9 8 (by decide))).trans h3_ad9
    have h4_ad10 : w4 (ad 10) = some (eJ cs (8) (J 10)) := by rw [ew4]; exact (va_up_ne _ _ (hinj 10 8 (by decide))).trans h3_ad10
    have h4_mm : w4 (mm) = some (mo ad (0) (tb) (nI nd) (wk) (br) (yr) (wd)) := by rw [ew4]; exact (va_up_ne _ _ (zne h3_mm h3_ad8 (by intro q9; first | cases q9 | simp at q9))).trans h3_mm
    have h4_ad6 : w4 (ad 6) = some (eZ cs (8) (upd (K 6) (nd) (ea))) := by rw [ew4]; exact (va_up_ne _ _ (hinj 6 8 (by decide))).trans h3_ad6
    have h4_ad7 : w4 (ad 7) = some (eI cs (8) (upd (K 7) (nd) (so))) := by rw [ew4]; exact (va_up_ne _ _ (hinj 7 8 (by decide))).trans h3_ad7
    have h4_ad8 : w4 (ad 8) = some (eJ cs (8) (vp_updL (J 8) (nd) (si))) := by rw [nI_clamp (by omega)] at h4_ad8; exact h4_ad8
    refine lv_aload_n hx hb dX7_deduction_143 rfl (lv_at hl 1 rfl) ?_
    refine z_get (C := RX7) (T := TX7) (N := 45) (v := .ref (ad 9)) hx hb hts (by decide +kernel) hown hK hS h4_mm rfl 9 (by decide) (hts (.fieldLink RX7 33 "PayLedgerModel" "cap" "[J") (by decide +kernel)) rfl dX7_deduction_144 ?_
    refine lv_aload_n hx hb dX7_deduction_147 rfl (lv_at hl 1 rfl) ?_
    refine z_get (C := RX7) (T := TX7) (N := 45) (v := .int (nI nd)) hx hb hts (by decide +kernel) hown hK hS h4_mm rfl 11 (by decide) (hts (.fieldLink RX7 157 "PayLedgerModel" "deductions" "I") (by decide +kernel)) rfl dX7_deduction_148 ?_
    refine lv_lload hx hb dX7_deduction_151 (lv_at hl 5 rfl) ?_
    refine z_last hx hb hK hS h4_ad9 (vp_in_nI (by omega) (by decide)) dX7_deduction_153 (fun H locs hS => ?_)
    obtain ⟨w5, ew5⟩ : ∃ z : zw, z = va_up w4 (ad 9) (some (eJ cs (8) (vp_updL (J 9) (nI nd : Int32).toNatClampNeg (ca)))) := ⟨_, rfl⟩
    have hS : zS (zA w sz) D w5 s.heap H locs := by rw [ew5]; exact hS
    have h5_ad9 : w5 (ad 9) = some (eJ cs (8) (vp_updL (J 9) (nI nd : Int32).toNatClampNeg (ca))) := by rw [ew5]; exact va_up_self _ _ _
    have h5_ad10 : w5 (ad 10) = some (eJ cs (8) (J 10)) := by rw [ew5]; exact (va_up_ne _ _ (hinj 10 9 (by decide))).trans h4_ad10
    have h5_mm : w5 (mm) = some (mo ad (0) (tb) (nI nd) (wk) (br) (yr) (wd)) := by rw [ew5]; exact (va_up_ne _ _ (zne h4_mm h4_ad9 (by intro q9; first | cases q9 | simp at q9))).trans h4_mm
    have h5_ad6 : w5 (ad 6) = some (eZ cs (8) (upd (K 6) (nd) (ea))) := by rw [ew5]; exact (va_up_ne _ _ (hinj 6 9 (by decide))).trans h4_ad6
    have h5_ad7 : w5 (ad 7) = some (eI cs (8) (upd (K 7) (nd) (so))) := by rw [ew5]; exact (va_up_ne _ _ (hinj 7 9 (by decide))).trans h4_ad7
    have h5_ad8 : w5 (ad 8) = some (eJ cs (8) (vp_updL (J 8) (nd) (si))) := by rw [ew5]; exact (va_up_ne _ _ (hinj 8 9 (by decide))).trans h4_ad8
    have h5_ad9 : w5 (ad 9) = some (eJ cs (8) (vp_updL (J 9) (nd) (ca))) := by rw [nI_clamp (by omega)] at h5_ad9; exact h5_ad9
    refine lv_aload_n hx hb dX7_deduction_154 rfl (lv_at hl 1 rfl) ?_
    refine z_get (C := RX7) (T := TX7) (N := 45) (v := .ref (ad 10)) hx hb hts (by decide +kernel) hown hK hS h5_mm rfl 10 (by decide) (hts (.fieldLink RX7 36 "PayLedgerModel" "base" "[J") (by decide +kernel)) rfl dX7_deduction_155 ?_
    refine lv_aload_n hx hb dX7_deduction_158 rfl (lv_at hl 1 rfl) ?_
    refine z_get (C := RX7) (T := TX7) (N := 45) (v := .int (nI nd)) hx hb hts (by decide +kernel) hown hK hS h5_mm rfl 11 (by decide) (hts (.fieldLink RX7 157 "PayLedgerModel" "deductions" "I") (by decide +kernel)) rfl dX7_deduction_159 ?_
    refine lv_lload hx hb dX7_deduction_162 (lv_at hl 6 rfl) ?_
    refine z_last hx hb hK hS h5_ad10 (vp_in_nI (by omega) (by decide)) dX7_deduction_164 (fun H locs hS => ?_)
    obtain ⟨w6, ew6⟩ : ∃ z : zw, z = va_up w5 (ad 10) (some (eJ cs (8) (vp_updL (J 10) (nI nd : Int32).toNatClampNeg (bs)))) := ⟨_, rfl⟩
    have hS : zS (zA w sz) D w6 s.heap H locs := by rw [ew6]; exact hS
    have h6_ad10 : w6 (ad 10) = some (eJ cs (8) (vp_updL (J 10) (nI nd : Int32).toNatClampNeg (bs))) := by rw [ew6]; exact va_up_self _ _ _
    have h6_mm : w6 (mm) = some (mo ad (0) (tb) (nI nd) (wk) (br) (yr) (wd)) := by rw [ew6]; exact (va_up_ne _ _ (zne h5_mm h5_ad10 (by intro q9; first | cases q9 | simp at q9))).trans h5_mm
    have h6_ad6 : w6 (ad 6) = some (eZ cs (8) (upd (K 6) (nd) (ea))) := by rw [ew6]; exact (va_up_ne _ _ (hinj 6 10 (by decide))).trans h5_ad6
    have h6_ad7 : w6 (ad 7) = some (eI cs (8) (upd (K 7) (nd) (so))) := by rw [ew6]; exact (va_up_ne _ _ (hinj 7 10 (by decide))).trans h5_ad7
    have h6_ad8 : w6 (ad 8) = some (eJ cs (8) (vp_updL (J 8) (nd) (si))) := by rw [ew6]; exact (va_up_ne _ _ (hinj 8 10 (by decide))).trans h5_ad8
    have h6_ad9 : w6 (ad 9) = some (eJ cs (8) (vp_updL (J 9) (nd) (ca))) := by rw [ew6]; exact (va_up_ne _ _ (hinj 9 10 (by decide))).trans h5_ad9
    have h6_ad10 : w6 (ad 10) = some (eJ cs (8) (vp_updL (J 10) (nd) (bs))) := by rw [nI_clamp (by omega)] at h6_ad10; exact h6_ad10
    refine lv_aload_n hx hb dX7_deduction_165 rfl (lv_at hl 1 rfl) ?_
    refine lv_dup hx hb dX7_deduction_166 rfl ?_
    refine z_get (C := RX7) (T := TX7) (N := 45) (v := .int (nI nd)) hx hb hts (by decide +kernel) hown hK hS h6_mm rfl 11 (by decide) (hts (.fieldLink RX7 157 "PayLedgerModel" "deductions" "I") (by decide +kernel)) rfl dX7_deduction_167 ?_
    refine lv_iconst (v := 1) hx hb dX7_deduction_170 (by decide) ?_
    refine lv_iadd hx hb dX7_deduction_171 ?_
    refine z_ti (y := nI (nd + 1)) (nI_add (nd) (1)) ?_
    refine z_put (C := RX7) (T := TX7) (N := 45) (v := .int (nI (nd + 1))) hx hb hts (by decide +kernel) tyX7 tyX7_ok nmX7 hown hK hS h6_mm rfl 11 (by decide) (hts (.fieldLink RX7 157 "PayLedgerModel" "deductions" "I") (by decide +kernel)) rfl rfl rfl (Nat.le_of_ble_eq_true rfl) dX7_deduction_172 (fun H locs hS => ?_)
    obtain ⟨w7, ew7⟩ : ∃ z : zw, z = va_up w6 (mm) (some (mo ad (0) (tb) (nI (nd + 1)) (wk) (br) (yr) (wd))) := ⟨_, rfl⟩
    have hS : zS (zA w sz) D w7 s.heap H locs := by rw [ew7]; exact hS
    have h7_mm : w7 (mm) = some (mo ad (0) (tb) (nI (nd + 1)) (wk) (br) (yr) (wd)) := by rw [ew7]; exact va_up_self _ _ _
    have h7_ad6 : w7 (ad 6) = some (eZ cs (8) (upd (K 6) (nd) (ea))) := by rw [ew7]; exact (va_up_ne _ _ (zne h6_ad6 h6_mm (by intro q9; first | cases q9 | simp at q9))).trans h6_ad6
    have h7_ad7 : w7 (ad 7) = some (eI cs (8) (upd (K 7) (nd) (so))) := by rw [ew7]; exact (va_up_ne _ _ (zne h6_ad7 h6_mm (by intro q9; first | cases q9 | simp at q9))).trans h6_ad7
    have h7_ad8 : w7 (ad 8) = some (eJ cs (8) (vp_updL (J 8) (nd) (si))) := by rw [ew7]; exact (va_up_ne _ _ (zne h6_ad8 h6_mm (by intro q9; first | cases q9 | simp at q9))).trans h6_ad8
    have h7_ad9 : w7 (ad 9) = some (eJ cs (8) (vp_updL (J 9) (nd) (ca))) := by rw [ew7]; exact (va_up_ne _ _ (zne h6_ad9 h6_mm (by intro q9; first | cases q9 | simp at q9))).trans h6_ad9
    have h7_ad10 : w7 (ad 10) = some (eJ cs (8) (vp_updL (J 10) (nd) (bs))) := by rw [ew7]; exact (va_up_ne _ _ (zne h6_ad10 h6_mm (by intro q9; first | cases q9 | simp at q9))).trans h6_ad10
    refine lv_aload_n hx hb dX7_deduction_175 rfl (lv_at hl 1 rfl) ?_
    refine z_get (C := RX7) (T := TX7) (N := 45) (v := .int (nI (nd + 1))) hx hb hts (by decide +kernel) hown hK hS h7_mm rfl 11 (by decide) (hts (.fieldLink RX7 157 "PayLedgerModel" "deductions" "I") (by decide +kernel)) rfl dX7_deduction_176 ?_
    refine lv_iconst (v := 1) hx hb dX7_deduction_179 (by decide) ?_
    refine lv_isub hx hb dX7_deduction_180 ?_
    refine z_ti (y := nI nd) (nI_pred nd) ?_
    have hex : zEx w w7 [(mm, (mo ad (0) (tb) (nI (nd + 1)) (wk) (br) (yr) (wd))), (ad 6, (eZ cs (8) (upd (K 6) (nd) (ea)))), (ad 7, (eI cs (8) (upd (K 7) (nd) (so)))), (ad 8, (eJ cs (8) (vp_updL (J 8) (nd) (si)))), (ad 9, (eJ cs (8) (vp_updL (J 9) (nd) (ca)))), (ad 10, (eJ cs (8) (vp_updL (J 10) (nd) (bs))))] := ⟨(zm1 h7_mm (zm1 h7_ad6 (zm1 h7_ad7 (zm1 h7_ad8 (zm1 h7_ad9 (zm1 h7_ad10 zm0)))))), fun a9 h9 => by rw [ew7, va_up_ne _ _ (show a9 ≠ mm from h9 (mm, (mo ad (0) (tb) (nI (nd + 1)) (wk) (br) (yr) (wd))) (List.mem_of_getElem? (i := 0) rfl)), ew6, va_up_ne _ _ (show a9 ≠ ad 10 from h9 (ad 10, (eJ cs (8) (vp_updL (J 10) (nd) (bs)))) (List.mem_of_getElem? (i := 5) rfl)), ew5, va_up_ne _ _ (show a9 ≠ ad 9 from h9 (ad 9, (eJ cs (8) (vp_updL (J 9) (nd) (ca)))) (List.mem_of_getElem? (i := 4) rfl)), ew4, va_up_ne _ _ (show a9 ≠ ad 8 from h9 (ad 8, (eJ cs (8) (vp_updL (J 8) (nd) (si)))) (List.mem_of_getElem? (i := 3) rfl)), ew3, va_up_ne _ _ (show a9 ≠ ad 7 from h9 (ad 7, (eI cs (8) (upd (K 7) (nd) (so)))) (List.mem_of_getElem? (i := 2) rfl)), ew2, va_up_ne _ _ (show a9 ≠ ad 6 from h9 (ad 6, (eZ cs (8) (upd (K 6) (nd) (ea)))) (List.mem_of_getElem? (i := 1) rfl)), ew1, va_up_ne _ _ (show a9 ≠ mm from h9 (mm, (mo ad (0) (tb) (nI (nd + 1)) (wk) (br) (yr) (wd))) (List.mem_of_getElem? (i := 0) rfl))]⟩
    exact z_iret hx hb hr hlocks hS (Nat.le_of_ble_eq_true rfl) (Nat.le_of_ble_eq_true rfl) dX7_deduction_181 ⟨rfl, zMQ.of [6, 7, 8, 9, 10] (by decide) hM h_m hinj hex (fun s hs => (va_up_ne _ _ (fun e => hs (by rw [e]; decide))).trans ((va_up_ne _ _ (fun e => hs (by rw [e]; decide))).trans (va_up_ne _ _ (fun e => hs (by rw [e]; decide))))) (fun s hs => (va_up_ne _ _ (fun e => hs (by rw [e]; decide))).trans (va_up_ne _ _ (fun e => hs (by rw [e]; decide))))⟩
  · rw [if_pos c20] at hg2
    refine lv_ldc2 (v := 1000000000) hx hb hown (hts (.constantLong RX7 212 (1000000000)) (by decide +kernel)) dX7_deduction_23 ?_
    refine lv_goto (tgt := 32) hx hb dX7_deduction_26 (by decide) ?_
    refine z_rS (As := [.long (si), .long (0), .long (1000000000)]) (rest := []) (n := 3) ⟨hx, hb, hml, hown, hts⟩ (c_X7_in l D cs w1 H.size (si) (0) (1000000000)) gX7_deduction_X7_in rfl ⟨by decide +kernel, by decide +kernel, by decide +kernel⟩ ⟨Nat.le_of_ble_eq_true rfl, Nat.le_of_ble_eq_true rfl⟩ hK hE hS rfl hl.1 rfl (Nat.le_of_ble_eq_true rfl) dX7_deduction_32 ⟨Nat.le_of_ble_eq_true rfl, Nat.le_of_ble_eq_true rfl⟩ (fun H locs hS => ?_)
    refine lv_if_eq (tgt := 68) hx hb dX7_deduction_35 (by decide) (fun cq9 => absurd cq9 (by rw [hg2]; decide)) (fun _ => ?_)
    refine lv_lload hx hb dX7_deduction_38 (lv_at hl 4 rfl) ?_
    refine lv_ldc2 (v := -1) hx hb hown (hts (.constantLong RX7 214 (-1)) (by decide +kernel)) dX7_deduction_40 ?_
    refine lv_ldc2 (v := 1000000000000) hx hb hown (hts (.constantLong RX7 210 (1000000000000)) (by decide +kernel)) dX7_deduction_43 ?_
    refine z_rS (As := [.long (ca), .long ((-1)), .long (1000000000000)]) (rest := []) (n := 3) ⟨hx, hb, hml, hown, hts⟩ (c_X7_in l D cs w1 H.size (ca) (-1) (1000000000000)) gX7_deduction_X7_in rfl ⟨by decide +kernel, by decide +kernel, by decide +kernel⟩ ⟨Nat.le_of_ble_eq_true rfl, Nat.le_of_ble_eq_true rfl⟩ hK hE hS rfl hl.1 rfl (Nat.le_of_ble_eq_true rfl) dX7_deduction_46 ⟨Nat.le_of_ble_eq_true rfl, Nat.le_of_ble_eq_true rfl⟩ (fun H locs hS => ?_)
    refine lv_if_eq (tgt := 68) hx hb dX7_deduction_49 (by decide) (fun cq9 => absurd cq9 (by rw [hg3]; decide)) (fun _ => ?_)
    refine lv_lload hx hb dX7_deduction_52 (lv_at hl 5 rfl) ?_
    refine lv_lconst (v := 0) hx hb dX7_deduction_54 (by decide) ?_
    refine lv_ldc2 (v := 1000000000000) hx hb hown (hts (.constantLong RX7 210 (1000000000000)) (by decide +kernel)) dX7_deduction_55 ?_
    refine z_rS (As := [.long (bs), .long (0), .long (1000000000000)]) (rest := []) (n := 3) ⟨hx, hb, hml, hown, hts⟩ (c_X7_in l D cs w1 H.size (bs) (0) (1000000000000)) gX7_deduction_X7_in rfl ⟨by decide +kernel, by decide +kernel, by decide +kernel⟩ ⟨Nat.le_of_ble_eq_true rfl, Nat.le_of_ble_eq_true rfl⟩ hK hE hS rfl hl.1 rfl (Nat.le_of_ble_eq_true rfl) dX7_deduction_58 ⟨Nat.le_of_ble_eq_true rfl, Nat.le_of_ble_eq_true rfl⟩ (fun H locs hS => ?_)
    refine lv_if_eq (tgt := 68) hx hb dX7_deduction_61 (by decide) (fun cq9 => absurd cq9 (by rw [hg4]; decide)) (fun _ => ?_)
    refine lv_iconst (v := 1) hx hb dX7_deduction_64 (by decide) ?_
    refine lv_goto (tgt := 69) hx hb dX7_deduction_65 (by decide) ?_
    refine lv_istore (lv' := [(9, .int (1)), (0, .ref (mm)), (1, .int (ea)), (2, .int (so)), (3, .long (si)), (5, .long (ca)), (7, .long (bs))]) hx hb dX7_deduction_69 hl (by decide) rfl (fun ls hl => ?_)
    refine lv_aload_n hx hb dX7_deduction_71 rfl (lv_at hl 1 rfl) ?_
    refine lv_iload hx hb dX7_deduction_72 (lv_at hl 0 rfl) ?_
    refine lv_if_ne (tgt := 81) hx hb dX7_deduction_74 (by decide) (fun _ => ?_) (fun cq9 => absurd cq9 (by decide))
    refine lv_iconst (v := 0) hx hb dX7_deduction_81 (by decide) ?_
    refine lv_iconst (v := 1) hx hb dX7_deduction_82 (by decide) ?_
    refine z_rV (As := [.int (0), .int (1)]) (rest := []) (n := 2) ⟨hx, hb, hml, hown, hts⟩ (c0_X7_throwsIf l D cs w1 H.size mm ad (0) (tb) (nI nd) (wk) (br) (yr) (wd) 1 h1_mm) gX7_deduction_X7_throwsIf rfl ⟨rfl, by decide +kernel, by decide +kernel, by decide +kernel⟩ ⟨Nat.le_of_ble_eq_true rfl, Nat.le_of_ble_eq_true rfl⟩ hK hE hS rfl h1_mm rfl hl.1 rfl (Nat.le_of_ble_eq_true rfl) dX7_deduction_83 ⟨Nat.le_of_ble_eq_true rfl, Nat.le_of_ble_eq_true rfl⟩ (fun H locs hS => ?_)
    refine lv_if_ne (tgt := 111) hx hb dX7_deduction_86 (by decide) (fun cq9 => absurd rfl cq9) (fun _ => ?_)
    refine lv_aload_n hx hb dX7_deduction_89 rfl (lv_at hl 1 rfl) ?_
    refine lv_aload_n hx hb dX7_deduction_90 rfl (lv_at hl 1 rfl) ?_
    refine z_get (C := RX7) (T := TX7) (N := 45) (v := .int (nI nd)) hx hb hts (by decide +kernel) hown hK hS h1_mm rfl 11 (by decide) (hts (.fieldLink RX7 157 "PayLedgerModel" "deductions" "I") (by decide +kernel)) rfl dX7_deduction_91 ?_
    refine lv_bipush (v := 8) hx hb dX7_deduction_94 (by decide) ?_
    refine lv_icmp_ne (tgt := 103) hx hb dX7_deduction_96 (by decide) (fun _ => ?_) (fun cq9 => absurd cq9 (fun q9 => h8 ((nI_eq (b := 8) (by omega) (by omega)).mp q9)))
    refine lv_iconst (v := 0) hx hb dX7_deduction_103 (by decide) ?_
    refine lv_iconst (v := 2) hx hb dX7_deduction_104 (by decide) ?_
    refine z_rV (As := [.int (0), .int (2)]) (rest := []) (n := 2) ⟨hx, hb, hml, hown, hts⟩ (c0_X7_throwsIf l D cs w1 H.size mm ad (0) (tb) (nI nd) (wk) (br) (yr) (wd) 2 h1_mm) gX7_deduction_X7_throwsIf rfl ⟨rfl, by decide +kernel, by decide +kernel, by decide +kernel⟩ ⟨Nat.le_of_ble_eq_true rfl, Nat.le_of_ble_eq_true rfl⟩ hK hE hS rfl h1_mm rfl hl.1 rfl (Nat.le_of_ble_eq_true rfl) dX7_deduction_105 ⟨Nat.le_of_ble_eq_true rfl, Nat.le_of_ble_eq_true rfl⟩ (fun H locs hS => ?_)
    refine lv_if_eq (tgt := 113) hx hb dX7_deduction_108 (by decide) (fun _ => ?_) (fun cq9 => absurd rfl cq9)
    refine lv_aload_n hx hb dX7_deduction_113 rfl (lv_at hl 1 rfl) ?_
    refine z_get (C := RX7) (T := TX7) (N := 45) (v := .ref (ad 6)) hx hb hts (by decide +kernel) hown hK hS h1_mm rfl 6 (by decide) (hts (.fieldLink RX7 24 "PayLedgerModel" "early" "[Z") (by decide +kernel)) rfl dX7_deduction_114 ?_
    refine lv_aload_n hx hb dX7_deduction_117 rfl (lv_at hl 1 rfl) ?_
    refine z_get (C := RX7) (T := TX7) (N := 45) (v := .int (nI nd)) hx hb hts (by decide +kernel) hown hK hS h1_mm rfl 11 (by decide) (hts (.fieldLink RX7 157 "PayLedgerModel" "deductions" "I") (by decide +kernel)) rfl dX7_deduction_118 ?_
    refine lv_iload_n hx hb dX7_deduction_121 rfl (lv_at hl 2 rfl) ?_
    refine z_zast hx hb hK hS h1_ad6 (vp_in_nI (by omega) (by decide)) dX7_deduction_122 (fun H locs hS => ?_)
    obtain ⟨w8, ew8⟩ : ∃ z : zw, z = va_up w1 (ad 6) (some (eZ cs (8) (upd (K 6) (nI nd : Int32).toNatClampNeg ((vp_nar .boolean (ea)))))) := ⟨_, rfl⟩
    have hS : zS (zA w sz) D w8 s.heap H locs := by rw [ew8]; exact hS
    have h8_ad6 : w8 (ad 6) = some (eZ cs (8) (upd (K 6) (nI nd : Int32).toNatClampNeg ((vp_nar .boolean (ea))))) := by rw [ew8]; exact va_up_self _ _ _
    have h8_ad7 : w8 (ad 7) = some (eI cs (8) (K 7)) := by rw [ew8]; exact (va_up_ne _ _ (hinj 7 6 (by decide))).trans h1_ad7
    have h8_ad8 : w8 (ad 8) = some (eJ cs (8) (J 8)) := by rw [ew8]; exact (va_up_ne _ _ (hinj 8 6 (by decide))).trans h1_ad8
    have h8_ad9 : w8 (ad 9) = some (eJ cs (8) (J 9)) := by rw [ew8]; exact (va_up_ne _ _ (hinj 9 6 (by decide))).trans h1_ad9
    have h8_ad10 : w8 (ad 10) = some (eJ cs (8) (J 10)) := by rw [ew8]; exact (va_up_ne _ _ (hinj 10 6 (by decide))).trans h1_ad10
    have h8_mm : w8 (mm) = some (mo ad (0) (tb) (nI nd) (wk) (br) (yr) (wd)) := by rw [ew8]; exact (va_up_ne _ _ (zne h1_mm h1_ad6 (by intro q9; first | cases q9 | simp at q9))).trans h1_mm
    have h8_ad6 : w8 (ad 6) = some (eZ cs (8) (upd (K 6) (nd) ((vp_nar .boolean (ea))))) := by rw [nI_clamp (by omega)] at h8_ad6; exact h8_ad6
    rw [show (eZ cs (8) (upd (K 6) (nd) ((vp_nar .boolean (ea))))) = (eZ cs (8) (upd (K 6) (nd) (ea))) from (by rw [show vp_nar .boolean ea = ea from by rcases he with q | q <;> rw [q] <;> rfl])] at h8_ad6
    refine lv_aload_n hx hb dX7_deduction_123 rfl (lv_at hl 1 rfl) ?_
    refine z_get (C := RX7) (T := TX7) (N := 45) (v := .ref (ad 7)) hx hb hts (by decide +kernel) hown hK hS h8_mm rfl 7 (by decide) (hts (.fieldLink RX7 27 "PayLedgerModel" "sort" "[I") (by decide +kernel)) rfl dX7_deduction_124 ?_
    refine lv_aload_n hx hb dX7_deduction_127 rfl (lv_at hl 1 rfl) ?_
    refine z_get (C := RX7) (T := TX7) (N := 45) (v := .int (nI nd)) hx hb hts (by decide +kernel) hown hK hS h8_mm rfl 11 (by decide) (hts (.fieldLink RX7 157 "PayLedgerModel" "deductions" "I") (by decide +kernel)) rfl dX7_deduction_128 ?_
    refine lv_iload_n hx hb dX7_deduction_131 rfl (lv_at hl 3 rfl) ?_
    refine z_iast hx hb hK hS h8_ad7 (vp_in_nI (by omega) (by decide)) dX7_deduction_132 (fun H locs hS => ?_)
    obtain ⟨w9, ew9⟩ : ∃ z : zw, z = va_up w8 (ad 7) (some (eI cs (8) (upd (K 7) (nI nd : Int32).toNatClampNeg (so)))) := ⟨_, rfl⟩
    have hS : zS (zA w sz) D w9 s.heap H locs := by rw [ew9]; exact hS
    have h9_ad7 : w9 (ad 7) = some (eI cs (8) (upd (K 7) (nI nd : Int32).toNatClampNeg (so))) := by rw [ew9]; exact va_up_self _ _ _
    have h9_ad8 : w9 (ad 8) = some (eJ cs (8) (J 8)) := by rw [ew9]; exact (va_up_ne _ _ (hinj 8 7 (by decide))).trans h8_ad8
    have h9_ad9 : w9 (ad 9) = some (eJ cs (8) (J 9)) := by rw [ew9]; exact (va_up_ne _ _ (hinj 9 7 (by decide))).trans h8_ad9
    have h9_ad10 : w9 (ad 10) = some (eJ cs (8) (J 10)) := by rw [ew9]; exact (va_up_ne _ _ (hinj 10 7 (by decide))).trans h8_ad10
    have h9_mm : w9 (mm) = some (mo ad (0) (tb) (nI nd) (wk) (br) (yr) (wd)) := by rw [ew9]; exact (va_up_ne _ _ (zne h8_mm h8_ad7 (by intro q9; first | cases q9 | simp at q9))).trans h8_mm
    have h9_ad6 : w9 (ad 6) = some (eZ cs (8) (upd (K 6) (nd) (ea))) := by rw [ew9]; exact (va_up_ne _ _ (hinj 6 7 (by decide))).trans h8_ad6
    have h9_ad7 : w9 (ad 7) = some (eI cs (8) (upd (K 7) (nd) (so))) := by rw [nI_clamp (by omega)] at h9_ad7; exact h9_ad7
    refine lv_aload_n hx hb dX7_deduction_133 rfl (lv_at hl 1 rfl) ?_
    refine z_get (C := RX7) (T := TX7) (N := 45) (v := .ref (ad 8)) hx hb hts (by decide +kernel) hown hK hS h9_mm rfl 8 (by decide) (hts (.fieldLink RX7 30 "PayLedgerModel" "size" "[J") (by decide +kernel)) rfl dX7_deduction_134 ?_
    refine lv_aload_n hx hb dX7_deduction_137 rfl (lv_at hl 1 rfl) ?_
    refine z_get (C := RX7) (T := TX7) (N := 45) (v := .int (nI nd)) hx hb hts (by decide +kernel) hown hK hS h9_mm rfl 11 (by decide) (hts (.fieldLink RX7 157 "PayLedgerModel" "deductions" "I") (by decide +kernel)) rfl dX7_deduction_138 ?_
    refine lv_lload_n hx hb dX7_deduction_141 rfl (lv_at hl 4 rfl) ?_
    refine z_last hx hb hK hS h9_ad8 (vp_in_nI (by omega) (by decide)) dX7_deduction_142 (fun H locs hS => ?_)
    obtain ⟨w10, ew10⟩ : ∃ z : zw, z = va_up w9 (ad 8) (some (eJ cs (8) (vp_updL (J 8) (nI nd : Int32).toNatClampNeg (si)))) := ⟨_, rfl⟩
    have hS : zS (zA w sz) D w10 s.heap H locs := by rw [ew10]; exact hS
    have h10_ad8 : w10 (ad 8) = some (eJ cs (8) (vp_updL (J 8) (nI nd : Int32).toNatClampNeg (si))) := by rw [ew10]; exact va_up_self _ _ _
    have h10_ad9 : w10 (ad 9) = some (eJ cs (8) (J 9)) := by rw [ew10]; exact (va_up_ne _ _ (hinj 9 8 (by decide))).trans h9_ad9
    have h10_ad10 : w10 (ad 10) = some (eJ cs (8) (J 10)) := by rw [ew10]; exact (va_up_ne _ _ (hinj 10 8 (by decide))).trans h9_ad10
    have h10_mm : w10 (mm) = some (mo ad (0) (tb) (nI nd) (wk) (br) (yr) (wd)) := by rw [ew10]; exact (va_up_ne _ _ (zne h9_mm h9_ad8 (by intro q9; first | cases q9 | simp at q9))).trans h9_mm
    have h10_ad6 : w10 (ad 6) = some (eZ cs (8) (upd (K 6) (nd) (ea))) := by rw [ew10]; exact (va_up_ne _ _ (hinj 6 8 (by decide))).trans h9_ad6
    have h10_ad7 : w10 (ad 7) = some (eI cs (8) (upd (K 7) (nd) (so))) := by rw [ew10]; exact (va_up_ne _ _ (hinj 7 8 (by decide))).trans h9_ad7
    have h10_ad8 : w10 (ad 8) = some (eJ cs (8) (vp_updL (J 8) (nd) (si))) := by rw [nI_clamp (by omega)] at h10_ad8; exact h10_ad8
    refine lv_aload_n hx hb dX7_deduction_143 rfl (lv_at hl 1 rfl) ?_
    refine z_get (C := RX7) (T := TX7) (N := 45) (v := .ref (ad 9)) hx hb hts (by decide +kernel) hown hK hS h10_mm rfl 9 (by decide) (hts (.fieldLink RX7 33 "PayLedgerModel" "cap" "[J") (by decide +kernel)) rfl dX7_deduction_144 ?_
    refine lv_aload_n hx hb dX7_deduction_147 rfl (lv_at hl 1 rfl) ?_
    refine z_get (C := RX7) (T := TX7) (N := 45) (v := .int (nI nd)) hx hb hts (by decide +kernel) hown hK hS h10_mm rfl 11 (by decide) (hts (.fieldLink RX7 157 "PayLedgerModel" "deductions" "I") (by decide +kernel)) rfl dX7_deduction_148 ?_
    refine lv_lload hx hb dX7_deduction_151 (lv_at hl 5 rfl) ?_
    refine z_last hx hb hK hS h10_ad9 (vp_in_nI (by omega) (by decide)) dX7_deduction_153 (fun H locs hS => ?_)
    obtain ⟨w11, ew11⟩ : ∃ z : zw, z = va_up w10 (ad 9) (some (eJ cs (8) (vp_updL (J 9) (nI nd : Int32).toNatClampNeg (ca)))) := ⟨_, rfl⟩
    have hS : zS (zA w sz) D w11 s.heap H locs := by rw [ew11]; exact hS
    have h11_ad9 : w11 (ad 9) = some (eJ cs (8) (vp_updL (J 9) (nI nd : Int32).toNatClampNeg (ca))) := by rw [ew11]; exact va_up_self _ _ _
    have h11_ad10 : w11 (ad 10) = some (eJ cs (8) (J 10)) := by rw [ew11]; exact (va_up_ne _ _ (hinj 10 9 (by decide))).trans h10_ad10
    have h11_mm : w11 (mm) = some (mo ad (0) (tb) (nI nd) (wk) (br) (yr) (wd)) := by rw [ew11]; exact (va_up_ne _ _ (zne h10_mm h10_ad9 (by intro q9; first | cases q9 | simp at q9))).trans h10_mm
    have h11_ad6 : w11 (ad 6) = some (eZ cs (8) (upd (K 6) (nd) (ea))) := by rw [ew11]; exact (va_up_ne _ _ (hinj 6 9 (by decide))).trans h10_ad6
    have h11_ad7 : w11 (ad 7) = some (eI cs (8) (upd (K 7) (nd) (so))) := by rw [ew11]; exact (va_up_ne _ _ (hinj 7 9 (by decide))).trans h10_ad7
    have h11_ad8 : w11 (ad 8) = some (eJ cs (8) (vp_updL (J 8) (nd) (si))) := by rw [ew11]; exact (va_up_ne _ _ (hinj 8 9 (by decide))).trans h10_ad8
    have h11_ad9 : w11 (ad 9) = some (eJ cs (8) (vp_updL (J 9) (nd) (ca))) := by rw [nI_clamp (by omega)] at h11_ad9; exact h11_ad9
    refine lv_aload_n hx hb dX7_deduction_154 rfl (lv_at hl 1 rfl) ?_
    refine z_get (C := RX7) (T := TX7) (N := 45) (v := .ref (ad 10)) hx hb hts (by decide +kernel) hown hK hS h11_mm rfl 10 (by decide) (hts (.fieldLink RX7 36 "PayLedgerModel" "base" "[J") (by decide +kernel)) rfl dX7_deduction_155 ?_
    refine lv_aload_n hx hb dX7_deduction_158 rfl (lv_at hl 1 rfl) ?_
    refine z_get (C := RX7) (T := TX7) (N := 45) (v := .int (nI nd)) hx hb hts (by decide +kernel) hown hK hS h11_mm rfl 11 (by decide) (hts (.fieldLink RX7 157 "PayLedgerModel" "deductions" "I") (by decide +kernel)) rfl dX7_deduction_159 ?_
    refine lv_lload hx hb dX7_deduction_162 (lv_at hl 6 rfl) ?_
    refine z_last hx hb hK hS h11_ad10 (vp_in_nI (by omega) (by decide)) dX7_deduction_164 (fun H locs hS => ?_)
    obtain ⟨w12, ew12⟩ : ∃ z : zw, z = va_up w11 (ad 10) (some (eJ cs (8) (vp_updL (J 10) (nI nd : Int32).toNatClampNeg (bs)))) := ⟨_, rfl⟩
    have hS : zS (zA w sz) D w12 s.heap H locs := by rw [ew12]; exact hS
    have h12_ad10 : w12 (ad 10) = some (eJ cs (8) (vp_updL (J 10) (nI nd : Int32).toNatClampNeg (bs))) := by rw [ew12]; exact va_up_self _ _ _
    have h12_mm : w12 (mm) = some (mo ad (0) (tb) (nI nd) (wk) (br) (yr) (wd)) := by rw [ew12]; exact (va_up_ne _ _ (zne h11_mm h11_ad10 (by intro q9; first | cases q9 | simp at q9))).trans h11_mm
    have h12_ad6 : w12 (ad 6) = some (eZ cs (8) (upd (K 6) (nd) (ea))) := by rw [ew12]; exact (va_up_ne _ _ (hinj 6 10 (by decide))).trans h11_ad6
    have h12_ad7 : w12 (ad 7) = some (eI cs (8) (upd (K 7) (nd) (so))) := by rw [ew12]; exact (va_up_ne _ _ (hinj 7 10 (by decide))).trans h11_ad7
    have h12_ad8 : w12 (ad 8) = some (eJ cs (8) (vp_updL (J 8) (nd) (si))) := by rw [ew12]; exact (va_up_ne _ _ (hinj 8 10 (by decide))).trans h11_ad8
    have h12_ad9 : w12 (ad 9) = some (eJ cs (8) (vp_updL (J 9) (nd) (ca))) := by rw [ew12]; exact (va_up_ne _ _ (hinj 9 10 (by decide))).trans h11_ad9
    have h12_ad10 : w12 (ad 10) = some (eJ cs (8) (vp_updL (J 10) (nd) (bs))) := by rw [nI_clamp (by omega)] at h12_ad10; exact h12_ad10
    refine lv_aload_n hx hb dX7_deduction_165 rfl (lv_at hl 1 rfl) ?_
    refine lv_dup hx hb dX7_deduction_166 rfl ?_
    refine z_get (C := RX7) (T := TX7) (N := 45) (v := .int (nI nd)) hx hb hts (by decide +kernel) hown hK hS h12_mm rfl 11 (by decide) (hts (.fieldLink RX7 157 "PayLedgerModel" "deductions" "I") (by decide +kernel)) rfl dX7_deduction_167 ?_
    refine lv_iconst (v := 1) hx hb dX7_deduction_170 (by decide) ?_
    refine lv_iadd hx hb dX7_deduction_171 ?_
    refine z_ti (y := nI (nd + 1)) (nI_add (nd) (1)) ?_
    refine z_put (C := RX7) (T := TX7) (N := 45) (v := .int (nI (nd + 1))) hx hb hts (by decide +kernel) tyX7 tyX7_ok nmX7 hown hK hS h12_mm rfl 11 (by decide) (hts (.fieldLink RX7 157 "PayLedgerModel" "deductions" "I") (by decide +kernel)) rfl rfl rfl (Nat.le_of_ble_eq_true rfl) dX7_deduction_172 (fun H locs hS => ?_)
    obtain ⟨w13, ew13⟩ : ∃ z : zw, z = va_up w12 (mm) (some (mo ad (0) (tb) (nI (nd + 1)) (wk) (br) (yr) (wd))) := ⟨_, rfl⟩
    have hS : zS (zA w sz) D w13 s.heap H locs := by rw [ew13]; exact hS
    have h13_mm : w13 (mm) = some (mo ad (0) (tb) (nI (nd + 1)) (wk) (br) (yr) (wd)) := by rw [ew13]; exact va_up_self _ _ _
    have h13_ad6 : w13 (ad 6) = some (eZ cs (8) (upd (K 6) (nd) (ea))) := by rw [ew13]; exact (va_up_ne _ _ (zne h12_ad6 h12_mm (by intro q9; first | cases q9 | simp at q9))).trans h12_ad6
    have h13_ad7 : w13 (ad 7) = some (eI cs (8) (upd (K 7) (nd) (so))) := by rw [ew13]; exact (va_up_ne _ _ (zne h12_ad7 h12_mm (by intro q9; first | cases q9 | simp at q9))).trans h12_ad7
    have h13_ad8 : w13 (ad 8) = some (eJ cs (8) (vp_updL (J 8) (nd) (si))) := by rw [ew13]; exact (va_up_ne _ _ (zne h12_ad8 h12_mm (by intro q9; first | cases q9 | simp at q9))).trans h12_ad8
    have h13_ad9 : w13 (ad 9) = some (eJ cs (8) (vp_updL (J 9) (nd) (ca))) := by rw [ew13]; exact (va_up_ne _ _ (zne h12_ad9 h12_mm (by intro q9; first | cases q9 | simp at q9))).trans h12_ad9
    have h13_ad10 : w13 (ad 10) = some (eJ cs (8) (vp_updL (J 10) (nd) (bs))) := by rw [ew13]; exact (va_up_ne _ _ (zne h12_ad10 h12_mm (by intro q9; first | cases q9 | simp at q9))).trans h12_ad10
    refine lv_aload_n hx hb dX7_deduction_175 rfl (lv_at hl 1 rfl) ?_
    refine z_get (C := RX7) (T := TX7) (N := 45) (v := .int (nI (nd + 1))) hx hb hts (by decide +kernel) hown hK hS h13_mm rfl 11 (by decide) (hts (.fieldLink RX7 157 "PayLedgerModel" "deductions" "I") (by decide +kernel)) rfl dX7_deduction_176 ?_
    refine lv_iconst (v := 1) hx hb dX7_deduction_179 (by decide) ?_
    refine lv_isub hx hb dX7_deduction_180 ?_
    refine z_ti (y := nI nd) (nI_pred nd) ?_
    have hex : zEx w w13 [(mm, (mo ad (0) (tb) (nI (nd + 1)) (wk) (br) (yr) (wd))), (ad 6, (eZ cs (8) (upd (K 6) (nd) (ea)))), (ad 7, (eI cs (8) (upd (K 7) (nd) (so)))), (ad 8, (eJ cs (8) (vp_updL (J 8) (nd) (si)))), (ad 9, (eJ cs (8) (vp_updL (J 9) (nd) (ca)))), (ad 10, (eJ cs (8) (vp_updL (J 10) (nd) (bs))))] := ⟨(zm1 h13_mm (zm1 h13_ad6 (zm1 h13_ad7 (zm1 h13_ad8 (zm1 h13_ad9 (zm1 h13_ad10 zm0)))))), fun a9 h9 => by rw [ew13, va_up_ne _ _ (show a9 ≠ mm from h9 (mm, (mo ad (0) (tb) (nI (nd + 1)) (wk) (br) (yr) (wd))) (List.mem_of_getElem? (i := 0) rfl)), ew12, va_up_ne _ _ (show a9 ≠ ad 10 from h9 (ad 10, (eJ cs (8) (vp_updL (J 10) (nd) (bs)))) (List.mem_of_getElem? (i := 5) rfl)), ew11, va_up_ne _ _ (show a9 ≠ ad 9 from h9 (ad 9, (eJ cs (8) (vp_updL (J 9) (nd) (ca)))) (List.mem_of_getElem? (i := 4) rfl)), ew10, va_up_ne _ _ (show a9 ≠ ad 8 from h9 (ad 8, (eJ cs (8) (vp_updL (J 8) (nd) (si)))) (List.mem_of_getElem? (i := 3) rfl)), ew9, va_up_ne _ _ (show a9 ≠ ad 7 from h9 (ad 7, (eI cs (8) (upd (K 7) (nd) (so)))) (List.mem_of_getElem? (i := 2) rfl)), ew8, va_up_ne _ _ (show a9 ≠ ad 6 from h9 (ad 6, (eZ cs (8) (upd (K 6) (nd) (ea)))) (List.mem_of_getElem? (i := 1) rfl)), ew1, va_up_ne _ _ (show a9 ≠ mm from h9 (mm, (mo ad (0) (tb) (nI (nd + 1)) (wk) (br) (yr) (wd))) (List.mem_of_getElem? (i := 0) rfl))]⟩
    exact z_iret hx hb hr hlocks hS (Nat.le_of_ble_eq_true rfl) (Nat.le_of_ble_eq_true rfl) dX7_deduction_181 ⟨rfl, zMQ.of [6, 7, 8, 9, 10] (by decide) hM h_m hinj hex (fun s hs => (va_up_ne _ _ (fun e => hs (by rw [e]; decide))).trans ((va_up_ne _ _ (fun e => hs (by rw [e]; decide))).trans (va_up_ne _ _ (fun e => hs (by rw [e]; decide))))) (fun s hs => (va_up_ne _ _ (fun e => hs (by rw [e]; decide))).trans (va_up_ne _ _ (fun e => hs (by rw [e]; decide))))⟩
set_option maxHeartbeats 4000000 in
set_option maxRecDepth 100000 in
theorem t1_X7_employ (l : Launch) (D : va_G) (cs : Nat → ClassId) (w : zw) (sz : Nat) (mm : Nat) (ad : Nat → Nat) (J : Nat → Nat → Int64) (K : Nat → Nat → Int32) (th dd wk br yr wd : Int32) (nb : Nat) (x per met : Int32) (hinj : ∀ i j : Nat, i ≠ j → ad i ≠ ad j) (hM : zMA cs w ad J K) (hnb : nb ≤ 6) (hx9 : ∀ k : Nat, k < nb → x ≠ nI k) (h_m : w (mm) = some (mo ad (th) (nI nb) (dd) (wk) (br) (yr) (wd))) : zM l D cs yX7_employ wsX7_employ 3 0 0 w sz [.ref (mm), .int (x), .int (per), .int (met)] (fun r w2 => r = some (.int 0) ∧ zMQ cs w w2 ad mm (mo ad (1) (nI nb) (dd) (wk) (br) (yr) (wd)) J K) := by
  refine z_met (cc := cX7_employ) (maxL := 4) (ret := (some .int)) (by decide) rfl (Nat.le_of_ble_eq_true rfl) ?_
  intro p e s m below meth c hx hb hr hml hown hts hlocks hnm hsz hK hE hS ls hl
  have hl : lv_has ls 4 [(0, .ref (mm)), (1, .int (x)), (2, .int (per)), (3, .int (met))] := hl
  refine lv_aload_n hx hb dX7_employ_0 rfl (lv_at hl 0 rfl) ?_
  refine lv_iconst (v := 0) hx hb dX7_employ_1 (by decide) ?_
  refine z_put (C := RX7) (T := TX7) (N := 45) (v := .int (0)) hx hb hts (by decide +kernel) tyX7 tyX7_ok nmX7 hown hK hS h_m rfl 0 (by decide) (hts (.fieldLink RX7 126 "PayLedgerModel" "thrown" "I") (by decide +kernel)) rfl rfl rfl (Nat.le_of_ble_eq_true rfl) dX7_employ_2 (fun H locs hS => ?_)
  obtain ⟨w1, ew1⟩ : ∃ z : zw, z = va_up w (mm) (some (mo ad (0) (nI nb) (dd) (wk) (br) (yr) (wd))) := ⟨_, rfl⟩
  have hS : zS (zA w sz) D w1 s.heap H locs := by rw [ew1]; exact hS
  have h1_mm : w1 (mm) = some (mo ad (0) (nI nb) (dd) (wk) (br) (yr) (wd)) := by rw [ew1]; exact va_up_self _ _ _
  refine lv_aload_n hx hb dX7_employ_5 rfl (lv_at hl 0 rfl) ?_
  refine lv_aload_n hx hb dX7_employ_6 rfl (lv_at hl 0 rfl) ?_
  refine lv_iload_n hx hb dX7_employ_7 rfl (lv_at hl 1 rfl) ?_
  refine lv_i2l (v := ((x : Int32).toInt64)) hx hb dX7_employ_8 rfl ?_
  refine z_rV (As := [.long (((x : Int32).toInt64))]) (rest := [.ref (mm)]) (n := 1) ⟨hx, hb, hml, hown, hts⟩ (n_X7_noTable l D cs w1 H.size mm ad (0) (dd) (wk) (br) (yr) (wd) nb (x.toInt64) (by omega) (zi2l_ne (by omega) hx9) h1_mm) gX7_employ_X7_noTable rfl ⟨rfl, by decide +kernel, by decide +kernel, by decide +kernel⟩ ⟨Nat.le_of_ble_eq_true rfl, Nat.le_of_ble_eq_true rfl⟩ hK hE hS rfl h1_mm rfl hl.1 rfl (Nat.le_of_ble_eq_true rfl) dX7_employ_9 ⟨Nat.le_of_ble_eq_true rfl, Nat.le_of_ble_eq_true rfl⟩ (fun H locs hS => ?_)
  refine lv_iconst (v := 1) hx hb dX7_employ_12 (by decide) ?_
  refine z_invV (As := [.int (1), .int (1)]) (rest := []) (n := 2) ⟨hx, hb, hml, hown, hts⟩ (c1_X7_throwsIf l D cs w1 H.size mm ad (0) (nI nb) (dd) (wk) (br) (yr) (wd) 1 h1_mm) gX7_employ_X7_throwsIf rfl ⟨rfl, by decide +kernel, by decide +kernel, by decide +kernel⟩ ⟨Nat.le_of_ble_eq_true rfl, Nat.le_of_ble_eq_true rfl⟩ hK hE hS rfl h1_mm rfl hl.1 rfl (Nat.le_of_ble_eq_true rfl) dX7_employ_13 ⟨Nat.le_of_ble_eq_true rfl, Nat.le_of_ble_eq_true rfl⟩ (fun v9 u2 H locs hq hS => ?_)
  obtain ⟨rfl, hx2⟩ := hq
  have h3_mm : u2 (mm) = some (mo ad (1) (nI nb) (dd) (wk) (br) (yr) (wd)) := hx2.at 0 rfl
  refine W.eq (g2 := F0 m 16 ls [.int (1)]) rfl ?_
  refine lv_if_ne (tgt := 72) hx hb dX7_employ_16 (by decide) (fun _ => ?_) (fun cq9 => absurd cq9 (by decide))
  refine lv_iconst (v := 0) hx hb dX7_employ_72 (by decide) ?_
  have hex : zEx w u2 [(mm, (mo ad (1) (nI nb) (dd) (wk) (br) (yr) (wd)))] := ⟨(zm1 h3_mm zm0), fun a9 h9 => by rw [hx2.2 a9 (zm1 (show a9 ≠ mm from h9 (mm, (mo ad (1) (nI nb) (dd) (wk) (br) (yr) (wd))) (List.mem_of_getElem? (i := 0) rfl)) zm0), ew1, va_up_ne _ _ (show a9 ≠ mm from h9 (mm, (mo ad (1) (nI nb) (dd) (wk) (br) (yr) (wd))) (List.mem_of_getElem? (i := 0) rfl))]⟩
  exact z_iret hx hb hr hlocks hS (Nat.le_of_ble_eq_true rfl) (Nat.le_of_ble_eq_true rfl) dX7_employ_73 ⟨rfl, zMQ.o hM h_m hinj hex⟩
set_option maxHeartbeats 4000000 in
set_option maxRecDepth 100000 in
theorem t2_X7_employ (l : Launch) (D : va_G) (cs : Nat → ClassId) (w : zw) (sz : Nat) (mm : Nat) (ad : Nat → Nat) (J : Nat → Nat → Int64) (K : Nat → Nat → Int32) (th dd br yr wd : Int32) (nb t nw : Nat) (per met : Int32) (hinj : ∀ i j : Nat, i ≠ j → ad i ≠ ad j) (hM : zMA cs w ad J K) (hnb : nb ≤ 6) (hnw : nw ≤ 10) (ht : t < nb) (hbad : ¬ (zPerB per.toInt64 = 1 ∧ zUpTo met.toInt64 1 = 1)) (h_m : w (mm) = some (mo ad (th) (nI nb) (dd) (nI nw) (br) (yr) (wd))) : zM l D cs yX7_employ wsX7_employ 3 0 0 w sz [.ref (mm), .int (nI t), .int (per), .int (met)] (fun r w2 => r = some (.int 0) ∧ zMQ cs w w2 ad mm (mo ad (2) (nI nb) (dd) (nI nw) (br) (yr) (wd)) J K) := by
  refine z_met (cc := cX7_employ) (maxL := 4) (ret := (some .int)) (by decide) rfl (Nat.le_of_ble_eq_true rfl) ?_
  intro p e s m below meth c hx hb hr hml hown hts hlocks hnm hsz hK hE hS ls hl
  have hl : lv_has ls 4 [(0, .ref (mm)), (1, .int (nI t)), (2, .int (per)), (3, .int (met))] := hl
  refine lv_aload_n hx hb dX7_employ_0 rfl (lv_at hl 0 rfl) ?_
  refine lv_iconst (v := 0) hx hb dX7_employ_1 (by decide) ?_
  refine z_put (C := RX7) (T := TX7) (N := 45) (v := .int (0)) hx hb hts (by decide +kernel) tyX7 tyX7_ok nmX7 hown hK hS h_m rfl 0 (by decide) (hts (.fieldLink RX7 126 "PayLedgerModel" "thrown" "I") (by decide +kernel)) rfl rfl rfl (Nat.le_of_ble_eq_true rfl) dX7_employ_2 (fun H locs hS => ?_)
  obtain ⟨w1, ew1⟩ : ∃ z : zw, z = va_up w (mm) (some (mo ad (0) (nI nb) (dd) (nI nw) (br) (yr) (wd))) := ⟨_, rfl⟩
  have hS : zS (zA w sz) D w1 s.heap H locs := by rw [ew1]; exact hS
  have h1_mm : w1 (mm) = some (mo ad (0) (nI nb) (dd) (nI nw) (br) (yr) (wd)) := by rw [ew1]; exact va_up_self _ _ _
  refine lv_aload_n hx hb dX7_employ_5 rfl (lv_at hl 0 rfl) ?_
  refine lv_aload_n hx hb dX7_employ_6 rfl (lv_at hl 0 rfl) ?_
  refine lv_iload_n hx hb dX7_employ_7 rfl (lv_at hl 1 rfl) ?_
  refine lv_i2l (v := ((nI t : Int32).toInt64)) hx hb dX7_employ_8 rfl ?_
  refine z_tl (y := lN t) (nI_l (by omega)) ?_
  refine z_rV (As := [.long (lN t)]) (rest := [.ref (mm)]) (n := 1) ⟨hx, hb, hml, hown, hts⟩ (c_X7_noTable l D cs w1 H.size mm ad (0) (dd) (nI nw) (br) (yr) (wd) nb t (by omega) ht h1_mm) gX7_employ_X7_noTable rfl ⟨rfl, by decide +kernel, by decide +kernel, by decide +kernel⟩ ⟨Nat.le_of_ble_eq_true rfl, Nat.le_of_ble_eq_true rfl⟩ hK hE hS rfl h1_mm rfl hl.1 rfl (Nat.le_of_ble_eq_true rfl) dX7_employ_9 ⟨Nat.le_of_ble_eq_true rfl, Nat.le_of_ble_eq_true rfl⟩ (fun H locs hS => ?_)
  refine lv_iconst (v := 1) hx hb dX7_employ_12 (by decide) ?_
  refine z_rV (As := [.int (0), .int (1)]) (rest := []) (n := 2) ⟨hx, hb, hml, hown, hts⟩ (c0_X7_throwsIf l D cs w1 H.size mm ad (0) (nI nb) (dd) (nI nw) (br) (yr) (wd) 1 h1_mm) gX7_employ_X7_throwsIf rfl ⟨rfl, by decide +kernel, by decide +kernel, by decide +kernel⟩ ⟨Nat.le_of_ble_eq_true rfl, Nat.le_of_ble_eq_true rfl⟩ hK hE hS rfl h1_mm rfl hl.1 rfl (Nat.le_of_ble_eq_true rfl) dX7_employ_13 ⟨Nat.le_of_ble_eq_true rfl, Nat.le_of_ble_eq_true rfl⟩ (fun H locs hS => ?_)
  refine lv_if_ne (tgt := 72) hx hb dX7_employ_16 (by decide) (fun cq9 => absurd rfl cq9) (fun _ => ?_)
  refine lv_aload_n hx hb dX7_employ_19 rfl (lv_at hl 0 rfl) ?_
  refine lv_iload_n hx hb dX7_employ_20 rfl (lv_at hl 2 rfl) ?_
  refine lv_i2l (v := ((per : Int32).toInt64)) hx hb dX7_employ_21 rfl ?_
  refine z_rS (As := [.long (((per : Int32).toInt64))]) (rest := [.ref (mm)]) (n := 1) ⟨hx, hb, hml, hown, hts⟩ (c_X7_isPeriods l D cs w1 H.size per.toInt64) gX7_employ_X7_isPeriods rfl ⟨by decide +kernel, by decide +kernel, by decide +kernel⟩ ⟨Nat.le_of_ble_eq_true rfl, Nat.le_of_ble_eq_true rfl⟩ hK hE hS rfl hl.1 rfl (Nat.le_of_ble_eq_true rfl) dX7_employ_22 ⟨Nat.le_of_ble_eq_true rfl, Nat.le_of_ble_eq_true rfl⟩ (fun H locs hS => ?_)
  refine lv_if_eq (tgt := 38) hx hb dX7_employ_25 (by decide) (fun c25 => ?_) (fun c25 => ?_)
  · refine lv_iconst (v := 1) hx hb dX7_employ_38 (by decide) ?_
    refine lv_goto (tgt := 43) hx hb dX7_employ_39 (by decide) ?_
    refine lv_iconst (v := 2) hx hb dX7_employ_43 (by decide) ?_
    refine z_invV (As := [.int (1), .int (2)]) (rest := []) (n := 2) ⟨hx, hb, hml, hown, hts⟩ (c1_X7_throwsIf l D cs w1 H.size mm ad (0) (nI nb) (dd) (nI nw) (br) (yr) (wd) 2 h1_mm) gX7_employ_X7_throwsIf rfl ⟨rfl, by decide +kernel, by decide +kernel, by decide +kernel⟩ ⟨Nat.le_of_ble_eq_true rfl, Nat.le_of_ble_eq_true rfl⟩ hK hE hS rfl h1_mm rfl hl.1 rfl (Nat.le_of_ble_eq_true rfl) dX7_employ_44 ⟨Nat.le_of_ble_eq_true rfl, Nat.le_of_ble_eq_true rfl⟩ (fun v9 u2 H locs hq hS => ?_)
    obtain ⟨rfl, hx2⟩ := hq
    have h3_mm : u2 (mm) = some (mo ad (2) (nI nb) (dd) (nI nw) (br) (yr) (wd)) := hx2.at 0 rfl
    refine W.eq (g2 := F0 m 47 ls [.int (1)]) rfl ?_
    refine lv_if_ne (tgt := 72) hx hb dX7_employ_47 (by decide) (fun _ => ?_) (fun cq9 => absurd cq9 (by decide))
    refine lv_iconst (v := 0) hx hb dX7_employ_72 (by decide) ?_
    have hex : zEx w u2 [(mm, (mo ad (2) (nI nb) (dd) (nI nw) (br) (yr) (wd)))] := ⟨(zm1 h3_mm zm0), fun a9 h9 => by rw [hx2.2 a9 (zm1 (show a9 ≠ mm from h9 (mm, (mo ad (2) (nI nb) (dd) (nI nw) (br) (yr) (wd))) (List.mem_of_getElem? (i := 0) rfl)) zm0), ew1, va_up_ne _ _ (show a9 ≠ mm from h9 (mm, (mo ad (2) (nI nb) (dd) (nI nw) (br) (yr) (wd))) (List.mem_of_getElem? (i := 0) rfl))]⟩
    exact z_iret hx hb hr hlocks hS (Nat.le_of_ble_eq_true rfl) (Nat.le_of_ble_eq_true rfl) dX7_employ_73 ⟨rfl, zMQ.o hM h_m hinj hex⟩
  · refine lv_iload_n hx hb dX7_employ_28 rfl (lv_at hl 3 rfl) ?_
    refine lv_i2l (v := ((met : Int32).toInt64)) hx hb dX7_employ_29 rfl ?_
    refine lv_lconst (v := 0) hx hb dX7_employ_30 (by decide) ?_
    refine lv_lconst (v := 1) hx hb dX7_employ_31 (by decide) ?_
    refine z_rS (As := [.long (((met : Int32).toInt64)), .long (0), .long (1)]) (rest := [.ref (mm)]) (n := 3) ⟨hx, hb, hml, hown, hts⟩ (c_X7_in l D cs w1 H.size (met.toInt64) (0) (1)) gX7_employ_X7_in rfl ⟨by decide +kernel, by decide +kernel, by decide +kernel⟩ ⟨Nat.le_of_ble_eq_true rfl, Nat.le_of_ble_eq_true rfl⟩ hK hE hS rfl hl.1 rfl (Nat.le_of_ble_eq_true rfl) dX7_employ_32 ⟨Nat.le_of_ble_eq_true rfl, Nat.le_of_ble_eq_true rfl⟩ (fun H locs hS => ?_)
    refine lv_if_ne (tgt := 42) hx hb dX7_employ_35 (by decide) (fun c35 => ?_) (fun c35 => ?_)
    · exact absurd ⟨(zPerB_01 _).resolve_left c25, mIn_ne c35⟩ hbad
    · refine lv_iconst (v := 1) hx hb dX7_employ_38 (by decide) ?_
      refine lv_goto (tgt := 43) hx hb dX7_employ_39 (by decide) ?_
      refine lv_iconst (v := 2) hx hb dX7_employ_43 (by decide) ?_
      refine z_invV (As := [.int (1), .int (2)]) (rest := []) (n := 2) ⟨hx, hb, hml, hown, hts⟩ (c1_X7_throwsIf l D cs w1 H.size mm ad (0) (nI nb) (dd) (nI nw) (br) (yr) (wd) 2 h1_mm) gX7_employ_X7_throwsIf rfl ⟨rfl, by decide +kernel, by decide +kernel, by decide +kernel⟩ ⟨Nat.le_of_ble_eq_true rfl, Nat.le_of_ble_eq_true rfl⟩ hK hE hS rfl h1_mm rfl hl.1 rfl (Nat.le_of_ble_eq_true rfl) dX7_employ_44 ⟨Nat.le_of_ble_eq_true rfl, Nat.le_of_ble_eq_true rfl⟩ (fun v9 u4 H locs hq hS => ?_)
      obtain ⟨rfl, hx4⟩ := hq
      have h5_mm : u4 (mm) = some (mo ad (2) (nI nb) (dd) (nI nw) (br) (yr) (wd)) := hx4.at 0 rfl
      refine W.eq (g2 := F0 m 47 ls [.int (1)]) rfl ?_
      refine lv_if_ne (tgt := 72) hx hb dX7_employ_47 (by decide) (fun _ => ?_) (fun cq9 => absurd cq9 (by decide))
      refine lv_iconst (v := 0) hx hb dX7_employ_72 (by decide) ?_
      have hex : zEx w u4 [(mm, (mo ad (2) (nI nb) (dd) (nI nw) (br) (yr) (wd)))] := ⟨(zm1 h5_mm zm0), fun a9 h9 => by rw [hx4.2 a9 (zm1 (show a9 ≠ mm from h9 (mm, (mo ad (2) (nI nb) (dd) (nI nw) (br) (yr) (wd))) (List.mem_of_getElem? (i := 0) rfl)) zm0), ew1, va_up_ne _ _ (show a9 ≠ mm from h9 (mm, (mo ad (2) (nI nb) (dd) (nI nw) (br) (yr) (wd))) (List.mem_of_getElem? (i := 0) rfl))]⟩
      exact z_iret hx hb hr hlocks hS (Nat.le_of_ble_eq_true rfl) (Nat.le_of_ble_eq_true rfl) dX7_employ_73 ⟨rfl, zMQ.o hM h_m hinj hex⟩
set_option maxHeartbeats 4000000 in
set_option maxRecDepth 100000 in
theorem t3_X7_employ (l : Launch) (D : va_G) (cs : Nat → ClassId) (w : zw) (sz : Nat) (mm : Nat) (ad : Nat → Nat) (J : Nat → Nat → Int64) (K : Nat → Nat → Int32) (th dd br yr wd : Int32) (nb t nw : Nat) (per met : Int32) (hinj : ∀ i j : Nat, i ≠ j → ad i ≠ ad j) (hM : zMA cs w ad J K) (hnb : nb ≤ 6) (hnw : nw ≤ 10) (ht : t < nb) (hper : zPerB per.toInt64 = 1) (hmet : zUpTo met.toInt64 1 = 1) (h10 : nw = 10) (h_m : w (mm) = some (mo ad (th) (nI nb) (dd) (nI nw) (br) (yr) (wd))) : zM l D cs yX7_employ wsX7_employ 3 0 0 w sz [.ref (mm), .int (nI t), .int (per), .int (met)] (fun r w2 => r = some (.int 0) ∧ zMQ cs w w2 ad mm (mo ad (3) (nI nb) (dd) (nI nw) (br) (yr) (wd)) J K) := by
  refine z_met (cc := cX7_employ) (maxL := 4) (ret := (some .int)) (by decide) rfl (Nat.le_of_ble_eq_true rfl) ?_
  intro p e s m below meth c hx hb hr hml hown hts hlocks hnm hsz hK hE hS ls hl
  have hl : lv_has ls 4 [(0, .ref (mm)), (1, .int (nI t)), (2, .int (per)), (3, .int (met))] := hl
  refine lv_aload_n hx hb dX7_employ_0 rfl (lv_at hl 0 rfl) ?_
  refine lv_iconst (v := 0) hx hb dX7_employ_1 (by decide) ?_
  refine z_put (C := RX7) (T := TX7) (N := 45) (v := .int (0)) hx hb hts (by decide +kernel) tyX7 tyX7_ok nmX7 hown hK hS h_m rfl 0 (by decide) (hts (.fieldLink RX7 126 "PayLedgerModel" "thrown" "I") (by decide +kernel)) rfl rfl rfl (Nat.le_of_ble_eq_true rfl) dX7_employ_2 (fun H locs hS => ?_)
  obtain ⟨w1, ew1⟩ : ∃ z : zw, z = va_up w (mm) (some (mo ad (0) (nI nb) (dd) (nI nw) (br) (yr) (wd))) := ⟨_, rfl⟩
  have hS : zS (zA w sz) D w1 s.heap H locs := by rw [ew1]; exact hS
  have h1_mm : w1 (mm) = some (mo ad (0) (nI nb) (dd) (nI nw) (br) (yr) (wd)) := by rw [ew1]; exact va_up_self _ _ _
  refine lv_aload_n hx hb dX7_employ_5 rfl (lv_at hl 0 rfl) ?_
  refine lv_aload_n hx hb dX7_employ_6 rfl (lv_at hl 0 rfl) ?_
  refine lv_iload_n hx hb dX7_employ_7 rfl (lv_at hl 1 rfl) ?_
  refine lv_i2l (v := ((nI t : Int32).toInt64)) hx hb dX7_employ_8 rfl ?_
  refine z_tl (y := lN t) (nI_l (by omega)) ?_
  refine z_rV (As := [.long (lN t)]) (rest := [.ref (mm)]) (n := 1) ⟨hx, hb, hml, hown, hts⟩ (c_X7_noTable l D cs w1 H.size mm ad (0) (dd) (nI nw) (br) (yr) (wd) nb t (by omega) ht h1_mm) gX7_employ_X7_noTable rfl ⟨rfl, by decide +kernel, by decide +kernel, by decide +kernel⟩ ⟨Nat.le_of_ble_eq_true rfl, Nat.le_of_ble_eq_true rfl⟩ hK hE hS rfl h1_mm rfl hl.1 rfl (Nat.le_of_ble_eq_true rfl) dX7_employ_9 ⟨Nat.le_of_ble_eq_true rfl, Nat.le_of_ble_eq_true rfl⟩ (fun H locs hS => ?_)
  refine lv_iconst (v := 1) hx hb dX7_employ_12 (by decide) ?_
  refine z_rV (As := [.int (0), .int (1)]) (rest := []) (n := 2) ⟨hx, hb, hml, hown, hts⟩ (c0_X7_throwsIf l D cs w1 H.size mm ad (0) (nI nb) (dd) (nI nw) (br) (yr) (wd) 1 h1_mm) gX7_employ_X7_throwsIf rfl ⟨rfl, by decide +kernel, by decide +kernel, by decide +kernel⟩ ⟨Nat.le_of_ble_eq_true rfl, Nat.le_of_ble_eq_true rfl⟩ hK hE hS rfl h1_mm rfl hl.1 rfl (Nat.le_of_ble_eq_true rfl) dX7_employ_13 ⟨Nat.le_of_ble_eq_true rfl, Nat.le_of_ble_eq_true rfl⟩ (fun H locs hS => ?_)
  refine lv_if_ne (tgt := 72) hx hb dX7_employ_16 (by decide) (fun cq9 => absurd rfl cq9) (fun _ => ?_)
  refine lv_aload_n hx hb dX7_employ_19 rfl (lv_at hl 0 rfl) ?_
  refine lv_iload_n hx hb dX7_employ_20 rfl (lv_at hl 2 rfl) ?_
  refine lv_i2l (v := ((per : Int32).toInt64)) hx hb dX7_employ_21 rfl ?_
  refine z_rS (As := [.long (((per : Int32).toInt64))]) (rest := [.ref (mm)]) (n := 1) ⟨hx, hb, hml, hown, hts⟩ (c_X7_isPeriods l D cs w1 H.size per.toInt64) gX7_employ_X7_isPeriods rfl ⟨by decide +kernel, by decide +kernel, by decide +kernel⟩ ⟨Nat.le_of_ble_eq_true rfl, Nat.le_of_ble_eq_true rfl⟩ hK hE hS rfl hl.1 rfl (Nat.le_of_ble_eq_true rfl) dX7_employ_22 ⟨Nat.le_of_ble_eq_true rfl, Nat.le_of_ble_eq_true rfl⟩ (fun H locs hS => ?_)
  refine lv_if_eq (tgt := 38) hx hb dX7_employ_25 (by decide) (fun cq9 => absurd cq9 (by rw [hper]; decide)) (fun _ => ?_)
  refine lv_iload_n hx hb dX7_employ_28 rfl (lv_at hl 3 rfl) ?_
  refine lv_i2l (v := ((met : Int32).toInt64)) hx hb dX7_employ_29 rfl ?_
  refine lv_lconst (v := 0) hx hb dX7_employ_30 (by decide) ?_
  refine lv_lconst (v := 1) hx hb dX7_employ_31 (by decide) ?_
  refine z_rS (As := [.long (((met : Int32).toInt64)), .long (0), .long (1)]) (rest := [.ref (mm)]) (n := 3) ⟨hx, hb, hml, hown, hts⟩ (c_X7_in l D cs w1 H.size (met.toInt64) (0) (1)) gX7_employ_X7_in rfl ⟨by decide +kernel, by decide +kernel, by decide +kernel⟩ ⟨Nat.le_of_ble_eq_true rfl, Nat.le_of_ble_eq_true rfl⟩ hK hE hS rfl hl.1 rfl (Nat.le_of_ble_eq_true rfl) dX7_employ_32 ⟨Nat.le_of_ble_eq_true rfl, Nat.le_of_ble_eq_true rfl⟩ (fun H locs hS => ?_)
  refine lv_if_ne (tgt := 42) hx hb dX7_employ_35 (by decide) (fun _ => ?_) (fun cq9 => absurd cq9 (by rw [show mIn met.toInt64 0 1 = 1 from hmet]; decide))
  refine lv_iconst (v := 0) hx hb dX7_employ_42 (by decide) ?_
  refine lv_iconst (v := 2) hx hb dX7_employ_43 (by decide) ?_
  refine z_rV (As := [.int (0), .int (2)]) (rest := []) (n := 2) ⟨hx, hb, hml, hown, hts⟩ (c0_X7_throwsIf l D cs w1 H.size mm ad (0) (nI nb) (dd) (nI nw) (br) (yr) (wd) 2 h1_mm) gX7_employ_X7_throwsIf rfl ⟨rfl, by decide +kernel, by decide +kernel, by decide +kernel⟩ ⟨Nat.le_of_ble_eq_true rfl, Nat.le_of_ble_eq_true rfl⟩ hK hE hS rfl h1_mm rfl hl.1 rfl (Nat.le_of_ble_eq_true rfl) dX7_employ_44 ⟨Nat.le_of_ble_eq_true rfl, Nat.le_of_ble_eq_true rfl⟩ (fun H locs hS => ?_)
  refine lv_if_ne (tgt := 72) hx hb dX7_employ_47 (by decide) (fun cq9 => absurd rfl cq9) (fun _ => ?_)
  refine lv_aload_n hx hb dX7_employ_50 rfl (lv_at hl 0 rfl) ?_
  refine lv_aload_n hx hb dX7_employ_51 rfl (lv_at hl 0 rfl) ?_
  refine z_get (C := RX7) (T := TX7) (N := 45) (v := .int (nI nw)) hx hb hts (by decide +kernel) hown hK hS h1_mm rfl 21 (by decide) (hts (.fieldLink RX7 183 "PayLedgerModel" "workers" "I") (by decide +kernel)) rfl dX7_employ_52 ?_
  refine lv_bipush (v := 10) hx hb dX7_employ_55 (by decide) ?_
  refine lv_icmp_ne (tgt := 64) hx hb dX7_employ_57 (by decide) (fun cq9 => absurd (by rw [h10]; rfl) cq9) (fun _ => ?_)
  refine lv_iconst (v := 1) hx hb dX7_employ_60 (by decide) ?_
  refine lv_goto (tgt := 65) hx hb dX7_employ_61 (by decide) ?_
  refine lv_iconst (v := 3) hx hb dX7_employ_65 (by decide) ?_
  refine z_invV (As := [.int (1), .int (3)]) (rest := []) (n := 2) ⟨hx, hb, hml, hown, hts⟩ (c1_X7_throwsIf l D cs w1 H.size mm ad (0) (nI nb) (dd) (nI nw) (br) (yr) (wd) 3 h1_mm) gX7_employ_X7_throwsIf rfl ⟨rfl, by decide +kernel, by decide +kernel, by decide +kernel⟩ ⟨Nat.le_of_ble_eq_true rfl, Nat.le_of_ble_eq_true rfl⟩ hK hE hS rfl h1_mm rfl hl.1 rfl (Nat.le_of_ble_eq_true rfl) dX7_employ_66 ⟨Nat.le_of_ble_eq_true rfl, Nat.le_of_ble_eq_true rfl⟩ (fun v9 u2 H locs hq hS => ?_)
  obtain ⟨rfl, hx2⟩ := hq
  have h3_mm : u2 (mm) = some (mo ad (3) (nI nb) (dd) (nI nw) (br) (yr) (wd)) := hx2.at 0 rfl
  refine W.eq (g2 := F0 m 69 ls [.int (1)]) rfl ?_
  refine lv_if_eq (tgt := 74) hx hb dX7_employ_69 (by decide) (fun cq9 => absurd cq9 (by decide)) (fun _ => ?_)
  refine lv_iconst (v := 0) hx hb dX7_employ_72 (by decide) ?_
  have hex : zEx w u2 [(mm, (mo ad (3) (nI nb) (dd) (nI nw) (br) (yr) (wd)))] := ⟨(zm1 h3_mm zm0), fun a9 h9 => by rw [hx2.2 a9 (zm1 (show a9 ≠ mm from h9 (mm, (mo ad (3) (nI nb) (dd) (nI nw) (br) (yr) (wd))) (List.mem_of_getElem? (i := 0) rfl)) zm0), ew1, va_up_ne _ _ (show a9 ≠ mm from h9 (mm, (mo ad (3) (nI nb) (dd) (nI nw) (br) (yr) (wd))) (List.mem_of_getElem? (i := 0) rfl))]⟩
  exact z_iret hx hb hr hlocks hS (Nat.le_of_ble_eq_true rfl) (Nat.le_of_ble_eq_true rfl) dX7_employ_73 ⟨rfl, zMQ.o hM h_m hinj hex⟩
set_option maxHeartbeats 4000000 in
set_option maxRecDepth 100000 in
theorem c_X7_employ (l : Launch) (D : va_G) (cs : Nat → ClassId) (w : zw) (sz : Nat) (mm : Nat) (ad : Nat → Nat) (J : Nat → Nat → Int64) (K : Nat → Nat → Int32) (th dd br yr wd : Int32) (nb t nw : Nat) (per met : Int32) (hinj : ∀ i j : Nat, i ≠ j → ad i ≠ ad j) (hM : zMA cs w ad J K) (hnb : nb ≤ 6) (hnw : nw ≤ 10) (ht : t < nb) (hper : zPerB per.toInt64 = 1) (hmet : zUpTo met.toInt64 1 = 1) (h10 : ¬ nw = 10) (h_m : w (mm) = some (mo ad (th) (nI nb) (dd) (nI nw) (br) (yr) (wd))) : zM l D cs yX7_employ wsX7_employ 3 0 0 w sz [.ref (mm), .int (nI t), .int (per), .int (met)] (fun r w2 => r = some (.int (nI nw)) ∧ zMQ cs w w2 ad mm (mo ad (0) (nI nb) (dd) (nI (nw + 1)) (br) (yr) (wd)) J (va_up (va_up (va_up (va_up K 12 (upd (K 12) nw (nI t))) 13 (upd (K 13) nw per)) 14 (upd (K 14) nw met)) 4 (upd (K 4) t 1))) := by
  refine z_met (cc := cX7_employ) (maxL := 4) (ret := (some .int)) (by decide) rfl (Nat.le_of_ble_eq_true rfl) ?_
  intro p e s m below meth c hx hb hr hml hown hts hlocks hnm hsz hK hE hS ls hl
  have hl : lv_has ls 4 [(0, .ref (mm)), (1, .int (nI t)), (2, .int (per)), (3, .int (met))] := hl
  have h_4 : w (ad 4) = some (eZ cs (6) (K 4)) := hM 4 (by decide)
  have h_12 : w (ad 12) = some (eI cs (10) (K 12)) := hM 12 (by decide)
  have h_13 : w (ad 13) = some (eI cs (10) (K 13)) := hM 13 (by decide)
  have h_14 : w (ad 14) = some (eI cs (10) (K 14)) := hM 14 (by decide)
  refine lv_aload_n hx hb dX7_employ_0 rfl (lv_at hl 0 rfl) ?_
  refine lv_iconst (v := 0) hx hb dX7_employ_1 (by decide) ?_
  refine z_put (C := RX7) (T := TX7) (N := 45) (v := .int (0)) hx hb hts (by decide +kernel) tyX7 tyX7_ok nmX7 hown hK hS h_m rfl 0 (by decide) (hts (.fieldLink RX7 126 "PayLedgerModel" "thrown" "I") (by decide +kernel)) rfl rfl rfl (Nat.le_of_ble_eq_true rfl) dX7_employ_2 (fun H locs hS => ?_)
  obtain ⟨w1, ew1⟩ : ∃ z : zw, z = va_up w (mm) (some (mo ad (0) (nI nb) (dd) (nI nw) (br) (yr) (wd))) := ⟨_, rfl⟩
  have hS : zS (zA w sz) D w1 s.heap H locs := by rw [ew1]; exact hS
  have h1_mm : w1 (mm) = some (mo ad (0) (nI nb) (dd) (nI nw) (br) (yr) (wd)) := by rw [ew1]; exact va_up_self _ _ _
  have h1_ad4 : w1 (ad 4) = some (eZ cs (6) (K 4)) := by rw [ew1]; exact (va_up_ne _ _ (zne h_4 h_m (by intro q9; first | cases q9 | simp at q9))).trans h_4
  have h1_ad12 : w1 (ad 12) = some (eI cs (10) (K 12)) := by rw [ew1]; exact (va_up_ne _ _ (zne h_12 h_m (by intro q9; first | cases q9 | simp at q9))).trans h_12
  have h1_ad13 : w1 (ad 13) = some (eI cs (10) (K 13)) := by rw [ew1]; exact (va_up_ne _ _ (zne h_13 h_m (by intro q9; first | cases q9 | simp at q9))).trans h_13
  have h1_ad14 : w1 (ad 14) = some (eI cs (10) (K 14)) := by rw [ew1]; exact (va_up_ne _ _ (zne h_14 h_m (by intro q9; first | cases q9 | simp at q9))).trans h_14
  refine lv_aload_n hx hb dX7_employ_5 rfl (lv_at hl 0 rfl) ?_
  refine lv_aload_n hx hb dX7_employ_6 rfl (lv_at hl 0 rfl) ?_
  refine lv_iload_n hx hb dX7_employ_7 rfl (lv_at hl 1 rfl) ?_
  refine lv_i2l (v := ((nI t : Int32).toInt64)) hx hb dX7_employ_8 rfl ?_
  refine z_tl (y := lN t) (nI_l (by omega)) ?_
  refine z_rV (As := [.long (lN t)]) (rest := [.ref (mm)]) (n := 1) ⟨hx, hb, hml, hown, hts⟩ (c_X7_noTable l D cs w1 H.size mm ad (0) (dd) (nI nw) (br) (yr) (wd) nb t (by omega) ht h1_mm) gX7_employ_X7_noTable rfl ⟨rfl, by decide +kernel, by decide +kernel, by decide +kernel⟩ ⟨Nat.le_of_ble_eq_true rfl, Nat.le_of_ble_eq_true rfl⟩ hK hE hS rfl h1_mm rfl hl.1 rfl (Nat.le_of_ble_eq_true rfl) dX7_employ_9 ⟨Nat.le_of_ble_eq_true rfl, Nat.le_of_ble_eq_true rfl⟩ (fun H locs hS => ?_)
  refine lv_iconst (v := 1) hx hb dX7_employ_12 (by decide) ?_
  refine z_rV (As := [.int (0), .int (1)]) (rest := []) (n := 2) ⟨hx, hb, hml, hown, hts⟩ (c0_X7_throwsIf l D cs w1 H.size mm ad (0) (nI nb) (dd) (nI nw) (br) (yr) (wd) 1 h1_mm) gX7_employ_X7_throwsIf rfl ⟨rfl, by decide +kernel, by decide +kernel, by decide +kernel⟩ ⟨Nat.le_of_ble_eq_true rfl, Nat.le_of_ble_eq_true rfl⟩ hK hE hS rfl h1_mm rfl hl.1 rfl (Nat.le_of_ble_eq_true rfl) dX7_employ_13 ⟨Nat.le_of_ble_eq_true rfl, Nat.le_of_ble_eq_true rfl⟩ (fun H locs hS => ?_)
  refine lv_if_ne (tgt := 72) hx hb dX7_employ_16 (by decide) (fun cq9 => absurd rfl cq9) (fun _ => ?_)
  refine lv_aload_n hx hb dX7_employ_19 rfl (lv_at hl 0 rfl) ?_
  refine lv_iload_n hx hb dX7_employ_20 rfl (lv_at hl 2 rfl) ?_
  refine lv_i2l (v := ((per : Int32).toInt64)) hx hb dX7_employ_21 rfl ?_
  refine z_rS (As := [.long (((per : Int32).toInt64))]) (rest := [.ref (mm)]) (n := 1) ⟨hx, hb, hml, hown, hts⟩ (c_X7_isPeriods l D cs w1 H.size per.toInt64) gX7_employ_X7_isPeriods rfl ⟨by decide +kernel, by decide +kernel, by decide +kernel⟩ ⟨Nat.le_of_ble_eq_true rfl, Nat.le_of_ble_eq_true rfl⟩ hK hE hS rfl hl.1 rfl (Nat.le_of_ble_eq_true rfl) dX7_employ_22 ⟨Nat.le_of_ble_eq_true rfl, Nat.le_of_ble_eq_true rfl⟩ (fun H locs hS => ?_)
  refine lv_if_eq (tgt := 38) hx hb dX7_employ_25 (by decide) (fun cq9 => absurd cq9 (by rw [hper]; decide)) (fun _ => ?_)
  refine lv_iload_n hx hb dX7_employ_28 rfl (lv_at hl 3 rfl) ?_
  refine lv_i2l (v := ((met : Int32).toInt64)) hx hb dX7_employ_29 rfl ?_
  refine lv_lconst (v := 0) hx hb dX7_employ_30 (by decide) ?_
  refine lv_lconst (v := 1) hx hb dX7_employ_31 (by decide) ?_
  refine z_rS (As := [.long (((met : Int32).toInt64)), .long (0), .long (1)]) (rest := [.ref (mm)]) (n := 3) ⟨hx, hb, hml, hown, hts⟩ (c_X7_in l D cs w1 H.size (met.toInt64) (0) (1)) gX7_employ_X7_in rfl ⟨by decide +kernel, by decide +kernel, by decide +kernel⟩ ⟨Nat.le_of_ble_eq_true rfl, Nat.le_of_ble_eq_true rfl⟩ hK hE hS rfl hl.1 rfl (Nat.le_of_ble_eq_true rfl) dX7_employ_32 ⟨Nat.le_of_ble_eq_true rfl, Nat.le_of_ble_eq_true rfl⟩ (fun H locs hS => ?_)
  refine lv_if_ne (tgt := 42) hx hb dX7_employ_35 (by decide) (fun _ => ?_) (fun cq9 => absurd cq9 (by rw [show mIn met.toInt64 0 1 = 1 from hmet]; decide))
  refine lv_iconst (v := 0) hx hb dX7_employ_42 (by decide) ?_
  refine lv_iconst (v := 2) hx hb dX7_employ_43 (by decide) ?_
  refine z_rV (As := [.int (0), .int (2)]) (rest := []) (n := 2) ⟨hx, hb, hml, hown, hts⟩ (c0_X7_throwsIf l D cs w1 H.size mm ad (0) (nI nb) (dd) (nI nw) (br) (yr) (wd) 2 h1_mm) gX7_employ_X7_throwsIf rfl ⟨rfl, by decide +kernel, by decide +kernel, by decide +kernel⟩ ⟨Nat.le_of_ble_eq_true rfl, Nat.le_of_ble_eq_true rfl⟩ hK hE hS rfl h1_mm rfl hl.1 rfl (Nat.le_of_ble_eq_true rfl) dX7_employ_44 ⟨Nat.le_of_ble_eq_true rfl, Nat.le_of_ble_eq_true rfl⟩ (fun H locs hS => ?_)
  refine lv_if_ne (tgt := 72) hx hb dX7_employ_47 (by decide) (fun cq9 => absurd rfl cq9) (fun _ => ?_)
  refine lv_aload_n hx hb dX7_employ_50 rfl (lv_at hl 0 rfl) ?_
  refine lv_aload_n hx hb dX7_employ_51 rfl (lv_at hl 0 rfl) ?_
  refine z_get (C := RX7) (T := TX7) (N := 45) (v := .int (nI nw)) hx hb hts (by decide +kernel) hown hK hS h1_mm rfl 21 (by decide) (hts (.fieldLink RX7 183 "PayLedgerModel" "workers" "I") (by decide +kernel)) rfl dX7_employ_52 ?_
  refine lv_bipush (v := 10) hx hb dX7_employ_55 (by decide) ?_
  refine lv_icmp_ne (tgt := 64) hx hb dX7_employ_57 (by decide) (fun _ => ?_) (fun cq9 => absurd cq9 (fun q9 => h10 ((nI_eq (b := 10) (by omega) (by omega)).mp q9)))
  refine lv_iconst (v := 0) hx hb dX7_employ_64 (by decide) ?_
  refine lv_iconst (v := 3) hx hb dX7_employ_65 (by decide) ?_
  refine z_rV (As := [.int (0), .int (3)]) (rest := []) (n := 2) ⟨hx, hb, hml, hown, hts⟩ (c0_X7_throwsIf l D cs w1 H.size mm ad (0) (nI nb) (dd) (nI nw) (br) (yr) (wd) 3 h1_mm) gX7_employ_X7_throwsIf rfl ⟨rfl, by decide +kernel, by decide +kernel, by decide +kernel⟩ ⟨Nat.le_of_ble_eq_true rfl, Nat.le_of_ble_eq_true rfl⟩ hK hE hS rfl h1_mm rfl hl.1 rfl (Nat.le_of_ble_eq_true rfl) dX7_employ_66 ⟨Nat.le_of_ble_eq_true rfl, Nat.le_of_ble_eq_true rfl⟩ (fun H locs hS => ?_)
  refine lv_if_eq (tgt := 74) hx hb dX7_employ_69 (by decide) (fun _ => ?_) (fun cq9 => absurd rfl cq9)
  refine lv_aload_n hx hb dX7_employ_74 rfl (lv_at hl 0 rfl) ?_
  refine z_get (C := RX7) (T := TX7) (N := 45) (v := .ref (ad 12)) hx hb hts (by decide +kernel) hown hK hS h1_mm rfl 12 (by decide) (hts (.fieldLink RX7 39 "PayLedgerModel" "hasTable" "[I") (by decide +kernel)) rfl dX7_employ_75 ?_
  refine lv_aload_n hx hb dX7_employ_78 rfl (lv_at hl 0 rfl) ?_
  refine z_get (C := RX7) (T := TX7) (N := 45) (v := .int (nI nw)) hx hb hts (by decide +kernel) hown hK hS h1_mm rfl 21 (by decide) (hts (.fieldLink RX7 183 "PayLedgerModel" "workers" "I") (by decide +kernel)) rfl dX7_employ_79 ?_
  refine lv_iload_n hx hb dX7_employ_82 rfl (lv_at hl 1 rfl) ?_
  refine z_iast hx hb hK hS h1_ad12 (vp_in_nI (by omega) (by decide)) dX7_employ_83 (fun H locs hS => ?_)
  obtain ⟨w2, ew2⟩ : ∃ z : zw, z = va_up w1 (ad 12) (some (eI cs (10) (upd (K 12) (nI nw : Int32).toNatClampNeg (nI t)))) := ⟨_, rfl⟩
  have hS : zS (zA w sz) D w2 s.heap H locs := by rw [ew2]; exact hS
  have h2_ad12 : w2 (ad 12) = some (eI cs (10) (upd (K 12) (nI nw : Int32).toNatClampNeg (nI t))) := by rw [ew2]; exact va_up_self _ _ _
  have h2_ad4 : w2 (ad 4) = some (eZ cs (6) (K 4)) := by rw [ew2]; exact (va_up_ne _ _ (hinj 4 12 (by decide))).trans h1_ad4
  have h2_ad13 : w2 (ad 13) = some (eI cs (10) (K 13)) := by rw [ew2]; exact (va_up_ne _ _ (hinj 13 12 (by decide))).trans h1_ad13
  have h2_ad14 : w2 (ad 14) = some (eI cs (10) (K 14)) := by rw [ew2]; exact (va_up_ne _ _ (hinj 14 12 (by decide))).trans h1_ad14
  have h2_mm : w2 (mm) = some (mo ad (0) (nI nb) (dd) (nI nw) (br) (yr) (wd)) := by rw [ew2]; exact (va_up_ne _ _ (zne h1_mm h1_ad12 (by intro q9; first | cases q9 | simp at q9))).trans h1_mm
  have h2_ad12 : w2 (ad 12) = some (eI cs (10) (upd (K 12) (nw) (nI t))) := by rw [nI_clamp (by omega)] at h2_ad12; exact h2_ad12
  refine lv_aload_n hx hb dX7_employ_84 rfl (lv_at hl 0 rfl) ?_
  refine z_get (C := RX7) (T := TX7) (N := 45) (v := .ref (ad 13)) hx hb hts (by decide +kernel) hown hK hS h2_mm rfl 13 (by decide) (hts (.fieldLink RX7 42 "PayLedgerModel" "hasPeriods" "[I") (by decide +kernel)) rfl dX7_employ_85 ?_
  refine lv_aload_n hx hb dX7_employ_88 rfl (lv_at hl 0 rfl) ?_
  refine z_get (C := RX7) (T := TX7) (N := 45) (v := .int (nI nw)) hx hb hts (by decide +kernel) hown hK hS h2_mm rfl 21 (by decide) (hts (.fieldLink RX7 183 "PayLedgerModel" "workers" "I") (by decide +kernel)) rfl dX7_employ_89 ?_
  refine lv_iload_n hx hb dX7_employ_92 rfl (lv_at hl 2 rfl) ?_
  refine z_iast hx hb hK hS h2_ad13 (vp_in_nI (by omega) (by decide)) dX7_employ_93 (fun H locs hS => ?_)
  obtain ⟨w3, ew3⟩ : ∃ z : zw, z = va_up w2 (ad 13) (some (eI cs (10) (upd (K 13) (nI nw : Int32).toNatClampNeg (per)))) := ⟨_, rfl⟩
  have hS : zS (zA w sz) D w3 s.heap H locs := by rw [ew3]; exact hS
  have h3_ad13 : w3 (ad 13) = some (eI cs (10) (upd (K 13) (nI nw : Int32).toNatClampNeg (per))) := by rw [ew3]; exact va_up_self _ _ _
  have h3_ad4 : w3 (ad 4) = some (eZ cs (6) (K 4)) := by rw [ew3]; exact (va_up_ne _ _ (hinj 4 13 (by decide))).trans h2_ad4
  have h3_ad14 : w3 (ad 14) = some (eI cs (10) (K 14)) := by rw [ew3]; exact (va_up_ne _ _ (hinj 14 13 (by decide))).trans h2_ad14
  have h3_mm : w3 (mm) = some (mo ad (0) (nI nb) (dd) (nI nw) (br) (yr) (wd)) := by rw [ew3]; exact (va_up_ne _ _ (zne h2_mm h2_ad13 (by intro q9; first | cases q9 | simp at q9))).trans h2_mm
  have h3_ad12 : w3 (ad 12) = some (eI cs (10) (upd (K 12) (nw) (nI t))) := by rw [ew3]; exact (va_up_ne _ _ (hinj 12 13 (by decide))).trans h2_ad12
  have h3_ad13 : w3 (ad 13) = some (eI cs (10) (upd (K 13) (nw) (per))) := by rw [nI_clamp (by omega)] at h3_ad13; exact h3_ad13
  refine lv_aload_n hx hb dX7_employ_94 rfl (lv_at hl 0 rfl) ?_
  refine z_get (C := RX7) (T := TX7) (N := 45) (v := .ref (ad 14)) hx hb hts (by decide +kernel) hown hK hS h3_mm rfl 14 (by decide) (hts (.fieldLink RX7 45 "PayLedgerModel" "hasMethod" "[I") (by decide +kernel)) rfl dX7_employ_95 ?_
  refine lv_aload_n hx hb dX7_employ_98 rfl (lv_at hl 0 rfl) ?_
  refine z_get (C := RX7) (T := TX7) (N := 45) (v := .int (nI nw)) hx hb hts (by decide +kernel) hown hK hS h3_mm rfl 21 (by decide) (hts (.fieldLink RX7 183 "PayLedgerModel" "workers" "I") (by decide +kernel)) rfl dX7_employ_99 ?_
  refine lv_iload_n hx hb dX7_employ_102 rfl (lv_at hl 3 rfl) ?_
  refine z_iast hx hb hK hS h3_ad14 (vp_in_nI (by omega) (by decide)) dX7_employ_103 (fun H locs hS => ?_)
  obtain ⟨w4, ew4⟩ : ∃ z : zw, z = va_up w3 (ad 14) (some (eI cs (10) (upd (K 14) (nI nw : Int32).toNatClampNeg (met)))) := ⟨_, rfl⟩
  have hS : zS (zA w sz) D w4 s.heap H locs := by rw [ew4]; exact hS
  have h4_ad14 : w4 (ad 14) = some (eI cs (10) (upd (K 14) (nI nw : Int32).toNatClampNeg (met))) := by rw [ew4]; exact va_up_self _ _ _
  have h4_ad4 : w4 (ad 4) = some (eZ cs (6) (K 4)) := by rw [ew4]; exact (va_up_ne _ _ (hinj 4 14 (by decide))).trans h3_ad4
  have h4_mm : w4 (mm) = some (mo ad (0) (nI nb) (dd) (nI nw) (br) (yr) (wd)) := by rw [ew4]; exact (va_up_ne _ _ (zne h3_mm h3_ad14 (by intro q9; first | cases q9 | simp at q9))).trans h3_mm
  have h4_ad12 : w4 (ad 12) = some (eI cs (10) (upd (K 12) (nw) (nI t))) := by rw [ew4]; exact (va_up_ne _ _ (hinj 12 14 (by decide))).trans h3_ad12
  have h4_ad13 : w4 (ad 13) = some (eI cs (10) (upd (K 13) (nw) (per))) := by rw [ew4]; exact (va_up_ne _ _ (hinj 13 14 (by decide))).trans h3_ad13
  have h4_ad14 : w4 (ad 14) = some (eI cs (10) (upd (K 14) (nw) (met))) := by rw [nI_clamp (by omega)] at h4_ad14; exact h4_ad14
  refine lv_aload_n hx hb dX7_employ_104 rfl (lv_at hl 0 rfl) ?_
  refine z_get (C := RX7) (T := TX7) (N := 45) (v := .ref (ad 4)) hx hb hts (by decide +kernel) hown hK hS h4_mm rfl 4 (by decide) (hts (.fieldLink RX7 20 "PayLedgerModel" "used" "[Z") (by decide +kernel)) rfl dX7_employ_105 ?_
  refine lv_iload_n hx hb dX7_employ_108 rfl (lv_at hl 1 rfl) ?_
  refine lv_iconst (v := 1) hx hb dX7_employ_109 (by decide) ?_
  refine z_zast hx hb hK hS h4_ad4 (vp_in_nI (by omega) (by decide)) dX7_employ_110 (fun H locs hS => ?_)
  obtain ⟨w5, ew5⟩ : ∃ z : zw, z = va_up w4 (ad 4) (some (eZ cs (6) (upd (K 4) (nI t : Int32).toNatClampNeg ((vp_nar .boolean (1)))))) := ⟨_, rfl⟩
  have hS : zS (zA w sz) D w5 s.heap H locs := by rw [ew5]; exact hS
  have h5_ad4 : w5 (ad 4) = some (eZ cs (6) (upd (K 4) (nI t : Int32).toNatClampNeg ((vp_nar .boolean (1))))) := by rw [ew5]; exact va_up_self _ _ _
  have h5_mm : w5 (mm) = some (mo ad (0) (nI nb) (dd) (nI nw) (br) (yr) (wd)) := by rw [ew5]; exact (va_up_ne _ _ (zne h4_mm h4_ad4 (by intro q9; first | cases q9 | simp at q9))).trans h4_mm
  have h5_ad12 : w5 (ad 12) = some (eI cs (10) (upd (K 12) (nw) (nI t))) := by rw [ew5]; exact (va_up_ne _ _ (hinj 12 4 (by decide))).trans h4_ad12
  have h5_ad13 : w5 (ad 13) = some (eI cs (10) (upd (K 13) (nw) (per))) := by rw [ew5]; exact (va_up_ne _ _ (hinj 13 4 (by decide))).trans h4_ad13
  have h5_ad14 : w5 (ad 14) = some (eI cs (10) (upd (K 14) (nw) (met))) := by rw [ew5]; exact (va_up_ne _ _ (hinj 14 4 (by decide))).trans h4_ad14
  have h5_ad4 : w5 (ad 4) = some (eZ cs (6) (upd (K 4) (t) ((vp_nar .boolean (1))))) := by rw [nI_clamp (by omega)] at h5_ad4; exact h5_ad4
  rw [show (eZ cs (6) (upd (K 4) (t) ((vp_nar .boolean (1))))) = (eZ cs (6) (upd (K 4) (t) (1))) from (by rfl)] at h5_ad4
  refine lv_aload_n hx hb dX7_employ_111 rfl (lv_at hl 0 rfl) ?_
  refine lv_dup hx hb dX7_employ_112 rfl ?_
  refine z_get (C := RX7) (T := TX7) (N := 45) (v := .int (nI nw)) hx hb hts (by decide +kernel) hown hK hS h5_mm rfl 21 (by decide) (hts (.fieldLink RX7 183 "PayLedgerModel" "workers" "I") (by decide +kernel)) rfl dX7_employ_113 ?_
  refine lv_iconst (v := 1) hx hb dX7_employ_116 (by decide) ?_
  refine lv_iadd hx hb dX7_employ_117 ?_
  refine z_ti (y := nI (nw + 1)) (nI_add (nw) (1)) ?_
  refine z_put (C := RX7) (T := TX7) (N := 45) (v := .int (nI (nw + 1))) hx hb hts (by decide +kernel) tyX7 tyX7_ok nmX7 hown hK hS h5_mm rfl 21 (by decide) (hts (.fieldLink RX7 183 "PayLedgerModel" "workers" "I") (by decide +kernel)) rfl rfl rfl (Nat.le_of_ble_eq_true rfl) dX7_employ_118 (fun H locs hS => ?_)
  obtain ⟨w6, ew6⟩ : ∃ z : zw, z = va_up w5 (mm) (some (mo ad (0) (nI nb) (dd) (nI (nw + 1)) (br) (yr) (wd))) := ⟨_, rfl⟩
  have hS : zS (zA w sz) D w6 s.heap H locs := by rw [ew6]; exact hS
  have h6_mm : w6 (mm) = some (mo ad (0) (nI nb) (dd) (nI (nw + 1)) (br) (yr) (wd)) := by rw [ew6]; exact va_up_self _ _ _
  have h6_ad12 : w6 (ad 12) = some (eI cs (10) (upd (K 12) (nw) (nI t))) := by rw [ew6]; exact (va_up_ne _ _ (zne h5_ad12 h5_mm (by intro q9; first | cases q9 | simp at q9))).trans h5_ad12
  have h6_ad13 : w6 (ad 13) = some (eI cs (10) (upd (K 13) (nw) (per))) := by rw [ew6]; exact (va_up_ne _ _ (zne h5_ad13 h5_mm (by intro q9; first | cases q9 | simp at q9))).trans h5_ad13
  have h6_ad14 : w6 (ad 14) = some (eI cs (10) (upd (K 14) (nw) (met))) := by rw [ew6]; exact (va_up_ne _ _ (zne h5_ad14 h5_mm (by intro q9; first | cases q9 | simp at q9))).trans h5_ad14
  have h6_ad4 : w6 (ad 4) = some (eZ cs (6) (upd (K 4) (t) (1))) := by rw [ew6]; exact (va_up_ne _ _ (zne h5_ad4 h5_mm (by intro q9; first | cases q9 | simp at q9))).trans h5_ad4
  refine lv_aload_n hx hb dX7_employ_121 rfl (lv_at hl 0 rfl) ?_
  refine z_get (C := RX7) (T := TX7) (N := 45) (v := .int (nI (nw + 1))) hx hb hts (by decide +kernel) hown hK hS h6_mm rfl 21 (by decide) (hts (.fieldLink RX7 183 "PayLedgerModel" "workers" "I") (by decide +kernel)) rfl dX7_employ_122 ?_
  refine lv_iconst (v := 1) hx hb dX7_employ_125 (by decide) ?_
  refine lv_isub hx hb dX7_employ_126 ?_
  refine z_ti (y := nI nw) (nI_pred nw) ?_
  have hex : zEx w w6 [(mm, (mo ad (0) (nI nb) (dd) (nI (nw + 1)) (br) (yr) (wd))), (ad 12, (eI cs (10) (upd (K 12) (nw) (nI t)))), (ad 13, (eI cs (10) (upd (K 13) (nw) (per)))), (ad 14, (eI cs (10) (upd (K 14) (nw) (met)))), (ad 4, (eZ cs (6) (upd (K 4) (t) (1))))] := ⟨(zm1 h6_mm (zm1 h6_ad12 (zm1 h6_ad13 (zm1 h6_ad14 (zm1 h6_ad4 zm0))))), fun a9 h9 => by rw [ew6, va_up_ne _ _ (show a9 ≠ mm from h9 (mm, (mo ad (0) (nI nb) (dd) (nI (nw + 1)) (br) (yr) (wd))) (List.mem_of_getElem? (i := 0) rfl)), ew5, va_up_ne _ _ (show a9 ≠ ad 4 from h9 (ad 4, (eZ cs (6) (upd (K 4) (t) (1)))) (List.mem_of_getElem? (i := 4) rfl)), ew4, va_up_ne _ _ (show a9 ≠ ad 14 from h9 (ad 14, (eI cs (10) (upd (K 14) (nw) (met)))) (List.mem_of_getElem? (i := 3) rfl)), ew3, va_up_ne _ _ (show a9 ≠ ad 13 from h9 (ad 13, (eI cs (10) (upd (K 13) (nw) (per)))) (List.mem_of_getElem? (i := 2) rfl)), ew2, va_up_ne _ _ (show a9 ≠ ad 12 from h9 (ad 12, (eI cs (10) (upd (K 12) (nw) (nI t)))) (List.mem_of_getElem? (i := 1) rfl)), ew1, va_up_ne _ _ (show a9 ≠ mm from h9 (mm, (mo ad (0) (nI nb) (dd) (nI (nw + 1)) (br) (yr) (wd))) (List.mem_of_getElem? (i := 0) rfl))]⟩
  exact z_iret hx hb hr hlocks hS (Nat.le_of_ble_eq_true rfl) (Nat.le_of_ble_eq_true rfl) dX7_employ_127 ⟨rfl, zMQ.of [12, 13, 14, 4] (by decide) hM h_m hinj hex (fun _ _ => rfl) (fun s hs => (va_up_ne _ _ (fun e => hs (by rw [e]; decide))).trans ((va_up_ne _ _ (fun e => hs (by rw [e]; decide))).trans ((va_up_ne _ _ (fun e => hs (by rw [e]; decide))).trans (va_up_ne _ _ (fun e => hs (by rw [e]; decide))))))⟩
set_option maxHeartbeats 4000000 in
set_option maxRecDepth 100000 in
theorem t1_X7_bonus (l : Launch) (D : va_G) (cs : Nat → ClassId) (w : zw) (sz : Nat) (mm : Nat) (ad : Nat → Nat) (J : Nat → Nat → Int64) (K : Nat → Nat → Int32) (th tb dd wk br yr wd : Int32) (rate : Int32) (hinj : ∀ i j : Nat, i ≠ j → ad i ≠ ad j) (hM : zMA cs w ad J K) (hrt : zUpTo rate.toInt64 1000000 = 0) (h_m : w (mm) = some (mo ad (th) (tb) (dd) (wk) (br) (yr) (wd))) : zM l D cs yX7_bonus wsX7_bonus 3 0 0 w sz [.ref (mm), .int (rate)] (fun r w2 => r = none ∧ zMQ cs w w2 ad mm (mo ad (1) (tb) (dd) (wk) (br) (yr) (wd)) J K) := by
  refine z_met (cc := cX7_bonus) (maxL := 2) (ret := none) (by decide) rfl (Nat.le_of_ble_eq_true rfl) ?_
  intro p e s m below meth c hx hb hr hml hown hts hlocks hnm hsz hK hE hS ls hl
  have hl : lv_has ls 2 [(0, .ref (mm)), (1, .int (rate))] := hl
  refine lv_aload_n hx hb dX7_bonus_0 rfl (lv_at hl 0 rfl) ?_
  refine lv_iconst (v := 0) hx hb dX7_bonus_1 (by decide) ?_
  refine z_put (C := RX7) (T := TX7) (N := 45) (v := .int (0)) hx hb hts (by decide +kernel) tyX7 tyX7_ok nmX7 hown hK hS h_m rfl 0 (by decide) (hts (.fieldLink RX7 126 "PayLedgerModel" "thrown" "I") (by decide +kernel)) rfl rfl rfl (Nat.le_of_ble_eq_true rfl) dX7_bonus_2 (fun H locs hS => ?_)
  obtain ⟨w1, ew1⟩ : ∃ z : zw, z = va_up w (mm) (some (mo ad (0) (tb) (dd) (wk) (br) (yr) (wd))) := ⟨_, rfl⟩
  have hS : zS (zA w sz) D w1 s.heap H locs := by rw [ew1]; exact hS
  have h1_mm : w1 (mm) = some (mo ad (0) (tb) (dd) (wk) (br) (yr) (wd)) := by rw [ew1]; exact va_up_self _ _ _
  refine lv_aload_n hx hb dX7_bonus_5 rfl (lv_at hl 0 rfl) ?_
  refine lv_iload_n hx hb dX7_bonus_6 rfl (lv_at hl 1 rfl) ?_
  refine lv_i2l (v := ((rate : Int32).toInt64)) hx hb dX7_bonus_7 rfl ?_
  refine lv_lconst (v := 0) hx hb dX7_bonus_8 (by decide) ?_
  refine lv_ldc2 (v := 1000000) hx hb hown (hts (.constantLong RX7 136 (1000000)) (by decide +kernel)) dX7_bonus_9 ?_
  refine z_rS (As := [.long (((rate : Int32).toInt64)), .long (0), .long (1000000)]) (rest := [.ref (mm)]) (n := 3) ⟨hx, hb, hml, hown, hts⟩ (c_X7_in l D cs w1 H.size (rate.toInt64) (0) (1000000)) gX7_bonus_X7_in rfl ⟨by decide +kernel, by decide +kernel, by decide +kernel⟩ ⟨Nat.le_of_ble_eq_true rfl, Nat.le_of_ble_eq_true rfl⟩ hK hE hS rfl hl.1 rfl (Nat.le_of_ble_eq_true rfl) dX7_bonus_12 ⟨Nat.le_of_ble_eq_true rfl, Nat.le_of_ble_eq_true rfl⟩ (fun H locs hS => ?_)
  refine lv_if_ne (tgt := 22) hx hb dX7_bonus_15 (by decide) (fun cq9 => absurd hrt cq9) (fun _ => ?_)
  refine lv_iconst (v := 1) hx hb dX7_bonus_18 (by decide) ?_
  refine lv_goto (tgt := 23) hx hb dX7_bonus_19 (by decide) ?_
  refine lv_iconst (v := 1) hx hb dX7_bonus_23 (by decide) ?_
  refine z_invV (As := [.int (1), .int (1)]) (rest := []) (n := 2) ⟨hx, hb, hml, hown, hts⟩ (c1_X7_throwsIf l D cs w1 H.size mm ad (0) (tb) (dd) (wk) (br) (yr) (wd) 1 h1_mm) gX7_bonus_X7_throwsIf rfl ⟨rfl, by decide +kernel, by decide +kernel, by decide +kernel⟩ ⟨Nat.le_of_ble_eq_true rfl, Nat.le_of_ble_eq_true rfl⟩ hK hE hS rfl h1_mm rfl hl.1 rfl (Nat.le_of_ble_eq_true rfl) dX7_bonus_24 ⟨Nat.le_of_ble_eq_true rfl, Nat.le_of_ble_eq_true rfl⟩ (fun v9 u2 H locs hq hS => ?_)
  obtain ⟨rfl, hx2⟩ := hq
  have h3_mm : u2 (mm) = some (mo ad (1) (tb) (dd) (wk) (br) (yr) (wd)) := hx2.at 0 rfl
  refine W.eq (g2 := F0 m 27 ls [.int (1)]) rfl ?_
  refine lv_if_eq (tgt := 31) hx hb dX7_bonus_27 (by decide) (fun cq9 => absurd cq9 (by decide)) (fun _ => ?_)
  have hex : zEx w u2 [(mm, (mo ad (1) (tb) (dd) (wk) (br) (yr) (wd)))] := ⟨(zm1 h3_mm zm0), fun a9 h9 => by rw [hx2.2 a9 (zm1 (show a9 ≠ mm from h9 (mm, (mo ad (1) (tb) (dd) (wk) (br) (yr) (wd))) (List.mem_of_getElem? (i := 0) rfl)) zm0), ew1, va_up_ne _ _ (show a9 ≠ mm from h9 (mm, (mo ad (1) (tb) (dd) (wk) (br) (yr) (wd))) (List.mem_of_getElem? (i := 0) rfl))]⟩
  exact z_vret hx hb hr hlocks hS (Nat.le_of_ble_eq_true rfl) (Nat.le_of_ble_eq_true rfl) dX7_bonus_30 ⟨rfl, zMQ.o hM h_m hinj hex⟩
set_option maxHeartbeats 4000000 in
set_option maxRecDepth 100000 in
theorem c_X7_bonus (l : Launch) (D : va_G) (cs : Nat → ClassId) (w : zw) (sz : Nat) (mm : Nat) (ad : Nat → Nat) (J : Nat → Nat → Int64) (K : Nat → Nat → Int32) (th tb dd wk br yr wd : Int32) (rate : Int32) (hinj : ∀ i j : Nat, i ≠ j → ad i ≠ ad j) (hM : zMA cs w ad J K) (hrt : zUpTo rate.toInt64 1000000 = 1) (h_m : w (mm) = some (mo ad (th) (tb) (dd) (wk) (br) (yr) (wd))) : zM l D cs yX7_bonus wsX7_bonus 3 0 0 w sz [.ref (mm), .int (rate)] (fun r w2 => r = none ∧ zMQ cs w w2 ad mm (mo ad (0) (tb) (dd) (wk) (rate) (yr) (wd)) J K) := by
  refine z_met (cc := cX7_bonus) (maxL := 2) (ret := none) (by decide) rfl (Nat.le_of_ble_eq_true rfl) ?_
  intro p e s m below meth c hx hb hr hml hown hts hlocks hnm hsz hK hE hS ls hl
  have hl : lv_has ls 2 [(0, .ref (mm)), (1, .int (rate))] := hl
  refine lv_aload_n hx hb dX7_bonus_0 rfl (lv_at hl 0 rfl) ?_
  refine lv_iconst (v := 0) hx hb dX7_bonus_1 (by decide) ?_
  refine z_put (C := RX7) (T := TX7) (N := 45) (v := .int (0)) hx hb hts (by decide +kernel) tyX7 tyX7_ok nmX7 hown hK hS h_m rfl 0 (by decide) (hts (.fieldLink RX7 126 "PayLedgerModel" "thrown" "I") (by decide +kernel)) rfl rfl rfl (Nat.le_of_ble_eq_true rfl) dX7_bonus_2 (fun H locs hS => ?_)
  obtain ⟨w1, ew1⟩ : ∃ z : zw, z = va_up w (mm) (some (mo ad (0) (tb) (dd) (wk) (br) (yr) (wd))) := ⟨_, rfl⟩
  have hS : zS (zA w sz) D w1 s.heap H locs := by rw [ew1]; exact hS
  have h1_mm : w1 (mm) = some (mo ad (0) (tb) (dd) (wk) (br) (yr) (wd)) := by rw [ew1]; exact va_up_self _ _ _
  refine lv_aload_n hx hb dX7_bonus_5 rfl (lv_at hl 0 rfl) ?_
  refine lv_iload_n hx hb dX7_bonus_6 rfl (lv_at hl 1 rfl) ?_
  refine lv_i2l (v := ((rate : Int32).toInt64)) hx hb dX7_bonus_7 rfl ?_
  refine lv_lconst (v := 0) hx hb dX7_bonus_8 (by decide) ?_
  refine lv_ldc2 (v := 1000000) hx hb hown (hts (.constantLong RX7 136 (1000000)) (by decide +kernel)) dX7_bonus_9 ?_
  refine z_rS (As := [.long (((rate : Int32).toInt64)), .long (0), .long (1000000)]) (rest := [.ref (mm)]) (n := 3) ⟨hx, hb, hml, hown, hts⟩ (c_X7_in l D cs w1 H.size (rate.toInt64) (0) (1000000)) gX7_bonus_X7_in rfl ⟨by decide +kernel, by decide +kernel, by decide +kernel⟩ ⟨Nat.le_of_ble_eq_true rfl, Nat.le_of_ble_eq_true rfl⟩ hK hE hS rfl hl.1 rfl (Nat.le_of_ble_eq_true rfl) dX7_bonus_12 ⟨Nat.le_of_ble_eq_true rfl, Nat.le_of_ble_eq_true rfl⟩ (fun H locs hS => ?_)
  refine lv_if_ne (tgt := 22) hx hb dX7_bonus_15 (by decide) (fun _ => ?_) (fun cq9 => absurd cq9 (by rw [show mIn rate.toInt64 0 1000000 = 1 from hrt]; decide))
  refine lv_iconst (v := 0) hx hb dX7_bonus_22 (by decide) ?_
  refine lv_iconst (v := 1) hx hb dX7_bonus_23 (by decide) ?_
  refine z_rV (As := [.int (0), .int (1)]) (rest := []) (n := 2) ⟨hx, hb, hml, hown, hts⟩ (c0_X7_throwsIf l D cs w1 H.size mm ad (0) (tb) (dd) (wk) (br) (yr) (wd) 1 h1_mm) gX7_bonus_X7_throwsIf rfl ⟨rfl, by decide +kernel, by decide +kernel, by decide +kernel⟩ ⟨Nat.le_of_ble_eq_true rfl, Nat.le_of_ble_eq_true rfl⟩ hK hE hS rfl h1_mm rfl hl.1 rfl (Nat.le_of_ble_eq_true rfl) dX7_bonus_24 ⟨Nat.le_of_ble_eq_true rfl, Nat.le_of_ble_eq_true rfl⟩ (fun H locs hS => ?_)
  refine lv_if_eq (tgt := 31) hx hb dX7_bonus_27 (by decide) (fun _ => ?_) (fun cq9 => absurd rfl cq9)
  refine lv_aload_n hx hb dX7_bonus_31 rfl (lv_at hl 0 rfl) ?_
  refine lv_iload_n hx hb dX7_bonus_32 rfl (lv_at hl 1 rfl) ?_
  refine z_put (C := RX7) (T := TX7) (N := 45) (v := .int (rate)) hx hb hts (by decide +kernel) tyX7 tyX7_ok nmX7 hown hK hS h1_mm rfl 22 (by decide) (hts (.fieldLink RX7 230 "PayLedgerModel" "bonusRate" "I") (by decide +kernel)) rfl rfl rfl (Nat.le_of_ble_eq_true rfl) dX7_bonus_33 (fun H locs hS => ?_)
  obtain ⟨w2, ew2⟩ : ∃ z : zw, z = va_up w1 (mm) (some (mo ad (0) (tb) (dd) (wk) (rate) (yr) (wd))) := ⟨_, rfl⟩
  have hS : zS (zA w sz) D w2 s.heap H locs := by rw [ew2]; exact hS
  have h2_mm : w2 (mm) = some (mo ad (0) (tb) (dd) (wk) (rate) (yr) (wd)) := by rw [ew2]; exact va_up_self _ _ _
  have hex : zEx w w2 [(mm, (mo ad (0) (tb) (dd) (wk) (rate) (yr) (wd)))] := ⟨(zm1 h2_mm zm0), fun a9 h9 => by rw [ew2, va_up_ne _ _ (show a9 ≠ mm from h9 (mm, (mo ad (0) (tb) (dd) (wk) (rate) (yr) (wd))) (List.mem_of_getElem? (i := 0) rfl)), ew1, va_up_ne _ _ (show a9 ≠ mm from h9 (mm, (mo ad (0) (tb) (dd) (wk) (rate) (yr) (wd))) (List.mem_of_getElem? (i := 0) rfl))]⟩
  exact z_vret hx hb hr hlocks hS (Nat.le_of_ble_eq_true rfl) (Nat.le_of_ble_eq_true rfl) dX7_bonus_36 ⟨rfl, zMQ.o hM h_m hinj hex⟩
set_option maxHeartbeats 4000000 in
set_option maxRecDepth 100000 in
theorem t1_X7_refuses (l : Launch) (D : va_G) (cs : Nat → ClassId) (w : zw) (sz : Nat) (mm : Nat) (ad : Nat → Nat) (J : Nat → Nat → Int64) (K : Nat → Nat → Int32) (th tb dd br yr wd : Int32) (nw : Nat) (x : Int32) (y : Int64) (hinj : ∀ i j : Nat, i ≠ j → ad i ≠ ad j) (hM : zMA cs w ad J K) (hnw : nw ≤ 10) (hx9 : ∀ k : Nat, k < nw → x ≠ nI k) (h_m : w (mm) = some (mo ad (th) (tb) (dd) (nI nw) (br) (yr) (wd))) : zM l D cs yX7_refuses wsX7_refuses 3 0 0 w sz [.ref (mm), .int (x), .long (y)] (fun r w2 => r = some (.int 1) ∧ zMQ cs w w2 ad mm (mo ad (1) (tb) (dd) (nI nw) (br) (yr) (wd)) J K) := by
  refine z_met (cc := cX7_refuses) (maxL := 4) (ret := (some .boolean)) (by decide) rfl (Nat.le_of_ble_eq_true rfl) ?_
  intro p e s m below meth c hx hb hr hml hown hts hlocks hnm hsz hK hE hS ls hl
  have hl : lv_has ls 4 [(0, .ref (mm)), (1, .int (x)), (2, .long (y))] := hl
  refine lv_aload_n hx hb dX7_refuses_0 rfl (lv_at hl 0 rfl) ?_
  refine lv_iconst (v := 0) hx hb dX7_refuses_1 (by decide) ?_
  refine z_put (C := RX7) (T := TX7) (N := 45) (v := .int (0)) hx hb hts (by decide +kernel) tyX7 tyX7_ok nmX7 hown hK hS h_m rfl 0 (by decide) (hts (.fieldLink RX7 126 "PayLedgerModel" "thrown" "I") (by decide +kernel)) rfl rfl rfl (Nat.le_of_ble_eq_true rfl) dX7_refuses_2 (fun H locs hS => ?_)
  obtain ⟨w1, ew1⟩ : ∃ z : zw, z = va_up w (mm) (some (mo ad (0) (tb) (dd) (nI nw) (br) (yr) (wd))) := ⟨_, rfl⟩
  have hS : zS (zA w sz) D w1 s.heap H locs := by rw [ew1]; exact hS
  have h1_mm : w1 (mm) = some (mo ad (0) (tb) (dd) (nI nw) (br) (yr) (wd)) := by rw [ew1]; exact va_up_self _ _ _
  refine lv_aload_n hx hb dX7_refuses_5 rfl (lv_at hl 0 rfl) ?_
  refine lv_aload_n hx hb dX7_refuses_6 rfl (lv_at hl 0 rfl) ?_
  refine lv_iload_n hx hb dX7_refuses_7 rfl (lv_at hl 1 rfl) ?_
  refine z_rV (As := [.int (x)]) (rest := [.ref (mm)]) (n := 1) ⟨hx, hb, hml, hown, hts⟩ (n_X7_noWorker l D cs w1 H.size mm ad (0) (tb) (dd) (br) (yr) (wd) nw x (by omega) hx9 h1_mm) gX7_refuses_X7_noWorker rfl ⟨rfl, by decide +kernel, by decide +kernel, by decide +kernel⟩ ⟨Nat.le_of_ble_eq_true rfl, Nat.le_of_ble_eq_true rfl⟩ hK hE hS rfl h1_mm rfl hl.1 rfl (Nat.le_of_ble_eq_true rfl) dX7_refuses_8 ⟨Nat.le_of_ble_eq_true rfl, Nat.le_of_ble_eq_true rfl⟩ (fun H locs hS => ?_)
  refine lv_iconst (v := 1) hx hb dX7_refuses_11 (by decide) ?_
  refine z_invV (As := [.int (1), .int (1)]) (rest := []) (n := 2) ⟨hx, hb, hml, hown, hts⟩ (c1_X7_throwsIf l D cs w1 H.size mm ad (0) (tb) (dd) (nI nw) (br) (yr) (wd) 1 h1_mm) gX7_refuses_X7_throwsIf rfl ⟨rfl, by decide +kernel, by decide +kernel, by decide +kernel⟩ ⟨Nat.le_of_ble_eq_true rfl, Nat.le_of_ble_eq_true rfl⟩ hK hE hS rfl h1_mm rfl hl.1 rfl (Nat.le_of_ble_eq_true rfl) dX7_refuses_12 ⟨Nat.le_of_ble_eq_true rfl, Nat.le_of_ble_eq_true rfl⟩ (fun v9 u2 H locs hq hS => ?_)
  obtain ⟨rfl, hx2⟩ := hq
  have h3_mm : u2 (mm) = some (mo ad (1) (tb) (dd) (nI nw) (br) (yr) (wd)) := hx2.at 0 rfl
  refine W.eq (g2 := F0 m 15 ls [.int (1)]) rfl ?_
  refine lv_if_ne (tgt := 66) hx hb dX7_refuses_15 (by decide) (fun _ => ?_) (fun cq9 => absurd cq9 (by decide))
  refine lv_iconst (v := 1) hx hb dX7_refuses_66 (by decide) ?_
  refine lv_goto (tgt := 71) hx hb dX7_refuses_67 (by decide) ?_
  have hex : zEx w u2 [(mm, (mo ad (1) (tb) (dd) (nI nw) (br) (yr) (wd)))] := ⟨(zm1 h3_mm zm0), fun a9 h9 => by rw [hx2.2 a9 (zm1 (show a9 ≠ mm from h9 (mm, (mo ad (1) (tb) (dd) (nI nw) (br) (yr) (wd))) (List.mem_of_getElem? (i := 0) rfl)) zm0), ew1, va_up_ne _ _ (show a9 ≠ mm from h9 (mm, (mo ad (1) (tb) (dd) (nI nw) (br) (yr) (wd))) (List.mem_of_getElem? (i := 0) rfl))]⟩
  exact z_zret hx hb hr hlocks (zb_narrow (Or.inr rfl)) hS (Nat.le_of_ble_eq_true rfl) (Nat.le_of_ble_eq_true rfl) dX7_refuses_71 ⟨rfl, zMQ.o hM h_m hinj hex⟩
set_option maxHeartbeats 4000000 in
set_option maxRecDepth 100000 in
theorem t2_X7_refuses (l : Launch) (D : va_G) (cs : Nat → ClassId) (w : zw) (sz : Nat) (mm : Nat) (ad : Nat → Nat) (J : Nat → Nat → Int64) (K : Nat → Nat → Int32) (th tb dd br yr wd : Int32) (nw wi : Nat) (y : Int64) (hinj : ∀ i j : Nat, i ≠ j → ad i ≠ ad j) (hM : zMA cs w ad J K) (hnw : nw ≤ 10) (hwi : wi < nw) (hy : zUpTo y 1000000000 = 0) (h_m : w (mm) = some (mo ad (th) (tb) (dd) (nI nw) (br) (yr) (wd))) : zM l D cs yX7_refuses wsX7_refuses 3 0 0 w sz [.ref (mm), .int (nI wi), .long (y)] (fun r w2 => r = some (.int 1) ∧ zMQ cs w w2 ad mm (mo ad (2) (tb) (dd) (nI nw) (br) (yr) (wd)) J K) := by
  refine z_met (cc := cX7_refuses) (maxL := 4) (ret := (some .boolean)) (by decide) rfl (Nat.le_of_ble_eq_true rfl) ?_
  intro p e s m below meth c hx hb hr hml hown hts hlocks hnm hsz hK hE hS ls hl
  have hl : lv_has ls 4 [(0, .ref (mm)), (1, .int (nI wi)), (2, .long (y))] := hl
  refine lv_aload_n hx hb dX7_refuses_0 rfl (lv_at hl 0 rfl) ?_
  refine lv_iconst (v := 0) hx hb dX7_refuses_1 (by decide) ?_
  refine z_put (C := RX7) (T := TX7) (N := 45) (v := .int (0)) hx hb hts (by decide +kernel) tyX7 tyX7_ok nmX7 hown hK hS h_m rfl 0 (by decide) (hts (.fieldLink RX7 126 "PayLedgerModel" "thrown" "I") (by decide +kernel)) rfl rfl rfl (Nat.le_of_ble_eq_true rfl) dX7_refuses_2 (fun H locs hS => ?_)
  obtain ⟨w1, ew1⟩ : ∃ z : zw, z = va_up w (mm) (some (mo ad (0) (tb) (dd) (nI nw) (br) (yr) (wd))) := ⟨_, rfl⟩
  have hS : zS (zA w sz) D w1 s.heap H locs := by rw [ew1]; exact hS
  have h1_mm : w1 (mm) = some (mo ad (0) (tb) (dd) (nI nw) (br) (yr) (wd)) := by rw [ew1]; exact va_up_self _ _ _
  refine lv_aload_n hx hb dX7_refuses_5 rfl (lv_at hl 0 rfl) ?_
  refine lv_aload_n hx hb dX7_refuses_6 rfl (lv_at hl 0 rfl) ?_
  refine lv_iload_n hx hb dX7_refuses_7 rfl (lv_at hl 1 rfl) ?_
  refine z_rV (As := [.int (nI wi)]) (rest := [.ref (mm)]) (n := 1) ⟨hx, hb, hml, hown, hts⟩ (c_X7_noWorker l D cs w1 H.size mm ad (0) (tb) (dd) (br) (yr) (wd) nw wi (by omega) hwi h1_mm) gX7_refuses_X7_noWorker rfl ⟨rfl, by decide +kernel, by decide +kernel, by decide +kernel⟩ ⟨Nat.le_of_ble_eq_true rfl, Nat.le_of_ble_eq_true rfl⟩ hK hE hS rfl h1_mm rfl hl.1 rfl (Nat.le_of_ble_eq_true rfl) dX7_refuses_8 ⟨Nat.le_of_ble_eq_true rfl, Nat.le_of_ble_eq_true rfl⟩ (fun H locs hS => ?_)
  refine lv_iconst (v := 1) hx hb dX7_refuses_11 (by decide) ?_
  refine z_rV (As := [.int (0), .int (1)]) (rest := []) (n := 2) ⟨hx, hb, hml, hown, hts⟩ (c0_X7_throwsIf l D cs w1 H.size mm ad (0) (tb) (dd) (nI nw) (br) (yr) (wd) 1 h1_mm) gX7_refuses_X7_throwsIf rfl ⟨rfl, by decide +kernel, by decide +kernel, by decide +kernel⟩ ⟨Nat.le_of_ble_eq_true rfl, Nat.le_of_ble_eq_true rfl⟩ hK hE hS rfl h1_mm rfl hl.1 rfl (Nat.le_of_ble_eq_true rfl) dX7_refuses_12 ⟨Nat.le_of_ble_eq_true rfl, Nat.le_of_ble_eq_true rfl⟩ (fun H locs hS => ?_)
  refine lv_if_ne (tgt := 66) hx hb dX7_refuses_15 (by decide) (fun cq9 => absurd rfl cq9) (fun _ => ?_)
  refine lv_aload_n hx hb dX7_refuses_18 rfl (lv_at hl 0 rfl) ?_
  refine lv_lload_n hx hb dX7_refuses_19 rfl (lv_at hl 2 rfl) ?_
  refine lv_lconst (v := 0) hx hb dX7_refuses_20 (by decide) ?_
  refine lv_ldc2 (v := 1000000000) hx hb hown (hts (.constantLong RX7 212 (1000000000)) (by decide +kernel)) dX7_refuses_21 ?_
  refine z_rS (As := [.long (y), .long (0), .long (1000000000)]) (rest := [.ref (mm)]) (n := 3) ⟨hx, hb, hml, hown, hts⟩ (c_X7_in l D cs w1 H.size (y) (0) (1000000000)) gX7_refuses_X7_in rfl ⟨by decide +kernel, by decide +kernel, by decide +kernel⟩ ⟨Nat.le_of_ble_eq_true rfl, Nat.le_of_ble_eq_true rfl⟩ hK hE hS rfl hl.1 rfl (Nat.le_of_ble_eq_true rfl) dX7_refuses_24 ⟨Nat.le_of_ble_eq_true rfl, Nat.le_of_ble_eq_true rfl⟩ (fun H locs hS => ?_)
  refine lv_if_ne (tgt := 34) hx hb dX7_refuses_27 (by decide) (fun cq9 => absurd hy cq9) (fun _ => ?_)
  refine lv_iconst (v := 1) hx hb dX7_refuses_30 (by decide) ?_
  refine lv_goto (tgt := 35) hx hb dX7_refuses_31 (by decide) ?_
  refine lv_iconst (v := 2) hx hb dX7_refuses_35 (by decide) ?_
  refine z_invV (As := [.int (1), .int (2)]) (rest := []) (n := 2) ⟨hx, hb, hml, hown, hts⟩ (c1_X7_throwsIf l D cs w1 H.size mm ad (0) (tb) (dd) (nI nw) (br) (yr) (wd) 2 h1_mm) gX7_refuses_X7_throwsIf rfl ⟨rfl, by decide +kernel, by decide +kernel, by decide +kernel⟩ ⟨Nat.le_of_ble_eq_true rfl, Nat.le_of_ble_eq_true rfl⟩ hK hE hS rfl h1_mm rfl hl.1 rfl (Nat.le_of_ble_eq_true rfl) dX7_refuses_36 ⟨Nat.le_of_ble_eq_true rfl, Nat.le_of_ble_eq_true rfl⟩ (fun v9 u2 H locs hq hS => ?_)
  obtain ⟨rfl, hx2⟩ := hq
  have h3_mm : u2 (mm) = some (mo ad (2) (tb) (dd) (nI nw) (br) (yr) (wd)) := hx2.at 0 rfl
  refine W.eq (g2 := F0 m 39 ls [.int (1)]) rfl ?_
  refine lv_if_ne (tgt := 66) hx hb dX7_refuses_39 (by decide) (fun _ => ?_) (fun cq9 => absurd cq9 (by decide))
  refine lv_iconst (v := 1) hx hb dX7_refuses_66 (by decide) ?_
  refine lv_goto (tgt := 71) hx hb dX7_refuses_67 (by decide) ?_
  have hex : zEx w u2 [(mm, (mo ad (2) (tb) (dd) (nI nw) (br) (yr) (wd)))] := ⟨(zm1 h3_mm zm0), fun a9 h9 => by rw [hx2.2 a9 (zm1 (show a9 ≠ mm from h9 (mm, (mo ad (2) (tb) (dd) (nI nw) (br) (yr) (wd))) (List.mem_of_getElem? (i := 0) rfl)) zm0), ew1, va_up_ne _ _ (show a9 ≠ mm from h9 (mm, (mo ad (2) (tb) (dd) (nI nw) (br) (yr) (wd))) (List.mem_of_getElem? (i := 0) rfl))]⟩
  exact z_zret hx hb hr hlocks (zb_narrow (Or.inr rfl)) hS (Nat.le_of_ble_eq_true rfl) (Nat.le_of_ble_eq_true rfl) dX7_refuses_71 ⟨rfl, zMQ.o hM h_m hinj hex⟩
set_option maxHeartbeats 4000000 in
set_option maxRecDepth 100000 in
theorem t3_X7_refuses (l : Launch) (D : va_G) (cs : Nat → ClassId) (w : zw) (sz : Nat) (mm : Nat) (ad : Nat → Nat) (J : Nat → Nat → Int64) (K : Nat → Nat → Int32) (th tb dd br yr wd : Int32) (nw wi n : Nat) (y : Int64) (hinj : ∀ i j : Nat, i ≠ j → ad i ≠ ad j) (hM : zMA cs w ad J K) (hnw : nw ≤ 10) (hwi : wi < nw) (hy : zUpTo y 1000000000 = 1) (h19 : K 19 wi = nI n) (hn : n ≤ 60) (h60 : n = 60) (h_m : w (mm) = some (mo ad (th) (tb) (dd) (nI nw) (br) (yr) (wd))) : zM l D cs yX7_refuses wsX7_refuses 3 0 0 w sz [.ref (mm), .int (nI wi), .long (y)] (fun r w2 => r = some (.int 1) ∧ zMQ cs w w2 ad mm (mo ad (3) (tb) (dd) (nI nw) (br) (yr) (wd)) J K) := by
  refine z_met (cc := cX7_refuses) (maxL := 4) (ret := (some .boolean)) (by decide) rfl (Nat.le_of_ble_eq_true rfl) ?_
  intro p e s m below meth c hx hb hr hml hown hts hlocks hnm hsz hK hE hS ls hl
  have hl : lv_has ls 4 [(0, .ref (mm)), (1, .int (nI wi)), (2, .long (y))] := hl
  have h_19 : w (ad 19) = some (eI cs (10) (K 19)) := hM 19 (by decide)
  refine lv_aload_n hx hb dX7_refuses_0 rfl (lv_at hl 0 rfl) ?_
  refine lv_iconst (v := 0) hx hb dX7_refuses_1 (by decide) ?_
  refine z_put (C := RX7) (T := TX7) (N := 45) (v := .int (0)) hx hb hts (by decide +kernel) tyX7 tyX7_ok nmX7 hown hK hS h_m rfl 0 (by decide) (hts (.fieldLink RX7 126 "PayLedgerModel" "thrown" "I") (by decide +kernel)) rfl rfl rfl (Nat.le_of_ble_eq_true rfl) dX7_refuses_2 (fun H locs hS => ?_)
  obtain ⟨w1, ew1⟩ : ∃ z : zw, z = va_up w (mm) (some (mo ad (0) (tb) (dd) (nI nw) (br) (yr) (wd))) := ⟨_, rfl⟩
  have hS : zS (zA w sz) D w1 s.heap H locs := by rw [ew1]; exact hS
  have h1_mm : w1 (mm) = some (mo ad (0) (tb) (dd) (nI nw) (br) (yr) (wd)) := by rw [ew1]; exact va_up_self _ _ _
  have h1_ad19 : w1 (ad 19) = some (eI cs (10) (K 19)) := by rw [ew1]; exact (va_up_ne _ _ (zne h_19 h_m (by intro q9; first | cases q9 | simp at q9))).trans h_19
  refine lv_aload_n hx hb dX7_refuses_5 rfl (lv_at hl 0 rfl) ?_
  refine lv_aload_n hx hb dX7_refuses_6 rfl (lv_at hl 0 rfl) ?_
  refine lv_iload_n hx hb dX7_refuses_7 rfl (lv_at hl 1 rfl) ?_
  refine z_rV (As := [.int (nI wi)]) (rest := [.ref (mm)]) (n := 1) ⟨hx, hb, hml, hown, hts⟩ (c_X7_noWorker l D cs w1 H.size mm ad (0) (tb) (dd) (br) (yr) (wd) nw wi (by omega) hwi h1_mm) gX7_refuses_X7_noWorker rfl ⟨rfl, by decide +kernel, by decide +kernel, by decide +kernel⟩ ⟨Nat.le_of_ble_eq_true rfl, Nat.le_of_ble_eq_true rfl⟩ hK hE hS rfl h1_mm rfl hl.1 rfl (Nat.le_of_ble_eq_true rfl) dX7_refuses_8 ⟨Nat.le_of_ble_eq_true rfl, Nat.le_of_ble_eq_true rfl⟩ (fun H locs hS => ?_)
  refine lv_iconst (v := 1) hx hb dX7_refuses_11 (by decide) ?_
  refine z_rV (As := [.int (0), .int (1)]) (rest := []) (n := 2) ⟨hx, hb, hml, hown, hts⟩ (c0_X7_throwsIf l D cs w1 H.size mm ad (0) (tb) (dd) (nI nw) (br) (yr) (wd) 1 h1_mm) gX7_refuses_X7_throwsIf rfl ⟨rfl, by decide +kernel, by decide +kernel, by decide +kernel⟩ ⟨Nat.le_of_ble_eq_true rfl, Nat.le_of_ble_eq_true rfl⟩ hK hE hS rfl h1_mm rfl hl.1 rfl (Nat.le_of_ble_eq_true rfl) dX7_refuses_12 ⟨Nat.le_of_ble_eq_true rfl, Nat.le_of_ble_eq_true rfl⟩ (fun H locs hS => ?_)
  refine lv_if_ne (tgt := 66) hx hb dX7_refuses_15 (by decide) (fun cq9 => absurd rfl cq9) (fun _ => ?_)
  refine lv_aload_n hx hb dX7_refuses_18 rfl (lv_at hl 0 rfl) ?_
  refine lv_lload_n hx hb dX7_refuses_19 rfl (lv_at hl 2 rfl) ?_
  refine lv_lconst (v := 0) hx hb dX7_refuses_20 (by decide) ?_
  refine lv_ldc2 (v := 1000000000) hx hb hown (hts (.constantLong RX7 212 (1000000000)) (by decide +kernel)) dX7_refuses_21 ?_
  refine z_rS (As := [.long (y), .long (0), .long (1000000000)]) (rest := [.ref (mm)]) (n := 3) ⟨hx, hb, hml, hown, hts⟩ (c_X7_in l D cs w1 H.size (y) (0) (1000000000)) gX7_refuses_X7_in rfl ⟨by decide +kernel, by decide +kernel, by decide +kernel⟩ ⟨Nat.le_of_ble_eq_true rfl, Nat.le_of_ble_eq_true rfl⟩ hK hE hS rfl hl.1 rfl (Nat.le_of_ble_eq_true rfl) dX7_refuses_24 ⟨Nat.le_of_ble_eq_true rfl, Nat.le_of_ble_eq_true rfl⟩ (fun H locs hS => ?_)
  refine lv_if_ne (tgt := 34) hx hb dX7_refuses_27 (by decide) (fun _ => ?_) (fun cq9 => absurd cq9 (by rw [show mIn y 0 1000000000 = 1 from hy]; decide))
  refine lv_iconst (v := 0) hx hb dX7_refuses_34 (by decide) ?_
  refine lv_iconst (v := 2) hx hb dX7_refuses_35 (by decide) ?_
  refine z_rV (As := [.int (0), .int (2)]) (rest := []) (n := 2) ⟨hx, hb, hml, hown, hts⟩ (c0_X7_throwsIf l D cs w1 H.size mm ad (0) (tb) (dd) (nI nw) (br) (yr) (wd) 2 h1_mm) gX7_refuses_X7_throwsIf rfl ⟨rfl, by decide +kernel, by decide +kernel, by decide +kernel⟩ ⟨Nat.le_of_ble_eq_true rfl, Nat.le_of_ble_eq_true rfl⟩ hK hE hS rfl h1_mm rfl hl.1 rfl (Nat.le_of_ble_eq_true rfl) dX7_refuses_36 ⟨Nat.le_of_ble_eq_true rfl, Nat.le_of_ble_eq_true rfl⟩ (fun H locs hS => ?_)
  refine lv_if_ne (tgt := 66) hx hb dX7_refuses_39 (by decide) (fun cq9 => absurd rfl cq9) (fun _ => ?_)
  refine lv_aload_n hx hb dX7_refuses_42 rfl (lv_at hl 0 rfl) ?_
  refine lv_aload_n hx hb dX7_refuses_43 rfl (lv_at hl 0 rfl) ?_
  refine z_get (C := RX7) (T := TX7) (N := 45) (v := .ref (ad 19)) hx hb hts (by decide +kernel) hown hK hS h1_mm rfl 19 (by decide) (hts (.fieldLink RX7 60 "PayLedgerModel" "many" "[I") (by decide +kernel)) rfl dX7_refuses_44 ?_
  refine lv_iload_n hx hb dX7_refuses_47 rfl (lv_at hl 1 rfl) ?_
  refine z_iald hx hb hK hS h1_ad19 (vp_in_nI (by omega) (by decide)) dX7_refuses_48 ?_
  refine z_ti (y := ((K 19) (wi))) (congrArg _ (nI_clamp (by omega))) ?_
  refine z_ti (y := nI n) h19 ?_
  refine lv_bipush (v := 60) hx hb dX7_refuses_49 (by decide) ?_
  refine lv_icmp_ne (tgt := 58) hx hb dX7_refuses_51 (by decide) (fun cq9 => absurd (by rw [h60]; rfl) cq9) (fun _ => ?_)
  refine lv_iconst (v := 1) hx hb dX7_refuses_54 (by decide) ?_
  refine lv_goto (tgt := 59) hx hb dX7_refuses_55 (by decide) ?_
  refine lv_iconst (v := 3) hx hb dX7_refuses_59 (by decide) ?_
  refine z_invV (As := [.int (1), .int (3)]) (rest := []) (n := 2) ⟨hx, hb, hml, hown, hts⟩ (c1_X7_throwsIf l D cs w1 H.size mm ad (0) (tb) (dd) (nI nw) (br) (yr) (wd) 3 h1_mm) gX7_refuses_X7_throwsIf rfl ⟨rfl, by decide +kernel, by decide +kernel, by decide +kernel⟩ ⟨Nat.le_of_ble_eq_true rfl, Nat.le_of_ble_eq_true rfl⟩ hK hE hS rfl h1_mm rfl hl.1 rfl (Nat.le_of_ble_eq_true rfl) dX7_refuses_60 ⟨Nat.le_of_ble_eq_true rfl, Nat.le_of_ble_eq_true rfl⟩ (fun v9 u2 H locs hq hS => ?_)
  obtain ⟨rfl, hx2⟩ := hq
  have h3_mm : u2 (mm) = some (mo ad (3) (tb) (dd) (nI nw) (br) (yr) (wd)) := hx2.at 0 rfl
  have h3_ad19 : u2 (ad 19) = some (eI cs (10) (K 19)) := hx2.old h1_ad19 (zm1 (zne h1_ad19 h1_mm (by intro q9; first | cases q9 | simp at q9)) zm0)
  refine W.eq (g2 := F0 m 63 ls [.int (1)]) rfl ?_
  refine lv_if_eq (tgt := 70) hx hb dX7_refuses_63 (by decide) (fun cq9 => absurd cq9 (by decide)) (fun _ => ?_)
  refine lv_iconst (v := 1) hx hb dX7_refuses_66 (by decide) ?_
  refine lv_goto (tgt := 71) hx hb dX7_refuses_67 (by decide) ?_
  have hex : zEx w u2 [(mm, (mo ad (3) (tb) (dd) (nI nw) (br) (yr) (wd)))] := ⟨(zm1 h3_mm zm0), fun a9 h9 => by rw [hx2.2 a9 (zm1 (show a9 ≠ mm from h9 (mm, (mo ad (3) (tb) (dd) (nI nw) (br) (yr) (wd))) (List.mem_of_getElem? (i := 0) rfl)) zm0), ew1, va_up_ne _ _ (show a9 ≠ mm from h9 (mm, (mo ad (3) (tb) (dd) (nI nw) (br) (yr) (wd))) (List.mem_of_getElem? (i := 0) rfl))]⟩
  exact z_zret hx hb hr hlocks (zb_narrow (Or.inr rfl)) hS (Nat.le_of_ble_eq_true rfl) (Nat.le_of_ble_eq_true rfl) dX7_refuses_71 ⟨rfl, zMQ.o hM h_m hinj hex⟩
set_option maxHeartbeats 4000000 in
set_option maxRecDepth 100000 in
theorem c_X7_refuses (l : Launch) (D : va_G) (cs : Nat → ClassId) (w : zw) (sz : Nat) (mm : Nat) (ad : Nat → Nat) (J : Nat → Nat → Int64) (K : Nat → Nat → Int32) (th tb dd br yr wd : Int32) (nw wi n : Nat) (y : Int64) (hinj : ∀ i j : Nat, i ≠ j → ad i ≠ ad j) (hM : zMA cs w ad J K) (hnw : nw ≤ 10) (hwi : wi < nw) (hy : zUpTo y 1000000000 = 1) (h19 : K 19 wi = nI n) (hn : n ≤ 60) (h60 : ¬ n = 60) (h_m : w (mm) = some (mo ad (th) (tb) (dd) (nI nw) (br) (yr) (wd))) : zM l D cs yX7_refuses wsX7_refuses 3 0 0 w sz [.ref (mm), .int (nI wi), .long (y)] (fun r w2 => r = some (.int 0) ∧ zMQ cs w w2 ad mm (mo ad (0) (tb) (dd) (nI nw) (br) (yr) (wd)) J K) := by
  refine z_met (cc := cX7_refuses) (maxL := 4) (ret := (some .boolean)) (by decide) rfl (Nat.le_of_ble_eq_true rfl) ?_
  intro p e s m below meth c hx hb hr hml hown hts hlocks hnm hsz hK hE hS ls hl
  have hl : lv_has ls 4 [(0, .ref (mm)), (1, .int (nI wi)), (2, .long (y))] := hl
  have h_19 : w (ad 19) = some (eI cs (10) (K 19)) := hM 19 (by decide)
  refine lv_aload_n hx hb dX7_refuses_0 rfl (lv_at hl 0 rfl) ?_
  refine lv_iconst (v := 0) hx hb dX7_refuses_1 (by decide) ?_
  refine z_put (C := RX7) (T := TX7) (N := 45) (v := .int (0)) hx hb hts (by decide +kernel) tyX7 tyX7_ok nmX7 hown hK hS h_m rfl 0 (by decide) (hts (.fieldLink RX7 126 "PayLedgerModel" "thrown" "I") (by decide +kernel)) rfl rfl rfl (Nat.le_of_ble_eq_true rfl) dX7_refuses_2 (fun H locs hS => ?_)
  obtain ⟨w1, ew1⟩ : ∃ z : zw, z = va_up w (mm) (some (mo ad (0) (tb) (dd) (nI nw) (br) (yr) (wd))) := ⟨_, rfl⟩
  have hS : zS (zA w sz) D w1 s.heap H locs := by rw [ew1]; exact hS
  have h1_mm : w1 (mm) = some (mo ad (0) (tb) (dd) (nI nw) (br) (yr) (wd)) := by rw [ew1]; exact va_up_self _ _ _
  have h1_ad19 : w1 (ad 19) = some (eI cs (10) (K 19)) := by rw [ew1]; exact (va_up_ne _ _ (zne h_19 h_m (by intro q9; first | cases q9 | simp at q9))).trans h_19
  refine lv_aload_n hx hb dX7_refuses_5 rfl (lv_at hl 0 rfl) ?_
  refine lv_aload_n hx hb dX7_refuses_6 rfl (lv_at hl 0 rfl) ?_
  refine lv_iload_n hx hb dX7_refuses_7 rfl (lv_at hl 1 rfl) ?_
  refine z_rV (As := [.int (nI wi)]) (rest := [.ref (mm)]) (n := 1) ⟨hx, hb, hml, hown, hts⟩ (c_X7_noWorker l D cs w1 H.size mm ad (0) (tb) (dd) (br) (yr) (wd) nw wi (by omega) hwi h1_mm) gX7_refuses_X7_noWorker rfl ⟨rfl, by decide +kernel, by decide +kernel, by decide +kernel⟩ ⟨Nat.le_of_ble_eq_true rfl, Nat.le_of_ble_eq_true rfl⟩ hK hE hS rfl h1_mm rfl hl.1 rfl (Nat.le_of_ble_eq_true rfl) dX7_refuses_8 ⟨Nat.le_of_ble_eq_true rfl, Nat.le_of_ble_eq_true rfl⟩ (fun H locs hS => ?_)
  refine lv_iconst (v := 1) hx hb dX7_refuses_11 (by decide) ?_
  refine z_rV (As := [.int (0), .int (1)]) (rest := []) (n := 2) ⟨hx, hb, hml, hown, hts⟩ (c0_X7_throwsIf l D cs w1 H.size mm ad (0) (tb) (dd) (nI nw) (br) (yr) (wd) 1 h1_mm) gX7_refuses_X7_throwsIf rfl ⟨rfl, by decide +kernel, by decide +kernel, by decide +kernel⟩ ⟨Nat.le_of_ble_eq_true rfl, Nat.le_of_ble_eq_true rfl⟩ hK hE hS rfl h1_mm rfl hl.1 rfl (Nat.le_of_ble_eq_true rfl) dX7_refuses_12 ⟨Nat.le_of_ble_eq_true rfl, Nat.le_of_ble_eq_true rfl⟩ (fun H locs hS => ?_)
  refine lv_if_ne (tgt := 66) hx hb dX7_refuses_15 (by decide) (fun cq9 => absurd rfl cq9) (fun _ => ?_)
  refine lv_aload_n hx hb dX7_refuses_18 rfl (lv_at hl 0 rfl) ?_
  refine lv_lload_n hx hb dX7_refuses_19 rfl (lv_at hl 2 rfl) ?_
  refine lv_lconst (v := 0) hx hb dX7_refuses_20 (by decide) ?_
  refine lv_ldc2 (v := 1000000000) hx hb hown (hts (.constantLong RX7 212 (1000000000)) (by decide +kernel)) dX7_refuses_21 ?_
  refine z_rS (As := [.long (y), .long (0), .long (1000000000)]) (rest := [.ref (mm)]) (n := 3) ⟨hx, hb, hml, hown, hts⟩ (c_X7_in l D cs w1 H.size (y) (0) (1000000000)) gX7_refuses_X7_in rfl ⟨by decide +kernel, by decide +kernel, by decide +kernel⟩ ⟨Nat.le_of_ble_eq_true rfl, Nat.le_of_ble_eq_true rfl⟩ hK hE hS rfl hl.1 rfl (Nat.le_of_ble_eq_true rfl) dX7_refuses_24 ⟨Nat.le_of_ble_eq_true rfl, Nat.le_of_ble_eq_true rfl⟩ (fun H locs hS => ?_)
  refine lv_if_ne (tgt := 34) hx hb dX7_refuses_27 (by decide) (fun _ => ?_) (fun cq9 => absurd cq9 (by rw [show mIn y 0 1000000000 = 1 from hy]; decide))
  refine lv_iconst (v := 0) hx hb dX7_refuses_34 (by decide) ?_
  refine lv_iconst (v := 2) hx hb dX7_refuses_35 (by decide) ?_
  refine z_rV (As := [.int (0), .int (2)]) (rest := []) (n := 2) ⟨hx, hb, hml, hown, hts⟩ (c0_X7_throwsIf l D cs w1 H.size mm ad (0) (tb) (dd) (nI nw) (br) (yr) (wd) 2 h1_mm) gX7_refuses_X7_throwsIf rfl ⟨rfl, by decide +kernel, by decide +kernel, by decide +kernel⟩ ⟨Nat.le_of_ble_eq_true rfl, Nat.le_of_ble_eq_true rfl⟩ hK hE hS rfl h1_mm rfl hl.1 rfl (Nat.le_of_ble_eq_true rfl) dX7_refuses_36 ⟨Nat.le_of_ble_eq_true rfl, Nat.le_of_ble_eq_true rfl⟩ (fun H locs hS => ?_)
  refine lv_if_ne (tgt := 66) hx hb dX7_refuses_39 (by decide) (fun cq9 => absurd rfl cq9) (fun _ => ?_)
  refine lv_aload_n hx hb dX7_refuses_42 rfl (lv_at hl 0 rfl) ?_
  refine lv_aload_n hx hb dX7_refuses_43 rfl (lv_at hl 0 rfl) ?_
  refine z_get (C := RX7) (T := TX7) (N := 45) (v := .ref (ad 19)) hx hb hts (by decide +kernel) hown hK hS h1_mm rfl 19 (by decide) (hts (.fieldLink RX7 60 "PayLedgerModel" "many" "[I") (by decide +kernel)) rfl dX7_refuses_44 ?_
  refine lv_iload_n hx hb dX7_refuses_47 rfl (lv_at hl 1 rfl) ?_
  refine z_iald hx hb hK hS h1_ad19 (vp_in_nI (by omega) (by decide)) dX7_refuses_48 ?_
  refine z_ti (y := ((K 19) (wi))) (congrArg _ (nI_clamp (by omega))) ?_
  refine z_ti (y := nI n) h19 ?_
  refine lv_bipush (v := 60) hx hb dX7_refuses_49 (by decide) ?_
  refine lv_icmp_ne (tgt := 58) hx hb dX7_refuses_51 (by decide) (fun _ => ?_) (fun cq9 => absurd cq9 (fun q9 => h60 ((nI_eq (b := 60) (by omega) (by omega)).mp q9)))
  refine lv_iconst (v := 0) hx hb dX7_refuses_58 (by decide) ?_
  refine lv_iconst (v := 3) hx hb dX7_refuses_59 (by decide) ?_
  refine z_rV (As := [.int (0), .int (3)]) (rest := []) (n := 2) ⟨hx, hb, hml, hown, hts⟩ (c0_X7_throwsIf l D cs w1 H.size mm ad (0) (tb) (dd) (nI nw) (br) (yr) (wd) 3 h1_mm) gX7_refuses_X7_throwsIf rfl ⟨rfl, by decide +kernel, by decide +kernel, by decide +kernel⟩ ⟨Nat.le_of_ble_eq_true rfl, Nat.le_of_ble_eq_true rfl⟩ hK hE hS rfl h1_mm rfl hl.1 rfl (Nat.le_of_ble_eq_true rfl) dX7_refuses_60 ⟨Nat.le_of_ble_eq_true rfl, Nat.le_of_ble_eq_true rfl⟩ (fun H locs hS => ?_)
  refine lv_if_eq (tgt := 70) hx hb dX7_refuses_63 (by decide) (fun _ => ?_) (fun cq9 => absurd rfl cq9)
  refine lv_iconst (v := 0) hx hb dX7_refuses_70 (by decide) ?_
  have hex : zEx w w1 [(mm, (mo ad (0) (tb) (dd) (nI nw) (br) (yr) (wd)))] := ⟨(zm1 h1_mm zm0), fun a9 h9 => by rw [ew1, va_up_ne _ _ (show a9 ≠ mm from h9 (mm, (mo ad (0) (tb) (dd) (nI nw) (br) (yr) (wd))) (List.mem_of_getElem? (i := 0) rfl))]⟩
  exact z_zret hx hb hr hlocks (zb_narrow (Or.inl rfl)) hS (Nat.le_of_ble_eq_true rfl) (Nat.le_of_ble_eq_true rfl) dX7_refuses_71 ⟨rfl, zMQ.o hM h_m hinj hex⟩
set_option maxHeartbeats 4000000 in
set_option maxRecDepth 100000 in
theorem t1_X7_enrol (l : Launch) (D : va_G) (cs : Nat → ClassId) (w : zw) (sz : Nat) (mm : Nat) (ad : Nat → Nat) (J : Nat → Nat → Int64) (K : Nat → Nat → Int32) (th tb dd br yr wd : Int32) (nw : Nat) (x y on : Int32) (hinj : ∀ i j : Nat, i ≠ j → ad i ≠ ad j) (hM : zMA cs w ad J K) (hnw : nw ≤ 10) (hx9 : ∀ k : Nat, k < nw → x ≠ nI k) (h_m : w (mm) = some (mo ad (th) (tb) (dd) (nI nw) (br) (yr) (wd))) : zM l D cs yX7_enrol wsX7_enrol 3 0 0 w sz [.ref (mm), .int (x), .int (y), .int (on)] (fun r w2 => r = some (.int 0) ∧ zMQ cs w w2 ad mm (mo ad (1) (tb) (dd) (nI nw) (br) (yr) (wd)) J K) := by
  refine z_met (cc := cX7_enrol) (maxL := 5) (ret := (some .boolean)) (by decide) rfl (Nat.le_of_ble_eq_true rfl) ?_
  intro p e s m below meth c hx hb hr hml hown hts hlocks hnm hsz hK hE hS ls hl
  have hl : lv_has ls 5 [(0, .ref (mm)), (1, .int (x)), (2, .int (y)), (3, .int (on))] := hl
  refine lv_aload_n hx hb dX7_enrol_0 rfl (lv_at hl 0 rfl) ?_
  refine lv_iconst (v := 0) hx hb dX7_enrol_1 (by decide) ?_
  refine z_put (C := RX7) (T := TX7) (N := 45) (v := .int (0)) hx hb hts (by decide +kernel) tyX7 tyX7_ok nmX7 hown hK hS h_m rfl 0 (by decide) (hts (.fieldLink RX7 126 "PayLedgerModel" "thrown" "I") (by decide +kernel)) rfl rfl rfl (Nat.le_of_ble_eq_true rfl) dX7_enrol_2 (fun H locs hS => ?_)
  obtain ⟨w1, ew1⟩ : ∃ z : zw, z = va_up w (mm) (some (mo ad (0) (tb) (dd) (nI nw) (br) (yr) (wd))) := ⟨_, rfl⟩
  have hS : zS (zA w sz) D w1 s.heap H locs := by rw [ew1]; exact hS
  have h1_mm : w1 (mm) = some (mo ad (0) (tb) (dd) (nI nw) (br) (yr) (wd)) := by rw [ew1]; exact va_up_self _ _ _
  refine lv_aload_n hx hb dX7_enrol_5 rfl (lv_at hl 0 rfl) ?_
  refine lv_aload_n hx hb dX7_enrol_6 rfl (lv_at hl 0 rfl) ?_
  refine lv_iload_n hx hb dX7_enrol_7 rfl (lv_at hl 1 rfl) ?_
  refine z_rV (As := [.int (x)]) (rest := [.ref (mm)]) (n := 1) ⟨hx, hb, hml, hown, hts⟩ (n_X7_noWorker l D cs w1 H.size mm ad (0) (tb) (dd) (br) (yr) (wd) nw x (by omega) hx9 h1_mm) gX7_enrol_X7_noWorker rfl ⟨rfl, by decide +kernel, by decide +kernel, by decide +kernel⟩ ⟨Nat.le_of_ble_eq_true rfl, Nat.le_of_ble_eq_true rfl⟩ hK hE hS rfl h1_mm rfl hl.1 rfl (Nat.le_of_ble_eq_true rfl) dX7_enrol_8 ⟨Nat.le_of_ble_eq_true rfl, Nat.le_of_ble_eq_true rfl⟩ (fun H locs hS => ?_)
  refine lv_if_ne (tgt := 22) hx hb dX7_enrol_11 (by decide) (fun _ => ?_) (fun cq9 => absurd cq9 (by decide))
  refine lv_iconst (v := 1) hx hb dX7_enrol_22 (by decide) ?_
  refine lv_goto (tgt := 27) hx hb dX7_enrol_23 (by decide) ?_
  refine lv_iconst (v := 1) hx hb dX7_enrol_27 (by decide) ?_
  refine z_invV (As := [.int (1), .int (1)]) (rest := []) (n := 2) ⟨hx, hb, hml, hown, hts⟩ (c1_X7_throwsIf l D cs w1 H.size mm ad (0) (tb) (dd) (nI nw) (br) (yr) (wd) 1 h1_mm) gX7_enrol_X7_throwsIf rfl ⟨rfl, by decide +kernel, by decide +kernel, by decide +kernel⟩ ⟨Nat.le_of_ble_eq_true rfl, Nat.le_of_ble_eq_true rfl⟩ hK hE hS rfl h1_mm rfl hl.1 rfl (Nat.le_of_ble_eq_true rfl) dX7_enrol_28 ⟨Nat.le_of_ble_eq_true rfl, Nat.le_of_ble_eq_true rfl⟩ (fun v9 u2 H locs hq hS => ?_)
  obtain ⟨rfl, hx2⟩ := hq
  have h3_mm : u2 (mm) = some (mo ad (1) (tb) (dd) (nI nw) (br) (yr) (wd)) := hx2.at 0 rfl
  refine W.eq (g2 := F0 m 31 ls [.int (1)]) rfl ?_
  refine lv_if_eq (tgt := 36) hx hb dX7_enrol_31 (by decide) (fun cq9 => absurd cq9 (by decide)) (fun _ => ?_)
  refine lv_iconst (v := 0) hx hb dX7_enrol_34 (by decide) ?_
  have hex : zEx w u2 [(mm, (mo ad (1) (tb) (dd) (nI nw) (br) (yr) (wd)))] := ⟨(zm1 h3_mm zm0), fun a9 h9 => by rw [hx2.2 a9 (zm1 (show a9 ≠ mm from h9 (mm, (mo ad (1) (tb) (dd) (nI nw) (br) (yr) (wd))) (List.mem_of_getElem? (i := 0) rfl)) zm0), ew1, va_up_ne _ _ (show a9 ≠ mm from h9 (mm, (mo ad (1) (tb) (dd) (nI nw) (br) (yr) (wd))) (List.mem_of_getElem? (i := 0) rfl))]⟩
  exact z_zret hx hb hr hlocks (zb_narrow (Or.inl rfl)) hS (Nat.le_of_ble_eq_true rfl) (Nat.le_of_ble_eq_true rfl) dX7_enrol_35 ⟨rfl, zMQ.o hM h_m hinj hex⟩
set_option maxHeartbeats 4000000 in
set_option maxRecDepth 100000 in
theorem t2_X7_enrol (l : Launch) (D : va_G) (cs : Nat → ClassId) (w : zw) (sz : Nat) (mm : Nat) (ad : Nat → Nat) (J : Nat → Nat → Int64) (K : Nat → Nat → Int32) (th tb br yr wd : Int32) (nw wi nd : Nat) (y on : Int32) (hinj : ∀ i j : Nat, i ≠ j → ad i ≠ ad j) (hM : zMA cs w ad J K) (hnw : nw ≤ 10) (hwi : wi < nw) (hnd : nd ≤ 8) (hy9 : ∀ k : Nat, k < nd → y ≠ nI k) (h_m : w (mm) = some (mo ad (th) (tb) (nI nd) (nI nw) (br) (yr) (wd))) : zM l D cs yX7_enrol wsX7_enrol 3 0 0 w sz [.ref (mm), .int (nI wi), .int (y), .int (on)] (fun r w2 => r = some (.int 0) ∧ zMQ cs w w2 ad mm (mo ad (1) (tb) (nI nd) (nI nw) (br) (yr) (wd)) J K) := by
  refine z_met (cc := cX7_enrol) (maxL := 5) (ret := (some .boolean)) (by decide) rfl (Nat.le_of_ble_eq_true rfl) ?_
  intro p e s m below meth c hx hb hr hml hown hts hlocks hnm hsz hK hE hS ls hl
  have hl : lv_has ls 5 [(0, .ref (mm)), (1, .int (nI wi)), (2, .int (y)), (3, .int (on))] := hl
  refine lv_aload_n hx hb dX7_enrol_0 rfl (lv_at hl 0 rfl) ?_
  refine lv_iconst (v := 0) hx hb dX7_enrol_1 (by decide) ?_
  refine z_put (C := RX7) (T := TX7) (N := 45) (v := .int (0)) hx hb hts (by decide +kernel) tyX7 tyX7_ok nmX7 hown hK hS h_m rfl 0 (by decide) (hts (.fieldLink RX7 126 "PayLedgerModel" "thrown" "I") (by decide +kernel)) rfl rfl rfl (Nat.le_of_ble_eq_true rfl) dX7_enrol_2 (fun H locs hS => ?_)
  obtain ⟨w1, ew1⟩ : ∃ z : zw, z = va_up w (mm) (some (mo ad (0) (tb) (nI nd) (nI nw) (br) (yr) (wd))) := ⟨_, rfl⟩
  have hS : zS (zA w sz) D w1 s.heap H locs := by rw [ew1]; exact hS
  have h1_mm : w1 (mm) = some (mo ad (0) (tb) (nI nd) (nI nw) (br) (yr) (wd)) := by rw [ew1]; exact va_up_self _ _ _
  refine lv_aload_n hx hb dX7_enrol_5 rfl (lv_at hl 0 rfl) ?_
  refine lv_aload_n hx hb dX7_enrol_6 rfl (lv_at hl 0 rfl) ?_
  refine lv_iload_n hx hb dX7_enrol_7 rfl (lv_at hl 1 rfl) ?_
  refine z_rV (As := [.int (nI wi)]) (rest := [.ref (mm)]) (n := 1) ⟨hx, hb, hml, hown, hts⟩ (c_X7_noWorker l D cs w1 H.size mm ad (0) (tb) (nI nd) (br) (yr) (wd) nw wi (by omega) hwi h1_mm) gX7_enrol_X7_noWorker rfl ⟨rfl, by decide +kernel, by decide +kernel, by decide +kernel⟩ ⟨Nat.le_of_ble_eq_true rfl, Nat.le_of_ble_eq_true rfl⟩ hK hE hS rfl h1_mm rfl hl.1 rfl (Nat.le_of_ble_eq_true rfl) dX7_enrol_8 ⟨Nat.le_of_ble_eq_true rfl, Nat.le_of_ble_eq_true rfl⟩ (fun H locs hS => ?_)
  refine lv_if_ne (tgt := 22) hx hb dX7_enrol_11 (by decide) (fun cq9 => absurd rfl cq9) (fun _ => ?_)
  refine lv_aload_n hx hb dX7_enrol_14 rfl (lv_at hl 0 rfl) ?_
  refine lv_iload_n hx hb dX7_enrol_15 rfl (lv_at hl 2 rfl) ?_
  refine z_rV (As := [.int (y)]) (rest := [.ref (mm)]) (n := 1) ⟨hx, hb, hml, hown, hts⟩ (n_X7_noDeduction l D cs w1 H.size mm ad (0) (tb) (nI nw) (br) (yr) (wd) nd y (by omega) hy9 h1_mm) gX7_enrol_X7_noDeduction rfl ⟨rfl, by decide +kernel, by decide +kernel, by decide +kernel⟩ ⟨Nat.le_of_ble_eq_true rfl, Nat.le_of_ble_eq_true rfl⟩ hK hE hS rfl h1_mm rfl hl.1 rfl (Nat.le_of_ble_eq_true rfl) dX7_enrol_16 ⟨Nat.le_of_ble_eq_true rfl, Nat.le_of_ble_eq_true rfl⟩ (fun H locs hS => ?_)
  refine lv_if_eq (tgt := 26) hx hb dX7_enrol_19 (by decide) (fun cq9 => absurd cq9 (by decide)) (fun _ => ?_)
  refine lv_iconst (v := 1) hx hb dX7_enrol_22 (by decide) ?_
  refine lv_goto (tgt := 27) hx hb dX7_enrol_23 (by decide) ?_
  refine lv_iconst (v := 1) hx hb dX7_enrol_27 (by decide) ?_
  refine z_invV (As := [.int (1), .int (1)]) (rest := []) (n := 2) ⟨hx, hb, hml, hown, hts⟩ (c1_X7_throwsIf l D cs w1 H.size mm ad (0) (tb) (nI nd) (nI nw) (br) (yr) (wd) 1 h1_mm) gX7_enrol_X7_throwsIf rfl ⟨rfl, by decide +kernel, by decide +kernel, by decide +kernel⟩ ⟨Nat.le_of_ble_eq_true rfl, Nat.le_of_ble_eq_true rfl⟩ hK hE hS rfl h1_mm rfl hl.1 rfl (Nat.le_of_ble_eq_true rfl) dX7_enrol_28 ⟨Nat.le_of_ble_eq_true rfl, Nat.le_of_ble_eq_true rfl⟩ (fun v9 u2 H locs hq hS => ?_)
  obtain ⟨rfl, hx2⟩ := hq
  have h3_mm : u2 (mm) = some (mo ad (1) (tb) (nI nd) (nI nw) (br) (yr) (wd)) := hx2.at 0 rfl
  refine W.eq (g2 := F0 m 31 ls [.int (1)]) rfl ?_
  refine lv_if_eq (tgt := 36) hx hb dX7_enrol_31 (by decide) (fun cq9 => absurd cq9 (by decide)) (fun _ => ?_)
  refine lv_iconst (v := 0) hx hb dX7_enrol_34 (by decide) ?_
  have hex : zEx w u2 [(mm, (mo ad (1) (tb) (nI nd) (nI nw) (br) (yr) (wd)))] := ⟨(zm1 h3_mm zm0), fun a9 h9 => by rw [hx2.2 a9 (zm1 (show a9 ≠ mm from h9 (mm, (mo ad (1) (tb) (nI nd) (nI nw) (br) (yr) (wd))) (List.mem_of_getElem? (i := 0) rfl)) zm0), ew1, va_up_ne _ _ (show a9 ≠ mm from h9 (mm, (mo ad (1) (tb) (nI nd) (nI nw) (br) (yr) (wd))) (List.mem_of_getElem? (i := 0) rfl))]⟩
  exact z_zret hx hb hr hlocks (zb_narrow (Or.inl rfl)) hS (Nat.le_of_ble_eq_true rfl) (Nat.le_of_ble_eq_true rfl) dX7_enrol_35 ⟨rfl, zMQ.o hM h_m hinj hex⟩
set_option maxHeartbeats 4000000 in
set_option maxRecDepth 100000 in
theorem c1_X7_enrol (l : Launch) (D : va_G) (cs : Nat → ClassId) (w : zw) (sz : Nat) (mm : Nat) (ad : Nat → Nat) (J : Nat → Nat → Int64) (K : Nat → Nat → Int32) (th tb br yr wd : Int32) (nw wi nd d : Nat) (on : Int32) (hinj : ∀ i j : Nat, i ≠ j → ad i ≠ ad j) (hM : zMA cs w ad J K) (hnw : nw ≤ 10) (hwi : wi < nw) (hnd : nd ≤ 8) (hd : d < nd) (hon : zHas (K 15 wi) (nI d) = on) (h_m : w (mm) = some (mo ad (th) (tb) (nI nd) (nI nw) (br) (yr) (wd))) : zM l D cs yX7_enrol wsX7_enrol 3 0 0 w sz [.ref (mm), .int (nI wi), .int (nI d), .int (on)] (fun r w2 => r = some (.int 0) ∧ zMQ cs w w2 ad mm (mo ad (0) (tb) (nI nd) (nI nw) (br) (yr) (wd)) J K) := by
  refine z_met (cc := cX7_enrol) (maxL := 5) (ret := (some .boolean)) (by decide) rfl (Nat.le_of_ble_eq_true rfl) ?_
  intro p e s m below meth c hx hb hr hml hown hts hlocks hnm hsz hK hE hS ls hl
  have hl : lv_has ls 5 [(0, .ref (mm)), (1, .int (nI wi)), (2, .int (nI d)), (3, .int (on))] := hl
  have h_15 : w (ad 15) = some (eI cs (10) (K 15)) := hM 15 (by decide)
  refine lv_aload_n hx hb dX7_enrol_0 rfl (lv_at hl 0 rfl) ?_
  refine lv_iconst (v := 0) hx hb dX7_enrol_1 (by decide) ?_
  refine z_put (C := RX7) (T := TX7) (N := 45) (v := .int (0)) hx hb hts (by decide +kernel) tyX7 tyX7_ok nmX7 hown hK hS h_m rfl 0 (by decide) (hts (.fieldLink RX7 126 "PayLedgerModel" "thrown" "I") (by decide +kernel)) rfl rfl rfl (Nat.le_of_ble_eq_true rfl) dX7_enrol_2 (fun H locs hS => ?_)
  obtain ⟨w1, ew1⟩ : ∃ z : zw, z = va_up w (mm) (some (mo ad (0) (tb) (nI nd) (nI nw) (br) (yr) (wd))) := ⟨_, rfl⟩
  have hS : zS (zA w sz) D w1 s.heap H locs := by rw [ew1]; exact hS
  have h1_mm : w1 (mm) = some (mo ad (0) (tb) (nI nd) (nI nw) (br) (yr) (wd)) := by rw [ew1]; exact va_up_self _ _ _
  have h1_ad15 : w1 (ad 15) = some (eI cs (10) (K 15)) := by rw [ew1]; exact (va_up_ne _ _ (zne h_15 h_m (by intro q9; first | cases q9 | simp at q9))).trans h_15
  refine lv_aload_n hx hb dX7_enrol_5 rfl (lv_at hl 0 rfl) ?_
  refine lv_aload_n hx hb dX7_enrol_6 rfl (lv_at hl 0 rfl) ?_
  refine lv_iload_n hx hb dX7_enrol_7 rfl (lv_at hl 1 rfl) ?_
  refine z_rV (As := [.int (nI wi)]) (rest := [.ref (mm)]) (n := 1) ⟨hx, hb, hml, hown, hts⟩ (c_X7_noWorker l D cs w1 H.size mm ad (0) (tb) (nI nd) (br) (yr) (wd) nw wi (by omega) hwi h1_mm) gX7_enrol_X7_noWorker rfl ⟨rfl, by decide +kernel, by decide +kernel, by decide +kernel⟩ ⟨Nat.le_of_ble_eq_true rfl, Nat.le_of_ble_eq_true rfl⟩ hK hE hS rfl h1_mm rfl hl.1 rfl (Nat.le_of_ble_eq_true rfl) dX7_enrol_8 ⟨Nat.le_of_ble_eq_true rfl, Nat.le_of_ble_eq_true rfl⟩ (fun H locs hS => ?_)
  refine lv_if_ne (tgt := 22) hx hb dX7_enrol_11 (by decide) (fun cq9 => absurd rfl cq9) (fun _ => ?_)
  refine lv_aload_n hx hb dX7_enrol_14 rfl (lv_at hl 0 rfl) ?_
  refine lv_iload_n hx hb dX7_enrol_15 rfl (lv_at hl 2 rfl) ?_
  refine z_rV (As := [.int (nI d)]) (rest := [.ref (mm)]) (n := 1) ⟨hx, hb, hml, hown, hts⟩ (c_X7_noDeduction l D cs w1 H.size mm ad (0) (tb) (nI nw) (br) (yr) (wd) nd d (by omega) hd h1_mm) gX7_enrol_X7_noDeduction rfl ⟨rfl, by decide +kernel, by decide +kernel, by decide +kernel⟩ ⟨Nat.le_of_ble_eq_true rfl, Nat.le_of_ble_eq_true rfl⟩ hK hE hS rfl h1_mm rfl hl.1 rfl (Nat.le_of_ble_eq_true rfl) dX7_enrol_16 ⟨Nat.le_of_ble_eq_true rfl, Nat.le_of_ble_eq_true rfl⟩ (fun H locs hS => ?_)
  refine lv_if_eq (tgt := 26) hx hb dX7_enrol_19 (by decide) (fun _ => ?_) (fun cq9 => absurd rfl cq9)
  refine lv_iconst (v := 0) hx hb dX7_enrol_26 (by decide) ?_
  refine lv_iconst (v := 1) hx hb dX7_enrol_27 (by decide) ?_
  refine z_rV (As := [.int (0), .int (1)]) (rest := []) (n := 2) ⟨hx, hb, hml, hown, hts⟩ (c0_X7_throwsIf l D cs w1 H.size mm ad (0) (tb) (nI nd) (nI nw) (br) (yr) (wd) 1 h1_mm) gX7_enrol_X7_throwsIf rfl ⟨rfl, by decide +kernel, by decide +kernel, by decide +kernel⟩ ⟨Nat.le_of_ble_eq_true rfl, Nat.le_of_ble_eq_true rfl⟩ hK hE hS rfl h1_mm rfl hl.1 rfl (Nat.le_of_ble_eq_true rfl) dX7_enrol_28 ⟨Nat.le_of_ble_eq_true rfl, Nat.le_of_ble_eq_true rfl⟩ (fun H locs hS => ?_)
  refine lv_if_eq (tgt := 36) hx hb dX7_enrol_31 (by decide) (fun _ => ?_) (fun cq9 => absurd rfl cq9)
  refine lv_aload_n hx hb dX7_enrol_36 rfl (lv_at hl 0 rfl) ?_
  refine z_get (C := RX7) (T := TX7) (N := 45) (v := .ref (ad 15)) hx hb hts (by decide +kernel) hown hK hS h1_mm rfl 15 (by decide) (hts (.fieldLink RX7 48 "PayLedgerModel" "hasBits" "[I") (by decide +kernel)) rfl dX7_enrol_37 ?_
  refine lv_iload_n hx hb dX7_enrol_40 rfl (lv_at hl 1 rfl) ?_
  refine z_iald hx hb hK hS h1_ad15 (vp_in_nI (by omega) (by decide)) dX7_enrol_41 ?_
  refine z_ti (y := ((K 15) (wi))) (congrArg _ (nI_clamp (by omega))) ?_
  refine lv_iload_n hx hb dX7_enrol_42 rfl (lv_at hl 2 rfl) ?_
  refine lv_ishr hx hb dX7_enrol_43 ?_
  refine lv_iconst (v := 1) hx hb dX7_enrol_44 (by decide) ?_
  refine lv_iand hx hb dX7_enrol_45 ?_
  refine lv_iconst (v := 1) hx hb dX7_enrol_46 (by decide) ?_
  refine lv_icmp_ne (tgt := 54) hx hb dX7_enrol_47 (by decide) (fun c47 => ?_) (fun c47 => ?_)
  · have hb9 : zHas (K 15 wi) (nI d) = 0 := zB_f (fun q9 => q9 ((zBit01 _).resolve_right c47))
    refine lv_iconst (v := 0) hx hb dX7_enrol_54 (by decide) ?_
    refine lv_istore (lv' := [(4, .int (0)), (0, .ref (mm)), (1, .int (nI wi)), (2, .int (nI d)), (3, .int (on))]) hx hb dX7_enrol_55 hl (by decide) rfl (fun ls hl => ?_)
    refine lv_iload hx hb dX7_enrol_57 (lv_at hl 0 rfl) ?_
    refine lv_iload_n hx hb dX7_enrol_59 rfl (lv_at hl 4 rfl) ?_
    refine lv_icmp_eq (tgt := 75) hx hb dX7_enrol_60 (by decide) (fun _ => ?_) (fun cq9 => absurd (by rw [← hb9]; exact hon) cq9)
    refine lv_iload hx hb dX7_enrol_75 (lv_at hl 0 rfl) ?_
    refine lv_iload_n hx hb dX7_enrol_77 rfl (lv_at hl 4 rfl) ?_
    refine lv_icmp_eq (tgt := 85) hx hb dX7_enrol_78 (by decide) (fun _ => ?_) (fun cq9 => absurd (by rw [← hb9]; exact hon) cq9)
    refine lv_iconst (v := 0) hx hb dX7_enrol_85 (by decide) ?_
    have hex : zEx w w1 [(mm, (mo ad (0) (tb) (nI nd) (nI nw) (br) (yr) (wd)))] := ⟨(zm1 h1_mm zm0), fun a9 h9 => by rw [ew1, va_up_ne _ _ (show a9 ≠ mm from h9 (mm, (mo ad (0) (tb) (nI nd) (nI nw) (br) (yr) (wd))) (List.mem_of_getElem? (i := 0) rfl))]⟩
    exact z_zret hx hb hr hlocks (zb_narrow (Or.inl rfl)) hS (Nat.le_of_ble_eq_true rfl) (Nat.le_of_ble_eq_true rfl) dX7_enrol_86 ⟨rfl, zMQ.o hM h_m hinj hex⟩
  · have hb9 : zHas (K 15 wi) (nI d) = 1 := zB_t (fun q9 => by rw [c47] at q9; exact absurd q9 (by decide))
    refine lv_iconst (v := 1) hx hb dX7_enrol_50 (by decide) ?_
    refine lv_goto (tgt := 55) hx hb dX7_enrol_51 (by decide) ?_
    refine lv_istore (lv' := [(4, .int (1)), (0, .ref (mm)), (1, .int (nI wi)), (2, .int (nI d)), (3, .int (on))]) hx hb dX7_enrol_55 hl (by decide) rfl (fun ls hl => ?_)
    refine lv_iload hx hb dX7_enrol_57 (lv_at hl 0 rfl) ?_
    refine lv_iload_n hx hb dX7_enrol_59 rfl (lv_at hl 4 rfl) ?_
    refine lv_icmp_eq (tgt := 75) hx hb dX7_enrol_60 (by decide) (fun _ => ?_) (fun cq9 => absurd (by rw [← hb9]; exact hon) cq9)
    refine lv_iload hx hb dX7_enrol_75 (lv_at hl 0 rfl) ?_
    refine lv_iload_n hx hb dX7_enrol_77 rfl (lv_at hl 4 rfl) ?_
    refine lv_icmp_eq (tgt := 85) hx hb dX7_enrol_78 (by decide) (fun _ => ?_) (fun cq9 => absurd (by rw [← hb9]; exact hon) cq9)
    refine lv_iconst (v := 0) hx hb dX7_enrol_85 (by decide) ?_
    have hex : zEx w w1 [(mm, (mo ad (0) (tb) (nI nd) (nI nw) (br) (yr) (wd)))] := ⟨(zm1 h1_mm zm0), fun a9 h9 => by rw [ew1, va_up_ne _ _ (show a9 ≠ mm from h9 (mm, (mo ad (0) (tb) (nI nd) (nI nw) (br) (yr) (wd))) (List.mem_of_getElem? (i := 0) rfl))]⟩
    exact z_zret hx hb hr hlocks (zb_narrow (Or.inl rfl)) hS (Nat.le_of_ble_eq_true rfl) (Nat.le_of_ble_eq_true rfl) dX7_enrol_86 ⟨rfl, zMQ.o hM h_m hinj hex⟩
set_option maxHeartbeats 4000000 in
set_option maxRecDepth 100000 in
theorem c2_X7_enrol (l : Launch) (D : va_G) (cs : Nat → ClassId) (w : zw) (sz : Nat) (mm : Nat) (ad : Nat → Nat) (J : Nat → Nat → Int64) (K : Nat → Nat → Int32) (th tb br yr wd : Int32) (nw wi nd d : Nat) (on : Int32) (hinj : ∀ i j : Nat, i ≠ j → ad i ≠ ad j) (hM : zMA cs w ad J K) (hnw : nw ≤ 10) (hwi : wi < nw) (hnd : nd ≤ 8) (hd : d < nd) (hon : ¬ zHas (K 15 wi) (nI d) = on) (h_m : w (mm) = some (mo ad (th) (tb) (nI nd) (nI nw) (br) (yr) (wd))) : zM l D cs yX7_enrol wsX7_enrol 3 0 0 w sz [.ref (mm), .int (nI wi), .int (nI d), .int (on)] (fun r w2 => r = some (.int 1) ∧ zMQ cs w w2 ad mm (mo ad (0) (tb) (nI nd) (nI nw) (br) (yr) (wd)) J (va_up K 15 (upd (K 15) wi (K 15 wi ^^^ (1 <<< (nI d &&& 31)))))) := by
  refine z_met (cc := cX7_enrol) (maxL := 5) (ret := (some .boolean)) (by decide) rfl (Nat.le_of_ble_eq_true rfl) ?_
  intro p e s m below meth c hx hb hr hml hown hts hlocks hnm hsz hK hE hS ls hl
  have hl : lv_has ls 5 [(0, .ref (mm)), (1, .int (nI wi)), (2, .int (nI d)), (3, .int (on))] := hl
  have h_15 : w (ad 15) = some (eI cs (10) (K 15)) := hM 15 (by decide)
  refine lv_aload_n hx hb dX7_enrol_0 rfl (lv_at hl 0 rfl) ?_
  refine lv_iconst (v := 0) hx hb dX7_enrol_1 (by decide) ?_
  refine z_put (C := RX7) (T := TX7) (N := 45) (v := .int (0)) hx hb hts (by decide +kernel) tyX7 tyX7_ok nmX7 hown hK hS h_m rfl 0 (by decide) (hts (.fieldLink RX7 126 "PayLedgerModel" "thrown" "I") (by decide +kernel)) rfl rfl rfl (Nat.le_of_ble_eq_true rfl) dX7_enrol_2 (fun H locs hS => ?_)
  obtain ⟨w1, ew1⟩ : ∃ z : zw, z = va_up w (mm) (some (mo ad (0) (tb) (nI nd) (nI nw) (br) (yr) (wd))) := ⟨_, rfl⟩
  have hS : zS (zA w sz) D w1 s.heap H locs := by rw [ew1]; exact hS
  have h1_mm : w1 (mm) = some (mo ad (0) (tb) (nI nd) (nI nw) (br) (yr) (wd)) := by rw [ew1]; exact va_up_self _ _ _
  have h1_ad15 : w1 (ad 15) = some (eI cs (10) (K 15)) := by rw [ew1]; exact (va_up_ne _ _ (zne h_15 h_m (by intro q9; first | cases q9 | simp at q9))).trans h_15
  refine lv_aload_n hx hb dX7_enrol_5 rfl (lv_at hl 0 rfl) ?_
  refine lv_aload_n hx hb dX7_enrol_6 rfl (lv_at hl 0 rfl) ?_
  refine lv_iload_n hx hb dX7_enrol_7 rfl (lv_at hl 1 rfl) ?_
  refine z_rV (As := [.int (nI wi)]) (rest := [.ref (mm)]) (n := 1) ⟨hx, hb, hml, hown, hts⟩ (c_X7_noWorker l D cs w1 H.size mm ad (0) (tb) (nI nd) (br) (yr) (wd) nw wi (by omega) hwi h1_mm) gX7_enrol_X7_noWorker rfl ⟨rfl, by decide +kernel, by decide +kernel, by decide +kernel⟩ ⟨Nat.le_of_ble_eq_true rfl, Nat.le_of_ble_eq_true rfl⟩ hK hE hS rfl h1_mm rfl hl.1 rfl (Nat.le_of_ble_eq_true rfl) dX7_enrol_8 ⟨Nat.le_of_ble_eq_true rfl, Nat.le_of_ble_eq_true rfl⟩ (fun H locs hS => ?_)
  refine lv_if_ne (tgt := 22) hx hb dX7_enrol_11 (by decide) (fun cq9 => absurd rfl cq9) (fun _ => ?_)
  refine lv_aload_n hx hb dX7_enrol_14 rfl (lv_at hl 0 rfl) ?_
  refine lv_iload_n hx hb dX7_enrol_15 rfl (lv_at hl 2 rfl) ?_
  refine z_rV (As := [.int (nI d)]) (rest := [.ref (mm)]) (n := 1) ⟨hx, hb, hml, hown, hts⟩ (c_X7_noDeduction l D cs w1 H.size mm ad (0) (tb) (nI nw) (br) (yr) (wd) nd d (by omega) hd h1_mm) gX7_enrol_X7_noDeduction rfl ⟨rfl, by decide +kernel, by decide +kernel, by decide +kernel⟩ ⟨Nat.le_of_ble_eq_true rfl, Nat.le_of_ble_eq_true rfl⟩ hK hE hS rfl h1_mm rfl hl.1 rfl (Nat.le_of_ble_eq_true rfl) dX7_enrol_16 ⟨Nat.le_of_ble_eq_true rfl, Nat.le_of_ble_eq_true rfl⟩ (fun H locs hS => ?_)
  refine lv_if_eq (tgt := 26) hx hb dX7_enrol_19 (by decide) (fun _ => ?_) (fun cq9 => absurd rfl cq9)
  refine lv_iconst (v := 0) hx hb dX7_enrol_26 (by decide) ?_
  refine lv_iconst (v := 1) hx hb dX7_enrol_27 (by decide) ?_
  refine z_rV (As := [.int (0), .int (1)]) (rest := []) (n := 2) ⟨hx, hb, hml, hown, hts⟩ (c0_X7_throwsIf l D cs w1 H.size mm ad (0) (tb) (nI nd) (nI nw) (br) (yr) (wd) 1 h1_mm) gX7_enrol_X7_throwsIf rfl ⟨rfl, by decide +kernel, by decide +kernel, by decide +kernel⟩ ⟨Nat.le_of_ble_eq_true rfl, Nat.le_of_ble_eq_true rfl⟩ hK hE hS rfl h1_mm rfl hl.1 rfl (Nat.le_of_ble_eq_true rfl) dX7_enrol_28 ⟨Nat.le_of_ble_eq_true rfl, Nat.le_of_ble_eq_true rfl⟩ (fun H locs hS => ?_)
  refine lv_if_eq (tgt := 36) hx hb dX7_enrol_31 (by decide) (fun _ => ?_) (fun cq9 => absurd rfl cq9)
  refine lv_aload_n hx hb dX7_enrol_36 rfl (lv_at hl 0 rfl) ?_
  refine z_get (C := RX7) (T := TX7) (N := 45) (v := .ref (ad 15)) hx hb hts (by decide +kernel) hown hK hS h1_mm rfl 15 (by decide) (hts (.fieldLink RX7 48 "PayLedgerModel" "hasBits" "[I") (by decide +kernel)) rfl dX7_enrol_37 ?_
  refine lv_iload_n hx hb dX7_enrol_40 rfl (lv_at hl 1 rfl) ?_
  refine z_iald hx hb hK hS h1_ad15 (vp_in_nI (by omega) (by decide)) dX7_enrol_41 ?_
  refine z_ti (y := ((K 15) (wi))) (congrArg _ (nI_clamp (by omega))) ?_
  refine lv_iload_n hx hb dX7_enrol_42 rfl (lv_at hl 2 rfl) ?_
  refine lv_ishr hx hb dX7_enrol_43 ?_
  refine lv_iconst (v := 1) hx hb dX7_enrol_44 (by decide) ?_
  refine lv_iand hx hb dX7_enrol_45 ?_
  refine lv_iconst (v := 1) hx hb dX7_enrol_46 (by decide) ?_
  refine lv_icmp_ne (tgt := 54) hx hb dX7_enrol_47 (by decide) (fun c47 => ?_) (fun c47 => ?_)
  · have hb9 : zHas (K 15 wi) (nI d) = 0 := zB_f (fun q9 => q9 ((zBit01 _).resolve_right c47))
    refine lv_iconst (v := 0) hx hb dX7_enrol_54 (by decide) ?_
    refine lv_istore (lv' := [(4, .int (0)), (0, .ref (mm)), (1, .int (nI wi)), (2, .int (nI d)), (3, .int (on))]) hx hb dX7_enrol_55 hl (by decide) rfl (fun ls hl => ?_)
    refine lv_iload hx hb dX7_enrol_57 (lv_at hl 0 rfl) ?_
    refine lv_iload_n hx hb dX7_enrol_59 rfl (lv_at hl 4 rfl) ?_
    refine lv_icmp_eq (tgt := 75) hx hb dX7_enrol_60 (by decide) (fun cq9 => absurd cq9 (by rw [← hb9]; exact hon)) (fun _ => ?_)
    refine lv_aload_n hx hb dX7_enrol_63 rfl (lv_at hl 1 rfl) ?_
    refine z_get (C := RX7) (T := TX7) (N := 45) (v := .ref (ad 15)) hx hb hts (by decide +kernel) hown hK hS h1_mm rfl 15 (by decide) (hts (.fieldLink RX7 48 "PayLedgerModel" "hasBits" "[I") (by decide +kernel)) rfl dX7_enrol_64 ?_
    refine lv_iload_n hx hb dX7_enrol_67 rfl (lv_at hl 2 rfl) ?_
    refine lv_dup2_11 hx hb dX7_enrol_68 rfl rfl ?_
    refine z_iald hx hb hK hS h1_ad15 (vp_in_nI (by omega) (by decide)) dX7_enrol_69 ?_
    refine z_ti (y := ((K 15) (wi))) (congrArg _ (nI_clamp (by omega))) ?_
    refine lv_iconst (v := 1) hx hb dX7_enrol_70 (by decide) ?_
    refine lv_iload_n hx hb dX7_enrol_71 rfl (lv_at hl 3 rfl) ?_
    refine lv_ishl hx hb dX7_enrol_72 ?_
    refine lv_ixor hx hb dX7_enrol_73 ?_
    refine z_iast hx hb hK hS h1_ad15 (vp_in_nI (by omega) (by decide)) dX7_enrol_74 (fun H locs hS => ?_)
    obtain ⟨w2, ew2⟩ : ∃ z : zw, z = va_up w1 (ad 15) (some (eI cs (10) (upd (K 15) (nI wi : Int32).toNatClampNeg ((((K 15) (wi)) ^^^ (1 <<< (nI d &&& 31))))))) := ⟨_, rfl⟩
    have hS : zS (zA w sz) D w2 s.heap H locs := by rw [ew2]; exact hS
    have h2_ad15 : w2 (ad 15) = some (eI cs (10) (upd (K 15) (nI wi : Int32).toNatClampNeg ((((K 15) (wi)) ^^^ (1 <<< (nI d &&& 31)))))) := by rw [ew2]; exact va_up_self _ _ _
    have h2_mm : w2 (mm) = some (mo ad (0) (tb) (nI nd) (nI nw) (br) (yr) (wd)) := by rw [ew2]; exact (va_up_ne _ _ (zne h1_mm h1_ad15 (by intro q9; first | cases q9 | simp at q9))).trans h1_mm
    have h2_ad15 : w2 (ad 15) = some (eI cs (10) (upd (K 15) (wi) ((((K 15) (wi)) ^^^ (1 <<< (nI d &&& 31)))))) := by rw [nI_clamp (by omega)] at h2_ad15; exact h2_ad15
    refine lv_iload hx hb dX7_enrol_75 (lv_at hl 0 rfl) ?_
    refine lv_iload_n hx hb dX7_enrol_77 rfl (lv_at hl 4 rfl) ?_
    refine lv_icmp_eq (tgt := 85) hx hb dX7_enrol_78 (by decide) (fun cq9 => absurd cq9 (by rw [← hb9]; exact hon)) (fun _ => ?_)
    refine lv_iconst (v := 1) hx hb dX7_enrol_81 (by decide) ?_
    refine lv_goto (tgt := 86) hx hb dX7_enrol_82 (by decide) ?_
    have hex : zEx w w2 [(mm, (mo ad (0) (tb) (nI nd) (nI nw) (br) (yr) (wd))), (ad 15, (eI cs (10) (upd (K 15) (wi) ((((K 15) (wi)) ^^^ (1 <<< (nI d &&& 31)))))))] := ⟨(zm1 h2_mm (zm1 h2_ad15 zm0)), fun a9 h9 => by rw [ew2, va_up_ne _ _ (show a9 ≠ ad 15 from h9 (ad 15, (eI cs (10) (upd (K 15) (wi) ((((K 15) (wi)) ^^^ (1 <<< (nI d &&& 31))))))) (List.mem_of_getElem? (i := 1) rfl)), ew1, va_up_ne _ _ (show a9 ≠ mm from h9 (mm, (mo ad (0) (tb) (nI nd) (nI nw) (br) (yr) (wd))) (List.mem_of_getElem? (i := 0) rfl))]⟩
    exact z_zret hx hb hr hlocks (zb_narrow (Or.inr rfl)) hS (Nat.le_of_ble_eq_true rfl) (Nat.le_of_ble_eq_true rfl) dX7_enrol_86 ⟨rfl, zMQ.of [15] (by decide) hM h_m hinj hex (fun _ _ => rfl) (fun s hs => va_up_ne _ _ (fun e => hs (by rw [e]; decide)))⟩
  · have hb9 : zHas (K 15 wi) (nI d) = 1 := zB_t (fun q9 => by rw [c47] at q9; exact absurd q9 (by decide))
    refine lv_iconst (v := 1) hx hb dX7_enrol_50 (by decide) ?_
    refine lv_goto (tgt := 55) hx hb dX7_enrol_51 (by decide) ?_
    refine lv_istore (lv' := [(4, .int (1)), (0, .ref (mm)), (1, .int (nI wi)), (2, .int (nI d)), (3, .int (on))]) hx hb dX7_enrol_55 hl (by decide) rfl (fun ls hl => ?_)
    refine lv_iload hx hb dX7_enrol_57 (lv_at hl 0 rfl) ?_
    refine lv_iload_n hx hb dX7_enrol_59 rfl (lv_at hl 4 rfl) ?_
    refine lv_icmp_eq (tgt := 75) hx hb dX7_enrol_60 (by decide) (fun cq9 => absurd cq9 (by rw [← hb9]; exact hon)) (fun _ => ?_)
    refine lv_aload_n hx hb dX7_enrol_63 rfl (lv_at hl 1 rfl) ?_
    refine z_get (C := RX7) (T := TX7) (N := 45) (v := .ref (ad 15)) hx hb hts (by decide +kernel) hown hK hS h1_mm rfl 15 (by decide) (hts (.fieldLink RX7 48 "PayLedgerModel" "hasBits" "[I") (by decide +kernel)) rfl dX7_enrol_64 ?_
    refine lv_iload_n hx hb dX7_enrol_67 rfl (lv_at hl 2 rfl) ?_
    refine lv_dup2_11 hx hb dX7_enrol_68 rfl rfl ?_
    refine z_iald hx hb hK hS h1_ad15 (vp_in_nI (by omega) (by decide)) dX7_enrol_69 ?_
    refine z_ti (y := ((K 15) (wi))) (congrArg _ (nI_clamp (by omega))) ?_
    refine lv_iconst (v := 1) hx hb dX7_enrol_70 (by decide) ?_
    refine lv_iload_n hx hb dX7_enrol_71 rfl (lv_at hl 3 rfl) ?_
    refine lv_ishl hx hb dX7_enrol_72 ?_
    refine lv_ixor hx hb dX7_enrol_73 ?_
    refine z_iast hx hb hK hS h1_ad15 (vp_in_nI (by omega) (by decide)) dX7_enrol_74 (fun H locs hS => ?_)
    obtain ⟨w3, ew3⟩ : ∃ z : zw, z = va_up w1 (ad 15) (some (eI cs (10) (upd (K 15) (nI wi : Int32).toNatClampNeg ((((K 15) (wi)) ^^^ (1 <<< (nI d &&& 31))))))) := ⟨_, rfl⟩
    have hS : zS (zA w sz) D w3 s.heap H locs := by rw [ew3]; exact hS
    have h3_ad15 : w3 (ad 15) = some (eI cs (10) (upd (K 15) (nI wi : Int32).toNatClampNeg ((((K 15) (wi)) ^^^ (1 <<< (nI d &&& 31)))))) := by rw [ew3]; exact va_up_self _ _ _
    have h3_mm : w3 (mm) = some (mo ad (0) (tb) (nI nd) (nI nw) (br) (yr) (wd)) := by rw [ew3]; exact (va_up_ne _ _ (zne h1_mm h1_ad15 (by intro q9; first | cases q9 | simp at q9))).trans h1_mm
    have h3_ad15 : w3 (ad 15) = some (eI cs (10) (upd (K 15) (wi) ((((K 15) (wi)) ^^^ (1 <<< (nI d &&& 31)))))) := by rw [nI_clamp (by omega)] at h3_ad15; exact h3_ad15
    refine lv_iload hx hb dX7_enrol_75 (lv_at hl 0 rfl) ?_
    refine lv_iload_n hx hb dX7_enrol_77 rfl (lv_at hl 4 rfl) ?_
    refine lv_icmp_eq (tgt := 85) hx hb dX7_enrol_78 (by decide) (fun cq9 => absurd cq9 (by rw [← hb9]; exact hon)) (fun _ => ?_)
    refine lv_iconst (v := 1) hx hb dX7_enrol_81 (by decide) ?_
    refine lv_goto (tgt := 86) hx hb dX7_enrol_82 (by decide) ?_
    have hex : zEx w w3 [(mm, (mo ad (0) (tb) (nI nd) (nI nw) (br) (yr) (wd))), (ad 15, (eI cs (10) (upd (K 15) (wi) ((((K 15) (wi)) ^^^ (1 <<< (nI d &&& 31)))))))] := ⟨(zm1 h3_mm (zm1 h3_ad15 zm0)), fun a9 h9 => by rw [ew3, va_up_ne _ _ (show a9 ≠ ad 15 from h9 (ad 15, (eI cs (10) (upd (K 15) (wi) ((((K 15) (wi)) ^^^ (1 <<< (nI d &&& 31))))))) (List.mem_of_getElem? (i := 1) rfl)), ew1, va_up_ne _ _ (show a9 ≠ mm from h9 (mm, (mo ad (0) (tb) (nI nd) (nI nw) (br) (yr) (wd))) (List.mem_of_getElem? (i := 0) rfl))]⟩
    exact z_zret hx hb hr hlocks (zb_narrow (Or.inr rfl)) hS (Nat.le_of_ble_eq_true rfl) (Nat.le_of_ble_eq_true rfl) dX7_enrol_86 ⟨rfl, zMQ.of [15] (by decide) hM h_m hinj hex (fun _ _ => rfl) (fun s hs => va_up_ne _ _ (fun e => hs (by rw [e]; decide)))⟩
set_option maxHeartbeats 4000000 in
set_option maxRecDepth 100000 in
theorem t1_X7_change (l : Launch) (D : va_G) (cs : Nat → ClassId) (w : zw) (sz : Nat) (mm : Nat) (ad : Nat → Nat) (J : Nat → Nat → Int64) (K : Nat → Nat → Int32) (th tb dd br yr wd : Int32) (nw : Nat) (x what : Int32) (v : Int64) (hinj : ∀ i j : Nat, i ≠ j → ad i ≠ ad j) (hM : zMA cs w ad J K) (hnw : nw ≤ 10) (hx9 : ∀ k : Nat, k < nw → x ≠ nI k) (h_m : w (mm) = some (mo ad (th) (tb) (dd) (nI nw) (br) (yr) (wd))) : zM l D cs yX7_change wsX7_change 3 0 0 w sz [.ref (mm), .int (x), .int (what), .long (v)] (fun r w2 => r = none ∧ zMQ cs w w2 ad mm (mo ad (1) (tb) (dd) (nI nw) (br) (yr) (wd)) J K) := by
  refine z_met (cc := cX7_change) (maxL := 5) (ret := none) (by decide) rfl (Nat.le_of_ble_eq_true rfl) ?_
  intro p e s m below meth c hx hb hr hml hown hts hlocks hnm hsz hK hE hS ls hl
  have hl : lv_has ls 5 [(0, .ref (mm)), (1, .int (x)), (2, .int (what)), (3, .long (v))] := hl
  refine lv_aload_n hx hb dX7_change_0 rfl (lv_at hl 0 rfl) ?_
  refine lv_iconst (v := 0) hx hb dX7_change_1 (by decide) ?_
  refine z_put (C := RX7) (T := TX7) (N := 45) (v := .int (0)) hx hb hts (by decide +kernel) tyX7 tyX7_ok nmX7 hown hK hS h_m rfl 0 (by decide) (hts (.fieldLink RX7 126 "PayLedgerModel" "thrown" "I") (by decide +kernel)) rfl rfl rfl (Nat.le_of_ble_eq_true rfl) dX7_change_2 (fun H locs hS => ?_)
  obtain ⟨w1, ew1⟩ : ∃ z : zw, z = va_up w (mm) (some (mo ad (0) (tb) (dd) (nI nw) (br) (yr) (wd))) := ⟨_, rfl⟩
  have hS : zS (zA w sz) D w1 s.heap H locs := by rw [ew1]; exact hS
  have h1_mm : w1 (mm) = some (mo ad (0) (tb) (dd) (nI nw) (br) (yr) (wd)) := by rw [ew1]; exact va_up_self _ _ _
  refine lv_aload_n hx hb dX7_change_5 rfl (lv_at hl 0 rfl) ?_
  refine lv_aload_n hx hb dX7_change_6 rfl (lv_at hl 0 rfl) ?_
  refine lv_iload_n hx hb dX7_change_7 rfl (lv_at hl 1 rfl) ?_
  refine z_rV (As := [.int (x)]) (rest := [.ref (mm)]) (n := 1) ⟨hx, hb, hml, hown, hts⟩ (n_X7_noWorker l D cs w1 H.size mm ad (0) (tb) (dd) (br) (yr) (wd) nw x (by omega) hx9 h1_mm) gX7_change_X7_noWorker rfl ⟨rfl, by decide +kernel, by decide +kernel, by decide +kernel⟩ ⟨Nat.le_of_ble_eq_true rfl, Nat.le_of_ble_eq_true rfl⟩ hK hE hS rfl h1_mm rfl hl.1 rfl (Nat.le_of_ble_eq_true rfl) dX7_change_8 ⟨Nat.le_of_ble_eq_true rfl, Nat.le_of_ble_eq_true rfl⟩ (fun H locs hS => ?_)
  refine lv_if_ne (tgt := 27) hx hb dX7_change_11 (by decide) (fun _ => ?_) (fun cq9 => absurd cq9 (by decide))
  refine lv_iconst (v := 1) hx hb dX7_change_27 (by decide) ?_
  refine lv_goto (tgt := 32) hx hb dX7_change_28 (by decide) ?_
  refine lv_iconst (v := 1) hx hb dX7_change_32 (by decide) ?_
  refine z_invV (As := [.int (1), .int (1)]) (rest := []) (n := 2) ⟨hx, hb, hml, hown, hts⟩ (c1_X7_throwsIf l D cs w1 H.size mm ad (0) (tb) (dd) (nI nw) (br) (yr) (wd) 1 h1_mm) gX7_change_X7_throwsIf rfl ⟨rfl, by decide +kernel, by decide +kernel, by decide +kernel⟩ ⟨Nat.le_of_ble_eq_true rfl, Nat.le_of_ble_eq_true rfl⟩ hK hE hS rfl h1_mm rfl hl.1 rfl (Nat.le_of_ble_eq_true rfl) dX7_change_33 ⟨Nat.le_of_ble_eq_true rfl, Nat.le_of_ble_eq_true rfl⟩ (fun v9 u2 H locs hq hS => ?_)
  obtain ⟨rfl, hx2⟩ := hq
  have h3_mm : u2 (mm) = some (mo ad (1) (tb) (dd) (nI nw) (br) (yr) (wd)) := hx2.at 0 rfl
  refine W.eq (g2 := F0 m 36 ls [.int (1)]) rfl ?_
  refine lv_if_ne (tgt := 60) hx hb dX7_change_36 (by decide) (fun _ => ?_) (fun cq9 => absurd cq9 (by decide))
  have hex : zEx w u2 [(mm, (mo ad (1) (tb) (dd) (nI nw) (br) (yr) (wd)))] := ⟨(zm1 h3_mm zm0), fun a9 h9 => by rw [hx2.2 a9 (zm1 (show a9 ≠ mm from h9 (mm, (mo ad (1) (tb) (dd) (nI nw) (br) (yr) (wd))) (List.mem_of_getElem? (i := 0) rfl)) zm0), ew1, va_up_ne _ _ (show a9 ≠ mm from h9 (mm, (mo ad (1) (tb) (dd) (nI nw) (br) (yr) (wd))) (List.mem_of_getElem? (i := 0) rfl))]⟩
  exact z_vret hx hb hr hlocks hS (Nat.le_of_ble_eq_true rfl) (Nat.le_of_ble_eq_true rfl) dX7_change_60 ⟨rfl, zMQ.o hM h_m hinj hex⟩
set_option maxHeartbeats 4000000 in
set_option maxRecDepth 100000 in
theorem t2_X7_change (l : Launch) (D : va_G) (cs : Nat → ClassId) (w : zw) (sz : Nat) (mm : Nat) (ad : Nat → Nat) (J : Nat → Nat → Int64) (K : Nat → Nat → Int32) (th dd br yr wd : Int32) (nw wi nb : Nat) (v : Int64) (hinj : ∀ i j : Nat, i ≠ j → ad i ≠ ad j) (hM : zMA cs w ad J K) (hnw : nw ≤ 10) (hwi : wi < nw) (hnb : nb ≤ 6) (hv9 : ∀ k : Nat, k < nb → v ≠ lN k) (h_m : w (mm) = some (mo ad (th) (nI nb) (dd) (nI nw) (br) (yr) (wd))) : zM l D cs yX7_change wsX7_change 3 0 0 w sz [.ref (mm), .int (nI wi), .int (4), .long (v)] (fun r w2 => r = none ∧ zMQ cs w w2 ad mm (mo ad (1) (nI nb) (dd) (nI nw) (br) (yr) (wd)) J K) := by
  refine z_met (cc := cX7_change) (maxL := 5) (ret := none) (by decide) rfl (Nat.le_of_ble_eq_true rfl) ?_
  intro p e s m below meth c hx hb hr hml hown hts hlocks hnm hsz hK hE hS ls hl
  have hl : lv_has ls 5 [(0, .ref (mm)), (1, .int (nI wi)), (2, .int (4)), (3, .long (v))] := hl
  refine lv_aload_n hx hb dX7_change_0 rfl (lv_at hl 0 rfl) ?_
  refine lv_iconst (v := 0) hx hb dX7_change_1 (by decide) ?_
  refine z_put (C := RX7) (T := TX7) (N := 45) (v := .int (0)) hx hb hts (by decide +kernel) tyX7 tyX7_ok nmX7 hown hK hS h_m rfl 0 (by decide) (hts (.fieldLink RX7 126 "PayLedgerModel" "thrown" "I") (by decide +kernel)) rfl rfl rfl (Nat.le_of_ble_eq_true rfl) dX7_change_2 (fun H locs hS => ?_)
  obtain ⟨w1, ew1⟩ : ∃ z : zw, z = va_up w (mm) (some (mo ad (0) (nI nb) (dd) (nI nw) (br) (yr) (wd))) := ⟨_, rfl⟩
  have hS : zS (zA w sz) D w1 s.heap H locs := by rw [ew1]; exact hS
  have h1_mm : w1 (mm) = some (mo ad (0) (nI nb) (dd) (nI nw) (br) (yr) (wd)) := by rw [ew1]; exact va_up_self _ _ _
  refine lv_aload_n hx hb dX7_change_5 rfl (lv_at hl 0 rfl) ?_
  refine lv_aload_n hx hb dX7_change_6 rfl (lv_at hl 0 rfl) ?_
  refine lv_iload_n hx hb dX7_change_7 rfl (lv_at hl 1 rfl) ?_
  refine z_rV (As := [.int (nI wi)]) (rest := [.ref (mm)]) (n := 1) ⟨hx, hb, hml, hown, hts⟩ (c_X7_noWorker l D cs w1 H.size mm ad (0) (nI nb) (dd) (br) (yr) (wd) nw wi (by omega) hwi h1_mm) gX7_change_X7_noWorker rfl ⟨rfl, by decide +kernel, by decide +kernel, by decide +kernel⟩ ⟨Nat.le_of_ble_eq_true rfl, Nat.le_of_ble_eq_true rfl⟩ hK hE hS rfl h1_mm rfl hl.1 rfl (Nat.le_of_ble_eq_true rfl) dX7_change_8 ⟨Nat.le_of_ble_eq_true rfl, Nat.le_of_ble_eq_true rfl⟩ (fun H locs hS => ?_)
  refine lv_if_ne (tgt := 27) hx hb dX7_change_11 (by decide) (fun cq9 => absurd rfl cq9) (fun _ => ?_)
  refine lv_iload_n hx hb dX7_change_14 rfl (lv_at hl 2 rfl) ?_
  refine lv_iconst (v := 4) hx hb dX7_change_15 (by decide) ?_
  refine lv_icmp_ne (tgt := 31) hx hb dX7_change_16 (by decide) (fun cq9 => absurd rfl cq9) (fun _ => ?_)
  refine lv_aload_n hx hb dX7_change_19 rfl (lv_at hl 0 rfl) ?_
  refine lv_lload_n hx hb dX7_change_20 rfl (lv_at hl 3 rfl) ?_
  refine z_rV (As := [.long (v)]) (rest := [.ref (mm)]) (n := 1) ⟨hx, hb, hml, hown, hts⟩ (n_X7_noTable l D cs w1 H.size mm ad (0) (dd) (nI nw) (br) (yr) (wd) nb (v) (by omega) hv9 h1_mm) gX7_change_X7_noTable rfl ⟨rfl, by decide +kernel, by decide +kernel, by decide +kernel⟩ ⟨Nat.le_of_ble_eq_true rfl, Nat.le_of_ble_eq_true rfl⟩ hK hE hS rfl h1_mm rfl hl.1 rfl (Nat.le_of_ble_eq_true rfl) dX7_change_21 ⟨Nat.le_of_ble_eq_true rfl, Nat.le_of_ble_eq_true rfl⟩ (fun H locs hS => ?_)
  refine lv_if_eq (tgt := 31) hx hb dX7_change_24 (by decide) (fun cq9 => absurd cq9 (by decide)) (fun _ => ?_)
  refine lv_iconst (v := 1) hx hb dX7_change_27 (by decide) ?_
  refine lv_goto (tgt := 32) hx hb dX7_change_28 (by decide) ?_
  refine lv_iconst (v := 1) hx hb dX7_change_32 (by decide) ?_
  refine z_invV (As := [.int (1), .int (1)]) (rest := []) (n := 2) ⟨hx, hb, hml, hown, hts⟩ (c1_X7_throwsIf l D cs w1 H.size mm ad (0) (nI nb) (dd) (nI nw) (br) (yr) (wd) 1 h1_mm) gX7_change_X7_throwsIf rfl ⟨rfl, by decide +kernel, by decide +kernel, by decide +kernel⟩ ⟨Nat.le_of_ble_eq_true rfl, Nat.le_of_ble_eq_true rfl⟩ hK hE hS rfl h1_mm rfl hl.1 rfl (Nat.le_of_ble_eq_true rfl) dX7_change_33 ⟨Nat.le_of_ble_eq_true rfl, Nat.le_of_ble_eq_true rfl⟩ (fun v9 u2 H locs hq hS => ?_)
  obtain ⟨rfl, hx2⟩ := hq
  have h3_mm : u2 (mm) = some (mo ad (1) (nI nb) (dd) (nI nw) (br) (yr) (wd)) := hx2.at 0 rfl
  refine W.eq (g2 := F0 m 36 ls [.int (1)]) rfl ?_
  refine lv_if_ne (tgt := 60) hx hb dX7_change_36 (by decide) (fun _ => ?_) (fun cq9 => absurd cq9 (by decide))
  have hex : zEx w u2 [(mm, (mo ad (1) (nI nb) (dd) (nI nw) (br) (yr) (wd)))] := ⟨(zm1 h3_mm zm0), fun a9 h9 => by rw [hx2.2 a9 (zm1 (show a9 ≠ mm from h9 (mm, (mo ad (1) (nI nb) (dd) (nI nw) (br) (yr) (wd))) (List.mem_of_getElem? (i := 0) rfl)) zm0), ew1, va_up_ne _ _ (show a9 ≠ mm from h9 (mm, (mo ad (1) (nI nb) (dd) (nI nw) (br) (yr) (wd))) (List.mem_of_getElem? (i := 0) rfl))]⟩
  exact z_vret hx hb hr hlocks hS (Nat.le_of_ble_eq_true rfl) (Nat.le_of_ble_eq_true rfl) dX7_change_60 ⟨rfl, zMQ.o hM h_m hinj hex⟩
set_option maxHeartbeats 4000000 in
set_option maxRecDepth 100000 in
theorem t3_X7_change (l : Launch) (D : va_G) (cs : Nat → ClassId) (w : zw) (sz : Nat) (mm : Nat) (ad : Nat → Nat) (J : Nat → Nat → Int64) (K : Nat → Nat → Int32) (th tb dd br yr wd : Int32) (nw wi : Nat) (what : Int32) (v : Int64) (hinj : ∀ i j : Nat, i ≠ j → ad i ≠ ad j) (hM : zMA cs w ad J K) (hnw : nw ≤ 10) (hwi : wi < nw) (h4 : ¬ what = 4) (hcan : zCanB what v = 0) (h_m : w (mm) = some (mo ad (th) (tb) (dd) (nI nw) (br) (yr) (wd))) : zM l D cs yX7_change wsX7_change 3 0 0 w sz [.ref (mm), .int (nI wi), .int (what), .long (v)] (fun r w2 => r = none ∧ zMQ cs w w2 ad mm (mo ad (2) (tb) (dd) (nI nw) (br) (yr) (wd)) J K) := by
  refine z_met (cc := cX7_change) (maxL := 5) (ret := none) (by decide) rfl (Nat.le_of_ble_eq_true rfl) ?_
  intro p e s m below meth c hx hb hr hml hown hts hlocks hnm hsz hK hE hS ls hl
  have hl : lv_has ls 5 [(0, .ref (mm)), (1, .int (nI wi)), (2, .int (what)), (3, .long (v))] := hl
  refine lv_aload_n hx hb dX7_change_0 rfl (lv_at hl 0 rfl) ?_
  refine lv_iconst (v := 0) hx hb dX7_change_1 (by decide) ?_
  refine z_put (C := RX7) (T := TX7) (N := 45) (v := .int (0)) hx hb hts (by decide +kernel) tyX7 tyX7_ok nmX7 hown hK hS h_m rfl 0 (by decide) (hts (.fieldLink RX7 126 "PayLedgerModel" "thrown" "I") (by decide +kernel)) rfl rfl rfl (Nat.le_of_ble_eq_true rfl) dX7_change_2 (fun H locs hS => ?_)
  obtain ⟨w1, ew1⟩ : ∃ z : zw, z = va_up w (mm) (some (mo ad (0) (tb) (dd) (nI nw) (br) (yr) (wd))) := ⟨_, rfl⟩
  have hS : zS (zA w sz) D w1 s.heap H locs := by rw [ew1]; exact hS
  have h1_mm : w1 (mm) = some (mo ad (0) (tb) (dd) (nI nw) (br) (yr) (wd)) := by rw [ew1]; exact va_up_self _ _ _
  refine lv_aload_n hx hb dX7_change_5 rfl (lv_at hl 0 rfl) ?_
  refine lv_aload_n hx hb dX7_change_6 rfl (lv_at hl 0 rfl) ?_
  refine lv_iload_n hx hb dX7_change_7 rfl (lv_at hl 1 rfl) ?_
  refine z_rV (As := [.int (nI wi)]) (rest := [.ref (mm)]) (n := 1) ⟨hx, hb, hml, hown, hts⟩ (c_X7_noWorker l D cs w1 H.size mm ad (0) (tb) (dd) (br) (yr) (wd) nw wi (by omega) hwi h1_mm) gX7_change_X7_noWorker rfl ⟨rfl, by decide +kernel, by decide +kernel, by decide +kernel⟩ ⟨Nat.le_of_ble_eq_true rfl, Nat.le_of_ble_eq_true rfl⟩ hK hE hS rfl h1_mm rfl hl.1 rfl (Nat.le_of_ble_eq_true rfl) dX7_change_8 ⟨Nat.le_of_ble_eq_true rfl, Nat.le_of_ble_eq_true rfl⟩ (fun H locs hS => ?_)
  refine lv_if_ne (tgt := 27) hx hb dX7_change_11 (by decide) (fun cq9 => absurd rfl cq9) (fun _ => ?_)
  refine lv_iload_n hx hb dX7_change_14 rfl (lv_at hl 2 rfl) ?_
  refine lv_iconst (v := 4) hx hb dX7_change_15 (by decide) ?_
  refine lv_icmp_ne (tgt := 31) hx hb dX7_change_16 (by decide) (fun _ => ?_) (fun cq9 => absurd cq9 h4)
  refine lv_iconst (v := 0) hx hb dX7_change_31 (by decide) ?_
  refine lv_iconst (v := 1) hx hb dX7_change_32 (by decide) ?_
  refine z_rV (As := [.int (0), .int (1)]) (rest := []) (n := 2) ⟨hx, hb, hml, hown, hts⟩ (c0_X7_throwsIf l D cs w1 H.size mm ad (0) (tb) (dd) (nI nw) (br) (yr) (wd) 1 h1_mm) gX7_change_X7_throwsIf rfl ⟨rfl, by decide +kernel, by decide +kernel, by decide +kernel⟩ ⟨Nat.le_of_ble_eq_true rfl, Nat.le_of_ble_eq_true rfl⟩ hK hE hS rfl h1_mm rfl hl.1 rfl (Nat.le_of_ble_eq_true rfl) dX7_change_33 ⟨Nat.le_of_ble_eq_true rfl, Nat.le_of_ble_eq_true rfl⟩ (fun H locs hS => ?_)
  refine lv_if_ne (tgt := 60) hx hb dX7_change_36 (by decide) (fun cq9 => absurd rfl cq9) (fun _ => ?_)
  refine lv_aload_n hx hb dX7_change_39 rfl (lv_at hl 0 rfl) ?_
  refine lv_iload_n hx hb dX7_change_40 rfl (lv_at hl 2 rfl) ?_
  refine lv_lload_n hx hb dX7_change_41 rfl (lv_at hl 3 rfl) ?_
  refine z_rS (As := [.int (what), .long (v)]) (rest := [.ref (mm)]) (n := 2) ⟨hx, hb, hml, hown, hts⟩ (c_X7_mayBe l D cs w1 H.size (what) (v)) gX7_change_X7_mayBe rfl ⟨by decide +kernel, by decide +kernel, by decide +kernel⟩ ⟨Nat.le_of_ble_eq_true rfl, Nat.le_of_ble_eq_true rfl⟩ hK hE hS rfl hl.1 rfl (Nat.le_of_ble_eq_true rfl) dX7_change_42 ⟨Nat.le_of_ble_eq_true rfl, Nat.le_of_ble_eq_true rfl⟩ (fun H locs hS => ?_)
  refine lv_if_ne (tgt := 52) hx hb dX7_change_45 (by decide) (fun cq9 => absurd (by rw [mMay, if_neg h4]; exact hcan) cq9) (fun _ => ?_)
  refine lv_iconst (v := 1) hx hb dX7_change_48 (by decide) ?_
  refine lv_goto (tgt := 53) hx hb dX7_change_49 (by decide) ?_
  refine lv_iconst (v := 2) hx hb dX7_change_53 (by decide) ?_
  refine z_invV (As := [.int (1), .int (2)]) (rest := []) (n := 2) ⟨hx, hb, hml, hown, hts⟩ (c1_X7_throwsIf l D cs w1 H.size mm ad (0) (tb) (dd) (nI nw) (br) (yr) (wd) 2 h1_mm) gX7_change_X7_throwsIf rfl ⟨rfl, by decide +kernel, by decide +kernel, by decide +kernel⟩ ⟨Nat.le_of_ble_eq_true rfl, Nat.le_of_ble_eq_true rfl⟩ hK hE hS rfl h1_mm rfl hl.1 rfl (Nat.le_of_ble_eq_true rfl) dX7_change_54 ⟨Nat.le_of_ble_eq_true rfl, Nat.le_of_ble_eq_true rfl⟩ (fun v9 u2 H locs hq hS => ?_)
  obtain ⟨rfl, hx2⟩ := hq
  have h3_mm : u2 (mm) = some (mo ad (2) (tb) (dd) (nI nw) (br) (yr) (wd)) := hx2.at 0 rfl
  refine W.eq (g2 := F0 m 57 ls [.int (1)]) rfl ?_
  refine lv_if_eq (tgt := 61) hx hb dX7_change_57 (by decide) (fun cq9 => absurd cq9 (by decide)) (fun _ => ?_)
  have hex : zEx w u2 [(mm, (mo ad (2) (tb) (dd) (nI nw) (br) (yr) (wd)))] := ⟨(zm1 h3_mm zm0), fun a9 h9 => by rw [hx2.2 a9 (zm1 (show a9 ≠ mm from h9 (mm, (mo ad (2) (tb) (dd) (nI nw) (br) (yr) (wd))) (List.mem_of_getElem? (i := 0) rfl)) zm0), ew1, va_up_ne _ _ (show a9 ≠ mm from h9 (mm, (mo ad (2) (tb) (dd) (nI nw) (br) (yr) (wd))) (List.mem_of_getElem? (i := 0) rfl))]⟩
  exact z_vret hx hb hr hlocks hS (Nat.le_of_ble_eq_true rfl) (Nat.le_of_ble_eq_true rfl) dX7_change_60 ⟨rfl, zMQ.o hM h_m hinj hex⟩
set_option maxHeartbeats 4000000 in
set_option maxRecDepth 100000 in
theorem c0_X7_change (l : Launch) (D : va_G) (cs : Nat → ClassId) (w : zw) (sz : Nat) (mm : Nat) (ad : Nat → Nat) (J : Nat → Nat → Int64) (K : Nat → Nat → Int32) (th tb dd br yr wd : Int32) (nw wi : Nat) (v : Int64) (hinj : ∀ i j : Nat, i ≠ j → ad i ≠ ad j) (hM : zMA cs w ad J K) (hnw : nw ≤ 10) (hwi : wi < nw) (hcan : zCanB 0 v = 1) (h_m : w (mm) = some (mo ad (th) (tb) (dd) (nI nw) (br) (yr) (wd))) : zM l D cs yX7_change wsX7_change 3 0 0 w sz [.ref (mm), .int (nI wi), .int (0), .long (v)] (fun r w2 => r = none ∧ zMQ cs w w2 ad mm (mo ad (0) (tb) (dd) (nI nw) (br) (yr) (wd)) J (va_up K 14 (upd (K 14) wi (v.toInt32)))) := by
  refine z_met (cc := cX7_change) (maxL := 5) (ret := none) (by decide) rfl (Nat.le_of_ble_eq_true rfl) ?_
  intro p e s m below meth c hx hb hr hml hown hts hlocks hnm hsz hK hE hS ls hl
  have hl : lv_has ls 5 [(0, .ref (mm)), (1, .int (nI wi)), (2, .int (0)), (3, .long (v))] := hl
  have h_14 : w (ad 14) = some (eI cs (10) (K 14)) := hM 14 (by decide)
  refine lv_aload_n hx hb dX7_change_0 rfl (lv_at hl 0 rfl) ?_
  refine lv_iconst (v := 0) hx hb dX7_change_1 (by decide) ?_
  refine z_put (C := RX7) (T := TX7) (N := 45) (v := .int (0)) hx hb hts (by decide +kernel) tyX7 tyX7_ok nmX7 hown hK hS h_m rfl 0 (by decide) (hts (.fieldLink RX7 126 "PayLedgerModel" "thrown" "I") (by decide +kernel)) rfl rfl rfl (Nat.le_of_ble_eq_true rfl) dX7_change_2 (fun H locs hS => ?_)
  obtain ⟨w1, ew1⟩ : ∃ z : zw, z = va_up w (mm) (some (mo ad (0) (tb) (dd) (nI nw) (br) (yr) (wd))) := ⟨_, rfl⟩
  have hS : zS (zA w sz) D w1 s.heap H locs := by rw [ew1]; exact hS
  have h1_mm : w1 (mm) = some (mo ad (0) (tb) (dd) (nI nw) (br) (yr) (wd)) := by rw [ew1]; exact va_up_self _ _ _
  have h1_ad14 : w1 (ad 14) = some (eI cs (10) (K 14)) := by rw [ew1]; exact (va_up_ne _ _ (zne h_14 h_m (by intro q9; first | cases q9 | simp at q9))).trans h_14
  refine lv_aload_n hx hb dX7_change_5 rfl (lv_at hl 0 rfl) ?_
  refine lv_aload_n hx hb dX7_change_6 rfl (lv_at hl 0 rfl) ?_
  refine lv_iload_n hx hb dX7_change_7 rfl (lv_at hl 1 rfl) ?_
  refine z_rV (As := [.int (nI wi)]) (rest := [.ref (mm)]) (n := 1) ⟨hx, hb, hml, hown, hts⟩ (c_X7_noWorker l D cs w1 H.size mm ad (0) (tb) (dd) (br) (yr) (wd) nw wi (by omega) hwi h1_mm) gX7_change_X7_noWorker rfl ⟨rfl, by decide +kernel, by decide +kernel, by decide +kernel⟩ ⟨Nat.le_of_ble_eq_true rfl, Nat.le_of_ble_eq_true rfl⟩ hK hE hS rfl h1_mm rfl hl.1 rfl (Nat.le_of_ble_eq_true rfl) dX7_change_8 ⟨Nat.le_of_ble_eq_true rfl, Nat.le_of_ble_eq_true rfl⟩ (fun H locs hS => ?_)
  refine lv_if_ne (tgt := 27) hx hb dX7_change_11 (by decide) (fun cq9 => absurd rfl cq9) (fun _ => ?_)
  refine lv_iload_n hx hb dX7_change_14 rfl (lv_at hl 2 rfl) ?_
  refine lv_iconst (v := 4) hx hb dX7_change_15 (by decide) ?_
  refine lv_icmp_ne (tgt := 31) hx hb dX7_change_16 (by decide) (fun _ => ?_) (fun cq9 => absurd cq9 (by decide))
  refine lv_iconst (v := 0) hx hb dX7_change_31 (by decide) ?_
  refine lv_iconst (v := 1) hx hb dX7_change_32 (by decide) ?_
  refine z_rV (As := [.int (0), .int (1)]) (rest := []) (n := 2) ⟨hx, hb, hml, hown, hts⟩ (c0_X7_throwsIf l D cs w1 H.size mm ad (0) (tb) (dd) (nI nw) (br) (yr) (wd) 1 h1_mm) gX7_change_X7_throwsIf rfl ⟨rfl, by decide +kernel, by decide +kernel, by decide +kernel⟩ ⟨Nat.le_of_ble_eq_true rfl, Nat.le_of_ble_eq_true rfl⟩ hK hE hS rfl h1_mm rfl hl.1 rfl (Nat.le_of_ble_eq_true rfl) dX7_change_33 ⟨Nat.le_of_ble_eq_true rfl, Nat.le_of_ble_eq_true rfl⟩ (fun H locs hS => ?_)
  refine lv_if_ne (tgt := 60) hx hb dX7_change_36 (by decide) (fun cq9 => absurd rfl cq9) (fun _ => ?_)
  refine lv_aload_n hx hb dX7_change_39 rfl (lv_at hl 0 rfl) ?_
  refine lv_iload_n hx hb dX7_change_40 rfl (lv_at hl 2 rfl) ?_
  refine lv_lload_n hx hb dX7_change_41 rfl (lv_at hl 3 rfl) ?_
  refine z_rS (As := [.int (0), .long (v)]) (rest := [.ref (mm)]) (n := 2) ⟨hx, hb, hml, hown, hts⟩ (c_X7_mayBe l D cs w1 H.size (0) (v)) gX7_change_X7_mayBe rfl ⟨by decide +kernel, by decide +kernel, by decide +kernel⟩ ⟨Nat.le_of_ble_eq_true rfl, Nat.le_of_ble_eq_true rfl⟩ hK hE hS rfl hl.1 rfl (Nat.le_of_ble_eq_true rfl) dX7_change_42 ⟨Nat.le_of_ble_eq_true rfl, Nat.le_of_ble_eq_true rfl⟩ (fun H locs hS => ?_)
  refine lv_if_ne (tgt := 52) hx hb dX7_change_45 (by decide) (fun _ => ?_) (fun cq9 => absurd cq9 (by rw [mMay, if_neg (by decide), hcan]; decide))
  refine lv_iconst (v := 0) hx hb dX7_change_52 (by decide) ?_
  refine lv_iconst (v := 2) hx hb dX7_change_53 (by decide) ?_
  refine z_rV (As := [.int (0), .int (2)]) (rest := []) (n := 2) ⟨hx, hb, hml, hown, hts⟩ (c0_X7_throwsIf l D cs w1 H.size mm ad (0) (tb) (dd) (nI nw) (br) (yr) (wd) 2 h1_mm) gX7_change_X7_throwsIf rfl ⟨rfl, by decide +kernel, by decide +kernel, by decide +kernel⟩ ⟨Nat.le_of_ble_eq_true rfl, Nat.le_of_ble_eq_true rfl⟩ hK hE hS rfl h1_mm rfl hl.1 rfl (Nat.le_of_ble_eq_true rfl) dX7_change_54 ⟨Nat.le_of_ble_eq_true rfl, Nat.le_of_ble_eq_true rfl⟩ (fun H locs hS => ?_)
  refine lv_if_eq (tgt := 61) hx hb dX7_change_57 (by decide) (fun _ => ?_) (fun cq9 => absurd rfl cq9)
  refine lv_iload_n hx hb dX7_change_61 rfl (lv_at hl 2 rfl) ?_
  refine lv_tableIn (off := 34) (tgt := 96) hx hb dX7_change_62 (by rw [(show (0 : Int32) = 0 from rfl)]; decide) (by rw [(show (0 : Int32) = 0 from rfl)]; decide) (by rw [(show (0 : Int32) = 0 from rfl)]; rfl) (by decide) ?_
  refine lv_aload_n hx hb dX7_change_96 rfl (lv_at hl 0 rfl) ?_
  refine z_get (C := RX7) (T := TX7) (N := 45) (v := .ref (ad 14)) hx hb hts (by decide +kernel) hown hK hS h1_mm rfl 14 (by decide) (hts (.fieldLink RX7 45 "PayLedgerModel" "hasMethod" "[I") (by decide +kernel)) rfl dX7_change_97 ?_
  refine lv_iload_n hx hb dX7_change_100 rfl (lv_at hl 1 rfl) ?_
  refine lv_lload_n hx hb dX7_change_101 rfl (lv_at hl 3 rfl) ?_
  refine lv_l2i (v := ((v : Int64).toInt32)) hx hb dX7_change_102 rfl ?_
  refine z_iast hx hb hK hS h1_ad14 (vp_in_nI (by omega) (by decide)) dX7_change_103 (fun H locs hS => ?_)
  obtain ⟨w2, ew2⟩ : ∃ z : zw, z = va_up w1 (ad 14) (some (eI cs (10) (upd (K 14) (nI wi : Int32).toNatClampNeg (((v : Int64).toInt32))))) := ⟨_, rfl⟩
  have hS : zS (zA w sz) D w2 s.heap H locs := by rw [ew2]; exact hS
  have h2_ad14 : w2 (ad 14) = some (eI cs (10) (upd (K 14) (nI wi : Int32).toNatClampNeg (((v : Int64).toInt32)))) := by rw [ew2]; exact va_up_self _ _ _
  have h2_mm : w2 (mm) = some (mo ad (0) (tb) (dd) (nI nw) (br) (yr) (wd)) := by rw [ew2]; exact (va_up_ne _ _ (zne h1_mm h1_ad14 (by intro q9; first | cases q9 | simp at q9))).trans h1_mm
  have h2_ad14 : w2 (ad 14) = some (eI cs (10) (upd (K 14) (wi) (((v : Int64).toInt32)))) := by rw [nI_clamp (by omega)] at h2_ad14; exact h2_ad14
  refine lv_goto (tgt := 164) hx hb dX7_change_104 (by decide) ?_
  have hex : zEx w w2 [(mm, (mo ad (0) (tb) (dd) (nI nw) (br) (yr) (wd))), (ad 14, (eI cs (10) (upd (K 14) (wi) (((v : Int64).toInt32)))))] := ⟨(zm1 h2_mm (zm1 h2_ad14 zm0)), fun a9 h9 => by rw [ew2, va_up_ne _ _ (show a9 ≠ ad 14 from h9 (ad 14, (eI cs (10) (upd (K 14) (wi) (((v : Int64).toInt32))))) (List.mem_of_getElem? (i := 1) rfl)), ew1, va_up_ne _ _ (show a9 ≠ mm from h9 (mm, (mo ad (0) (tb) (dd) (nI nw) (br) (yr) (wd))) (List.mem_of_getElem? (i := 0) rfl))]⟩
  exact z_vret hx hb hr hlocks hS (Nat.le_of_ble_eq_true rfl) (Nat.le_of_ble_eq_true rfl) dX7_change_164 ⟨rfl, zMQ.of [14] (by decide) hM h_m hinj hex (fun _ _ => rfl) (fun s hs => va_up_ne _ _ (fun e => hs (by rw [e]; decide)))⟩
set_option maxHeartbeats 4000000 in
set_option maxRecDepth 100000 in
theorem c1_X7_change (l : Launch) (D : va_G) (cs : Nat → ClassId) (w : zw) (sz : Nat) (mm : Nat) (ad : Nat → Nat) (J : Nat → Nat → Int64) (K : Nat → Nat → Int32) (th tb dd br yr wd : Int32) (nw wi : Nat) (v : Int64) (hinj : ∀ i j : Nat, i ≠ j → ad i ≠ ad j) (hM : zMA cs w ad J K) (hnw : nw ≤ 10) (hwi : wi < nw) (hcan : zCanB 1 v = 1) (h_m : w (mm) = some (mo ad (th) (tb) (dd) (nI nw) (br) (yr) (wd))) : zM l D cs yX7_change wsX7_change 3 0 0 w sz [.ref (mm), .int (nI wi), .int (1), .long (v)] (fun r w2 => r = none ∧ zMQ cs w w2 ad mm (mo ad (0) (tb) (dd) (nI nw) (br) (yr) (wd)) (va_up J 16 (vp_updL (J 16) wi (v))) K) := by
  refine z_met (cc := cX7_change) (maxL := 5) (ret := none) (by decide) rfl (Nat.le_of_ble_eq_true rfl) ?_
  intro p e s m below meth c hx hb hr hml hown hts hlocks hnm hsz hK hE hS ls hl
  have hl : lv_has ls 5 [(0, .ref (mm)), (1, .int (nI wi)), (2, .int (1)), (3, .long (v))] := hl
  have h_16 : w (ad 16) = some (eJ cs (10) (J 16)) := hM 16 (by decide)
  refine lv_aload_n hx hb dX7_change_0 rfl (lv_at hl 0 rfl) ?_
  refine lv_iconst (v := 0) hx hb dX7_change_1 (by decide) ?_
  refine z_put (C := RX7) (T := TX7) (N := 45) (v := .int (0)) hx hb hts (by decide +kernel) tyX7 tyX7_ok nmX7 hown hK hS h_m rfl 0 (by decide) (hts (.fieldLink RX7 126 "PayLedgerModel" "thrown" "I") (by decide +kernel)) rfl rfl rfl (Nat.le_of_ble_eq_true rfl) dX7_change_2 (fun H locs hS => ?_)
  obtain ⟨w1, ew1⟩ : ∃ z : zw, z = va_up w (mm) (some (mo ad (0) (tb) (dd) (nI nw) (br) (yr) (wd))) := ⟨_, rfl⟩
  have hS : zS (zA w sz) D w1 s.heap H locs := by rw [ew1]; exact hS
  have h1_mm : w1 (mm) = some (mo ad (0) (tb) (dd) (nI nw) (br) (yr) (wd)) := by rw [ew1]; exact va_up_self _ _ _
  have h1_ad16 : w1 (ad 16) = some (eJ cs (10) (J 16)) := by rw [ew1]; exact (va_up_ne _ _ (zne h_16 h_m (by intro q9; first | cases q9 | simp at q9))).trans h_16
  refine lv_aload_n hx hb dX7_change_5 rfl (lv_at hl 0 rfl) ?_
  refine lv_aload_n hx hb dX7_change_6 rfl (lv_at hl 0 rfl) ?_
  refine lv_iload_n hx hb dX7_change_7 rfl (lv_at hl 1 rfl) ?_
  refine z_rV (As := [.int (nI wi)]) (rest := [.ref (mm)]) (n := 1) ⟨hx, hb, hml, hown, hts⟩ (c_X7_noWorker l D cs w1 H.size mm ad (0) (tb) (dd) (br) (yr) (wd) nw wi (by omega) hwi h1_mm) gX7_change_X7_noWorker rfl ⟨rfl, by decide +kernel, by decide +kernel, by decide +kernel⟩ ⟨Nat.le_of_ble_eq_true rfl, Nat.le_of_ble_eq_true rfl⟩ hK hE hS rfl h1_mm rfl hl.1 rfl (Nat.le_of_ble_eq_true rfl) dX7_change_8 ⟨Nat.le_of_ble_eq_true rfl, Nat.le_of_ble_eq_true rfl⟩ (fun H locs hS => ?_)
  refine lv_if_ne (tgt := 27) hx hb dX7_change_11 (by decide) (fun cq9 => absurd rfl cq9) (fun _ => ?_)
  refine lv_iload_n hx hb dX7_change_14 rfl (lv_at hl 2 rfl) ?_
  refine lv_iconst (v := 4) hx hb dX7_change_15 (by decide) ?_
  refine lv_icmp_ne (tgt := 31) hx hb dX7_change_16 (by decide) (fun _ => ?_) (fun cq9 => absurd cq9 (by decide))
  refine lv_iconst (v := 0) hx hb dX7_change_31 (by decide) ?_
  refine lv_iconst (v := 1) hx hb dX7_change_32 (by decide) ?_
  refine z_rV (As := [.int (0), .int (1)]) (rest := []) (n := 2) ⟨hx, hb, hml, hown, hts⟩ (c0_X7_throwsIf l D cs w1 H.size mm ad (0) (tb) (dd) (nI nw) (br) (yr) (wd) 1 h1_mm) gX7_change_X7_throwsIf rfl ⟨rfl, by decide +kernel, by decide +kernel, by decide +kernel⟩ ⟨Nat.le_of_ble_eq_true rfl, Nat.le_of_ble_eq_true rfl⟩ hK hE hS rfl h1_mm rfl hl.1 rfl (Nat.le_of_ble_eq_true rfl) dX7_change_33 ⟨Nat.le_of_ble_eq_true rfl, Nat.le_of_ble_eq_true rfl⟩ (fun H locs hS => ?_)
  refine lv_if_ne (tgt := 60) hx hb dX7_change_36 (by decide) (fun cq9 => absurd rfl cq9) (fun _ => ?_)
  refine lv_aload_n hx hb dX7_change_39 rfl (lv_at hl 0 rfl) ?_
  refine lv_iload_n hx hb dX7_change_40 rfl (lv_at hl 2 rfl) ?_
  refine lv_lload_n hx hb dX7_change_41 rfl (lv_at hl 3 rfl) ?_
  refine z_rS (As := [.int (1), .long (v)]) (rest := [.ref (mm)]) (n := 2) ⟨hx, hb, hml, hown, hts⟩ (c_X7_mayBe l D cs w1 H.size (1) (v)) gX7_change_X7_mayBe rfl ⟨by decide +kernel, by decide +kernel, by decide +kernel⟩ ⟨Nat.le_of_ble_eq_true rfl, Nat.le_of_ble_eq_true rfl⟩ hK hE hS rfl hl.1 rfl (Nat.le_of_ble_eq_true rfl) dX7_change_42 ⟨Nat.le_of_ble_eq_true rfl, Nat.le_of_ble_eq_true rfl⟩ (fun H locs hS => ?_)
  refine lv_if_ne (tgt := 52) hx hb dX7_change_45 (by decide) (fun _ => ?_) (fun cq9 => absurd cq9 (by rw [mMay, if_neg (by decide), hcan]; decide))
  refine lv_iconst (v := 0) hx hb dX7_change_52 (by decide) ?_
  refine lv_iconst (v := 2) hx hb dX7_change_53 (by decide) ?_
  refine z_rV (As := [.int (0), .int (2)]) (rest := []) (n := 2) ⟨hx, hb, hml, hown, hts⟩ (c0_X7_throwsIf l D cs w1 H.size mm ad (0) (tb) (dd) (nI nw) (br) (yr) (wd) 2 h1_mm) gX7_change_X7_throwsIf rfl ⟨rfl, by decide +kernel, by decide +kernel, by decide +kernel⟩ ⟨Nat.le_of_ble_eq_true rfl, Nat.le_of_ble_eq_true rfl⟩ hK hE hS rfl h1_mm rfl hl.1 rfl (Nat.le_of_ble_eq_true rfl) dX7_change_54 ⟨Nat.le_of_ble_eq_true rfl, Nat.le_of_ble_eq_true rfl⟩ (fun H locs hS => ?_)
  refine lv_if_eq (tgt := 61) hx hb dX7_change_57 (by decide) (fun _ => ?_) (fun cq9 => absurd rfl cq9)
  refine lv_iload_n hx hb dX7_change_61 rfl (lv_at hl 2 rfl) ?_
  refine lv_tableIn (off := 45) (tgt := 107) hx hb dX7_change_62 (by rw [(show (1 : Int32) = 1 from rfl)]; decide) (by rw [(show (1 : Int32) = 1 from rfl)]; decide) (by rw [(show (1 : Int32) = 1 from rfl)]; rfl) (by decide) ?_
  refine lv_aload_n hx hb dX7_change_107 rfl (lv_at hl 0 rfl) ?_
  refine z_get (C := RX7) (T := TX7) (N := 45) (v := .ref (ad 16)) hx hb hts (by decide +kernel) hown hK hS h1_mm rfl 16 (by decide) (hts (.fieldLink RX7 51 "PayLedgerModel" "hasRelief" "[J") (by decide +kernel)) rfl dX7_change_108 ?_
  refine lv_iload_n hx hb dX7_change_111 rfl (lv_at hl 1 rfl) ?_
  refine lv_lload_n hx hb dX7_change_112 rfl (lv_at hl 3 rfl) ?_
  refine z_last hx hb hK hS h1_ad16 (vp_in_nI (by omega) (by decide)) dX7_change_113 (fun H locs hS => ?_)
  obtain ⟨w2, ew2⟩ : ∃ z : zw, z = va_up w1 (ad 16) (some (eJ cs (10) (vp_updL (J 16) (nI wi : Int32).toNatClampNeg (v)))) := ⟨_, rfl⟩
  have hS : zS (zA w sz) D w2 s.heap H locs := by rw [ew2]; exact hS
  have h2_ad16 : w2 (ad 16) = some (eJ cs (10) (vp_updL (J 16) (nI wi : Int32).toNatClampNeg (v))) := by rw [ew2]; exact va_up_self _ _ _
  have h2_mm : w2 (mm) = some (mo ad (0) (tb) (dd) (nI nw) (br) (yr) (wd)) := by rw [ew2]; exact (va_up_ne _ _ (zne h1_mm h1_ad16 (by intro q9; first | cases q9 | simp at q9))).trans h1_mm
  have h2_ad16 : w2 (ad 16) = some (eJ cs (10) (vp_updL (J 16) (wi) (v))) := by rw [nI_clamp (by omega)] at h2_ad16; exact h2_ad16
  refine lv_goto (tgt := 164) hx hb dX7_change_114 (by decide) ?_
  have hex : zEx w w2 [(mm, (mo ad (0) (tb) (dd) (nI nw) (br) (yr) (wd))), (ad 16, (eJ cs (10) (vp_updL (J 16) (wi) (v))))] := ⟨(zm1 h2_mm (zm1 h2_ad16 zm0)), fun a9 h9 => by rw [ew2, va_up_ne _ _ (show a9 ≠ ad 16 from h9 (ad 16, (eJ cs (10) (vp_updL (J 16) (wi) (v)))) (List.mem_of_getElem? (i := 1) rfl)), ew1, va_up_ne _ _ (show a9 ≠ mm from h9 (mm, (mo ad (0) (tb) (dd) (nI nw) (br) (yr) (wd))) (List.mem_of_getElem? (i := 0) rfl))]⟩
  exact z_vret hx hb hr hlocks hS (Nat.le_of_ble_eq_true rfl) (Nat.le_of_ble_eq_true rfl) dX7_change_164 ⟨rfl, zMQ.of [16] (by decide) hM h_m hinj hex (fun s hs => va_up_ne _ _ (fun e => hs (by rw [e]; decide))) (fun _ _ => rfl)⟩
set_option maxHeartbeats 4000000 in
set_option maxRecDepth 100000 in
theorem c2_X7_change (l : Launch) (D : va_G) (cs : Nat → ClassId) (w : zw) (sz : Nat) (mm : Nat) (ad : Nat → Nat) (J : Nat → Nat → Int64) (K : Nat → Nat → Int32) (th tb dd br yr wd : Int32) (nw wi : Nat) (v : Int64) (hinj : ∀ i j : Nat, i ≠ j → ad i ≠ ad j) (hM : zMA cs w ad J K) (hnw : nw ≤ 10) (hwi : wi < nw) (hcan : zCanB 2 v = 1) (h_m : w (mm) = some (mo ad (th) (tb) (dd) (nI nw) (br) (yr) (wd))) : zM l D cs yX7_change wsX7_change 3 0 0 w sz [.ref (mm), .int (nI wi), .int (2), .long (v)] (fun r w2 => r = none ∧ zMQ cs w w2 ad mm (mo ad (0) (tb) (dd) (nI nw) (br) (yr) (wd)) (va_up J 17 (vp_updL (J 17) wi (v))) K) := by
  refine z_met (cc := cX7_change) (maxL := 5) (ret := none) (by decide) rfl (Nat.le_of_ble_eq_true rfl) ?_
  intro p e s m below meth c hx hb hr hml hown hts hlocks hnm hsz hK hE hS ls hl
  have hl : lv_has ls 5 [(0, .ref (mm)), (1, .int (nI wi)), (2, .int (2)), (3, .long (v))] := hl
  have h_17 : w (ad 17) = some (eJ cs (10) (J 17)) := hM 17 (by decide)
  refine lv_aload_n hx hb dX7_change_0 rfl (lv_at hl 0 rfl) ?_
  refine lv_iconst (v := 0) hx hb dX7_change_1 (by decide) ?_
  refine z_put (C := RX7) (T := TX7) (N := 45) (v := .int (0)) hx hb hts (by decide +kernel) tyX7 tyX7_ok nmX7 hown hK hS h_m rfl 0 (by decide) (hts (.fieldLink RX7 126 "PayLedgerModel" "thrown" "I") (by decide +kernel)) rfl rfl rfl (Nat.le_of_ble_eq_true rfl) dX7_change_2 (fun H locs hS => ?_)
  obtain ⟨w1, ew1⟩ : ∃ z : zw, z = va_up w (mm) (some (mo ad (0) (tb) (dd) (nI nw) (br) (yr) (wd))) := ⟨_, rfl⟩
  have hS : zS (zA w sz) D w1 s.heap H locs := by rw [ew1]; exact hS
  have h1_mm : w1 (mm) = some (mo ad (0) (tb) (dd) (nI nw) (br) (yr) (wd)) := by rw [ew1]; exact va_up_self _ _ _
  have h1_ad17 : w1 (ad 17) = some (eJ cs (10) (J 17)) := by rw [ew1]; exact (va_up_ne _ _ (zne h_17 h_m (by intro q9; first | cases q9 | simp at q9))).trans h_17
  refine lv_aload_n hx hb dX7_change_5 rfl (lv_at hl 0 rfl) ?_
  refine lv_aload_n hx hb dX7_change_6 rfl (lv_at hl 0 rfl) ?_
  refine lv_iload_n hx hb dX7_change_7 rfl (lv_at hl 1 rfl) ?_
  refine z_rV (As := [.int (nI wi)]) (rest := [.ref (mm)]) (n := 1) ⟨hx, hb, hml, hown, hts⟩ (c_X7_noWorker l D cs w1 H.size mm ad (0) (tb) (dd) (br) (yr) (wd) nw wi (by omega) hwi h1_mm) gX7_change_X7_noWorker rfl ⟨rfl, by decide +kernel, by decide +kernel, by decide +kernel⟩ ⟨Nat.le_of_ble_eq_true rfl, Nat.le_of_ble_eq_true rfl⟩ hK hE hS rfl h1_mm rfl hl.1 rfl (Nat.le_of_ble_eq_true rfl) dX7_change_8 ⟨Nat.le_of_ble_eq_true rfl, Nat.le_of_ble_eq_true rfl⟩ (fun H locs hS => ?_)
  refine lv_if_ne (tgt := 27) hx hb dX7_change_11 (by decide) (fun cq9 => absurd rfl cq9) (fun _ => ?_)
  refine lv_iload_n hx hb dX7_change_14 rfl (lv_at hl 2 rfl) ?_
  refine lv_iconst (v := 4) hx hb dX7_change_15 (by decide) ?_
  refine lv_icmp_ne (tgt := 31) hx hb dX7_change_16 (by decide) (fun _ => ?_) (fun cq9 => absurd cq9 (by decide))
  refine lv_iconst (v := 0) hx hb dX7_change_31 (by decide) ?_
  refine lv_iconst (v := 1) hx hb dX7_change_32 (by decide) ?_
  refine z_rV (As := [.int (0), .int (1)]) (rest := []) (n := 2) ⟨hx, hb, hml, hown, hts⟩ (c0_X7_throwsIf l D cs w1 H.size mm ad (0) (tb) (dd) (nI nw) (br) (yr) (wd) 1 h1_mm) gX7_change_X7_throwsIf rfl ⟨rfl, by decide +kernel, by decide +kernel, by decide +kernel⟩ ⟨Nat.le_of_ble_eq_true rfl, Nat.le_of_ble_eq_true rfl⟩ hK hE hS rfl h1_mm rfl hl.1 rfl (Nat.le_of_ble_eq_true rfl) dX7_change_33 ⟨Nat.le_of_ble_eq_true rfl, Nat.le_of_ble_eq_true rfl⟩ (fun H locs hS => ?_)
  refine lv_if_ne (tgt := 60) hx hb dX7_change_36 (by decide) (fun cq9 => absurd rfl cq9) (fun _ => ?_)
  refine lv_aload_n hx hb dX7_change_39 rfl (lv_at hl 0 rfl) ?_
  refine lv_iload_n hx hb dX7_change_40 rfl (lv_at hl 2 rfl) ?_
  refine lv_lload_n hx hb dX7_change_41 rfl (lv_at hl 3 rfl) ?_
  refine z_rS (As := [.int (2), .long (v)]) (rest := [.ref (mm)]) (n := 2) ⟨hx, hb, hml, hown, hts⟩ (c_X7_mayBe l D cs w1 H.size (2) (v)) gX7_change_X7_mayBe rfl ⟨by decide +kernel, by decide +kernel, by decide +kernel⟩ ⟨Nat.le_of_ble_eq_true rfl, Nat.le_of_ble_eq_true rfl⟩ hK hE hS rfl hl.1 rfl (Nat.le_of_ble_eq_true rfl) dX7_change_42 ⟨Nat.le_of_ble_eq_true rfl, Nat.le_of_ble_eq_true rfl⟩ (fun H locs hS => ?_)
  refine lv_if_ne (tgt := 52) hx hb dX7_change_45 (by decide) (fun _ => ?_) (fun cq9 => absurd cq9 (by rw [mMay, if_neg (by decide), hcan]; decide))
  refine lv_iconst (v := 0) hx hb dX7_change_52 (by decide) ?_
  refine lv_iconst (v := 2) hx hb dX7_change_53 (by decide) ?_
  refine z_rV (As := [.int (0), .int (2)]) (rest := []) (n := 2) ⟨hx, hb, hml, hown, hts⟩ (c0_X7_throwsIf l D cs w1 H.size mm ad (0) (tb) (dd) (nI nw) (br) (yr) (wd) 2 h1_mm) gX7_change_X7_throwsIf rfl ⟨rfl, by decide +kernel, by decide +kernel, by decide +kernel⟩ ⟨Nat.le_of_ble_eq_true rfl, Nat.le_of_ble_eq_true rfl⟩ hK hE hS rfl h1_mm rfl hl.1 rfl (Nat.le_of_ble_eq_true rfl) dX7_change_54 ⟨Nat.le_of_ble_eq_true rfl, Nat.le_of_ble_eq_true rfl⟩ (fun H locs hS => ?_)
  refine lv_if_eq (tgt := 61) hx hb dX7_change_57 (by decide) (fun _ => ?_) (fun cq9 => absurd rfl cq9)
  refine lv_iload_n hx hb dX7_change_61 rfl (lv_at hl 2 rfl) ?_
  refine lv_tableIn (off := 55) (tgt := 117) hx hb dX7_change_62 (by rw [(show (2 : Int32) = 2 from rfl)]; decide) (by rw [(show (2 : Int32) = 2 from rfl)]; decide) (by rw [(show (2 : Int32) = 2 from rfl)]; rfl) (by decide) ?_
  refine lv_aload_n hx hb dX7_change_117 rfl (lv_at hl 0 rfl) ?_
  refine z_get (C := RX7) (T := TX7) (N := 45) (v := .ref (ad 17)) hx hb hts (by decide +kernel) hown hK hS h1_mm rfl 17 (by decide) (hts (.fieldLink RX7 54 "PayLedgerModel" "hasCredit" "[J") (by decide +kernel)) rfl dX7_change_118 ?_
  refine lv_iload_n hx hb dX7_change_121 rfl (lv_at hl 1 rfl) ?_
  refine lv_lload_n hx hb dX7_change_122 rfl (lv_at hl 3 rfl) ?_
  refine z_last hx hb hK hS h1_ad17 (vp_in_nI (by omega) (by decide)) dX7_change_123 (fun H locs hS => ?_)
  obtain ⟨w2, ew2⟩ : ∃ z : zw, z = va_up w1 (ad 17) (some (eJ cs (10) (vp_updL (J 17) (nI wi : Int32).toNatClampNeg (v)))) := ⟨_, rfl⟩
  have hS : zS (zA w sz) D w2 s.heap H locs := by rw [ew2]; exact hS
  have h2_ad17 : w2 (ad 17) = some (eJ cs (10) (vp_updL (J 17) (nI wi : Int32).toNatClampNeg (v))) := by rw [ew2]; exact va_up_self _ _ _
  have h2_mm : w2 (mm) = some (mo ad (0) (tb) (dd) (nI nw) (br) (yr) (wd)) := by rw [ew2]; exact (va_up_ne _ _ (zne h1_mm h1_ad17 (by intro q9; first | cases q9 | simp at q9))).trans h1_mm
  have h2_ad17 : w2 (ad 17) = some (eJ cs (10) (vp_updL (J 17) (wi) (v))) := by rw [nI_clamp (by omega)] at h2_ad17; exact h2_ad17
  refine lv_goto (tgt := 164) hx hb dX7_change_124 (by decide) ?_
  have hex : zEx w w2 [(mm, (mo ad (0) (tb) (dd) (nI nw) (br) (yr) (wd))), (ad 17, (eJ cs (10) (vp_updL (J 17) (wi) (v))))] := ⟨(zm1 h2_mm (zm1 h2_ad17 zm0)), fun a9 h9 => by rw [ew2, va_up_ne _ _ (show a9 ≠ ad 17 from h9 (ad 17, (eJ cs (10) (vp_updL (J 17) (wi) (v)))) (List.mem_of_getElem? (i := 1) rfl)), ew1, va_up_ne _ _ (show a9 ≠ mm from h9 (mm, (mo ad (0) (tb) (dd) (nI nw) (br) (yr) (wd))) (List.mem_of_getElem? (i := 0) rfl))]⟩
  exact z_vret hx hb hr hlocks hS (Nat.le_of_ble_eq_true rfl) (Nat.le_of_ble_eq_true rfl) dX7_change_164 ⟨rfl, zMQ.of [17] (by decide) hM h_m hinj hex (fun s hs => va_up_ne _ _ (fun e => hs (by rw [e]; decide))) (fun _ _ => rfl)⟩
set_option maxHeartbeats 4000000 in
set_option maxRecDepth 100000 in
theorem c3_X7_change (l : Launch) (D : va_G) (cs : Nat → ClassId) (w : zw) (sz : Nat) (mm : Nat) (ad : Nat → Nat) (J : Nat → Nat → Int64) (K : Nat → Nat → Int32) (th tb dd br yr wd : Int32) (nw wi : Nat) (v : Int64) (hinj : ∀ i j : Nat, i ≠ j → ad i ≠ ad j) (hM : zMA cs w ad J K) (hnw : nw ≤ 10) (hwi : wi < nw) (hcan : zCanB 3 v = 1) (h_m : w (mm) = some (mo ad (th) (tb) (dd) (nI nw) (br) (yr) (wd))) : zM l D cs yX7_change wsX7_change 3 0 0 w sz [.ref (mm), .int (nI wi), .int (3), .long (v)] (fun r w2 => r = none ∧ zMQ cs w w2 ad mm (mo ad (0) (tb) (dd) (nI nw) (br) (yr) (wd)) (va_up J 18 (vp_updL (J 18) wi (v))) K) := by
  refine z_met (cc := cX7_change) (maxL := 5) (ret := none) (by decide) rfl (Nat.le_of_ble_eq_true rfl) ?_
  intro p e s m below meth c hx hb hr hml hown hts hlocks hnm hsz hK hE hS ls hl
  have hl : lv_has ls 5 [(0, .ref (mm)), (1, .int (nI wi)), (2, .int (3)), (3, .long (v))] := hl
  have h_18 : w (ad 18) = some (eJ cs (10) (J 18)) := hM 18 (by decide)
  refine lv_aload_n hx hb dX7_change_0 rfl (lv_at hl 0 rfl) ?_
  refine lv_iconst (v := 0) hx hb dX7_change_1 (by decide) ?_
  refine z_put (C := RX7) (T := TX7) (N := 45) (v := .int (0)) hx hb hts (by decide +kernel) tyX7 tyX7_ok nmX7 hown hK hS h_m rfl 0 (by decide) (hts (.fieldLink RX7 126 "PayLedgerModel" "thrown" "I") (by decide +kernel)) rfl rfl rfl (Nat.le_of_ble_eq_true rfl) dX7_change_2 (fun H locs hS => ?_)
  obtain ⟨w1, ew1⟩ : ∃ z : zw, z = va_up w (mm) (some (mo ad (0) (tb) (dd) (nI nw) (br) (yr) (wd))) := ⟨_, rfl⟩
  have hS : zS (zA w sz) D w1 s.heap H locs := by rw [ew1]; exact hS
  have h1_mm : w1 (mm) = some (mo ad (0) (tb) (dd) (nI nw) (br) (yr) (wd)) := by rw [ew1]; exact va_up_self _ _ _
  have h1_ad18 : w1 (ad 18) = some (eJ cs (10) (J 18)) := by rw [ew1]; exact (va_up_ne _ _ (zne h_18 h_m (by intro q9; first | cases q9 | simp at q9))).trans h_18
  refine lv_aload_n hx hb dX7_change_5 rfl (lv_at hl 0 rfl) ?_
  refine lv_aload_n hx hb dX7_change_6 rfl (lv_at hl 0 rfl) ?_
  refine lv_iload_n hx hb dX7_change_7 rfl (lv_at hl 1 rfl) ?_
  refine z_rV (As := [.int (nI wi)]) (rest := [.ref (mm)]) (n := 1) ⟨hx, hb, hml, hown, hts⟩ (c_X7_noWorker l D cs w1 H.size mm ad (0) (tb) (dd) (br) (yr) (wd) nw wi (by omega) hwi h1_mm) gX7_change_X7_noWorker rfl ⟨rfl, by decide +kernel, by decide +kernel, by decide +kernel⟩ ⟨Nat.le_of_ble_eq_true rfl, Nat.le_of_ble_eq_true rfl⟩ hK hE hS rfl h1_mm rfl hl.1 rfl (Nat.le_of_ble_eq_true rfl) dX7_change_8 ⟨Nat.le_of_ble_eq_true rfl, Nat.le_of_ble_eq_true rfl⟩ (fun H locs hS => ?_)
  refine lv_if_ne (tgt := 27) hx hb dX7_change_11 (by decide) (fun cq9 => absurd rfl cq9) (fun _ => ?_)
  refine lv_iload_n hx hb dX7_change_14 rfl (lv_at hl 2 rfl) ?_
  refine lv_iconst (v := 4) hx hb dX7_change_15 (by decide) ?_
  refine lv_icmp_ne (tgt := 31) hx hb dX7_change_16 (by decide) (fun _ => ?_) (fun cq9 => absurd cq9 (by decide))
  refine lv_iconst (v := 0) hx hb dX7_change_31 (by decide) ?_
  refine lv_iconst (v := 1) hx hb dX7_change_32 (by decide) ?_
  refine z_rV (As := [.int (0), .int (1)]) (rest := []) (n := 2) ⟨hx, hb, hml, hown, hts⟩ (c0_X7_throwsIf l D cs w1 H.size mm ad (0) (tb) (dd) (nI nw) (br) (yr) (wd) 1 h1_mm) gX7_change_X7_throwsIf rfl ⟨rfl, by decide +kernel, by decide +kernel, by decide +kernel⟩ ⟨Nat.le_of_ble_eq_true rfl, Nat.le_of_ble_eq_true rfl⟩ hK hE hS rfl h1_mm rfl hl.1 rfl (Nat.le_of_ble_eq_true rfl) dX7_change_33 ⟨Nat.le_of_ble_eq_true rfl, Nat.le_of_ble_eq_true rfl⟩ (fun H locs hS => ?_)
  refine lv_if_ne (tgt := 60) hx hb dX7_change_36 (by decide) (fun cq9 => absurd rfl cq9) (fun _ => ?_)
  refine lv_aload_n hx hb dX7_change_39 rfl (lv_at hl 0 rfl) ?_
  refine lv_iload_n hx hb dX7_change_40 rfl (lv_at hl 2 rfl) ?_
  refine lv_lload_n hx hb dX7_change_41 rfl (lv_at hl 3 rfl) ?_
  refine z_rS (As := [.int (3), .long (v)]) (rest := [.ref (mm)]) (n := 2) ⟨hx, hb, hml, hown, hts⟩ (c_X7_mayBe l D cs w1 H.size (3) (v)) gX7_change_X7_mayBe rfl ⟨by decide +kernel, by decide +kernel, by decide +kernel⟩ ⟨Nat.le_of_ble_eq_true rfl, Nat.le_of_ble_eq_true rfl⟩ hK hE hS rfl hl.1 rfl (Nat.le_of_ble_eq_true rfl) dX7_change_42 ⟨Nat.le_of_ble_eq_true rfl, Nat.le_of_ble_eq_true rfl⟩ (fun H locs hS => ?_)
  refine lv_if_ne (tgt := 52) hx hb dX7_change_45 (by decide) (fun _ => ?_) (fun cq9 => absurd cq9 (by rw [mMay, if_neg (by decide), hcan]; decide))
  refine lv_iconst (v := 0) hx hb dX7_change_52 (by decide) ?_
  refine lv_iconst (v := 2) hx hb dX7_change_53 (by decide) ?_
  refine z_rV (As := [.int (0), .int (2)]) (rest := []) (n := 2) ⟨hx, hb, hml, hown, hts⟩ (c0_X7_throwsIf l D cs w1 H.size mm ad (0) (tb) (dd) (nI nw) (br) (yr) (wd) 2 h1_mm) gX7_change_X7_throwsIf rfl ⟨rfl, by decide +kernel, by decide +kernel, by decide +kernel⟩ ⟨Nat.le_of_ble_eq_true rfl, Nat.le_of_ble_eq_true rfl⟩ hK hE hS rfl h1_mm rfl hl.1 rfl (Nat.le_of_ble_eq_true rfl) dX7_change_54 ⟨Nat.le_of_ble_eq_true rfl, Nat.le_of_ble_eq_true rfl⟩ (fun H locs hS => ?_)
  refine lv_if_eq (tgt := 61) hx hb dX7_change_57 (by decide) (fun _ => ?_) (fun cq9 => absurd rfl cq9)
  refine lv_iload_n hx hb dX7_change_61 rfl (lv_at hl 2 rfl) ?_
  refine lv_tableIn (off := 65) (tgt := 127) hx hb dX7_change_62 (by rw [(show (3 : Int32) = 3 from rfl)]; decide) (by rw [(show (3 : Int32) = 3 from rfl)]; decide) (by rw [(show (3 : Int32) = 3 from rfl)]; rfl) (by decide) ?_
  refine lv_aload_n hx hb dX7_change_127 rfl (lv_at hl 0 rfl) ?_
  refine z_get (C := RX7) (T := TX7) (N := 45) (v := .ref (ad 18)) hx hb hts (by decide +kernel) hown hK hS h1_mm rfl 18 (by decide) (hts (.fieldLink RX7 57 "PayLedgerModel" "hasExtra" "[J") (by decide +kernel)) rfl dX7_change_128 ?_
  refine lv_iload_n hx hb dX7_change_131 rfl (lv_at hl 1 rfl) ?_
  refine lv_lload_n hx hb dX7_change_132 rfl (lv_at hl 3 rfl) ?_
  refine z_last hx hb hK hS h1_ad18 (vp_in_nI (by omega) (by decide)) dX7_change_133 (fun H locs hS => ?_)
  obtain ⟨w2, ew2⟩ : ∃ z : zw, z = va_up w1 (ad 18) (some (eJ cs (10) (vp_updL (J 18) (nI wi : Int32).toNatClampNeg (v)))) := ⟨_, rfl⟩
  have hS : zS (zA w sz) D w2 s.heap H locs := by rw [ew2]; exact hS
  have h2_ad18 : w2 (ad 18) = some (eJ cs (10) (vp_updL (J 18) (nI wi : Int32).toNatClampNeg (v))) := by rw [ew2]; exact va_up_self _ _ _
  have h2_mm : w2 (mm) = some (mo ad (0) (tb) (dd) (nI nw) (br) (yr) (wd)) := by rw [ew2]; exact (va_up_ne _ _ (zne h1_mm h1_ad18 (by intro q9; first | cases q9 | simp at q9))).trans h1_mm
  have h2_ad18 : w2 (ad 18) = some (eJ cs (10) (vp_updL (J 18) (wi) (v))) := by rw [nI_clamp (by omega)] at h2_ad18; exact h2_ad18
  refine lv_goto (tgt := 164) hx hb dX7_change_134 (by decide) ?_
  have hex : zEx w w2 [(mm, (mo ad (0) (tb) (dd) (nI nw) (br) (yr) (wd))), (ad 18, (eJ cs (10) (vp_updL (J 18) (wi) (v))))] := ⟨(zm1 h2_mm (zm1 h2_ad18 zm0)), fun a9 h9 => by rw [ew2, va_up_ne _ _ (show a9 ≠ ad 18 from h9 (ad 18, (eJ cs (10) (vp_updL (J 18) (wi) (v)))) (List.mem_of_getElem? (i := 1) rfl)), ew1, va_up_ne _ _ (show a9 ≠ mm from h9 (mm, (mo ad (0) (tb) (dd) (nI nw) (br) (yr) (wd))) (List.mem_of_getElem? (i := 0) rfl))]⟩
  exact z_vret hx hb hr hlocks hS (Nat.le_of_ble_eq_true rfl) (Nat.le_of_ble_eq_true rfl) dX7_change_164 ⟨rfl, zMQ.of [18] (by decide) hM h_m hinj hex (fun s hs => va_up_ne _ _ (fun e => hs (by rw [e]; decide))) (fun _ _ => rfl)⟩
set_option maxHeartbeats 4000000 in
set_option maxRecDepth 100000 in
theorem c5_X7_change (l : Launch) (D : va_G) (cs : Nat → ClassId) (w : zw) (sz : Nat) (mm : Nat) (ad : Nat → Nat) (J : Nat → Nat → Int64) (K : Nat → Nat → Int32) (th tb dd br yr wd : Int32) (nw wi : Nat) (v : Int64) (hinj : ∀ i j : Nat, i ≠ j → ad i ≠ ad j) (hM : zMA cs w ad J K) (hnw : nw ≤ 10) (hwi : wi < nw) (hcan : zCanB 5 v = 1) (h_m : w (mm) = some (mo ad (th) (tb) (dd) (nI nw) (br) (yr) (wd))) : zM l D cs yX7_change wsX7_change 3 0 0 w sz [.ref (mm), .int (nI wi), .int (5), .long (v)] (fun r w2 => r = none ∧ zMQ cs w w2 ad mm (mo ad (0) (tb) (dd) (nI nw) (br) (yr) (wd)) J (va_up K 13 (upd (K 13) wi (v.toInt32)))) := by
  refine z_met (cc := cX7_change) (maxL := 5) (ret := none) (by decide) rfl (Nat.le_of_ble_eq_true rfl) ?_
  intro p e s m below meth c hx hb hr hml hown hts hlocks hnm hsz hK hE hS ls hl
  have hl : lv_has ls 5 [(0, .ref (mm)), (1, .int (nI wi)), (2, .int (5)), (3, .long (v))] := hl
  have h_13 : w (ad 13) = some (eI cs (10) (K 13)) := hM 13 (by decide)
  refine lv_aload_n hx hb dX7_change_0 rfl (lv_at hl 0 rfl) ?_
  refine lv_iconst (v := 0) hx hb dX7_change_1 (by decide) ?_
  refine z_put (C := RX7) (T := TX7) (N := 45) (v := .int (0)) hx hb hts (by decide +kernel) tyX7 tyX7_ok nmX7 hown hK hS h_m rfl 0 (by decide) (hts (.fieldLink RX7 126 "PayLedgerModel" "thrown" "I") (by decide +kernel)) rfl rfl rfl (Nat.le_of_ble_eq_true rfl) dX7_change_2 (fun H locs hS => ?_)
  obtain ⟨w1, ew1⟩ : ∃ z : zw, z = va_up w (mm) (some (mo ad (0) (tb) (dd) (nI nw) (br) (yr) (wd))) := ⟨_, rfl⟩
  have hS : zS (zA w sz) D w1 s.heap H locs := by rw [ew1]; exact hS
  have h1_mm : w1 (mm) = some (mo ad (0) (tb) (dd) (nI nw) (br) (yr) (wd)) := by rw [ew1]; exact va_up_self _ _ _
  have h1_ad13 : w1 (ad 13) = some (eI cs (10) (K 13)) := by rw [ew1]; exact (va_up_ne _ _ (zne h_13 h_m (by intro q9; first | cases q9 | simp at q9))).trans h_13
  refine lv_aload_n hx hb dX7_change_5 rfl (lv_at hl 0 rfl) ?_
  refine lv_aload_n hx hb dX7_change_6 rfl (lv_at hl 0 rfl) ?_
  refine lv_iload_n hx hb dX7_change_7 rfl (lv_at hl 1 rfl) ?_
  refine z_rV (As := [.int (nI wi)]) (rest := [.ref (mm)]) (n := 1) ⟨hx, hb, hml, hown, hts⟩ (c_X7_noWorker l D cs w1 H.size mm ad (0) (tb) (dd) (br) (yr) (wd) nw wi (by omega) hwi h1_mm) gX7_change_X7_noWorker rfl ⟨rfl, by decide +kernel, by decide +kernel, by decide +kernel⟩ ⟨Nat.le_of_ble_eq_true rfl, Nat.le_of_ble_eq_true rfl⟩ hK hE hS rfl h1_mm rfl hl.1 rfl (Nat.le_of_ble_eq_true rfl) dX7_change_8 ⟨Nat.le_of_ble_eq_true rfl, Nat.le_of_ble_eq_true rfl⟩ (fun H locs hS => ?_)
  refine lv_if_ne (tgt := 27) hx hb dX7_change_11 (by decide) (fun cq9 => absurd rfl cq9) (fun _ => ?_)
  refine lv_iload_n hx hb dX7_change_14 rfl (lv_at hl 2 rfl) ?_
  refine lv_iconst (v := 4) hx hb dX7_change_15 (by decide) ?_
  refine lv_icmp_ne (tgt := 31) hx hb dX7_change_16 (by decide) (fun _ => ?_) (fun cq9 => absurd cq9 (by decide))
  refine lv_iconst (v := 0) hx hb dX7_change_31 (by decide) ?_
  refine lv_iconst (v := 1) hx hb dX7_change_32 (by decide) ?_
  refine z_rV (As := [.int (0), .int (1)]) (rest := []) (n := 2) ⟨hx, hb, hml, hown, hts⟩ (c0_X7_throwsIf l D cs w1 H.size mm ad (0) (tb) (dd) (nI nw) (br) (yr) (wd) 1 h1_mm) gX7_change_X7_throwsIf rfl ⟨rfl, by decide +kernel, by decide +kernel, by decide +kernel⟩ ⟨Nat.le_of_ble_eq_true rfl, Nat.le_of_ble_eq_true rfl⟩ hK hE hS rfl h1_mm rfl hl.1 rfl (Nat.le_of_ble_eq_true rfl) dX7_change_33 ⟨Nat.le_of_ble_eq_true rfl, Nat.le_of_ble_eq_true rfl⟩ (fun H locs hS => ?_)
  refine lv_if_ne (tgt := 60) hx hb dX7_change_36 (by decide) (fun cq9 => absurd rfl cq9) (fun _ => ?_)
  refine lv_aload_n hx hb dX7_change_39 rfl (lv_at hl 0 rfl) ?_
  refine lv_iload_n hx hb dX7_change_40 rfl (lv_at hl 2 rfl) ?_
  refine lv_lload_n hx hb dX7_change_41 rfl (lv_at hl 3 rfl) ?_
  refine z_rS (As := [.int (5), .long (v)]) (rest := [.ref (mm)]) (n := 2) ⟨hx, hb, hml, hown, hts⟩ (c_X7_mayBe l D cs w1 H.size (5) (v)) gX7_change_X7_mayBe rfl ⟨by decide +kernel, by decide +kernel, by decide +kernel⟩ ⟨Nat.le_of_ble_eq_true rfl, Nat.le_of_ble_eq_true rfl⟩ hK hE hS rfl hl.1 rfl (Nat.le_of_ble_eq_true rfl) dX7_change_42 ⟨Nat.le_of_ble_eq_true rfl, Nat.le_of_ble_eq_true rfl⟩ (fun H locs hS => ?_)
  refine lv_if_ne (tgt := 52) hx hb dX7_change_45 (by decide) (fun _ => ?_) (fun cq9 => absurd cq9 (by rw [mMay, if_neg (by decide), hcan]; decide))
  refine lv_iconst (v := 0) hx hb dX7_change_52 (by decide) ?_
  refine lv_iconst (v := 2) hx hb dX7_change_53 (by decide) ?_
  refine z_rV (As := [.int (0), .int (2)]) (rest := []) (n := 2) ⟨hx, hb, hml, hown, hts⟩ (c0_X7_throwsIf l D cs w1 H.size mm ad (0) (tb) (dd) (nI nw) (br) (yr) (wd) 2 h1_mm) gX7_change_X7_throwsIf rfl ⟨rfl, by decide +kernel, by decide +kernel, by decide +kernel⟩ ⟨Nat.le_of_ble_eq_true rfl, Nat.le_of_ble_eq_true rfl⟩ hK hE hS rfl h1_mm rfl hl.1 rfl (Nat.le_of_ble_eq_true rfl) dX7_change_54 ⟨Nat.le_of_ble_eq_true rfl, Nat.le_of_ble_eq_true rfl⟩ (fun H locs hS => ?_)
  refine lv_if_eq (tgt := 61) hx hb dX7_change_57 (by decide) (fun _ => ?_) (fun cq9 => absurd rfl cq9)
  refine lv_iload_n hx hb dX7_change_61 rfl (lv_at hl 2 rfl) ?_
  refine lv_tableOut (tgt := 156) hx hb dX7_change_62 (by decide) (by decide) ?_
  refine lv_aload_n hx hb dX7_change_156 rfl (lv_at hl 0 rfl) ?_
  refine z_get (C := RX7) (T := TX7) (N := 45) (v := .ref (ad 13)) hx hb hts (by decide +kernel) hown hK hS h1_mm rfl 13 (by decide) (hts (.fieldLink RX7 42 "PayLedgerModel" "hasPeriods" "[I") (by decide +kernel)) rfl dX7_change_157 ?_
  refine lv_iload_n hx hb dX7_change_160 rfl (lv_at hl 1 rfl) ?_
  refine lv_lload_n hx hb dX7_change_161 rfl (lv_at hl 3 rfl) ?_
  refine lv_l2i (v := ((v : Int64).toInt32)) hx hb dX7_change_162 rfl ?_
  refine z_iast hx hb hK hS h1_ad13 (vp_in_nI (by omega) (by decide)) dX7_change_163 (fun H locs hS => ?_)
  obtain ⟨w2, ew2⟩ : ∃ z : zw, z = va_up w1 (ad 13) (some (eI cs (10) (upd (K 13) (nI wi : Int32).toNatClampNeg (((v : Int64).toInt32))))) := ⟨_, rfl⟩
  have hS : zS (zA w sz) D w2 s.heap H locs := by rw [ew2]; exact hS
  have h2_ad13 : w2 (ad 13) = some (eI cs (10) (upd (K 13) (nI wi : Int32).toNatClampNeg (((v : Int64).toInt32)))) := by rw [ew2]; exact va_up_self _ _ _
  have h2_mm : w2 (mm) = some (mo ad (0) (tb) (dd) (nI nw) (br) (yr) (wd)) := by rw [ew2]; exact (va_up_ne _ _ (zne h1_mm h1_ad13 (by intro q9; first | cases q9 | simp at q9))).trans h1_mm
  have h2_ad13 : w2 (ad 13) = some (eI cs (10) (upd (K 13) (wi) (((v : Int64).toInt32)))) := by rw [nI_clamp (by omega)] at h2_ad13; exact h2_ad13
  have hex : zEx w w2 [(mm, (mo ad (0) (tb) (dd) (nI nw) (br) (yr) (wd))), (ad 13, (eI cs (10) (upd (K 13) (wi) (((v : Int64).toInt32)))))] := ⟨(zm1 h2_mm (zm1 h2_ad13 zm0)), fun a9 h9 => by rw [ew2, va_up_ne _ _ (show a9 ≠ ad 13 from h9 (ad 13, (eI cs (10) (upd (K 13) (wi) (((v : Int64).toInt32))))) (List.mem_of_getElem? (i := 1) rfl)), ew1, va_up_ne _ _ (show a9 ≠ mm from h9 (mm, (mo ad (0) (tb) (dd) (nI nw) (br) (yr) (wd))) (List.mem_of_getElem? (i := 0) rfl))]⟩
  exact z_vret hx hb hr hlocks hS (Nat.le_of_ble_eq_true rfl) (Nat.le_of_ble_eq_true rfl) dX7_change_164 ⟨rfl, zMQ.of [13] (by decide) hM h_m hinj hex (fun _ _ => rfl) (fun s hs => va_up_ne _ _ (fun e => hs (by rw [e]; decide)))⟩
set_option maxHeartbeats 4000000 in
set_option maxRecDepth 100000 in
theorem c4_X7_change (l : Launch) (D : va_G) (cs : Nat → ClassId) (w : zw) (sz : Nat) (mm : Nat) (ad : Nat → Nat) (J : Nat → Nat → Int64) (K : Nat → Nat → Int32) (th dd br yr wd : Int32) (nw wi nb t : Nat) (hinj : ∀ i j : Nat, i ≠ j → ad i ≠ ad j) (hM : zMA cs w ad J K) (hnw : nw ≤ 10) (hwi : wi < nw) (hnb : nb ≤ 6) (ht : t < nb) (h_m : w (mm) = some (mo ad (th) (nI nb) (dd) (nI nw) (br) (yr) (wd))) : zM l D cs yX7_change wsX7_change 3 0 0 w sz [.ref (mm), .int (nI wi), .int (4), .long (lN t)] (fun r w2 => r = none ∧ zMQ cs w w2 ad mm (mo ad (0) (nI nb) (dd) (nI nw) (br) (yr) (wd)) J (va_up (va_up K 12 (upd (K 12) wi (nI t))) 4 (upd (K 4) t 1))) := by
  refine z_met (cc := cX7_change) (maxL := 5) (ret := none) (by decide) rfl (Nat.le_of_ble_eq_true rfl) ?_
  intro p e s m below meth c hx hb hr hml hown hts hlocks hnm hsz hK hE hS ls hl
  have hl : lv_has ls 5 [(0, .ref (mm)), (1, .int (nI wi)), (2, .int (4)), (3, .long (lN t))] := hl
  have h_4 : w (ad 4) = some (eZ cs (6) (K 4)) := hM 4 (by decide)
  have h_12 : w (ad 12) = some (eI cs (10) (K 12)) := hM 12 (by decide)
  refine lv_aload_n hx hb dX7_change_0 rfl (lv_at hl 0 rfl) ?_
  refine lv_iconst (v := 0) hx hb dX7_change_1 (by decide) ?_
  refine z_put (C := RX7) (T := TX7) (N := 45) (v := .int (0)) hx hb hts (by decide +kernel) tyX7 tyX7_ok nmX7 hown hK hS h_m rfl 0 (by decide) (hts (.fieldLink RX7 126 "PayLedgerModel" "thrown" "I") (by decide +kernel)) rfl rfl rfl (Nat.le_of_ble_eq_true rfl) dX7_change_2 (fun H locs hS => ?_)
  obtain ⟨w1, ew1⟩ : ∃ z : zw, z = va_up w (mm) (some (mo ad (0) (nI nb) (dd) (nI nw) (br) (yr) (wd))) := ⟨_, rfl⟩
  have hS : zS (zA w sz) D w1 s.heap H locs := by rw [ew1]; exact hS
  have h1_mm : w1 (mm) = some (mo ad (0) (nI nb) (dd) (nI nw) (br) (yr) (wd)) := by rw [ew1]; exact va_up_self _ _ _
  have h1_ad4 : w1 (ad 4) = some (eZ cs (6) (K 4)) := by rw [ew1]; exact (va_up_ne _ _ (zne h_4 h_m (by intro q9; first | cases q9 | simp at q9))).trans h_4
  have h1_ad12 : w1 (ad 12) = some (eI cs (10) (K 12)) := by rw [ew1]; exact (va_up_ne _ _ (zne h_12 h_m (by intro q9; first | cases q9 | simp at q9))).trans h_12
  refine lv_aload_n hx hb dX7_change_5 rfl (lv_at hl 0 rfl) ?_
  refine lv_aload_n hx hb dX7_change_6 rfl (lv_at hl 0 rfl) ?_
  refine lv_iload_n hx hb dX7_change_7 rfl (lv_at hl 1 rfl) ?_
  refine z_rV (As := [.int (nI wi)]) (rest := [.ref (mm)]) (n := 1) ⟨hx, hb, hml, hown, hts⟩ (c_X7_noWorker l D cs w1 H.size mm ad (0) (nI nb) (dd) (br) (yr) (wd) nw wi (by omega) hwi h1_mm) gX7_change_X7_noWorker rfl ⟨rfl, by decide +kernel, by decide +kernel, by decide +kernel⟩ ⟨Nat.le_of_ble_eq_true rfl, Nat.le_of_ble_eq_true rfl⟩ hK hE hS rfl h1_mm rfl hl.1 rfl (Nat.le_of_ble_eq_true rfl) dX7_change_8 ⟨Nat.le_of_ble_eq_true rfl, Nat.le_of_ble_eq_true rfl⟩ (fun H locs hS => ?_)
  refine lv_if_ne (tgt := 27) hx hb dX7_change_11 (by decide) (fun cq9 => absurd rfl cq9) (fun _ => ?_)
  refine lv_iload_n hx hb dX7_change_14 rfl (lv_at hl 2 rfl) ?_
  refine lv_iconst (v := 4) hx hb dX7_change_15 (by decide) ?_
  refine lv_icmp_ne (tgt := 31) hx hb dX7_change_16 (by decide) (fun cq9 => absurd rfl cq9) (fun _ => ?_)
  refine lv_aload_n hx hb dX7_change_19 rfl (lv_at hl 0 rfl) ?_
  refine lv_lload_n hx hb dX7_change_20 rfl (lv_at hl 3 rfl) ?_
  refine z_rV (As := [.long (lN t)]) (rest := [.ref (mm)]) (n := 1) ⟨hx, hb, hml, hown, hts⟩ (c_X7_noTable l D cs w1 H.size mm ad (0) (dd) (nI nw) (br) (yr) (wd) nb t (by omega) ht h1_mm) gX7_change_X7_noTable rfl ⟨rfl, by decide +kernel, by decide +kernel, by decide +kernel⟩ ⟨Nat.le_of_ble_eq_true rfl, Nat.le_of_ble_eq_true rfl⟩ hK hE hS rfl h1_mm rfl hl.1 rfl (Nat.le_of_ble_eq_true rfl) dX7_change_21 ⟨Nat.le_of_ble_eq_true rfl, Nat.le_of_ble_eq_true rfl⟩ (fun H locs hS => ?_)
  refine lv_if_eq (tgt := 31) hx hb dX7_change_24 (by decide) (fun _ => ?_) (fun cq9 => absurd rfl cq9)
  refine lv_iconst (v := 0) hx hb dX7_change_31 (by decide) ?_
  refine lv_iconst (v := 1) hx hb dX7_change_32 (by decide) ?_
  refine z_rV (As := [.int (0), .int (1)]) (rest := []) (n := 2) ⟨hx, hb, hml, hown, hts⟩ (c0_X7_throwsIf l D cs w1 H.size mm ad (0) (nI nb) (dd) (nI nw) (br) (yr) (wd) 1 h1_mm) gX7_change_X7_throwsIf rfl ⟨rfl, by decide +kernel, by decide +kernel, by decide +kernel⟩ ⟨Nat.le_of_ble_eq_true rfl, Nat.le_of_ble_eq_true rfl⟩ hK hE hS rfl h1_mm rfl hl.1 rfl (Nat.le_of_ble_eq_true rfl) dX7_change_33 ⟨Nat.le_of_ble_eq_true rfl, Nat.le_of_ble_eq_true rfl⟩ (fun H locs hS => ?_)
  refine lv_if_ne (tgt := 60) hx hb dX7_change_36 (by decide) (fun cq9 => absurd rfl cq9) (fun _ => ?_)
  refine lv_aload_n hx hb dX7_change_39 rfl (lv_at hl 0 rfl) ?_
  refine lv_iload_n hx hb dX7_change_40 rfl (lv_at hl 2 rfl) ?_
  refine lv_lload_n hx hb dX7_change_41 rfl (lv_at hl 3 rfl) ?_
  refine z_rS (As := [.int (4), .long (lN t)]) (rest := [.ref (mm)]) (n := 2) ⟨hx, hb, hml, hown, hts⟩ (c_X7_mayBe l D cs w1 H.size (4) (lN t)) gX7_change_X7_mayBe rfl ⟨by decide +kernel, by decide +kernel, by decide +kernel⟩ ⟨Nat.le_of_ble_eq_true rfl, Nat.le_of_ble_eq_true rfl⟩ hK hE hS rfl hl.1 rfl (Nat.le_of_ble_eq_true rfl) dX7_change_42 ⟨Nat.le_of_ble_eq_true rfl, Nat.le_of_ble_eq_true rfl⟩ (fun H locs hS => ?_)
  refine lv_if_ne (tgt := 52) hx hb dX7_change_45 (by decide) (fun _ => ?_) (fun cq9 => absurd cq9 (by rw [mMay, if_pos rfl]; decide))
  refine lv_iconst (v := 0) hx hb dX7_change_52 (by decide) ?_
  refine lv_iconst (v := 2) hx hb dX7_change_53 (by decide) ?_
  refine z_rV (As := [.int (0), .int (2)]) (rest := []) (n := 2) ⟨hx, hb, hml, hown, hts⟩ (c0_X7_throwsIf l D cs w1 H.size mm ad (0) (nI nb) (dd) (nI nw) (br) (yr) (wd) 2 h1_mm) gX7_change_X7_throwsIf rfl ⟨rfl, by decide +kernel, by decide +kernel, by decide +kernel⟩ ⟨Nat.le_of_ble_eq_true rfl, Nat.le_of_ble_eq_true rfl⟩ hK hE hS rfl h1_mm rfl hl.1 rfl (Nat.le_of_ble_eq_true rfl) dX7_change_54 ⟨Nat.le_of_ble_eq_true rfl, Nat.le_of_ble_eq_true rfl⟩ (fun H locs hS => ?_)
  refine lv_if_eq (tgt := 61) hx hb dX7_change_57 (by decide) (fun _ => ?_) (fun cq9 => absurd rfl cq9)
  refine lv_iload_n hx hb dX7_change_61 rfl (lv_at hl 2 rfl) ?_
  refine lv_tableIn (off := 75) (tgt := 137) hx hb dX7_change_62 (by rw [(show (4 : Int32) = 4 from rfl)]; decide) (by rw [(show (4 : Int32) = 4 from rfl)]; decide) (by rw [(show (4 : Int32) = 4 from rfl)]; rfl) (by decide) ?_
  refine lv_aload_n hx hb dX7_change_137 rfl (lv_at hl 0 rfl) ?_
  refine z_get (C := RX7) (T := TX7) (N := 45) (v := .ref (ad 12)) hx hb hts (by decide +kernel) hown hK hS h1_mm rfl 12 (by decide) (hts (.fieldLink RX7 39 "PayLedgerModel" "hasTable" "[I") (by decide +kernel)) rfl dX7_change_138 ?_
  refine lv_iload_n hx hb dX7_change_141 rfl (lv_at hl 1 rfl) ?_
  refine lv_lload_n hx hb dX7_change_142 rfl (lv_at hl 3 rfl) ?_
  refine lv_l2i (v := ((lN t : Int64).toInt32)) hx hb dX7_change_143 rfl ?_
  refine z_ti (y := nI t) (lN_i t) ?_
  refine z_iast hx hb hK hS h1_ad12 (vp_in_nI (by omega) (by decide)) dX7_change_144 (fun H locs hS => ?_)
  obtain ⟨w2, ew2⟩ : ∃ z : zw, z = va_up w1 (ad 12) (some (eI cs (10) (upd (K 12) (nI wi : Int32).toNatClampNeg (nI t)))) := ⟨_, rfl⟩
  have hS : zS (zA w sz) D w2 s.heap H locs := by rw [ew2]; exact hS
  have h2_ad12 : w2 (ad 12) = some (eI cs (10) (upd (K 12) (nI wi : Int32).toNatClampNeg (nI t))) := by rw [ew2]; exact va_up_self _ _ _
  have h2_ad4 : w2 (ad 4) = some (eZ cs (6) (K 4)) := by rw [ew2]; exact (va_up_ne _ _ (hinj 4 12 (by decide))).trans h1_ad4
  have h2_mm : w2 (mm) = some (mo ad (0) (nI nb) (dd) (nI nw) (br) (yr) (wd)) := by rw [ew2]; exact (va_up_ne _ _ (zne h1_mm h1_ad12 (by intro q9; first | cases q9 | simp at q9))).trans h1_mm
  have h2_ad12 : w2 (ad 12) = some (eI cs (10) (upd (K 12) (wi) (nI t))) := by rw [nI_clamp (by omega)] at h2_ad12; exact h2_ad12
  refine lv_aload_n hx hb dX7_change_145 rfl (lv_at hl 0 rfl) ?_
  refine z_get (C := RX7) (T := TX7) (N := 45) (v := .ref (ad 4)) hx hb hts (by decide +kernel) hown hK hS h2_mm rfl 4 (by decide) (hts (.fieldLink RX7 20 "PayLedgerModel" "used" "[Z") (by decide +kernel)) rfl dX7_change_146 ?_
  refine lv_lload_n hx hb dX7_change_149 rfl (lv_at hl 3 rfl) ?_
  refine lv_l2i (v := ((lN t : Int64).toInt32)) hx hb dX7_change_150 rfl ?_
  refine z_ti (y := nI t) (lN_i t) ?_
  refine lv_iconst (v := 1) hx hb dX7_change_151 (by decide) ?_
  refine z_zast hx hb hK hS h2_ad4 (vp_in_nI (by omega) (by decide)) dX7_change_152 (fun H locs hS => ?_)
  obtain ⟨w3, ew3⟩ : ∃ z : zw, z = va_up w2 (ad 4) (some (eZ cs (6) (upd (K 4) (nI t : Int32).toNatClampNeg ((vp_nar .boolean (1)))))) := ⟨_, rfl⟩
  have hS : zS (zA w sz) D w3 s.heap H locs := by rw [ew3]; exact hS
  have h3_ad4 : w3 (ad 4) = some (eZ cs (6) (upd (K 4) (nI t : Int32).toNatClampNeg ((vp_nar .boolean (1))))) := by rw [ew3]; exact va_up_self _ _ _
  have h3_mm : w3 (mm) = some (mo ad (0) (nI nb) (dd) (nI nw) (br) (yr) (wd)) := by rw [ew3]; exact (va_up_ne _ _ (zne h2_mm h2_ad4 (by intro q9; first | cases q9 | simp at q9))).trans h2_mm
  have h3_ad12 : w3 (ad 12) = some (eI cs (10) (upd (K 12) (wi) (nI t))) := by rw [ew3]; exact (va_up_ne _ _ (hinj 12 4 (by decide))).trans h2_ad12
  have h3_ad4 : w3 (ad 4) = some (eZ cs (6) (upd (K 4) (t) ((vp_nar .boolean (1))))) := by rw [nI_clamp (by omega)] at h3_ad4; exact h3_ad4
  rw [show (eZ cs (6) (upd (K 4) (t) ((vp_nar .boolean (1))))) = (eZ cs (6) (upd (K 4) (t) (1))) from (by rfl)] at h3_ad4
  refine lv_goto (tgt := 164) hx hb dX7_change_153 (by decide) ?_
  have hex : zEx w w3 [(mm, (mo ad (0) (nI nb) (dd) (nI nw) (br) (yr) (wd))), (ad 12, (eI cs (10) (upd (K 12) (wi) (nI t)))), (ad 4, (eZ cs (6) (upd (K 4) (t) (1))))] := ⟨(zm1 h3_mm (zm1 h3_ad12 (zm1 h3_ad4 zm0))), fun a9 h9 => by rw [ew3, va_up_ne _ _ (show a9 ≠ ad 4 from h9 (ad 4, (eZ cs (6) (upd (K 4) (t) (1)))) (List.mem_of_getElem? (i := 2) rfl)), ew2, va_up_ne _ _ (show a9 ≠ ad 12 from h9 (ad 12, (eI cs (10) (upd (K 12) (wi) (nI t)))) (List.mem_of_getElem? (i := 1) rfl)), ew1, va_up_ne _ _ (show a9 ≠ mm from h9 (mm, (mo ad (0) (nI nb) (dd) (nI nw) (br) (yr) (wd))) (List.mem_of_getElem? (i := 0) rfl))]⟩
  exact z_vret hx hb hr hlocks hS (Nat.le_of_ble_eq_true rfl) (Nat.le_of_ble_eq_true rfl) dX7_change_164 ⟨rfl, zMQ.of [12, 4] (by decide) hM h_m hinj hex (fun _ _ => rfl) (fun s hs => (va_up_ne _ _ (fun e => hs (by rw [e]; decide))).trans (va_up_ne _ _ (fun e => hs (by rw [e]; decide))))⟩
