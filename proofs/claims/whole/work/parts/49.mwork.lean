/-! ===== the model: the work ===== -/
set_option maxHeartbeats 4000000 in
set_option maxRecDepth 100000 in
theorem c_X7_taxed (l : Launch) (D : va_G) (cs : Nat → ClassId) (w : zw) (sz : Nat) (mm : Nat) (ad : Nat → Nat) (J : Nat → Nat → Int64) (K : Nat → Nat → Int32) (th tb dd wk br yr wd : Int32) (t n : Nat) (F : Nat → Int64) (G : Nat → Int32) (x : Int64) (ht : t < 6) (hk3 : K 3 t = nI n) (hn : n ≤ 12) (hF : ∀ i : Nat, i < n → J 1 (12 * t + i) = F i ∧ K 2 (12 * t + i) = G i) (h_m : w (mm) = some (mo ad (th) (tb) (dd) (wk) (br) (yr) (wd))) (h_1 : w (ad 1) = some (eJ cs (72) (J 1))) (h_2 : w (ad 2) = some (eI cs (72) (K 2))) (h_3 : w (ad 3) = some (eI cs (6) (K 3))) : zMr l D cs yX7_taxed wsX7_taxed 1 w sz [.ref (mm), .int (nI t), .long (x)] (.long (mTax F G n x)) := by
  refine z_met (cc := cX7_taxed) (maxL := 11) (ret := (some .long)) (by decide) rfl (Nat.le_of_ble_eq_true rfl) ?_
  intro p e s m below meth c hx hb hr hml hown hts hlocks hnm hsz hK hE hS ls hl
  have hl : lv_has ls 11 [(0, .ref (mm)), (1, .int (nI t)), (2, .long (x))] := hl
  have L9 : ∀ (i : Nat), ∀ (acc was : Int64), (hi : i ≤ n) → (hacc : acc = mTs F G x i) → (hwas : was = mWas G i) → ∀ (H : Heap) (locs : List Loc) (ls : Array Slot), zS (zA w sz) D w s.heap H locs → lv_has ls 11 [(8, .int (nI i)), (6, .long (was)), (4, .long (acc)), (0, .ref (mm)), (1, .int (nI t)), (2, .long (x))] → W p l e (zR 1 0 0) s m [.ref (mm), .int (nI t), .long (x)].toArray below meth c H locs 0 0 (MQ below (zQ D w sz (fun r w2 => r = some (.long (mTax F G n x)) ∧ w2 = w)) [.ref (mm), .int (nI t), .long (x)].toArray s 0 0 (zA w sz)) (F0 m 9 ls []) := by
    refine zloopU (P := fun i => ∀ (acc was : Int64), (hi : i ≤ n) → (hacc : acc = mTs F G x i) → (hwas : was = mWas G i) → ∀ (H : Heap) (locs : List Loc) (ls : Array Slot), zS (zA w sz) D w s.heap H locs → lv_has ls 11 [(8, .int (nI i)), (6, .long (was)), (4, .long (acc)), (0, .ref (mm)), (1, .int (nI t)), (2, .long (x))] → W p l e (zR 1 0 0) s m [.ref (mm), .int (nI t), .long (x)].toArray below meth c H locs 0 0 (MQ below (zQ D w sz (fun r w2 => r = some (.long (mTax F G n x)) ∧ w2 = w)) [.ref (mm), .int (nI t), .long (x)].toArray s 0 0 (zA w sz)) (F0 m 9 ls [])) n (fun i ih => ?_)
    intro acc was hi hacc hwas H locs ls hS hl
    refine lv_iload hx hb dX7_taxed_9 (lv_at hl 0 rfl) ?_
    refine lv_aload_n hx hb dX7_taxed_11 rfl (lv_at hl 3 rfl) ?_
    refine z_get (C := RX7) (T := TX7) (N := 45) (v := .ref (ad 3)) hx hb hts (by decide +kernel) hown hK hS h_m rfl 3 (by decide) (hts (.fieldLink RX7 17 "PayLedgerModel" "stages" "[I") (by decide +kernel)) rfl dX7_taxed_12 ?_
    refine lv_iload_n hx hb dX7_taxed_15 rfl (lv_at hl 4 rfl) ?_
    refine z_iald hx hb hK hS h_3 (vp_in_nI (by omega) (by decide)) dX7_taxed_16 ?_
    refine z_ti (y := ((K 3) (t))) (congrArg _ (nI_clamp (by omega))) ?_
    refine z_ti (y := nI n) hk3 ?_
    refine lv_icmp_ge (tgt := 73) hx hb dX7_taxed_17 (by decide) (fun c17 => ?_) (fun c17 => ?_)
    · have hi9 : i = n := by rcases Nat.lt_or_ge i (n) with q | q; exact absurd c17 (nI_ge (b := n) q (by omega)); omega
      refine lv_lload hx hb dX7_taxed_73 (lv_at hl 2 rfl) ?_
      refine lv_ldc2 (v := 1000000) hx hb hown (hts (.constantLong RX7 136 (1000000)) (by decide +kernel)) dX7_taxed_75 ?_
      refine z_rS (As := [.long (acc), .long (1000000)]) (rest := []) (n := 2) ⟨hx, hb, hml, hown, hts⟩ (c_X7_round l D cs w H.size acc 1000000 (by decide)) gX7_taxed_X7_round rfl ⟨by decide +kernel, by decide +kernel, by decide +kernel⟩ ⟨Nat.le_of_ble_eq_true rfl, Nat.le_of_ble_eq_true rfl⟩ hK hE hS rfl hl.1 rfl (Nat.le_of_ble_eq_true rfl) dX7_taxed_78 ⟨Nat.le_of_ble_eq_true rfl, Nat.le_of_ble_eq_true rfl⟩ (fun H locs hS => ?_)
      exact z_lret hx hb hr hlocks hS (Nat.le_of_ble_eq_true rfl) (Nat.le_of_ble_eq_true rfl) dX7_taxed_81 ⟨by rw [mTax, hacc, hi9], rfl⟩
    · have c17 : i < n := by rcases Nat.lt_or_ge i (n) with q | q; exact q; exact absurd (nI_le (a := n) q (by omega)) c17
      refine lv_aload_n hx hb dX7_taxed_20 rfl (lv_at hl 3 rfl) ?_
      refine z_get (C := RX7) (T := TX7) (N := 45) (v := .ref (ad 2)) hx hb hts (by decide +kernel) hown hK hS h_m rfl 2 (by decide) (hts (.fieldLink RX7 13 "PayLedgerModel" "rates" "[I") (by decide +kernel)) rfl dX7_taxed_21 ?_
      refine lv_bipush (v := 12) hx hb dX7_taxed_24 (by decide) ?_
      refine lv_iload_n hx hb dX7_taxed_26 rfl (lv_at hl 4 rfl) ?_
      refine lv_imul hx hb dX7_taxed_27 ?_
      refine z_ti (y := nI (12 * t)) (zI_mul (12) (t)) ?_
      refine lv_iload hx hb dX7_taxed_28 (lv_at hl 0 rfl) ?_
      refine lv_iadd hx hb dX7_taxed_30 ?_
      refine z_ti (y := nI ((12 * t) + i)) (nI_add ((12 * t)) (i)) ?_
      refine z_iald hx hb hK hS h_2 (vp_in_nI (by omega) (by decide)) dX7_taxed_31 ?_
      refine z_ti (y := ((K 2) (((12 * t) + i)))) (congrArg _ (nI_clamp (by omega))) ?_
      refine z_ti (y := G i) (hF i c17).2 ?_
      refine lv_i2l (v := ((G i : Int32).toInt64)) hx hb dX7_taxed_32 rfl ?_
      refine lv_lstore (lv' := [(9, .long (((G i : Int32).toInt64))), (8, .int (nI i)), (6, .long (was)), (4, .long (acc)), (0, .ref (mm)), (1, .int (nI t)), (2, .long (x))]) hx hb dX7_taxed_33 hl (by decide) rfl (fun ls hl => ?_)
      refine lv_lload hx hb dX7_taxed_35 (lv_at hl 3 rfl) ?_
      refine lv_lload_n hx hb dX7_taxed_37 rfl (lv_at hl 6 rfl) ?_
      refine lv_aload_n hx hb dX7_taxed_38 rfl (lv_at hl 4 rfl) ?_
      refine z_get (C := RX7) (T := TX7) (N := 45) (v := .ref (ad 1)) hx hb hts (by decide +kernel) hown hK hS h_m rfl 1 (by decide) (hts (.fieldLink RX7 9 "PayLedgerModel" "floors" "[J") (by decide +kernel)) rfl dX7_taxed_39 ?_
      refine lv_bipush (v := 12) hx hb dX7_taxed_42 (by decide) ?_
      refine lv_iload_n hx hb dX7_taxed_44 rfl (lv_at hl 5 rfl) ?_
      refine lv_imul hx hb dX7_taxed_45 ?_
      refine z_ti (y := nI (12 * t)) (zI_mul (12) (t)) ?_
      refine lv_iload hx hb dX7_taxed_46 (lv_at hl 1 rfl) ?_
      refine lv_iadd hx hb dX7_taxed_48 ?_
      refine z_ti (y := nI ((12 * t) + i)) (nI_add ((12 * t)) (i)) ?_
      refine z_lald hx hb hK hS h_1 (vp_in_nI (by omega) (by decide)) dX7_taxed_49 ?_
      refine z_tl (y := ((J 1) (((12 * t) + i)))) (congrArg _ (nI_clamp (by omega))) ?_
      refine z_tl (y := F i) (hF i c17).1 ?_
      refine lv_lsub hx hb dX7_taxed_50 ?_
      refine z_rS (As := [.long ((x - F i))]) (rest := [.long (acc)]) (n := 1) ⟨hx, hb, hml, hown, hts⟩ (c_X7_above l D cs w H.size (x - F i)) gX7_taxed_X7_above rfl ⟨by decide +kernel, by decide +kernel, by decide +kernel⟩ ⟨Nat.le_of_ble_eq_true rfl, Nat.le_of_ble_eq_true rfl⟩ hK hE hS rfl hl.1 rfl (Nat.le_of_ble_eq_true rfl) dX7_taxed_51 ⟨Nat.le_of_ble_eq_true rfl, Nat.le_of_ble_eq_true rfl⟩ (fun H locs hS => ?_)
      refine lv_lload hx hb dX7_taxed_54 (lv_at hl 0 rfl) ?_
      refine lv_lload hx hb dX7_taxed_56 (lv_at hl 2 rfl) ?_
      refine lv_lsub hx hb dX7_taxed_58 ?_
      refine lv_lmul hx hb dX7_taxed_59 ?_
      refine lv_ladd hx hb dX7_taxed_60 ?_
      refine lv_lstore (lv' := [(4, .long ((acc + (zMax0 (x - F i) * (((G i : Int32).toInt64) - was))))), (9, .long (((G i : Int32).toInt64))), (8, .int (nI i)), (6, .long (was)), (0, .ref (mm)), (1, .int (nI t)), (2, .long (x))]) hx hb dX7_taxed_61 hl (by decide) rfl (fun ls hl => ?_)
      refine lv_lload hx hb dX7_taxed_63 (lv_at hl 1 rfl) ?_
      refine lv_lstore (lv' := [(6, .long (((G i : Int32).toInt64))), (4, .long ((acc + (zMax0 (x - F i) * (((G i : Int32).toInt64) - was))))), (9, .long (((G i : Int32).toInt64))), (8, .int (nI i)), (0, .ref (mm)), (1, .int (nI t)), (2, .long (x))]) hx hb dX7_taxed_65 hl (by decide) rfl (fun ls hl => ?_)
      refine lv_iinc (v := nI (i + 1)) (lv' := [(8, .int (nI (i + 1))), (6, .long (((G i : Int32).toInt64))), (4, .long ((acc + (zMax0 (x - F i) * (((G i : Int32).toInt64) - was))))), (9, .long (((G i : Int32).toInt64))), (0, .ref (mm)), (1, .int (nI t)), (2, .long (x))]) hx hb dX7_taxed_67 hl (k := 3) rfl (nI_1 _) (by decide) rfl (fun ls hl => ?_)
      refine lv_goto (tgt := 9) hx hb dX7_taxed_70 (by decide) ?_
      exact ih c17 ((acc + (zMax0 (x - F i) * (((G i : Int32).toInt64) - was)))) (((G i : Int32).toInt64)) (by omega) (by rw [hacc, hwas]; rfl) rfl  _ _ _ hS (lv_sub hl [0, 1, 2, 4, 5, 6] rfl)
  refine lv_lconst (v := 0) hx hb dX7_taxed_0 (by decide) ?_
  refine lv_lstore (lv' := [(4, .long (0)), (0, .ref (mm)), (1, .int (nI t)), (2, .long (x))]) hx hb dX7_taxed_1 hl (by decide) rfl (fun ls hl => ?_)
  refine lv_lconst (v := 0) hx hb dX7_taxed_3 (by decide) ?_
  refine lv_lstore (lv' := [(6, .long (0)), (4, .long (0)), (0, .ref (mm)), (1, .int (nI t)), (2, .long (x))]) hx hb dX7_taxed_4 hl (by decide) rfl (fun ls hl => ?_)
  refine lv_iconst (v := 0) hx hb dX7_taxed_6 (by decide) ?_
  refine lv_istore (lv' := [(8, .int (0)), (6, .long (0)), (4, .long (0)), (0, .ref (mm)), (1, .int (nI t)), (2, .long (x))]) hx hb dX7_taxed_7 hl (by decide) rfl (fun ls hl => ?_)
  exact L9 0 0 0 (by omega) rfl rfl  _ _ _ hS (lv_sub hl [0, 1, 2, 3, 4, 5] rfl)
set_option maxHeartbeats 4000000 in
set_option maxRecDepth 100000 in
theorem c_X7_due (l : Launch) (D : va_G) (cs : Nat → ClassId) (w : zw) (sz : Nat) (mm : Nat) (ad : Nat → Nat) (J : Nat → Nat → Int64) (K : Nat → Nat → Int32) (th tb dd wk br yr wd : Int32) (t n : Nat) (F : Nat → Int64) (G : Nat → Int32) (a : Nat) (y : Int64) (ht : t < 6) (hk3 : K 3 t = nI n) (hn : n ≤ 12) (hF : ∀ i : Nat, i < n → J 1 (12 * t + i) = F i ∧ K 2 (12 * t + i) = G i) (ha : a < 600) (h27 : K 27 a = nI t) (h_m : w (mm) = some (mo ad (th) (tb) (dd) (wk) (br) (yr) (wd))) (h_1 : w (ad 1) = some (eJ cs (72) (J 1))) (h_2 : w (ad 2) = some (eI cs (72) (K 2))) (h_3 : w (ad 3) = some (eI cs (6) (K 3))) (h_27 : w (ad 27) = some (eI cs (600) (K 27))) (h_32 : w (ad 32) = some (eJ cs (600) (J 32))) (h_33 : w (ad 33) = some (eJ cs (600) (J 33))) : zMr l D cs yX7_due wsX7_due 2 w sz [.ref (mm), .int (nI a), .long (y)] (.long (mDuty F G n (J 32 a) (J 33 a) y)) := by
  refine z_met (cc := cX7_due) (maxL := 4) (ret := (some .long)) (by decide) rfl (Nat.le_of_ble_eq_true rfl) ?_
  intro p e s m below meth c hx hb hr hml hown hts hlocks hnm hsz hK hE hS ls hl
  have hl : lv_has ls 4 [(0, .ref (mm)), (1, .int (nI a)), (2, .long (y))] := hl
  refine lv_aload_n hx hb dX7_due_0 rfl (lv_at hl 0 rfl) ?_
  refine lv_aload_n hx hb dX7_due_1 rfl (lv_at hl 0 rfl) ?_
  refine z_get (C := RX7) (T := TX7) (N := 45) (v := .ref (ad 27)) hx hb hts (by decide +kernel) hown hK hS h_m rfl 27 (by decide) (hts (.fieldLink RX7 72 "PayLedgerModel" "withTable" "[I") (by decide +kernel)) rfl dX7_due_2 ?_
  refine lv_iload_n hx hb dX7_due_5 rfl (lv_at hl 1 rfl) ?_
  refine z_iald hx hb hK hS h_27 (vp_in_nI (by omega) (by decide)) dX7_due_6 ?_
  refine z_ti (y := ((K 27) (a))) (congrArg _ (nI_clamp (by omega))) ?_
  refine z_ti (y := nI t) h27 ?_
  refine lv_lload_n hx hb dX7_due_7 rfl (lv_at hl 2 rfl) ?_
  refine lv_aload_n hx hb dX7_due_8 rfl (lv_at hl 0 rfl) ?_
  refine z_get (C := RX7) (T := TX7) (N := 45) (v := .ref (ad 32)) hx hb hts (by decide +kernel) hown hK hS h_m rfl 32 (by decide) (hts (.fieldLink RX7 87 "PayLedgerModel" "withRelief" "[J") (by decide +kernel)) rfl dX7_due_9 ?_
  refine lv_iload_n hx hb dX7_due_12 rfl (lv_at hl 1 rfl) ?_
  refine z_lald hx hb hK hS h_32 (vp_in_nI (by omega) (by decide)) dX7_due_13 ?_
  refine z_tl (y := ((J 32) (a))) (congrArg _ (nI_clamp (by omega))) ?_
  refine lv_lsub hx hb dX7_due_14 ?_
  refine z_rS (As := [.long ((y - ((J 32) (a))))]) (rest := [.int (nI t), .ref (mm)]) (n := 1) ⟨hx, hb, hml, hown, hts⟩ (c_X7_above l D cs w s.heap.size (y - J 32 a)) gX7_due_X7_above rfl ⟨by decide +kernel, by decide +kernel, by decide +kernel⟩ ⟨Nat.le_of_ble_eq_true rfl, Nat.le_of_ble_eq_true rfl⟩ hK hE hS rfl hl.1 rfl (Nat.le_of_ble_eq_true rfl) dX7_due_15 ⟨Nat.le_of_ble_eq_true rfl, Nat.le_of_ble_eq_true rfl⟩ (fun H locs hS => ?_)
  refine z_rV (As := [.int (nI t), .long (zMax0 (y - J 32 a))]) (rest := []) (n := 2) ⟨hx, hb, hml, hown, hts⟩ (c_X7_taxed l D cs w H.size mm ad J K th tb dd wk br yr wd t n F G (zMax0 (y - J 32 a)) ht hk3 hn hF h_m h_1 h_2 h_3) gX7_due_X7_taxed rfl ⟨rfl, by decide +kernel, by decide +kernel, by decide +kernel⟩ ⟨Nat.le_of_ble_eq_true rfl, Nat.le_of_ble_eq_true rfl⟩ hK hE hS rfl h_m rfl hl.1 rfl (Nat.le_of_ble_eq_true rfl) dX7_due_18 ⟨Nat.le_of_ble_eq_true rfl, Nat.le_of_ble_eq_true rfl⟩ (fun H locs hS => ?_)
  refine lv_aload_n hx hb dX7_due_21 rfl (lv_at hl 0 rfl) ?_
  refine z_get (C := RX7) (T := TX7) (N := 45) (v := .ref (ad 33)) hx hb hts (by decide +kernel) hown hK hS h_m rfl 33 (by decide) (hts (.fieldLink RX7 90 "PayLedgerModel" "withCredit" "[J") (by decide +kernel)) rfl dX7_due_22 ?_
  refine lv_iload_n hx hb dX7_due_25 rfl (lv_at hl 1 rfl) ?_
  refine z_lald hx hb hK hS h_33 (vp_in_nI (by omega) (by decide)) dX7_due_26 ?_
  refine z_tl (y := ((J 33) (a))) (congrArg _ (nI_clamp (by omega))) ?_
  refine lv_lsub hx hb dX7_due_27 ?_
  refine z_rS (As := [.long ((mTax F G n (zMax0 (y - J 32 a)) - ((J 33) (a))))]) (rest := []) (n := 1) ⟨hx, hb, hml, hown, hts⟩ (c_X7_above l D cs w H.size (mTax F G n (zMax0 (y - J 32 a)) - J 33 a)) gX7_due_X7_above rfl ⟨by decide +kernel, by decide +kernel, by decide +kernel⟩ ⟨Nat.le_of_ble_eq_true rfl, Nat.le_of_ble_eq_true rfl⟩ hK hE hS rfl hl.1 rfl (Nat.le_of_ble_eq_true rfl) dX7_due_28 ⟨Nat.le_of_ble_eq_true rfl, Nat.le_of_ble_eq_true rfl⟩ (fun H locs hS => ?_)
  exact z_lret hx hb hr hlocks hS (Nat.le_of_ble_eq_true rfl) (Nat.le_of_ble_eq_true rfl) dX7_due_31 ⟨rfl, rfl⟩
set_option maxHeartbeats 4000000 in
set_option maxRecDepth 100000 in
theorem c_X7_wanted (l : Launch) (D : va_G) (cs : Nat → ClassId) (w : zw) (sz : Nat) (mm : Nat) (ad : Nat → Nat) (J : Nat → Nat → Int64) (K : Nat → Nat → Int32) (th tb dd wk br yr wd : Int32) (wi k d : Nat) (hw : wi < 10) (hk : k < 60) (hd : d < 8) (h_m : w (mm) = some (mo ad (th) (tb) (dd) (wk) (br) (yr) (wd))) (h_7 : w (ad 7) = some (eI cs (8) (K 7))) (h_8 : w (ad 8) = some (eJ cs (8) (J 8))) (h_10 : w (ad 10) = some (eJ cs (8) (J 10))) (h_25 : w (ad 25) = some (eJ cs (600) (J 25))) (h_26 : w (ad 26) = some (eZ cs (600) (K 26))) : zMr l D cs yX7_wanted wsX7_wanted 1 w sz [.ref (mm), .int (nI wi), .int (nI k), .int (nI d)] (.long (mWant (K 7 d) (J 8 d) (J 10 d) (K 26 (60 * wi + k)) (J 25 (60 * wi + k)) (zSum (fun i => J 25 (60 * wi + i)) k))) := by
  refine z_met (cc := cX7_wanted) (maxL := 10) (ret := (some .long)) (by decide) rfl (Nat.le_of_ble_eq_true rfl) ?_
  intro p e s m below meth c hx hb hr hml hown hts hlocks hnm hsz hK hE hS ls hl
  have hl : lv_has ls 10 [(0, .ref (mm)), (1, .int (nI wi)), (2, .int (nI k)), (3, .int (nI d))] := hl
  have L63 : ∀ (i : Nat), ∀ (acc : Int64), (hi : i ≤ k) → (c14 : ¬ K 7 d = 0) → (c54 : K 7 d = 2) → (hacc : acc = zSum (fun i => J 25 (60 * wi + i)) i) → ∀ (H : Heap) (locs : List Loc) (ls : Array Slot), zS (zA w sz) D w s.heap H locs → lv_has ls 10 [(9, .int (nI i)), (7, .long (acc)), (5, .long (J 25 (60 * wi + k))), (4, .int (nI (60 * wi + k))), (0, .ref (mm)), (1, .int (nI wi)), (2, .int (nI k)), (3, .int (nI d))] → W p l e (zR 1 0 0) s m [.ref (mm), .int (nI wi), .int (nI k), .int (nI d)].toArray below meth c H locs 0 0 (MQ below (zQ D w sz (fun r w2 => r = some (.long (mWant (K 7 d) (J 8 d) (J 10 d) (K 26 (60 * wi + k)) (J 25 (60 * wi + k)) (zSum (fun i => J 25 (60 * wi + i)) k))) ∧ w2 = w)) [.ref (mm), .int (nI wi), .int (nI k), .int (nI d)].toArray s 0 0 (zA w sz)) (F0 m 63 ls []) := by
    refine zloopU (P := fun i => ∀ (acc : Int64), (hi : i ≤ k) → (c14 : ¬ K 7 d = 0) → (c54 : K 7 d = 2) → (hacc : acc = zSum (fun i => J 25 (60 * wi + i)) i) → ∀ (H : Heap) (locs : List Loc) (ls : Array Slot), zS (zA w sz) D w s.heap H locs → lv_has ls 10 [(9, .int (nI i)), (7, .long (acc)), (5, .long (J 25 (60 * wi + k))), (4, .int (nI (60 * wi + k))), (0, .ref (mm)), (1, .int (nI wi)), (2, .int (nI k)), (3, .int (nI d))] → W p l e (zR 1 0 0) s m [.ref (mm), .int (nI wi), .int (nI k), .int (nI d)].toArray below meth c H locs 0 0 (MQ below (zQ D w sz (fun r w2 => r = some (.long (mWant (K 7 d) (J 8 d) (J 10 d) (K 26 (60 * wi + k)) (J 25 (60 * wi + k)) (zSum (fun i => J 25 (60 * wi + i)) k))) ∧ w2 = w)) [.ref (mm), .int (nI wi), .int (nI k), .int (nI d)].toArray s 0 0 (zA w sz)) (F0 m 63 ls [])) k (fun i ih => ?_)
    intro acc hi c14 c54 hacc H locs ls hS hl
    refine lv_iload hx hb dX7_wanted_63 (lv_at hl 0 rfl) ?_
    refine lv_iload_n hx hb dX7_wanted_65 rfl (lv_at hl 6 rfl) ?_
    refine lv_icmp_ge (tgt := 92) hx hb dX7_wanted_66 (by decide) (fun c66 => ?_) (fun c66 => ?_)
    · have hi9 : i = k := by rcases Nat.lt_or_ge i (k) with q | q; exact absurd c66 (nI_ge (b := k) q (by omega)); omega
      refine lv_aload_n hx hb dX7_wanted_92 rfl (lv_at hl 4 rfl) ?_
      refine z_get (C := RX7) (T := TX7) (N := 45) (v := .ref (ad 10)) hx hb hts (by decide +kernel) hown hK hS h_m rfl 10 (by decide) (hts (.fieldLink RX7 36 "PayLedgerModel" "base" "[J") (by decide +kernel)) rfl dX7_wanted_93 ?_
      refine lv_iload_n hx hb dX7_wanted_96 rfl (lv_at hl 7 rfl) ?_
      refine z_lald hx hb hK hS h_10 (vp_in_nI (by omega) (by decide)) dX7_wanted_97 ?_
      refine z_tl (y := ((J 10) (d))) (congrArg _ (nI_clamp (by omega))) ?_
      refine lv_lload hx hb dX7_wanted_98 (lv_at hl 1 rfl) ?_
      refine lv_lload hx hb dX7_wanted_100 (lv_at hl 2 rfl) ?_
      refine lv_ladd hx hb dX7_wanted_102 ?_
      refine z_rS (As := [.long (((J 10) (d))), .long ((acc + J 25 (60 * wi + k)))]) (rest := []) (n := 2) ⟨hx, hb, hml, hown, hts⟩ (c_X7_least l D cs w H.size (J 10 d) (acc + J 25 (60 * wi + k))) gX7_wanted_X7_least rfl ⟨by decide +kernel, by decide +kernel, by decide +kernel⟩ ⟨Nat.le_of_ble_eq_true rfl, Nat.le_of_ble_eq_true rfl⟩ hK hE hS rfl hl.1 rfl (Nat.le_of_ble_eq_true rfl) dX7_wanted_103 ⟨Nat.le_of_ble_eq_true rfl, Nat.le_of_ble_eq_true rfl⟩ (fun H locs hS => ?_)
      refine lv_aload_n hx hb dX7_wanted_106 rfl (lv_at hl 4 rfl) ?_
      refine z_get (C := RX7) (T := TX7) (N := 45) (v := .ref (ad 10)) hx hb hts (by decide +kernel) hown hK hS h_m rfl 10 (by decide) (hts (.fieldLink RX7 36 "PayLedgerModel" "base" "[J") (by decide +kernel)) rfl dX7_wanted_107 ?_
      refine lv_iload_n hx hb dX7_wanted_110 rfl (lv_at hl 7 rfl) ?_
      refine z_lald hx hb hK hS h_10 (vp_in_nI (by omega) (by decide)) dX7_wanted_111 ?_
      refine z_tl (y := ((J 10) (d))) (congrArg _ (nI_clamp (by omega))) ?_
      refine lv_lload hx hb dX7_wanted_112 (lv_at hl 1 rfl) ?_
      refine z_rS (As := [.long (((J 10) (d))), .long (acc)]) (rest := [.long (zMin (acc + J 25 (60 * wi + k)) (J 10 d))]) (n := 2) ⟨hx, hb, hml, hown, hts⟩ (c_X7_least l D cs w H.size (J 10 d) acc) gX7_wanted_X7_least rfl ⟨by decide +kernel, by decide +kernel, by decide +kernel⟩ ⟨Nat.le_of_ble_eq_true rfl, Nat.le_of_ble_eq_true rfl⟩ hK hE hS rfl hl.1 rfl (Nat.le_of_ble_eq_true rfl) dX7_wanted_114 ⟨Nat.le_of_ble_eq_true rfl, Nat.le_of_ble_eq_true rfl⟩ (fun H locs hS => ?_)
      refine lv_lsub hx hb dX7_wanted_117 ?_
      refine lv_lstore (lv' := [(5, .long ((zMin (acc + J 25 (60 * wi + k)) (J 10 d) - zMin acc (J 10 d)))), (9, .int (nI i)), (7, .long (acc)), (4, .int (nI (60 * wi + k))), (0, .ref (mm)), (1, .int (nI wi)), (2, .int (nI k)), (3, .int (nI d))]) hx hb dX7_wanted_118 hl (by decide) rfl (fun ls hl => ?_)
      refine lv_lload hx hb dX7_wanted_120 (lv_at hl 0 rfl) ?_
      refine lv_aload_n hx hb dX7_wanted_122 rfl (lv_at hl 4 rfl) ?_
      refine z_get (C := RX7) (T := TX7) (N := 45) (v := .ref (ad 8)) hx hb hts (by decide +kernel) hown hK hS h_m rfl 8 (by decide) (hts (.fieldLink RX7 30 "PayLedgerModel" "size" "[J") (by decide +kernel)) rfl dX7_wanted_123 ?_
      refine lv_iload_n hx hb dX7_wanted_126 rfl (lv_at hl 7 rfl) ?_
      refine z_lald hx hb hK hS h_8 (vp_in_nI (by omega) (by decide)) dX7_wanted_127 ?_
      refine z_tl (y := ((J 8) (d))) (congrArg _ (nI_clamp (by omega))) ?_
      refine lv_lmul hx hb dX7_wanted_128 ?_
      refine lv_ldc2 (v := 1000000) hx hb hown (hts (.constantLong RX7 136 (1000000)) (by decide +kernel)) dX7_wanted_129 ?_
      refine z_rS (As := [.long (((zMin (acc + J 25 (60 * wi + k)) (J 10 d) - zMin acc (J 10 d)) * ((J 8) (d)))), .long (1000000)]) (rest := []) (n := 2) ⟨hx, hb, hml, hown, hts⟩ (c_X7_round l D cs w H.size (((zMin (acc + J 25 (60 * wi + k)) (J 10 d) - zMin acc (J 10 d)) * ((J 8) (d)))) 1000000 (by decide)) gX7_wanted_X7_round rfl ⟨by decide +kernel, by decide +kernel, by decide +kernel⟩ ⟨Nat.le_of_ble_eq_true rfl, Nat.le_of_ble_eq_true rfl⟩ hK hE hS rfl hl.1 rfl (Nat.le_of_ble_eq_true rfl) dX7_wanted_132 ⟨Nat.le_of_ble_eq_true rfl, Nat.le_of_ble_eq_true rfl⟩ (fun H locs hS => ?_)
      exact z_lret hx hb hr hlocks hS (Nat.le_of_ble_eq_true rfl) (Nat.le_of_ble_eq_true rfl) dX7_wanted_135 ⟨by rw [mWant, if_neg c14, if_pos c54, hacc, hi9], rfl⟩
    · have c66 : i < k := by rcases Nat.lt_or_ge i (k) with q | q; exact q; exact absurd (nI_le (a := k) q (by omega)) c66
      refine lv_lload hx hb dX7_wanted_69 (lv_at hl 1 rfl) ?_
      refine lv_aload_n hx hb dX7_wanted_71 rfl (lv_at hl 4 rfl) ?_
      refine z_get (C := RX7) (T := TX7) (N := 45) (v := .ref (ad 25)) hx hb hts (by decide +kernel) hown hK hS h_m rfl 25 (by decide) (hts (.fieldLink RX7 66 "PayLedgerModel" "gross" "[J") (by decide +kernel)) rfl dX7_wanted_72 ?_
      refine lv_bipush (v := 60) hx hb dX7_wanted_75 (by decide) ?_
      refine lv_iload_n hx hb dX7_wanted_77 rfl (lv_at hl 5 rfl) ?_
      refine lv_imul hx hb dX7_wanted_78 ?_
      refine z_ti (y := nI (60 * wi)) (zI_mul (60) (wi)) ?_
      refine lv_iload hx hb dX7_wanted_79 (lv_at hl 0 rfl) ?_
      refine lv_iadd hx hb dX7_wanted_81 ?_
      refine z_ti (y := nI ((60 * wi) + i)) (nI_add ((60 * wi)) (i)) ?_
      refine z_lald hx hb hK hS h_25 (vp_in_nI (by omega) (by decide)) dX7_wanted_82 ?_
      refine z_tl (y := ((J 25) (((60 * wi) + i)))) (congrArg _ (nI_clamp (by omega))) ?_
      refine lv_ladd hx hb dX7_wanted_83 ?_
      refine lv_lstore (lv' := [(7, .long ((acc + ((J 25) (((60 * wi) + i)))))), (9, .int (nI i)), (5, .long (J 25 (60 * wi + k))), (4, .int (nI (60 * wi + k))), (0, .ref (mm)), (1, .int (nI wi)), (2, .int (nI k)), (3, .int (nI d))]) hx hb dX7_wanted_84 hl (by decide) rfl (fun ls hl => ?_)
      refine lv_iinc (v := nI (i + 1)) (lv' := [(9, .int (nI (i + 1))), (7, .long ((acc + ((J 25) (((60 * wi) + i)))))), (5, .long (J 25 (60 * wi + k))), (4, .int (nI (60 * wi + k))), (0, .ref (mm)), (1, .int (nI wi)), (2, .int (nI k)), (3, .int (nI d))]) hx hb dX7_wanted_86 hl (k := 1) rfl (nI_1 _) (by decide) rfl (fun ls hl => ?_)
      refine lv_goto (tgt := 63) hx hb dX7_wanted_89 (by decide) ?_
      exact ih c66 ((acc + ((J 25) (((60 * wi) + i))))) (by omega) c14 c54 (by rw [hacc]; rfl)  _ _ _ hS (lv_sub hl [0, 1, 2, 3, 4, 5, 6, 7] rfl)
  refine lv_bipush (v := 60) hx hb dX7_wanted_0 (by decide) ?_
  refine lv_iload_n hx hb dX7_wanted_2 rfl (lv_at hl 1 rfl) ?_
  refine lv_imul hx hb dX7_wanted_3 ?_
  refine z_ti (y := nI (60 * wi)) (zI_mul (60) (wi)) ?_
  refine lv_iload_n hx hb dX7_wanted_4 rfl (lv_at hl 2 rfl) ?_
  refine lv_iadd hx hb dX7_wanted_5 ?_
  refine z_ti (y := nI ((60 * wi) + k)) (nI_add ((60 * wi)) (k)) ?_
  refine lv_istore (lv' := [(4, .int (nI ((60 * wi) + k))), (0, .ref (mm)), (1, .int (nI wi)), (2, .int (nI k)), (3, .int (nI d))]) hx hb dX7_wanted_6 hl (by decide) rfl (fun ls hl => ?_)
  refine lv_aload_n hx hb dX7_wanted_8 rfl (lv_at hl 1 rfl) ?_
  refine z_get (C := RX7) (T := TX7) (N := 45) (v := .ref (ad 7)) hx hb hts (by decide +kernel) hown hK hS h_m rfl 7 (by decide) (hts (.fieldLink RX7 27 "PayLedgerModel" "sort" "[I") (by decide +kernel)) rfl dX7_wanted_9 ?_
  refine lv_iload_n hx hb dX7_wanted_12 rfl (lv_at hl 4 rfl) ?_
  refine z_iald hx hb hK hS h_7 (vp_in_nI (by omega) (by decide)) dX7_wanted_13 ?_
  refine z_ti (y := ((K 7) (d))) (congrArg _ (nI_clamp (by omega))) ?_
  refine lv_if_ne (tgt := 38) hx hb dX7_wanted_14 (by decide) (fun c14 => ?_) (fun c14 => ?_)
  · refine lv_aload_n hx hb dX7_wanted_38 rfl (lv_at hl 1 rfl) ?_
    refine z_get (C := RX7) (T := TX7) (N := 45) (v := .ref (ad 25)) hx hb hts (by decide +kernel) hown hK hS h_m rfl 25 (by decide) (hts (.fieldLink RX7 66 "PayLedgerModel" "gross" "[J") (by decide +kernel)) rfl dX7_wanted_39 ?_
    refine lv_iload hx hb dX7_wanted_42 (lv_at hl 0 rfl) ?_
    refine z_lald hx hb hK hS h_25 (vp_in_nI (by omega) (by decide)) dX7_wanted_44 ?_
    refine z_tl (y := ((J 25) (((60 * wi) + k)))) (congrArg _ (nI_clamp (by omega))) ?_
    refine lv_lstore (lv' := [(5, .long (((J 25) (((60 * wi) + k))))), (4, .int (nI ((60 * wi) + k))), (0, .ref (mm)), (1, .int (nI wi)), (2, .int (nI k)), (3, .int (nI d))]) hx hb dX7_wanted_45 hl (by decide) rfl (fun ls hl => ?_)
    refine lv_aload_n hx hb dX7_wanted_47 rfl (lv_at hl 2 rfl) ?_
    refine z_get (C := RX7) (T := TX7) (N := 45) (v := .ref (ad 7)) hx hb hts (by decide +kernel) hown hK hS h_m rfl 7 (by decide) (hts (.fieldLink RX7 27 "PayLedgerModel" "sort" "[I") (by decide +kernel)) rfl dX7_wanted_48 ?_
    refine lv_iload_n hx hb dX7_wanted_51 rfl (lv_at hl 5 rfl) ?_
    refine z_iald hx hb hK hS h_7 (vp_in_nI (by omega) (by decide)) dX7_wanted_52 ?_
    refine z_ti (y := ((K 7) (d))) (congrArg _ (nI_clamp (by omega))) ?_
    refine lv_iconst (v := 2) hx hb dX7_wanted_53 (by decide) ?_
    refine lv_icmp_ne (tgt := 120) hx hb dX7_wanted_54 (by decide) (fun c54 => ?_) (fun c54 => ?_)
    · refine lv_lload hx hb dX7_wanted_120 (lv_at hl 0 rfl) ?_
      refine lv_aload_n hx hb dX7_wanted_122 rfl (lv_at hl 2 rfl) ?_
      refine z_get (C := RX7) (T := TX7) (N := 45) (v := .ref (ad 8)) hx hb hts (by decide +kernel) hown hK hS h_m rfl 8 (by decide) (hts (.fieldLink RX7 30 "PayLedgerModel" "size" "[J") (by decide +kernel)) rfl dX7_wanted_123 ?_
      refine lv_iload_n hx hb dX7_wanted_126 rfl (lv_at hl 5 rfl) ?_
      refine z_lald hx hb hK hS h_8 (vp_in_nI (by omega) (by decide)) dX7_wanted_127 ?_
      refine z_tl (y := ((J 8) (d))) (congrArg _ (nI_clamp (by omega))) ?_
      refine lv_lmul hx hb dX7_wanted_128 ?_
      refine lv_ldc2 (v := 1000000) hx hb hown (hts (.constantLong RX7 136 (1000000)) (by decide +kernel)) dX7_wanted_129 ?_
      refine z_rS (As := [.long ((((J 25) (((60 * wi) + k))) * ((J 8) (d)))), .long (1000000)]) (rest := []) (n := 2) ⟨hx, hb, hml, hown, hts⟩ (c_X7_round l D cs w s.heap.size ((((J 25) (((60 * wi) + k))) * ((J 8) (d)))) 1000000 (by decide)) gX7_wanted_X7_round rfl ⟨by decide +kernel, by decide +kernel, by decide +kernel⟩ ⟨Nat.le_of_ble_eq_true rfl, Nat.le_of_ble_eq_true rfl⟩ hK hE hS rfl hl.1 rfl (Nat.le_of_ble_eq_true rfl) dX7_wanted_132 ⟨Nat.le_of_ble_eq_true rfl, Nat.le_of_ble_eq_true rfl⟩ (fun H locs hS => ?_)
      exact z_lret hx hb hr hlocks hS (Nat.le_of_ble_eq_true rfl) (Nat.le_of_ble_eq_true rfl) dX7_wanted_135 ⟨by rw [mWant, if_neg c14, if_neg c54], rfl⟩
    · refine lv_lconst (v := 0) hx hb dX7_wanted_57 (by decide) ?_
      refine lv_lstore (lv' := [(7, .long (0)), (5, .long (((J 25) (((60 * wi) + k))))), (4, .int (nI ((60 * wi) + k))), (0, .ref (mm)), (1, .int (nI wi)), (2, .int (nI k)), (3, .int (nI d))]) hx hb dX7_wanted_58 hl (by decide) rfl (fun ls hl => ?_)
      refine lv_iconst (v := 0) hx hb dX7_wanted_60 (by decide) ?_
      refine lv_istore (lv' := [(9, .int (0)), (7, .long (0)), (5, .long (((J 25) (((60 * wi) + k))))), (4, .int (nI ((60 * wi) + k))), (0, .ref (mm)), (1, .int (nI wi)), (2, .int (nI k)), (3, .int (nI d))]) hx hb dX7_wanted_61 hl (by decide) rfl (fun ls hl => ?_)
      exact L63 0 0 (by omega) c14 c54 rfl  _ _ _ hS (lv_sub hl [0, 1, 2, 3, 4, 5, 6, 7] rfl)
  · refine lv_aload_n hx hb dX7_wanted_17 rfl (lv_at hl 1 rfl) ?_
    refine z_get (C := RX7) (T := TX7) (N := 45) (v := .ref (ad 26)) hx hb hts (by decide +kernel) hown hK hS h_m rfl 26 (by decide) (hts (.fieldLink RX7 69 "PayLedgerModel" "isBonus" "[Z") (by decide +kernel)) rfl dX7_wanted_18 ?_
    refine lv_iload hx hb dX7_wanted_21 (lv_at hl 0 rfl) ?_
    refine z_zald hx hb hK hS h_26 (vp_in_nI (by omega) (by decide)) dX7_wanted_23 ?_
    refine z_ti (y := ((K 26) (((60 * wi) + k)))) (congrArg _ (nI_clamp (by omega))) ?_
    refine lv_if_eq (tgt := 31) hx hb dX7_wanted_24 (by decide) (fun c24 => ?_) (fun c24 => ?_)
    · refine lv_aload_n hx hb dX7_wanted_31 rfl (lv_at hl 1 rfl) ?_
      refine z_get (C := RX7) (T := TX7) (N := 45) (v := .ref (ad 8)) hx hb hts (by decide +kernel) hown hK hS h_m rfl 8 (by decide) (hts (.fieldLink RX7 30 "PayLedgerModel" "size" "[J") (by decide +kernel)) rfl dX7_wanted_32 ?_
      refine lv_iload_n hx hb dX7_wanted_35 rfl (lv_at hl 4 rfl) ?_
      refine z_lald hx hb hK hS h_8 (vp_in_nI (by omega) (by decide)) dX7_wanted_36 ?_
      refine z_tl (y := ((J 8) (d))) (congrArg _ (nI_clamp (by omega))) ?_
      exact z_lret hx hb hr hlocks hS (Nat.le_of_ble_eq_true rfl) (Nat.le_of_ble_eq_true rfl) dX7_wanted_37 ⟨by rw [mWant, if_pos c14, if_pos c24], rfl⟩
    · refine lv_lconst (v := 0) hx hb dX7_wanted_27 (by decide) ?_
      refine lv_goto (tgt := 37) hx hb dX7_wanted_28 (by decide) ?_
      exact z_lret hx hb hr hlocks hS (Nat.le_of_ble_eq_true rfl) (Nat.le_of_ble_eq_true rfl) dX7_wanted_37 ⟨by rw [mWant, if_pos c14, if_neg c24], rfl⟩
set_option maxHeartbeats 4000000 in
set_option maxRecDepth 100000 in
theorem c_X7_deducts (l : Launch) (D : va_G) (cs : Nat → ClassId) (w : zw) (sz : Nat) (mm : Nat) (ad : Nat → Nat) (J : Nat → Nat → Int64) (K : Nat → Nat → Int32) (th tb wk br yr wd : Int32) (wi k : Nat) (left : Int64) (early : Int32) (nd : Nat) (de so : Nat → Int32) (si ca bs : Nat → Int64) (en bo : Int32) (gr ag : Int64) (AP f0 g : Nat → Int64) (hinj : ∀ i j : Nat, i ≠ j → ad i ≠ ad j) (hDd : mDd J K nd de so si ca bs) (hw : wi < 10) (hk : k < 60) (hen : K 30 (60 * wi + k) = en) (hbo : K 26 (60 * wi + k) = bo) (hgr : J 25 (60 * wi + k) = gr) (hag : zSum (fun i => J 25 (60 * wi + i)) k = ag) (hAP : ∀ i : Nat, i < 8 → zSum (fun x => f0 (8 * x + i)) k = AP i) (h00 : ∀ d : Nat, d < nd → de d = early → g d = 0) (h_m : w (mm) = some (mo ad (th) (tb) (nI nd) (wk) (br) (yr) (wd))) (h_6 : w (ad 6) = some (eZ cs (8) (K 6))) (h_7 : w (ad 7) = some (eI cs (8) (K 7))) (h_8 : w (ad 8) = some (eJ cs (8) (J 8))) (h_9 : w (ad 9) = some (eJ cs (8) (J 9))) (h_10 : w (ad 10) = some (eJ cs (8) (J 10))) (h_25 : w (ad 25) = some (eJ cs (600) (J 25))) (h_26 : w (ad 26) = some (eZ cs (600) (K 26))) (h_30 : w (ad 30) = some (eI cs (600) (K 30))) (h_37 : w (ad 37) = some (eJ cs (480) (zRow f0 k g))) : zM l D cs yX7_deducts wsX7_deducts 2 0 0 w sz [.ref (mm), .int (nI wi), .int (nI k), .long (left), .int (early)] (fun r w2 => r = some (.long (zTk (zSel de nd early) (zHasF en) (mDueF so si ca bs bo gr ag AP) left g 8).1) ∧ zEx w w2 [(ad 37, eJ cs (480) (zRow f0 k (zTk (zSel de nd early) (zHasF en) (mDueF so si ca bs bo gr ag AP) left g 8).2))]) := by
  refine z_met (cc := cX7_deducts) (maxL := 14) (ret := (some .long)) (by decide) rfl (Nat.le_of_ble_eq_true rfl) ?_
  intro p e s m below meth c hx hb hr hml hown hts hlocks hnm hsz hK hE hS ls hl
  have hl : lv_has ls 14 [(0, .ref (mm)), (1, .int (nI wi)), (2, .int (nI k)), (3, .long (left)), (5, .int (early))] := hl
  have hnd := hDd.1
  have L77 : ∀ (j : Nat), ∀ (i : Nat) (u : zw) (rs : Int64) (ff : Nat → Int64) (acc : Int64), (c12 : i < nd) → (hj : j ≤ k) → (hacc : acc = zSum (fun x => f0 (8 * x + i)) j) → (h_m : u (mm) = some (mo ad (th) (tb) (nI nd) (wk) (br) (yr) (wd))) → (h_37 : u (ad 37) = some (eJ cs (480) (zRow f0 k ff))) → (kk : ∀ (H : Heap) (locs : List Loc) (ls : Array Slot), zS (zA w sz) D u s.heap H locs → lv_has ls 14 [(11, .long (zSum (fun x => f0 (8 * x + i)) k)), (9, .long (mWant (so i) (si i) (bs i) bo gr ag)), (8, .int (nI i)), (6, .long (rs)), (0, .ref (mm)), (1, .int (nI wi)), (2, .int (nI k)), (3, .long (left)), (5, .int (early))] → W p l e (zR 2 0 0) s m [.ref (mm), .int (nI wi), .int (nI k), .long (left), .int (early)].toArray below meth c H locs 0 0 (MQ below (zQ D w sz (fun r w2 => r = some (.long (zTk (zSel de nd early) (zHasF en) (mDueF so si ca bs bo gr ag AP) left g 8).1) ∧ zEx w w2 [(ad 37, eJ cs (480) (zRow f0 k (zTk (zSel de nd early) (zHasF en) (mDueF so si ca bs bo gr ag AP) left g 8).2))])) [.ref (mm), .int (nI wi), .int (nI k), .long (left), .int (early)].toArray s 0 0 (zA w sz)) (F0 m 107 ls [])) → ∀ (H : Heap) (locs : List Loc) (ls : Array Slot), zS (zA w sz) D u s.heap H locs → lv_has ls 14 [(13, .int (nI j)), (11, .long (acc)), (9, .long (mWant (so i) (si i) (bs i) bo gr ag)), (8, .int (nI i)), (6, .long (rs)), (0, .ref (mm)), (1, .int (nI wi)), (2, .int (nI k)), (3, .long (left)), (5, .int (early))] → W p l e (zR 2 0 0) s m [.ref (mm), .int (nI wi), .int (nI k), .long (left), .int (early)].toArray below meth c H locs 0 0 (MQ below (zQ D w sz (fun r w2 => r = some (.long (zTk (zSel de nd early) (zHasF en) (mDueF so si ca bs bo gr ag AP) left g 8).1) ∧ zEx w w2 [(ad 37, eJ cs (480) (zRow f0 k (zTk (zSel de nd early) (zHasF en) (mDueF so si ca bs bo gr ag AP) left g 8).2))])) [.ref (mm), .int (nI wi), .int (nI k), .long (left), .int (early)].toArray s 0 0 (zA w sz)) (F0 m 77 ls []) := by
    refine zloopU (P := fun j => ∀ (i : Nat) (u : zw) (rs : Int64) (ff : Nat → Int64) (acc : Int64), (c12 : i < nd) → (hj : j ≤ k) → (hacc : acc = zSum (fun x => f0 (8 * x + i)) j) → (h_m : u (mm) = some (mo ad (th) (tb) (nI nd) (wk) (br) (yr) (wd))) → (h_37 : u (ad 37) = some (eJ cs (480) (zRow f0 k ff))) → (kk : ∀ (H : Heap) (locs : List Loc) (ls : Array Slot), zS (zA w sz) D u s.heap H locs → lv_has ls 14 [(11, .long (zSum (fun x => f0 (8 * x + i)) k)), (9, .long (mWant (so i) (si i) (bs i) bo gr ag)), (8, .int (nI i)), (6, .long (rs)), (0, .ref (mm)), (1, .int (nI wi)), (2, .int (nI k)), (3, .long (left)), (5, .int (early))] → W p l e (zR 2 0 0) s m [.ref (mm), .int (nI wi), .int (nI k), .long (left), .int (early)].toArray below meth c H locs 0 0 (MQ below (zQ D w sz (fun r w2 => r = some (.long (zTk (zSel de nd early) (zHasF en) (mDueF so si ca bs bo gr ag AP) left g 8).1) ∧ zEx w w2 [(ad 37, eJ cs (480) (zRow f0 k (zTk (zSel de nd early) (zHasF en) (mDueF so si ca bs bo gr ag AP) left g 8).2))])) [.ref (mm), .int (nI wi), .int (nI k), .long (left), .int (early)].toArray s 0 0 (zA w sz)) (F0 m 107 ls [])) → ∀ (H : Heap) (locs : List Loc) (ls : Array Slot), zS (zA w sz) D u s.heap H locs → lv_has ls 14 [(13, .int (nI j)), (11, .long (acc)), (9, .long (mWant (so i) (si i) (bs i) bo gr ag)), (8, .int (nI i)), (6, .long (rs)), (0, .ref (mm)), (1, .int (nI wi)), (2, .int (nI k)), (3, .long (left)), (5, .int (early))] → W p l e (zR 2 0 0) s m [.ref (mm), .int (nI wi), .int (nI k), .long (left), .int (early)].toArray below meth c H locs 0 0 (MQ below (zQ D w sz (fun r w2 => r = some (.long (zTk (zSel de nd early) (zHasF en) (mDueF so si ca bs bo gr ag AP) left g 8).1) ∧ zEx w w2 [(ad 37, eJ cs (480) (zRow f0 k (zTk (zSel de nd early) (zHasF en) (mDueF so si ca bs bo gr ag AP) left g 8).2))])) [.ref (mm), .int (nI wi), .int (nI k), .long (left), .int (early)].toArray s 0 0 (zA w sz)) (F0 m 77 ls [])) k (fun j ih => ?_)
    intro i u rs ff acc c12 hj hacc h_m h_37 kk H locs ls hS hl
    refine lv_iload hx hb dX7_deducts_77 (lv_at hl 0 rfl) ?_
    refine lv_iload_n hx hb dX7_deducts_79 rfl (lv_at hl 7 rfl) ?_
    refine lv_icmp_ge (tgt := 107) hx hb dX7_deducts_80 (by decide) (fun c80 => ?_) (fun c80 => ?_)
    · have hi9 : j = k := by rcases Nat.lt_or_ge j (k) with q | q; exact absurd c80 (nI_ge (b := k) q (by omega)); omega
      subst hi9
      subst hacc
      exact kk  _ _ _ hS (lv_sub hl [1, 2, 3, 4, 5, 6, 7, 8, 9] rfl)
    · have c80 : j < k := by rcases Nat.lt_or_ge j (k) with q | q; exact q; exact absurd (nI_le (a := k) q (by omega)) c80
      refine lv_lload hx hb dX7_deducts_83 (lv_at hl 1 rfl) ?_
      refine lv_aload_n hx hb dX7_deducts_85 rfl (lv_at hl 5 rfl) ?_
      refine z_get (C := RX7) (T := TX7) (N := 45) (v := .ref (ad 37)) hx hb hts (by decide +kernel) hown hK hS h_m rfl 37 (by decide) (hts (.fieldLink RX7 102 "PayLedgerModel" "parts" "[J") (by decide +kernel)) rfl dX7_deducts_86 ?_
      refine lv_bipush (v := 8) hx hb dX7_deducts_89 (by decide) ?_
      refine lv_iload hx hb dX7_deducts_91 (lv_at hl 0 rfl) ?_
      refine lv_imul hx hb dX7_deducts_93 ?_
      refine z_ti (y := nI (8 * j)) (zI_mul (8) (j)) ?_
      refine lv_iload hx hb dX7_deducts_94 (lv_at hl 3 rfl) ?_
      refine lv_iadd hx hb dX7_deducts_96 ?_
      refine z_ti (y := nI ((8 * j) + i)) (nI_add ((8 * j)) (i)) ?_
      refine z_lald hx hb hK hS h_37 (vp_in_nI (by omega) (by decide)) dX7_deducts_97 ?_
      refine z_tl (y := ((zRow f0 k ff) (((8 * j) + i)))) (congrArg _ (nI_clamp (by omega))) ?_
      refine z_tl (y := f0 (8 * j + i)) (zRow_lt c80 (by omega)) ?_
      refine lv_ladd hx hb dX7_deducts_98 ?_
      refine lv_lstore (lv' := [(11, .long ((acc + f0 (8 * j + i)))), (13, .int (nI j)), (9, .long (mWant (so i) (si i) (bs i) bo gr ag)), (8, .int (nI i)), (6, .long (rs)), (0, .ref (mm)), (1, .int (nI wi)), (2, .int (nI k)), (3, .long (left)), (5, .int (early))]) hx hb dX7_deducts_99 hl (by decide) rfl (fun ls hl => ?_)
      refine lv_iinc (v := nI (j + 1)) (lv' := [(13, .int (nI (j + 1))), (11, .long ((acc + f0 (8 * j + i)))), (9, .long (mWant (so i) (si i) (bs i) bo gr ag)), (8, .int (nI i)), (6, .long (rs)), (0, .ref (mm)), (1, .int (nI wi)), (2, .int (nI k)), (3, .long (left)), (5, .int (early))]) hx hb dX7_deducts_101 hl (k := 1) rfl (nI_1 _) (by decide) rfl (fun ls hl => ?_)
      refine lv_goto (tgt := 77) hx hb dX7_deducts_104 (by decide) ?_
      exact ih c80 i _ rs ff ((acc + f0 (8 * j + i))) c12 (by omega) (by rw [hacc]; rfl) h_m h_37 kk _ _ _ hS (lv_sub hl [0, 1, 2, 3, 4, 5, 6, 7, 8, 9] rfl)
  have L6 : ∀ (i : Nat), ∀ (u : zw) (rs : Int64) (ff : Nat → Int64), (hi : i ≤ nd) → (hT : zTk (zSel de nd early) (zHasF en) (mDueF so si ca bs bo gr ag AP) left g i = (rs, ff)) → (h_m : u (mm) = some (mo ad (th) (tb) (nI nd) (wk) (br) (yr) (wd))) → (h_6 : u (ad 6) = some (eZ cs (8) (K 6))) → (h_7 : u (ad 7) = some (eI cs (8) (K 7))) → (h_8 : u (ad 8) = some (eJ cs (8) (J 8))) → (h_9 : u (ad 9) = some (eJ cs (8) (J 9))) → (h_10 : u (ad 10) = some (eJ cs (8) (J 10))) → (h_25 : u (ad 25) = some (eJ cs (600) (J 25))) → (h_26 : u (ad 26) = some (eZ cs (600) (K 26))) → (h_30 : u (ad 30) = some (eI cs (600) (K 30))) → (h_37 : u (ad 37) = some (eJ cs (480) (zRow f0 k ff))) → (hex0 : zEx w u [(ad 37, (eJ cs (480) (zRow f0 k ff)))]) → ∀ (H : Heap) (locs : List Loc) (ls : Array Slot), zS (zA w sz) D u s.heap H locs → lv_has ls 14 [(8, .int (nI i)), (6, .long (rs)), (0, .ref (mm)), (1, .int (nI wi)), (2, .int (nI k)), (3, .long (left)), (5, .int (early))] → W p l e (zR 2 0 0) s m [.ref (mm), .int (nI wi), .int (nI k), .long (left), .int (early)].toArray below meth c H locs 0 0 (MQ below (zQ D w sz (fun r w2 => r = some (.long (zTk (zSel de nd early) (zHasF en) (mDueF so si ca bs bo gr ag AP) left g 8).1) ∧ zEx w w2 [(ad 37, eJ cs (480) (zRow f0 k (zTk (zSel de nd early) (zHasF en) (mDueF so si ca bs bo gr ag AP) left g 8).2))])) [.ref (mm), .int (nI wi), .int (nI k), .long (left), .int (early)].toArray s 0 0 (zA w sz)) (F0 m 6 ls []) := by
    refine zloopU (P := fun i => ∀ (u : zw) (rs : Int64) (ff : Nat → Int64), (hi : i ≤ nd) → (hT : zTk (zSel de nd early) (zHasF en) (mDueF so si ca bs bo gr ag AP) left g i = (rs, ff)) → (h_m : u (mm) = some (mo ad (th) (tb) (nI nd) (wk) (br) (yr) (wd))) → (h_6 : u (ad 6) = some (eZ cs (8) (K 6))) → (h_7 : u (ad 7) = some (eI cs (8) (K 7))) → (h_8 : u (ad 8) = some (eJ cs (8) (J 8))) → (h_9 : u (ad 9) = some (eJ cs (8) (J 9))) → (h_10 : u (ad 10) = some (eJ cs (8) (J 10))) → (h_25 : u (ad 25) = some (eJ cs (600) (J 25))) → (h_26 : u (ad 26) = some (eZ cs (600) (K 26))) → (h_30 : u (ad 30) = some (eI cs (600) (K 30))) → (h_37 : u (ad 37) = some (eJ cs (480) (zRow f0 k ff))) → (hex0 : zEx w u [(ad 37, (eJ cs (480) (zRow f0 k ff)))]) → ∀ (H : Heap) (locs : List Loc) (ls : Array Slot), zS (zA w sz) D u s.heap H locs → lv_has ls 14 [(8, .int (nI i)), (6, .long (rs)), (0, .ref (mm)), (1, .int (nI wi)), (2, .int (nI k)), (3, .long (left)), (5, .int (early))] → W p l e (zR 2 0 0) s m [.ref (mm), .int (nI wi), .int (nI k), .long (left), .int (early)].toArray below meth c H locs 0 0 (MQ below (zQ D w sz (fun r w2 => r = some (.long (zTk (zSel de nd early) (zHasF en) (mDueF so si ca bs bo gr ag AP) left g 8).1) ∧ zEx w w2 [(ad 37, eJ cs (480) (zRow f0 k (zTk (zSel de nd early) (zHasF en) (mDueF so si ca bs bo gr ag AP) left g 8).2))])) [.ref (mm), .int (nI wi), .int (nI k), .long (left), .int (early)].toArray s 0 0 (zA w sz)) (F0 m 6 ls [])) nd (fun i ih => ?_)
    intro u rs ff hi hT h_m h_6 h_7 h_8 h_9 h_10 h_25 h_26 h_30 h_37 hex0 H locs ls hS hl
    refine lv_iload hx hb dX7_deducts_6 (lv_at hl 0 rfl) ?_
    refine lv_aload_n hx hb dX7_deducts_8 rfl (lv_at hl 2 rfl) ?_
    refine z_get (C := RX7) (T := TX7) (N := 45) (v := .int (nI nd)) hx hb hts (by decide +kernel) hown hK hS h_m rfl 11 (by decide) (hts (.fieldLink RX7 157 "PayLedgerModel" "deductions" "I") (by decide +kernel)) rfl dX7_deducts_9 ?_
    refine lv_icmp_ge (tgt := 160) hx hb dX7_deducts_12 (by decide) (fun c12 => ?_) (fun c12 => ?_)
    · have hi9 : i = nd := by rcases Nat.lt_or_ge i (nd) with q | q; exact absurd c12 (nI_ge (b := nd) q (by omega)); omega
      refine lv_lload hx hb dX7_deducts_160 (lv_at hl 1 rfl) ?_
      have hex : zEx w u [(ad 37, (eJ cs (480) (zRow f0 k ff)))] := ⟨(zm1 h_37 zm0), fun a9 h9 => by rw [hex0.2 a9 (zm1 (show a9 ≠ ad 37 from h9 (ad 37, (eJ cs (480) (zRow f0 k ff))) (List.mem_of_getElem? (i := 0) rfl)) zm0)]⟩
      exact z_lret hx hb hr hlocks hS (Nat.le_of_ble_eq_true rfl) (Nat.le_of_ble_eq_true rfl) dX7_deducts_162 ⟨by rw [hi9] at hT; rw [zTk_end8 hnd zSel_ge, hT], by rw [hi9] at hT; rw [zTk_end8 hnd zSel_ge, hT]; exact hex⟩
    · have c12 : i < nd := by rcases Nat.lt_or_ge i (nd) with q | q; exact q; exact absurd (nI_le (a := nd) q (by omega)) c12
      refine lv_aload_n hx hb dX7_deducts_15 rfl (lv_at hl 2 rfl) ?_
      refine z_get (C := RX7) (T := TX7) (N := 45) (v := .ref (ad 6)) hx hb hts (by decide +kernel) hown hK hS h_m rfl 6 (by decide) (hts (.fieldLink RX7 24 "PayLedgerModel" "early" "[Z") (by decide +kernel)) rfl dX7_deducts_16 ?_
      refine lv_iload hx hb dX7_deducts_19 (lv_at hl 0 rfl) ?_
      refine z_zald hx hb hK hS h_6 (vp_in_nI (by omega) (by decide)) dX7_deducts_21 ?_
      refine z_ti (y := ((K 6) (i))) (congrArg _ (nI_clamp (by omega))) ?_
      refine z_ti (y := de i) (hDd.2 i c12).1 ?_
      refine lv_iload hx hb dX7_deducts_22 (lv_at hl 6 rfl) ?_
      refine lv_icmp_ne (tgt := 154) hx hb dX7_deducts_24 (by decide) (fun c24 => ?_) (fun c24 => ?_)
      · refine lv_iinc (v := nI (i + 1)) (lv' := [(8, .int (nI (i + 1))), (6, .long (rs)), (0, .ref (mm)), (1, .int (nI wi)), (2, .int (nI k)), (3, .long (left)), (5, .int (early))]) hx hb dX7_deducts_154 hl (k := 0) rfl (nI_1 _) (by decide) rfl (fun ls hl => ?_)
        refine lv_goto (tgt := 6) hx hb dX7_deducts_157 (by decide) ?_
        have hex : zEx w u [(ad 37, (eJ cs (480) (zRow f0 k ff)))] := ⟨(zm1 h_37 zm0), fun a9 h9 => by rw [hex0.2 a9 (zm1 (show a9 ≠ ad 37 from h9 (ad 37, (eJ cs (480) (zRow f0 k ff))) (List.mem_of_getElem? (i := 0) rfl)) zm0)]⟩
        exact ih c12 _ rs ff (by omega) (zTk_skip hT (by unfold zSel; rw [decide_eq_false_iff_not]; exact fun q9 => c24 q9.2)) h_m h_6 h_7 h_8 h_9 h_10 h_25 h_26 h_30 h_37 hex _ _ _ hS (lv_sub hl [0, 1, 2, 3, 4, 5, 6] rfl)
      · have hsel : zSel de nd early i = true := by unfold zSel; rw [decide_eq_true_iff]; exact ⟨c12, c24⟩
        refine lv_aload_n hx hb dX7_deducts_27 rfl (lv_at hl 2 rfl) ?_
        refine z_get (C := RX7) (T := TX7) (N := 45) (v := .ref (ad 30)) hx hb hts (by decide +kernel) hown hK hS h_m rfl 30 (by decide) (hts (.fieldLink RX7 81 "PayLedgerModel" "withBits" "[I") (by decide +kernel)) rfl dX7_deducts_28 ?_
        refine lv_bipush (v := 60) hx hb dX7_deducts_31 (by decide) ?_
        refine lv_iload_n hx hb dX7_deducts_33 rfl (lv_at hl 3 rfl) ?_
        refine lv_imul hx hb dX7_deducts_34 ?_
        refine z_ti (y := nI (60 * wi)) (zI_mul (60) (wi)) ?_
        refine lv_iload_n hx hb dX7_deducts_35 rfl (lv_at hl 4 rfl) ?_
        refine lv_iadd hx hb dX7_deducts_36 ?_
        refine z_ti (y := nI ((60 * wi) + k)) (nI_add ((60 * wi)) (k)) ?_
        refine z_iald hx hb hK hS h_30 (vp_in_nI (by omega) (by decide)) dX7_deducts_37 ?_
        refine z_ti (y := ((K 30) (((60 * wi) + k)))) (congrArg _ (nI_clamp (by omega))) ?_
        refine z_ti (y := en) hen ?_
        refine lv_iload hx hb dX7_deducts_38 (lv_at hl 0 rfl) ?_
        refine lv_ishr hx hb dX7_deducts_40 ?_
        refine lv_iconst (v := 1) hx hb dX7_deducts_41 (by decide) ?_
        refine lv_iand hx hb dX7_deducts_42 ?_
        refine lv_if_ne (tgt := 49) hx hb dX7_deducts_43 (by decide) (fun c43 => ?_) (fun c43 => ?_)
        · have hhas : zHasF en i = true := by unfold zHasF zHas; rw [zB_t c43]; decide
          refine lv_aload_n hx hb dX7_deducts_49 rfl (lv_at hl 2 rfl) ?_
          refine lv_iload_n hx hb dX7_deducts_50 rfl (lv_at hl 3 rfl) ?_
          refine lv_iload_n hx hb dX7_deducts_51 rfl (lv_at hl 4 rfl) ?_
          refine lv_iload hx hb dX7_deducts_52 (lv_at hl 0 rfl) ?_
          refine z_rV (As := [.int (nI wi), .int (nI k), .int (nI i)]) (rest := []) (n := 3) ⟨hx, hb, hml, hown, hts⟩ (c_X7_wanted l D cs u H.size mm ad J K th tb (nI nd) wk br yr wd wi k i hw hk (by omega) h_m h_7 h_8 h_10 h_25 h_26) gX7_deducts_X7_wanted rfl ⟨rfl, by decide +kernel, by decide +kernel, by decide +kernel⟩ ⟨Nat.le_of_ble_eq_true rfl, Nat.le_of_ble_eq_true rfl⟩ hK hE hS rfl h_m rfl hl.1 rfl (Nat.le_of_ble_eq_true rfl) dX7_deducts_54 ⟨Nat.le_of_ble_eq_true rfl, Nat.le_of_ble_eq_true rfl⟩ (fun H locs hS => ?_)
          refine z_tl (y := mWant (so i) (si i) (bs i) bo gr ag) (by rw [(hDd.2 i c12).2.1, (hDd.2 i c12).2.2.1, (hDd.2 i c12).2.2.2.2, hbo, hgr, hag]) ?_
          refine lv_lstore (lv' := [(9, .long (mWant (so i) (si i) (bs i) bo gr ag)), (8, .int (nI i)), (6, .long (rs)), (0, .ref (mm)), (1, .int (nI wi)), (2, .int (nI k)), (3, .long (left)), (5, .int (early))]) hx hb dX7_deducts_57 hl (by decide) rfl (fun ls hl => ?_)
          refine lv_aload_n hx hb dX7_deducts_59 rfl (lv_at hl 3 rfl) ?_
          refine z_get (C := RX7) (T := TX7) (N := 45) (v := .ref (ad 9)) hx hb hts (by decide +kernel) hown hK hS h_m rfl 9 (by decide) (hts (.fieldLink RX7 33 "PayLedgerModel" "cap" "[J") (by decide +kernel)) rfl dX7_deducts_60 ?_
          refine lv_iload hx hb dX7_deducts_63 (lv_at hl 1 rfl) ?_
          refine z_lald hx hb hK hS h_9 (vp_in_nI (by omega) (by decide)) dX7_deducts_65 ?_
          refine z_tl (y := ((J 9) (i))) (congrArg _ (nI_clamp (by omega))) ?_
          refine z_tl (y := ca i) (hDd.2 i c12).2.2.2.1 ?_
          refine lv_lconst (v := 0) hx hb dX7_deducts_66 (by decide) ?_
          refine z_lif_lt (tgt := 124) hx hb dX7_deducts_67 dX7_deducts_68 (by decide) (fun c67 => ?_) (fun c67 => ?_)
          · have hv : zMin rs (mDueF so si ca bs bo gr ag AP i) = zMin rs (mWant (so i) (si i) (bs i) bo gr ag) := by unfold mDueF mDue; rw [if_pos c67]
            refine lv_lload hx hb dX7_deducts_124 (lv_at hl 0 rfl) ?_
            refine lv_lload hx hb dX7_deducts_126 (lv_at hl 2 rfl) ?_
            refine z_rS (As := [.long (mWant (so i) (si i) (bs i) bo gr ag), .long (rs)]) (rest := []) (n := 2) ⟨hx, hb, hml, hown, hts⟩ (c_X7_least l D cs u H.size (mWant (so i) (si i) (bs i) bo gr ag) rs) gX7_deducts_X7_least rfl ⟨by decide +kernel, by decide +kernel, by decide +kernel⟩ ⟨Nat.le_of_ble_eq_true rfl, Nat.le_of_ble_eq_true rfl⟩ hK hE hS rfl hl.1 rfl (Nat.le_of_ble_eq_true rfl) dX7_deducts_128 ⟨Nat.le_of_ble_eq_true rfl, Nat.le_of_ble_eq_true rfl⟩ (fun H locs hS => ?_)
            refine lv_topl (fun v1 e_v1 => ?_)
            refine lv_lstore (lv' := [(9, .long (v1)), (8, .int (nI i)), (6, .long (rs)), (0, .ref (mm)), (1, .int (nI wi)), (2, .int (nI k)), (3, .long (left)), (5, .int (early))]) hx hb dX7_deducts_131 hl (by decide) rfl (fun ls hl => ?_)
            refine lv_aload_n hx hb dX7_deducts_133 rfl (lv_at hl 3 rfl) ?_
            refine z_get (C := RX7) (T := TX7) (N := 45) (v := .ref (ad 37)) hx hb hts (by decide +kernel) hown hK hS h_m rfl 37 (by decide) (hts (.fieldLink RX7 102 "PayLedgerModel" "parts" "[J") (by decide +kernel)) rfl dX7_deducts_134 ?_
            refine lv_bipush (v := 8) hx hb dX7_deducts_137 (by decide) ?_
            refine lv_iload_n hx hb dX7_deducts_139 rfl (lv_at hl 5 rfl) ?_
            refine lv_imul hx hb dX7_deducts_140 ?_
            refine z_ti (y := nI (8 * k)) (zI_mul (8) (k)) ?_
            refine lv_iload hx hb dX7_deducts_141 (lv_at hl 1 rfl) ?_
            refine lv_iadd hx hb dX7_deducts_143 ?_
            refine z_ti (y := nI ((8 * k) + i)) (nI_add ((8 * k)) (i)) ?_
            refine lv_lload hx hb dX7_deducts_144 (lv_at hl 0 rfl) ?_
            refine z_last hx hb hK hS h_37 (vp_in_nI (by omega) (by decide)) dX7_deducts_146 (fun H locs hS => ?_)
            obtain ⟨w1, ew1⟩ : ∃ z : zw, z = va_up u (ad 37) (some (eJ cs (480) (vp_updL (zRow f0 k ff) (nI ((8 * k) + i) : Int32).toNatClampNeg (v1)))) := ⟨_, rfl⟩
            have hS : zS (zA w sz) D w1 s.heap H locs := by rw [ew1]; exact hS
            have h1_ad37 : w1 (ad 37) = some (eJ cs (480) (vp_updL (zRow f0 k ff) (nI ((8 * k) + i) : Int32).toNatClampNeg (v1))) := by rw [ew1]; exact va_up_self _ _ _
            have h1_mm : w1 (mm) = some (mo ad (th) (tb) (nI nd) (wk) (br) (yr) (wd)) := by rw [ew1]; exact (va_up_ne _ _ (zne h_m h_37 (by intro q9; first | cases q9 | simp at q9))).trans h_m
            have h1_ad6 : w1 (ad 6) = some (eZ cs (8) (K 6)) := by rw [ew1]; exact (va_up_ne _ _ (hinj 6 37 (by decide))).trans h_6
            have h1_ad7 : w1 (ad 7) = some (eI cs (8) (K 7)) := by rw [ew1]; exact (va_up_ne _ _ (hinj 7 37 (by decide))).trans h_7
            have h1_ad8 : w1 (ad 8) = some (eJ cs (8) (J 8)) := by rw [ew1]; exact (va_up_ne _ _ (hinj 8 37 (by decide))).trans h_8
            have h1_ad9 : w1 (ad 9) = some (eJ cs (8) (J 9)) := by rw [ew1]; exact (va_up_ne _ _ (hinj 9 37 (by decide))).trans h_9
            have h1_ad10 : w1 (ad 10) = some (eJ cs (8) (J 10)) := by rw [ew1]; exact (va_up_ne _ _ (hinj 10 37 (by decide))).trans h_10
            have h1_ad25 : w1 (ad 25) = some (eJ cs (600) (J 25)) := by rw [ew1]; exact (va_up_ne _ _ (hinj 25 37 (by decide))).trans h_25
            have h1_ad26 : w1 (ad 26) = some (eZ cs (600) (K 26)) := by rw [ew1]; exact (va_up_ne _ _ (hinj 26 37 (by decide))).trans h_26
            have h1_ad30 : w1 (ad 30) = some (eI cs (600) (K 30)) := by rw [ew1]; exact (va_up_ne _ _ (hinj 30 37 (by decide))).trans h_30
            have h1_ad37 : w1 (ad 37) = some (eJ cs (480) (vp_updL (zRow f0 k ff) (((8 * k) + i)) (v1))) := by rw [nI_clamp (by omega)] at h1_ad37; exact h1_ad37
            rw [show (eJ cs (480) (vp_updL (zRow f0 k ff) (((8 * k) + i)) (v1))) = (eJ cs (480) (zRow f0 k (vp_updL ff i (v1)))) from (by rw [zRow_upd (by omega)])] at h1_ad37
            refine lv_lload hx hb dX7_deducts_147 (lv_at hl 2 rfl) ?_
            refine lv_lload hx hb dX7_deducts_149 (lv_at hl 0 rfl) ?_
            refine lv_lsub hx hb dX7_deducts_151 ?_
            refine lv_lstore (lv' := [(6, .long ((rs - v1))), (9, .long (v1)), (8, .int (nI i)), (0, .ref (mm)), (1, .int (nI wi)), (2, .int (nI k)), (3, .long (left)), (5, .int (early))]) hx hb dX7_deducts_152 hl (by decide) rfl (fun ls hl => ?_)
            refine lv_iinc (v := nI (i + 1)) (lv' := [(8, .int (nI (i + 1))), (6, .long ((rs - v1))), (9, .long (v1)), (0, .ref (mm)), (1, .int (nI wi)), (2, .int (nI k)), (3, .long (left)), (5, .int (early))]) hx hb dX7_deducts_154 hl (k := 2) rfl (nI_1 _) (by decide) rfl (fun ls hl => ?_)
            refine lv_goto (tgt := 6) hx hb dX7_deducts_157 (by decide) ?_
            have hex : zEx w w1 [(ad 37, (eJ cs (480) (zRow f0 k (vp_updL ff i (v1)))))] := ⟨(zm1 h1_ad37 zm0), fun a9 h9 => by rw [ew1, va_up_ne _ _ (show a9 ≠ ad 37 from h9 (ad 37, (eJ cs (480) (zRow f0 k (vp_updL ff i (v1))))) (List.mem_of_getElem? (i := 0) rfl)), hex0.2 a9 (zm1 (show a9 ≠ ad 37 from h9 (ad 37, (eJ cs (480) (zRow f0 k (vp_updL ff i (v1))))) (List.mem_of_getElem? (i := 0) rfl)) zm0)]⟩
            exact ih c12 _ (rs - v1) (vp_updL ff i v1) (by omega) (by rw [zTk_has hT hsel hhas, hv]; rw [← e_v1]) h1_mm h1_ad6 h1_ad7 h1_ad8 h1_ad9 h1_ad10 h1_ad25 h1_ad26 h1_ad30 h1_ad37 hex _ _ _ hS (lv_sub hl [0, 1, 3, 4, 5, 6, 7] rfl)
          · have hv : zMin rs (mDueF so si ca bs bo gr ag AP i) = zMin rs (zMin (ca i - zSum (fun x => f0 (8 * x + i)) k) (mWant (so i) (si i) (bs i) bo gr ag)) := by unfold mDueF mDue; rw [if_neg c67, ← hAP i (by omega)]
            refine lv_lconst (v := 0) hx hb dX7_deducts_71 (by decide) ?_
            refine lv_lstore (lv' := [(11, .long (0)), (9, .long (mWant (so i) (si i) (bs i) bo gr ag)), (8, .int (nI i)), (6, .long (rs)), (0, .ref (mm)), (1, .int (nI wi)), (2, .int (nI k)), (3, .long (left)), (5, .int (early))]) hx hb dX7_deducts_72 hl (by decide) rfl (fun ls hl => ?_)
            refine lv_iconst (v := 0) hx hb dX7_deducts_74 (by decide) ?_
            refine lv_istore (lv' := [(13, .int (0)), (11, .long (0)), (9, .long (mWant (so i) (si i) (bs i) bo gr ag)), (8, .int (nI i)), (6, .long (rs)), (0, .ref (mm)), (1, .int (nI wi)), (2, .int (nI k)), (3, .long (left)), (5, .int (early))]) hx hb dX7_deducts_75 hl (by decide) rfl (fun ls hl => ?_)
            refine L77 0 i _ rs ff 0 c12 (by omega) rfl h_m h_37 (fun  H locs ls hS hl => ?_) _ _ _ hS (lv_sub hl [0, 1, 2, 3, 4, 5, 6, 7, 8, 9] rfl)
            refine lv_lload hx hb dX7_deducts_107 (lv_at hl 1 rfl) ?_
            refine lv_aload_n hx hb dX7_deducts_109 rfl (lv_at hl 4 rfl) ?_
            refine z_get (C := RX7) (T := TX7) (N := 45) (v := .ref (ad 9)) hx hb hts (by decide +kernel) hown hK hS h_m rfl 9 (by decide) (hts (.fieldLink RX7 33 "PayLedgerModel" "cap" "[J") (by decide +kernel)) rfl dX7_deducts_110 ?_
            refine lv_iload hx hb dX7_deducts_113 (lv_at hl 2 rfl) ?_
            refine z_lald hx hb hK hS h_9 (vp_in_nI (by omega) (by decide)) dX7_deducts_115 ?_
            refine z_tl (y := ((J 9) (i))) (congrArg _ (nI_clamp (by omega))) ?_
            refine z_tl (y := ca i) (hDd.2 i c12).2.2.2.1 ?_
            refine lv_lload hx hb dX7_deducts_116 (lv_at hl 0 rfl) ?_
            refine lv_lsub hx hb dX7_deducts_118 ?_
            refine z_rS (As := [.long (mWant (so i) (si i) (bs i) bo gr ag), .long ((ca i - zSum (fun x => f0 (8 * x + i)) k))]) (rest := []) (n := 2) ⟨hx, hb, hml, hown, hts⟩ (c_X7_least l D cs u H.size (mWant (so i) (si i) (bs i) bo gr ag) (ca i - zSum (fun x => f0 (8 * x + i)) k)) gX7_deducts_X7_least rfl ⟨by decide +kernel, by decide +kernel, by decide +kernel⟩ ⟨Nat.le_of_ble_eq_true rfl, Nat.le_of_ble_eq_true rfl⟩ hK hE hS rfl hl.1 rfl (Nat.le_of_ble_eq_true rfl) dX7_deducts_119 ⟨Nat.le_of_ble_eq_true rfl, Nat.le_of_ble_eq_true rfl⟩ (fun H locs hS => ?_)
            refine lv_lstore (lv' := [(9, .long (zMin (ca i - zSum (fun x => f0 (8 * x + i)) k) (mWant (so i) (si i) (bs i) bo gr ag))), (11, .long (zSum (fun x => f0 (8 * x + i)) k)), (8, .int (nI i)), (6, .long (rs)), (0, .ref (mm)), (1, .int (nI wi)), (2, .int (nI k)), (3, .long (left)), (5, .int (early))]) hx hb dX7_deducts_122 hl (by decide) rfl (fun ls hl => ?_)
            refine lv_lload hx hb dX7_deducts_124 (lv_at hl 0 rfl) ?_
            refine lv_lload hx hb dX7_deducts_126 (lv_at hl 3 rfl) ?_
            refine z_rS (As := [.long (zMin (ca i - zSum (fun x => f0 (8 * x + i)) k) (mWant (so i) (si i) (bs i) bo gr ag)), .long (rs)]) (rest := []) (n := 2) ⟨hx, hb, hml, hown, hts⟩ (c_X7_least l D cs u H.size (zMin (ca i - zSum (fun x => f0 (8 * x + i)) k) (mWant (so i) (si i) (bs i) bo gr ag)) rs) gX7_deducts_X7_least rfl ⟨by decide +kernel, by decide +kernel, by decide +kernel⟩ ⟨Nat.le_of_ble_eq_true rfl, Nat.le_of_ble_eq_true rfl⟩ hK hE hS rfl hl.1 rfl (Nat.le_of_ble_eq_true rfl) dX7_deducts_128 ⟨Nat.le_of_ble_eq_true rfl, Nat.le_of_ble_eq_true rfl⟩ (fun H locs hS => ?_)
            refine lv_topl (fun v1 e_v1 => ?_)
            refine lv_lstore (lv' := [(9, .long (v1)), (11, .long (zSum (fun x => f0 (8 * x + i)) k)), (8, .int (nI i)), (6, .long (rs)), (0, .ref (mm)), (1, .int (nI wi)), (2, .int (nI k)), (3, .long (left)), (5, .int (early))]) hx hb dX7_deducts_131 hl (by decide) rfl (fun ls hl => ?_)
            refine lv_aload_n hx hb dX7_deducts_133 rfl (lv_at hl 4 rfl) ?_
            refine z_get (C := RX7) (T := TX7) (N := 45) (v := .ref (ad 37)) hx hb hts (by decide +kernel) hown hK hS h_m rfl 37 (by decide) (hts (.fieldLink RX7 102 "PayLedgerModel" "parts" "[J") (by decide +kernel)) rfl dX7_deducts_134 ?_
            refine lv_bipush (v := 8) hx hb dX7_deducts_137 (by decide) ?_
            refine lv_iload_n hx hb dX7_deducts_139 rfl (lv_at hl 6 rfl) ?_
            refine lv_imul hx hb dX7_deducts_140 ?_
            refine z_ti (y := nI (8 * k)) (zI_mul (8) (k)) ?_
            refine lv_iload hx hb dX7_deducts_141 (lv_at hl 2 rfl) ?_
            refine lv_iadd hx hb dX7_deducts_143 ?_
            refine z_ti (y := nI ((8 * k) + i)) (nI_add ((8 * k)) (i)) ?_
            refine lv_lload hx hb dX7_deducts_144 (lv_at hl 0 rfl) ?_
            refine z_last hx hb hK hS h_37 (vp_in_nI (by omega) (by decide)) dX7_deducts_146 (fun H locs hS => ?_)
            obtain ⟨w2, ew2⟩ : ∃ z : zw, z = va_up u (ad 37) (some (eJ cs (480) (vp_updL (zRow f0 k ff) (nI ((8 * k) + i) : Int32).toNatClampNeg (v1)))) := ⟨_, rfl⟩
            have hS : zS (zA w sz) D w2 s.heap H locs := by rw [ew2]; exact hS
            have h2_ad37 : w2 (ad 37) = some (eJ cs (480) (vp_updL (zRow f0 k ff) (nI ((8 * k) + i) : Int32).toNatClampNeg (v1))) := by rw [ew2]; exact va_up_self _ _ _
            have h2_mm : w2 (mm) = some (mo ad (th) (tb) (nI nd) (wk) (br) (yr) (wd)) := by rw [ew2]; exact (va_up_ne _ _ (zne h_m h_37 (by intro q9; first | cases q9 | simp at q9))).trans h_m
            have h2_ad6 : w2 (ad 6) = some (eZ cs (8) (K 6)) := by rw [ew2]; exact (va_up_ne _ _ (hinj 6 37 (by decide))).trans h_6
            have h2_ad7 : w2 (ad 7) = some (eI cs (8) (K 7)) := by rw [ew2]; exact (va_up_ne _ _ (hinj 7 37 (by decide))).trans h_7
            have h2_ad8 : w2 (ad 8) = some (eJ cs (8) (J 8)) := by rw [ew2]; exact (va_up_ne _ _ (hinj 8 37 (by decide))).trans h_8
            have h2_ad9 : w2 (ad 9) = some (eJ cs (8) (J 9)) := by rw [ew2]; exact (va_up_ne _ _ (hinj 9 37 (by decide))).trans h_9
            have h2_ad10 : w2 (ad 10) = some (eJ cs (8) (J 10)) := by rw [ew2]; exact (va_up_ne _ _ (hinj 10 37 (by decide))).trans h_10
            have h2_ad25 : w2 (ad 25) = some (eJ cs (600) (J 25)) := by rw [ew2]; exact (va_up_ne _ _ (hinj 25 37 (by decide))).trans h_25
            have h2_ad26 : w2 (ad 26) = some (eZ cs (600) (K 26)) := by rw [ew2]; exact (va_up_ne _ _ (hinj 26 37 (by decide))).trans h_26
            have h2_ad30 : w2 (ad 30) = some (eI cs (600) (K 30)) := by rw [ew2]; exact (va_up_ne _ _ (hinj 30 37 (by decide))).trans h_30
            have h2_ad37 : w2 (ad 37) = some (eJ cs (480) (vp_updL (zRow f0 k ff) (((8 * k) + i)) (v1))) := by rw [nI_clamp (by omega)] at h2_ad37; exact h2_ad37
            rw [show (eJ cs (480) (vp_updL (zRow f0 k ff) (((8 * k) + i)) (v1))) = (eJ cs (480) (zRow f0 k (vp_updL ff i (v1)))) from (by rw [zRow_upd (by omega)])] at h2_ad37
            refine lv_lload hx hb dX7_deducts_147 (lv_at hl 3 rfl) ?_
            refine lv_lload hx hb dX7_deducts_149 (lv_at hl 0 rfl) ?_
            refine lv_lsub hx hb dX7_deducts_151 ?_
            refine lv_lstore (lv' := [(6, .long ((rs - v1))), (9, .long (v1)), (11, .long (zSum (fun x => f0 (8 * x + i)) k)), (8, .int (nI i)), (0, .ref (mm)), (1, .int (nI wi)), (2, .int (nI k)), (3, .long (left)), (5, .int (early))]) hx hb dX7_deducts_152 hl (by decide) rfl (fun ls hl => ?_)
            refine lv_iinc (v := nI (i + 1)) (lv' := [(8, .int (nI (i + 1))), (6, .long ((rs - v1))), (9, .long (v1)), (11, .long (zSum (fun x => f0 (8 * x + i)) k)), (0, .ref (mm)), (1, .int (nI wi)), (2, .int (nI k)), (3, .long (left)), (5, .int (early))]) hx hb dX7_deducts_154 hl (k := 3) rfl (nI_1 _) (by decide) rfl (fun ls hl => ?_)
            refine lv_goto (tgt := 6) hx hb dX7_deducts_157 (by decide) ?_
            have hex : zEx w w2 [(ad 37, (eJ cs (480) (zRow f0 k (vp_updL ff i (v1)))))] := ⟨(zm1 h2_ad37 zm0), fun a9 h9 => by rw [ew2, va_up_ne _ _ (show a9 ≠ ad 37 from h9 (ad 37, (eJ cs (480) (zRow f0 k (vp_updL ff i (v1))))) (List.mem_of_getElem? (i := 0) rfl)), hex0.2 a9 (zm1 (show a9 ≠ ad 37 from h9 (ad 37, (eJ cs (480) (zRow f0 k (vp_updL ff i (v1))))) (List.mem_of_getElem? (i := 0) rfl)) zm0)]⟩
            exact ih c12 _ (rs - v1) (vp_updL ff i v1) (by omega) (by rw [zTk_has hT hsel hhas, hv]; rw [← e_v1]) h2_mm h2_ad6 h2_ad7 h2_ad8 h2_ad9 h2_ad10 h2_ad25 h2_ad26 h2_ad30 h2_ad37 hex _ _ _ hS (lv_sub hl [0, 1, 4, 5, 6, 7, 8] rfl)
        · refine lv_goto (tgt := 154) hx hb dX7_deducts_46 (by decide) ?_
          refine lv_iinc (v := nI (i + 1)) (lv' := [(8, .int (nI (i + 1))), (6, .long (rs)), (0, .ref (mm)), (1, .int (nI wi)), (2, .int (nI k)), (3, .long (left)), (5, .int (early))]) hx hb dX7_deducts_154 hl (k := 0) rfl (nI_1 _) (by decide) rfl (fun ls hl => ?_)
          refine lv_goto (tgt := 6) hx hb dX7_deducts_157 (by decide) ?_
          have hex : zEx w u [(ad 37, (eJ cs (480) (zRow f0 k ff)))] := ⟨(zm1 h_37 zm0), fun a9 h9 => by rw [hex0.2 a9 (zm1 (show a9 ≠ ad 37 from h9 (ad 37, (eJ cs (480) (zRow f0 k ff))) (List.mem_of_getElem? (i := 0) rfl)) zm0)]⟩
          exact ih c12 _ rs ff (by omega) (zTk_not0 hT hsel (by unfold zHasF zHas; rw [zB_f (fun q9 => q9 c43)]; decide) (h00 i c12 c24)) h_m h_6 h_7 h_8 h_9 h_10 h_25 h_26 h_30 h_37 hex _ _ _ hS (lv_sub hl [0, 1, 2, 3, 4, 5, 6] rfl)
  refine lv_lload_n hx hb dX7_deducts_0 rfl (lv_at hl 3 rfl) ?_
  refine lv_lstore (lv' := [(6, .long (left)), (0, .ref (mm)), (1, .int (nI wi)), (2, .int (nI k)), (3, .long (left)), (5, .int (early))]) hx hb dX7_deducts_1 hl (by decide) rfl (fun ls hl => ?_)
  refine lv_iconst (v := 0) hx hb dX7_deducts_3 (by decide) ?_
  refine lv_istore (lv' := [(8, .int (0)), (6, .long (left)), (0, .ref (mm)), (1, .int (nI wi)), (2, .int (nI k)), (3, .long (left)), (5, .int (early))]) hx hb dX7_deducts_4 hl (by decide) rfl (fun ls hl => ?_)
  have hex : zEx w w [(ad 37, (eJ cs (480) (zRow f0 k g)))] := ⟨(zm1 h_37 zm0), fun a9 h9 => rfl⟩
  exact L6 0 w left g (by omega) rfl h_m h_6 h_7 h_8 h_9 h_10 h_25 h_26 h_30 h_37 hex _ _ _ hS (lv_sub hl [0, 1, 2, 3, 4, 5, 6] rfl)
