/-! ===== Table: what only reads ===== -/
set_option maxHeartbeats 4000000 in
set_option maxRecDepth 100000 in
theorem c_X3_isFull (l : Launch) (D : va_G) (cs : Nat → ClassId) (w : zw) (sz : Nat) (h0 fl ra n : Nat) (F : Nat → Int64) (G : Nat → Int32) (tk : Int32) (hn : n ≤ 12) (h_t : w (h0) = some (.inr (3, [.ref (fl), .ref (ra), .int (nI n), .int (tk)]))) (h_fl : w (fl) = some (eJ cs (12) (F))) (h_ra : w (ra) = some (eI cs (12) (G))) : zMr l D cs yX3_isFull wsX3_isFull 0 w sz [.ref (h0)] (.int (zB (n = 12))) := by
  refine z_met (cc := cX3_isFull) (maxL := 1) (ret := (some .boolean)) (by decide) rfl (Nat.le_of_ble_eq_true rfl) ?_
  intro p e s m below meth c hx hb hr hml hown hts hlocks hnm hsz hK hE hS ls hl
  have hl : lv_has ls 1 [(0, .ref (h0))] := hl
  refine lv_aload_n hx hb dX3_isFull_0 rfl (lv_at hl 0 rfl) ?_
  refine z_get (C := RX3) (T := TX3) (N := 4) (v := .int (nI n)) hx hb hts (by decide +kernel) hown hK hS h_t rfl 2 (by decide) (hts (.fieldLink RX3 19 "PayLedger$Table" "stages" "I") (by decide +kernel)) rfl dX3_isFull_1 ?_
  refine lv_bipush (v := 12) hx hb dX3_isFull_4 (by decide) ?_
  refine lv_icmp_lt (tgt := 13) hx hb dX3_isFull_6 (by decide) (fun c6 => ?_) (fun c6 => ?_)
  · have h12 : ¬ n = 12 := fun q9 => by rw [q9] at c6; exact absurd c6 (by decide)
    refine lv_iconst (v := 0) hx hb dX3_isFull_13 (by decide) ?_
    exact z_zret hx hb hr hlocks (zb_narrow (Or.inl rfl)) hS (Nat.le_of_ble_eq_true rfl) (Nat.le_of_ble_eq_true rfl) dX3_isFull_14 ⟨by rw [zB_f h12], rfl⟩
  · have h12 : n = 12 := by rcases Nat.lt_or_ge n 12 with q9 | q9; exact absurd (nI_lt (b := 12) q9 (by omega)) c6; omega
    refine lv_iconst (v := 1) hx hb dX3_isFull_9 (by decide) ?_
    refine lv_goto (tgt := 14) hx hb dX3_isFull_10 (by decide) ?_
    exact z_zret hx hb hr hlocks (zb_narrow (Or.inr rfl)) hS (Nat.le_of_ble_eq_true rfl) (Nat.le_of_ble_eq_true rfl) dX3_isFull_14 ⟨by rw [zB_t h12], rfl⟩
set_option maxHeartbeats 4000000 in
set_option maxRecDepth 100000 in
theorem c_X3_mayFollow (l : Launch) (D : va_G) (cs : Nat → ClassId) (w : zw) (sz : Nat) (h0 fl ra n : Nat) (F : Nat → Int64) (G : Nat → Int32) (tk : Int32) (floor : Int64) (hn : n ≤ 12) (h_t : w (h0) = some (.inr (3, [.ref (fl), .ref (ra), .int (nI n), .int (tk)]))) (h_fl : w (fl) = some (eJ cs (12) (F))) (h_ra : w (ra) = some (eI cs (12) (G))) : zMr l D cs yX3_mayFollow wsX3_mayFollow 0 w sz [.ref (h0), .long (floor)] (.int (zMay F n floor)) := by
  refine z_met (cc := cX3_mayFollow) (maxL := 4) (ret := (some .boolean)) (by decide) rfl (Nat.le_of_ble_eq_true rfl) ?_
  intro p e s m below meth c hx hb hr hml hown hts hlocks hnm hsz hK hE hS ls hl
  have hl : lv_has ls 4 [(0, .ref (h0)), (1, .long (floor))] := hl
  refine lv_aload_n hx hb dX3_mayFollow_0 rfl (lv_at hl 0 rfl) ?_
  refine z_get (C := RX3) (T := TX3) (N := 4) (v := .int (nI n)) hx hb hts (by decide +kernel) hown hK hS h_t rfl 2 (by decide) (hts (.fieldLink RX3 19 "PayLedger$Table" "stages" "I") (by decide +kernel)) rfl dX3_mayFollow_1 ?_
  refine lv_iconst (v := 1) hx hb dX3_mayFollow_4 (by decide) ?_
  refine lv_isub hx hb dX3_mayFollow_5 ?_
  refine lv_istore_n (lv' := [(3, .int ((nI n - 1))), (0, .ref (h0)), (1, .long (floor))]) hx hb dX3_mayFollow_6 rfl hl (by decide) rfl (fun ls hl => ?_)
  refine lv_iload_n hx hb dX3_mayFollow_7 rfl (lv_at hl 0 rfl) ?_
  refine lv_if_lt (tgt := 20) hx hb dX3_mayFollow_8 (by decide) (fun c8 => ?_) (fun c8 => ?_)
  · have hn0 : n = 0 := (zpred_neg (by omega)).mp c8
    refine lv_lload_n hx hb dX3_mayFollow_20 rfl (lv_at hl 2 rfl) ?_
    refine lv_lconst (v := 0) hx hb dX3_mayFollow_21 (by decide) ?_
    refine z_lif_ne (tgt := 30) hx hb dX3_mayFollow_22 dX3_mayFollow_23 (by decide) (fun c22 => ?_) (fun c22 => ?_)
    · refine lv_iconst (v := 0) hx hb dX3_mayFollow_30 (by decide) ?_
      exact z_zret hx hb hr hlocks (zb_narrow (Or.inl rfl)) hS (Nat.le_of_ble_eq_true rfl) (Nat.le_of_ble_eq_true rfl) dX3_mayFollow_31 ⟨by rw [zMay, zB_f (fun q9 => q9.elim (fun q8 => c22 q8.2) (fun q8 => q8.1 hn0))], rfl⟩
    · refine lv_iconst (v := 1) hx hb dX3_mayFollow_26 (by decide) ?_
      refine lv_goto (tgt := 31) hx hb dX3_mayFollow_27 (by decide) ?_
      exact z_zret hx hb hr hlocks (zb_narrow (Or.inr rfl)) hS (Nat.le_of_ble_eq_true rfl) (Nat.le_of_ble_eq_true rfl) dX3_mayFollow_31 ⟨by rw [zMay, zB_t (Or.inl ⟨hn0, c22⟩)], rfl⟩
  · obtain ⟨k, hk⟩ : ∃ k : Nat, n = k + 1 := ⟨n - 1, by have := mt (zpred_neg (n := n) (by omega)).mpr c8; omega⟩
    have e8 : nI n - 1 = nI k := by rw [hk]; exact nI_pred k
    refine lv_iload_n hx hb dX3_mayFollow_11 rfl (lv_at hl 0 rfl) ?_
    refine z_ti (y := nI k) e8 ?_
    refine lv_aload_n hx hb dX3_mayFollow_12 rfl (lv_at hl 1 rfl) ?_
    refine z_get (C := RX3) (T := TX3) (N := 4) (v := .ref (fl)) hx hb hts (by decide +kernel) hown hK hS h_t rfl 0 (by decide) (hts (.fieldLink RX3 9 "PayLedger$Table" "floors" "[J") (by decide +kernel)) rfl dX3_mayFollow_13 ?_
    refine z_alen (t0 := 1) (v := 12) hx hb hK hS h_fl rfl rfl dX3_mayFollow_16 ?_
    refine lv_icmp_lt (tgt := 32) hx hb dX3_mayFollow_17 (by decide) (fun _ => ?_) (fun cq9 => absurd (nI_lt (b := 12) (by omega) (by omega)) cq9)
    refine lv_lload_n hx hb dX3_mayFollow_32 rfl (lv_at hl 2 rfl) ?_
    refine lv_aload_n hx hb dX3_mayFollow_33 rfl (lv_at hl 1 rfl) ?_
    refine z_get (C := RX3) (T := TX3) (N := 4) (v := .ref (fl)) hx hb hts (by decide +kernel) hown hK hS h_t rfl 0 (by decide) (hts (.fieldLink RX3 9 "PayLedger$Table" "floors" "[J") (by decide +kernel)) rfl dX3_mayFollow_34 ?_
    refine lv_iload_n hx hb dX3_mayFollow_37 rfl (lv_at hl 0 rfl) ?_
    refine z_ti (y := nI k) e8 ?_
    refine z_lald hx hb hK hS h_fl (vp_in_nI (by omega) (by omega)) dX3_mayFollow_38 ?_
    refine z_tl (y := F k) (by rw [nI_clamp (by omega)]) ?_
    refine z_lif_le (tgt := 55) hx hb dX3_mayFollow_39 dX3_mayFollow_40 (by decide) (fun c39 => ?_) (fun c39 => ?_)
    · refine lv_iconst (v := 0) hx hb dX3_mayFollow_55 (by decide) ?_
      exact z_zret hx hb hr hlocks (zb_narrow (Or.inl rfl)) hS (Nat.le_of_ble_eq_true rfl) (Nat.le_of_ble_eq_true rfl) dX3_mayFollow_56 ⟨by rw [zMay, zB_f (fun q9 => q9.elim (fun q8 => by omega) (fun q8 => by have q7 := q8.2.1; rw [hk, Nat.add_sub_cancel] at q7; rw [Int64.lt_iff_toInt_lt] at q7; rw [Int64.le_iff_toInt_le] at c39; omega))], rfl⟩
    · refine lv_lload_n hx hb dX3_mayFollow_43 rfl (lv_at hl 2 rfl) ?_
      refine lv_ldc2 (v := 1000000000000) hx hb hown (hts (.constantLong RX3 27 (1000000000000)) (by decide +kernel)) dX3_mayFollow_44 ?_
      refine z_lif_gt (tgt := 55) hx hb dX3_mayFollow_47 dX3_mayFollow_48 (by decide) (fun c47 => ?_) (fun c47 => ?_)
      · refine lv_iconst (v := 0) hx hb dX3_mayFollow_55 (by decide) ?_
        exact z_zret hx hb hr hlocks (zb_narrow (Or.inl rfl)) hS (Nat.le_of_ble_eq_true rfl) (Nat.le_of_ble_eq_true rfl) dX3_mayFollow_56 ⟨by rw [zMay, zB_f (fun q9 => q9.elim (fun q8 => by omega) (fun q8 => by have q7 := q8.2.2; rw [Int64.le_iff_toInt_le] at q7; rw [Int64.lt_iff_toInt_lt] at c47; omega))], rfl⟩
      · refine lv_iconst (v := 1) hx hb dX3_mayFollow_51 (by decide) ?_
        refine lv_goto (tgt := 56) hx hb dX3_mayFollow_52 (by decide) ?_
        exact z_zret hx hb hr hlocks (zb_narrow (Or.inr rfl)) hS (Nat.le_of_ble_eq_true rfl) (Nat.le_of_ble_eq_true rfl) dX3_mayFollow_56 ⟨by rw [zMay, zB_t (Or.inr ⟨by omega, by rw [hk, Nat.add_sub_cancel]; exact zI64_nle c39, zI64_nlt c47⟩)], rfl⟩
set_option maxHeartbeats 4000000 in
set_option maxRecDepth 100000 in
theorem c_X3_taxOf (l : Launch) (D : va_G) (cs : Nat → ClassId) (w : zw) (sz : Nat) (h0 fl ra n : Nat) (F : Nat → Int64) (G : Nat → Int32) (tk : Int32) (amount : Int64) (hn : n ≤ 12) (h_t : w (h0) = some (.inr (3, [.ref (fl), .ref (ra), .int (nI n), .int (tk)]))) (h_fl : w (fl) = some (eJ cs (12) (F))) (h_ra : w (ra) = some (eI cs (12) (G))) : zMr l D cs yX3_taxOf wsX3_taxOf 1 w sz [.ref (h0), .long (amount)] (.long (zTax F G n amount)) := by
  refine z_met (cc := cX3_taxOf) (maxL := 8) (ret := (some .long)) (by decide) rfl (Nat.le_of_ble_eq_true rfl) ?_
  intro p e s m below meth c hx hb hr hml hown hts hlocks hnm hsz hK hE hS ls hl
  have hl : lv_has ls 8 [(0, .ref (h0)), (1, .long (amount))] := hl
  have L13 : ∀ (k : Nat), ∀ (rest acc : Int64), (hk12 : k ≤ n) → (hinv : zTaxs F G k rest acc = zTaxs F G n amount 0) → ∀ (H : Heap) (locs : List Loc) (ls : Array Slot), zS (zA w sz) D w s.heap H locs → lv_has ls 8 [(7, .int (nI k - 1)), (5, .long (rest)), (3, .long (acc)), (0, .ref (h0)), (1, .long (amount))] → W p l e (zR 1 0 0) s m [.ref (h0), .long (amount)].toArray below meth c H locs 0 0 (MQ below (zQ D w sz (fun r w2 => r = some (.long (zTax F G n amount)) ∧ w2 = w)) [.ref (h0), .long (amount)].toArray s 0 0 (zA w sz)) (F0 m 13 ls []) := by
    refine zloopD (P := fun k => ∀ (rest acc : Int64), (hk12 : k ≤ n) → (hinv : zTaxs F G k rest acc = zTaxs F G n amount 0) → ∀ (H : Heap) (locs : List Loc) (ls : Array Slot), zS (zA w sz) D w s.heap H locs → lv_has ls 8 [(7, .int (nI k - 1)), (5, .long (rest)), (3, .long (acc)), (0, .ref (h0)), (1, .long (amount))] → W p l e (zR 1 0 0) s m [.ref (h0), .long (amount)].toArray below meth c H locs 0 0 (MQ below (zQ D w sz (fun r w2 => r = some (.long (zTax F G n amount)) ∧ w2 = w)) [.ref (h0), .long (amount)].toArray s 0 0 (zA w sz)) (F0 m 13 ls [])) (fun k ih => ?_)
    intro rest acc hk12 hinv H locs ls hS hl
    refine lv_iload hx hb dX3_taxOf_13 (lv_at hl 0 rfl) ?_
    refine lv_if_lt (tgt := 88) hx hb dX3_taxOf_15 (by decide) (fun c15 => ?_) (fun c15 => ?_)
    · have hk0 : k = 0 := (zpred_neg (by omega)).mp c15
      refine lv_lload_n hx hb dX3_taxOf_88 rfl (lv_at hl 2 rfl) ?_
      refine lv_ldc2 (v := 1000000) hx hb hown (hts (.constantLong RX3 29 (1000000)) (by decide +kernel)) dX3_taxOf_89 ?_
      refine z_rSN (As := [.long (acc), .long (1000000)]) (rest := []) (n := 2) ⟨hx, hb, hml, hown, hts⟩ (c_X6_round l D cs w H.size acc 1000000) gX3_taxOf_X6_round_n31 rfl (by decide +kernel) (hts (.initialized RX6) (by decide +kernel)) (hts (.static yX6_round) (by decide +kernel)) ⟨by decide +kernel, by decide +kernel, by decide +kernel⟩ ⟨Nat.le_of_ble_eq_true rfl, Nat.le_of_ble_eq_true rfl⟩ hK hE hS rfl hl.1 rfl (Nat.le_of_ble_eq_true rfl) dX3_taxOf_92 ⟨Nat.le_of_ble_eq_true rfl, Nat.le_of_ble_eq_true rfl⟩ (fun H locs hS => ?_)
      exact z_lret hx hb hr hlocks hS (Nat.le_of_ble_eq_true rfl) (Nat.le_of_ble_eq_true rfl) dX3_taxOf_95 ⟨by rw [zTax, ← hinv, hk0, zTaxs], rfl⟩
    · obtain ⟨j, hk⟩ : ∃ j : Nat, k = j + 1 := ⟨k - 1, by have := mt (zpred_neg (n := k) (by omega)).mpr c15; omega⟩
      have e15 : nI k - 1 = nI j := by rw [hk]; exact nI_pred j
      refine lv_iload hx hb dX3_taxOf_18 (lv_at hl 0 rfl) ?_
      refine z_ti (y := nI j) e15 ?_
      refine lv_aload_n hx hb dX3_taxOf_20 rfl (lv_at hl 3 rfl) ?_
      refine z_get (C := RX3) (T := TX3) (N := 4) (v := .ref (fl)) hx hb hts (by decide +kernel) hown hK hS h_t rfl 0 (by decide) (hts (.fieldLink RX3 9 "PayLedger$Table" "floors" "[J") (by decide +kernel)) rfl dX3_taxOf_21 ?_
      refine z_alen (t0 := 1) (v := 12) hx hb hK hS h_fl rfl rfl dX3_taxOf_24 ?_
      refine lv_icmp_ge (tgt := 82) hx hb dX3_taxOf_25 (by decide) (fun cq9 => absurd cq9 (nI_ge (b := 12) (by omega) (by omega))) (fun _ => ?_)
      refine lv_iload hx hb dX3_taxOf_28 (lv_at hl 0 rfl) ?_
      refine z_ti (y := nI j) e15 ?_
      refine lv_aload_n hx hb dX3_taxOf_30 rfl (lv_at hl 3 rfl) ?_
      refine z_get (C := RX3) (T := TX3) (N := 4) (v := .ref (ra)) hx hb hts (by decide +kernel) hown hK hS h_t rfl 1 (by decide) (hts (.fieldLink RX3 15 "PayLedger$Table" "rates" "[I") (by decide +kernel)) rfl dX3_taxOf_31 ?_
      refine z_alen (t0 := 0) (v := 12) hx hb hK hS h_ra rfl rfl dX3_taxOf_34 ?_
      refine lv_icmp_ge (tgt := 82) hx hb dX3_taxOf_35 (by decide) (fun cq9 => absurd cq9 (nI_ge (b := 12) (by omega) (by omega))) (fun _ => ?_)
      refine lv_lload hx hb dX3_taxOf_38 (lv_at hl 1 rfl) ?_
      refine lv_aload_n hx hb dX3_taxOf_40 rfl (lv_at hl 3 rfl) ?_
      refine z_get (C := RX3) (T := TX3) (N := 4) (v := .ref (fl)) hx hb hts (by decide +kernel) hown hK hS h_t rfl 0 (by decide) (hts (.fieldLink RX3 9 "PayLedger$Table" "floors" "[J") (by decide +kernel)) rfl dX3_taxOf_41 ?_
      refine lv_iload hx hb dX3_taxOf_44 (lv_at hl 0 rfl) ?_
      refine z_ti (y := nI j) e15 ?_
      refine z_lald hx hb hK hS h_fl (vp_in_nI (by omega) (by omega)) dX3_taxOf_46 ?_
      refine z_tl (y := F j) (by rw [nI_clamp (by omega)]) ?_
      refine z_lif_le (tgt := 82) hx hb dX3_taxOf_47 dX3_taxOf_48 (by decide) (fun c47 => ?_) (fun c47 => ?_)
      · have c47 : ¬ F j < rest := fun q9 => by rw [Int64.lt_iff_toInt_lt] at q9; rw [Int64.le_iff_toInt_le] at c47; omega
        refine lv_iinc (v := nI j - 1) (lv' := [(7, .int (nI j - 1)), (5, .long (rest)), (3, .long (acc)), (0, .ref (h0)), (1, .long (amount))]) hx hb dX3_taxOf_82 hl (k := 0) rfl (by rw [e15]; exact zsub1 _) (by decide) rfl (fun ls hl => ?_)
        refine lv_goto (tgt := 13) hx hb dX3_taxOf_85 (by decide) ?_
        exact ih j hk (rest) (acc) (by omega) (by rw [← hinv, hk, zTaxs, if_neg c47])  _ _ _ hS (lv_sub hl [0, 1, 2, 3, 4] rfl)
      · have c47 : F j < rest := zI64_nle c47
        refine lv_lload_n hx hb dX3_taxOf_51 rfl (lv_at hl 2 rfl) ?_
        refine lv_lload hx hb dX3_taxOf_52 (lv_at hl 1 rfl) ?_
        refine lv_aload_n hx hb dX3_taxOf_54 rfl (lv_at hl 3 rfl) ?_
        refine z_get (C := RX3) (T := TX3) (N := 4) (v := .ref (fl)) hx hb hts (by decide +kernel) hown hK hS h_t rfl 0 (by decide) (hts (.fieldLink RX3 9 "PayLedger$Table" "floors" "[J") (by decide +kernel)) rfl dX3_taxOf_55 ?_
        refine lv_iload hx hb dX3_taxOf_58 (lv_at hl 0 rfl) ?_
        refine z_ti (y := nI j) e15 ?_
        refine z_lald hx hb hK hS h_fl (vp_in_nI (by omega) (by omega)) dX3_taxOf_60 ?_
        refine z_tl (y := F j) (by rw [nI_clamp (by omega)]) ?_
        refine lv_lsub hx hb dX3_taxOf_61 ?_
        refine lv_aload_n hx hb dX3_taxOf_62 rfl (lv_at hl 3 rfl) ?_
        refine z_get (C := RX3) (T := TX3) (N := 4) (v := .ref (ra)) hx hb hts (by decide +kernel) hown hK hS h_t rfl 1 (by decide) (hts (.fieldLink RX3 15 "PayLedger$Table" "rates" "[I") (by decide +kernel)) rfl dX3_taxOf_63 ?_
        refine lv_iload hx hb dX3_taxOf_66 (lv_at hl 0 rfl) ?_
        refine z_ti (y := nI j) e15 ?_
        refine z_iald hx hb hK hS h_ra (vp_in_nI (by omega) (by omega)) dX3_taxOf_68 ?_
        refine z_ti (y := G j) (by rw [nI_clamp (by omega)]) ?_
        refine lv_i2l (v := ((G j : Int32).toInt64)) hx hb dX3_taxOf_69 rfl ?_
        refine lv_lmul hx hb dX3_taxOf_70 ?_
        refine lv_ladd hx hb dX3_taxOf_71 ?_
        refine lv_lstore_n (lv' := [(3, .long ((acc + ((rest - F j) * ((G j : Int32).toInt64))))), (7, .int (nI k - 1)), (5, .long (rest)), (0, .ref (h0)), (1, .long (amount))]) hx hb dX3_taxOf_72 rfl hl (by decide) rfl (fun ls hl => ?_)
        refine lv_aload_n hx hb dX3_taxOf_73 rfl (lv_at hl 3 rfl) ?_
        refine z_get (C := RX3) (T := TX3) (N := 4) (v := .ref (fl)) hx hb hts (by decide +kernel) hown hK hS h_t rfl 0 (by decide) (hts (.fieldLink RX3 9 "PayLedger$Table" "floors" "[J") (by decide +kernel)) rfl dX3_taxOf_74 ?_
        refine lv_iload hx hb dX3_taxOf_77 (lv_at hl 1 rfl) ?_
        refine z_ti (y := nI j) e15 ?_
        refine z_lald hx hb hK hS h_fl (vp_in_nI (by omega) (by omega)) dX3_taxOf_79 ?_
        refine z_tl (y := F j) (by rw [nI_clamp (by omega)]) ?_
        refine lv_lstore (lv' := [(5, .long (F j)), (3, .long ((acc + ((rest - F j) * ((G j : Int32).toInt64))))), (7, .int (nI k - 1)), (0, .ref (h0)), (1, .long (amount))]) hx hb dX3_taxOf_80 hl (by decide) rfl (fun ls hl => ?_)
        refine lv_iinc (v := nI j - 1) (lv' := [(7, .int (nI j - 1)), (5, .long (F j)), (3, .long ((acc + ((rest - F j) * ((G j : Int32).toInt64))))), (0, .ref (h0)), (1, .long (amount))]) hx hb dX3_taxOf_82 hl (k := 2) rfl (by rw [e15]; exact zsub1 _) (by decide) rfl (fun ls hl => ?_)
        refine lv_goto (tgt := 13) hx hb dX3_taxOf_85 (by decide) ?_
        exact ih j hk (F j) ((acc + ((rest - F j) * ((G j : Int32).toInt64)))) (by omega) (by rw [← hinv, hk, zTaxs, if_pos c47])  _ _ _ hS (lv_sub hl [0, 1, 2, 3, 4] rfl)
  refine lv_lconst (v := 0) hx hb dX3_taxOf_0 (by decide) ?_
  refine lv_lstore_n (lv' := [(3, .long (0)), (0, .ref (h0)), (1, .long (amount))]) hx hb dX3_taxOf_1 rfl hl (by decide) rfl (fun ls hl => ?_)
  refine lv_lload_n hx hb dX3_taxOf_2 rfl (lv_at hl 2 rfl) ?_
  refine lv_lstore (lv' := [(5, .long (amount)), (3, .long (0)), (0, .ref (h0)), (1, .long (amount))]) hx hb dX3_taxOf_3 hl (by decide) rfl (fun ls hl => ?_)
  refine lv_aload_n hx hb dX3_taxOf_5 rfl (lv_at hl 2 rfl) ?_
  refine z_get (C := RX3) (T := TX3) (N := 4) (v := .int (nI n)) hx hb hts (by decide +kernel) hown hK hS h_t rfl 2 (by decide) (hts (.fieldLink RX3 19 "PayLedger$Table" "stages" "I") (by decide +kernel)) rfl dX3_taxOf_6 ?_
  refine lv_iconst (v := 1) hx hb dX3_taxOf_9 (by decide) ?_
  refine lv_isub hx hb dX3_taxOf_10 ?_
  refine lv_istore (lv' := [(7, .int ((nI n - 1))), (5, .long (amount)), (3, .long (0)), (0, .ref (h0)), (1, .long (amount))]) hx hb dX3_taxOf_11 hl (by decide) rfl (fun ls hl => ?_)
  exact L13 n amount 0 (Nat.le_refl _) rfl  _ _ _ hS (lv_sub hl [0, 1, 2, 3, 4] rfl)
