/-! ===== the model: basic, worksOne ===== -/
set_option maxHeartbeats 4000000 in
set_option maxRecDepth 100000 in
theorem c_X7_basic (l : Launch) (D : va_G) (cs : Nat → ClassId) (w : zw) (sz : Nat) (mm : Nat) (ad : Nat → Nat) (J : Nat → Nat → Int64) (K : Nat → Nat → Int32) (th tb dd wk br yr wd : Int32) (wi : Nat) (bo rb pe me : Nat → Int32) (re cr ex : Nat → Int64) (en : Nat → Int32) (tx : Nat → Nat) (V : Nat → Nat → Int64) (nb : Nat) (tn : Nat → Nat) (FF : Nat → Nat → Int64) (GF : Nat → Nat → Int32) (k : Nat) (f39 f40 : Nat → Int64) (inc : Int64) (hP : mPy J K wi (k + 1) bo rb pe me re cr ex en tx V nb) (hTb : mTb J K nb tn FF GF) (hw : wi < 10) (hk : k < 60) (hA9 : ∀ i : Nat, i < k → f39 i = V i 2 ∧ f40 i = V i 3) (hinc : f39 k = inc) (hbk : bo k = 0) (h_m : w (mm) = some (mo ad (th) (tb) (dd) (wk) (br) (yr) (wd))) (h_1 : w (ad 1) = some (eJ cs (72) (J 1))) (h_2 : w (ad 2) = some (eI cs (72) (K 2))) (h_3 : w (ad 3) = some (eI cs (6) (K 3))) (h_26 : w (ad 26) = some (eZ cs (600) (K 26))) (h_27 : w (ad 27) = some (eI cs (600) (K 27))) (h_28 : w (ad 28) = some (eI cs (600) (K 28))) (h_29 : w (ad 29) = some (eI cs (600) (K 29))) (h_32 : w (ad 32) = some (eJ cs (600) (J 32))) (h_33 : w (ad 33) = some (eJ cs (600) (J 33))) (h_39 : w (ad 39) = some (eJ cs (60) (f39))) (h_40 : w (ad 40) = some (eJ cs (60) (f40))) : zMr l D cs yX7_basic wsX7_basic 3 w sz [.ref (mm), .int (nI wi), .int (nI k)] (.long (mBas (FF (tx k)) (GF (tx k)) (tn (tx k)) (pe k) (me k) (re k) (cr k) (zUs bo k) (zSumU bo (fun j => V j 2) k) (zSumU bo (fun j => V j 3) k) inc)) := by
  refine z_met (cc := cX7_basic) (maxL := 13) (ret := (some .long)) (by decide) rfl (Nat.le_of_ble_eq_true rfl) ?_
  intro p e s m below meth c hx hb hr hml hown hts hlocks hnm hsz hK hE hS ls hl
  have hl : lv_has ls 13 [(0, .ref (mm)), (1, .int (nI wi)), (2, .int (nI k))] := hl
  have L57 : ∀ (i : Nat), ∀ (n9 s9 a9 : Int64), (hm1 : ¬ me k = 0) → (hi : i ≤ k + 1) → (hn9 : n9 = lN (zUs bo i)) → (hs9 : s9 = zSumU bo f39 i) → (ha9 : a9 = zSumU bo f40 (min i k)) → ∀ (H : Heap) (locs : List Loc) (ls : Array Slot), zS (zA w sz) D w s.heap H locs → lv_has ls 13 [(12, .int (nI i)), (10, .long (a9)), (8, .long (s9)), (6, .long (n9)), (4, .long ((pe k).toInt64)), (3, .int (nI (60 * wi + k))), (0, .ref (mm)), (1, .int (nI wi)), (2, .int (nI k))] → W p l e (zR 3 0 0) s m [.ref (mm), .int (nI wi), .int (nI k)].toArray below meth c H locs 0 0 (MQ below (zQ D w sz (fun r w2 => r = some (.long (mBas (FF (tx k)) (GF (tx k)) (tn (tx k)) (pe k) (me k) (re k) (cr k) (zUs bo k) (zSumU bo (fun j => V j 2) k) (zSumU bo (fun j => V j 3) k) inc)) ∧ w2 = w)) [.ref (mm), .int (nI wi), .int (nI k)].toArray s 0 0 (zA w sz)) (F0 m 57 ls []) := by
    refine zloopU (P := fun i => ∀ (n9 s9 a9 : Int64), (hm1 : ¬ me k = 0) → (hi : i ≤ k + 1) → (hn9 : n9 = lN (zUs bo i)) → (hs9 : s9 = zSumU bo f39 i) → (ha9 : a9 = zSumU bo f40 (min i k)) → ∀ (H : Heap) (locs : List Loc) (ls : Array Slot), zS (zA w sz) D w s.heap H locs → lv_has ls 13 [(12, .int (nI i)), (10, .long (a9)), (8, .long (s9)), (6, .long (n9)), (4, .long ((pe k).toInt64)), (3, .int (nI (60 * wi + k))), (0, .ref (mm)), (1, .int (nI wi)), (2, .int (nI k))] → W p l e (zR 3 0 0) s m [.ref (mm), .int (nI wi), .int (nI k)].toArray below meth c H locs 0 0 (MQ below (zQ D w sz (fun r w2 => r = some (.long (mBas (FF (tx k)) (GF (tx k)) (tn (tx k)) (pe k) (me k) (re k) (cr k) (zUs bo k) (zSumU bo (fun j => V j 2) k) (zSumU bo (fun j => V j 3) k) inc)) ∧ w2 = w)) [.ref (mm), .int (nI wi), .int (nI k)].toArray s 0 0 (zA w sz)) (F0 m 57 ls [])) (k + 1) (fun i ih => ?_)
    intro n9 s9 a9 hm1 hi hn9 hs9 ha9 H locs ls hS hl
    refine lv_iload hx hb dX7_basic_57 (lv_at hl 0 rfl) ?_
    refine lv_iload_n hx hb dX7_basic_59 rfl (lv_at hl 8 rfl) ?_
    refine lv_icmp_gt (tgt := 127) hx hb dX7_basic_60 (by decide) (fun c60 => ?_) (fun c60 => ?_)
    · have hi9 : i = k + 1 := by rcases Nat.lt_or_ge k i with q | q; omega; exact absurd c60 (fun q9 => absurd (nI_le q (by omega)) (fun q8 => by rw [Int32.lt_iff_toInt_lt] at q9; rw [Int32.le_iff_toInt_le] at q8; omega))
      subst hi9
      have hz : zUs bo (k + 1) = zUs bo k + 1 := by rw [zUs, if_pos hbk]
      have hz2 := zUs_le bo k
      have hs8 : s9 = zSumU bo (fun j => V j 2) k + inc := by rw [hs9, zSumU, if_pos hbk, hinc, zSumU_congr (f := f39) (g := fun j => V j 2) (fun i hi => (hA9 i hi).1)]
      have ha8 : a9 = zSumU bo (fun j => V j 3) k := by rw [ha9, Nat.min_eq_right (by omega)]; exact zSumU_congr (fun i hi => (hA9 i hi).2)
      refine lv_aload_n hx hb dX7_basic_127 rfl (lv_at hl 6 rfl) ?_
      refine lv_iload_n hx hb dX7_basic_128 rfl (lv_at hl 5 rfl) ?_
      refine lv_lload hx hb dX7_basic_129 (lv_at hl 2 rfl) ?_
      refine lv_lload hx hb dX7_basic_131 (lv_at hl 4 rfl) ?_
      refine lv_lmul hx hb dX7_basic_133 ?_
      refine lv_lload hx hb dX7_basic_134 (lv_at hl 3 rfl) ?_
      refine lv_ldiv hx hb dX7_basic_136 (by rw [hn9, hz]; exact zlN_ne0 (by omega) (by omega)) ?_
      refine z_rV (As := [.int (nI (60 * wi + k)), .long (((s9 * (pe k).toInt64) / n9))]) (rest := []) (n := 2) ⟨hx, hb, hml, hown, hts⟩ (c_X7_due l D cs w H.size mm ad J K th tb dd wk br yr wd (tx k) (tn (tx k)) (FF (tx k)) (GF (tx k)) (60 * wi + k) (s9 * (pe k).toInt64 / n9) (by have := (hP k (by omega)).2.2.2.2.2.2.2.2.2.2.1; have := hTb.1; omega) (hTb.2 (tx k) ((hP k (by omega)).2.2.2.2.2.2.2.2.2.2.1)).1 (hTb.2 (tx k) ((hP k (by omega)).2.2.2.2.2.2.2.2.2.2.1)).2.1 (hTb.2 (tx k) ((hP k (by omega)).2.2.2.2.2.2.2.2.2.2.1)).2.2 (by omega) (hP k (by omega)).2.2.1 h_m h_1 h_2 h_3 h_27 h_32 h_33) gX7_basic_X7_due rfl ⟨rfl, by decide +kernel, by decide +kernel, by decide +kernel⟩ ⟨Nat.le_of_ble_eq_true rfl, Nat.le_of_ble_eq_true rfl⟩ hK hE hS rfl h_m rfl hl.1 rfl (Nat.le_of_ble_eq_true rfl) dX7_basic_137 ⟨Nat.le_of_ble_eq_true rfl, Nat.le_of_ble_eq_true rfl⟩ (fun H locs hS => ?_)
      refine z_tl (y := mDuty (FF (tx k)) (GF (tx k)) (tn (tx k)) (re k) (cr k) (s9 * (pe k).toInt64 / n9)) (by rw [(hP k (by omega)).2.2.2.2.2.2.2.1, (hP k (by omega)).2.2.2.2.2.2.2.2.1]) ?_
      refine lv_lload hx hb dX7_basic_140 (lv_at hl 3 rfl) ?_
      refine lv_lmul hx hb dX7_basic_142 ?_
      refine lv_lload hx hb dX7_basic_143 (lv_at hl 4 rfl) ?_
      refine z_rS (As := [.long ((mDuty (FF (tx k)) (GF (tx k)) (tn (tx k)) (re k) (cr k) (s9 * (pe k).toInt64 / n9) * n9)), .long ((pe k).toInt64)]) (rest := []) (n := 2) ⟨hx, hb, hml, hown, hts⟩ (c_X7_round l D cs w H.size ((mDuty (FF (tx k)) (GF (tx k)) (tn (tx k)) (re k) (cr k) (s9 * (pe k).toInt64 / n9)) * n9) (pe k).toInt64 ((hP k (by omega)).2.2.2.2.2.2.2.2.2.2.2)) gX7_basic_X7_round rfl ⟨by decide +kernel, by decide +kernel, by decide +kernel⟩ ⟨Nat.le_of_ble_eq_true rfl, Nat.le_of_ble_eq_true rfl⟩ hK hE hS rfl hl.1 rfl (Nat.le_of_ble_eq_true rfl) dX7_basic_145 ⟨Nat.le_of_ble_eq_true rfl, Nat.le_of_ble_eq_true rfl⟩ (fun H locs hS => ?_)
      refine lv_lload hx hb dX7_basic_148 (lv_at hl 1 rfl) ?_
      refine lv_lsub hx hb dX7_basic_150 ?_
      refine z_rS (As := [.long ((mRound ((mDuty (FF (tx k)) (GF (tx k)) (tn (tx k)) (re k) (cr k) (s9 * (pe k).toInt64 / n9)) * n9) (pe k).toInt64 - a9))]) (rest := []) (n := 1) ⟨hx, hb, hml, hown, hts⟩ (c_X7_above l D cs w H.size (mRound ((mDuty (FF (tx k)) (GF (tx k)) (tn (tx k)) (re k) (cr k) (s9 * (pe k).toInt64 / n9)) * n9) (pe k).toInt64 - a9)) gX7_basic_X7_above rfl ⟨by decide +kernel, by decide +kernel, by decide +kernel⟩ ⟨Nat.le_of_ble_eq_true rfl, Nat.le_of_ble_eq_true rfl⟩ hK hE hS rfl hl.1 rfl (Nat.le_of_ble_eq_true rfl) dX7_basic_151 ⟨Nat.le_of_ble_eq_true rfl, Nat.le_of_ble_eq_true rfl⟩ (fun H locs hS => ?_)
      exact z_lret hx hb hr hlocks hS (Nat.le_of_ble_eq_true rfl) (Nat.le_of_ble_eq_true rfl) dX7_basic_154 ⟨by rw [mBas, if_neg hm1, hs8, ha8, hn9, hz], rfl⟩
    · have c60 : i ≤ k := by rcases Nat.lt_or_ge k i with q | q; exact absurd (nI_lt q (by omega)) c60; exact q
      refine lv_aload_n hx hb dX7_basic_63 rfl (lv_at hl 6 rfl) ?_
      refine z_get (C := RX7) (T := TX7) (N := 45) (v := .ref (ad 26)) hx hb hts (by decide +kernel) hown hK hS h_m rfl 26 (by decide) (hts (.fieldLink RX7 69 "PayLedgerModel" "isBonus" "[Z") (by decide +kernel)) rfl dX7_basic_64 ?_
      refine lv_bipush (v := 60) hx hb dX7_basic_67 (by decide) ?_
      refine lv_iload_n hx hb dX7_basic_69 rfl (lv_at hl 7 rfl) ?_
      refine lv_imul hx hb dX7_basic_70 ?_
      refine z_ti (y := nI (60 * wi)) (zI_mul (60) (wi)) ?_
      refine lv_iload hx hb dX7_basic_71 (lv_at hl 0 rfl) ?_
      refine lv_iadd hx hb dX7_basic_73 ?_
      refine z_ti (y := nI ((60 * wi) + i)) (nI_add ((60 * wi)) (i)) ?_
      refine z_zald hx hb hK hS h_26 (vp_in_nI (by omega) (by decide)) dX7_basic_74 ?_
      refine z_ti (y := ((K 26) (((60 * wi) + i)))) (congrArg _ (nI_clamp (by omega))) ?_
      refine z_ti (y := bo i) (hP i (by omega)).2.1 ?_
      refine lv_if_eq (tgt := 81) hx hb dX7_basic_75 (by decide) (fun c75 => ?_) (fun c75 => ?_)
      · refine lv_lload hx hb dX7_basic_81 (lv_at hl 3 rfl) ?_
        refine lv_lconst (v := 1) hx hb dX7_basic_83 (by decide) ?_
        refine lv_ladd hx hb dX7_basic_84 ?_
        refine lv_lstore (lv' := [(6, .long ((n9 + 1))), (12, .int (nI i)), (10, .long (a9)), (8, .long (s9)), (4, .long ((pe k).toInt64)), (3, .int (nI (60 * wi + k))), (0, .ref (mm)), (1, .int (nI wi)), (2, .int (nI k))]) hx hb dX7_basic_85 hl (by decide) rfl (fun ls hl => ?_)
        refine lv_lload hx hb dX7_basic_87 (lv_at hl 3 rfl) ?_
        refine lv_aload_n hx hb dX7_basic_89 rfl (lv_at hl 6 rfl) ?_
        refine z_get (C := RX7) (T := TX7) (N := 45) (v := .ref (ad 39)) hx hb hts (by decide +kernel) hown hK hS h_m rfl 39 (by decide) (hts (.fieldLink RX7 108 "PayLedgerModel" "incomes" "[J") (by decide +kernel)) rfl dX7_basic_90 ?_
        refine lv_iload hx hb dX7_basic_93 (lv_at hl 1 rfl) ?_
        refine z_lald hx hb hK hS h_39 (vp_in_nI (by omega) (by decide)) dX7_basic_95 ?_
        refine z_tl (y := ((f39) (i))) (congrArg _ (nI_clamp (by omega))) ?_
        refine z_tl (y := f39 i) rfl ?_
        refine lv_ladd hx hb dX7_basic_96 ?_
        refine lv_lstore (lv' := [(8, .long ((s9 + f39 i))), (6, .long ((n9 + 1))), (12, .int (nI i)), (10, .long (a9)), (4, .long ((pe k).toInt64)), (3, .int (nI (60 * wi + k))), (0, .ref (mm)), (1, .int (nI wi)), (2, .int (nI k))]) hx hb dX7_basic_97 hl (by decide) rfl (fun ls hl => ?_)
        refine lv_lload hx hb dX7_basic_99 (lv_at hl 3 rfl) ?_
        refine lv_iload hx hb dX7_basic_101 (lv_at hl 2 rfl) ?_
        refine lv_iload_n hx hb dX7_basic_103 rfl (lv_at hl 8 rfl) ?_
        refine lv_icmp_ge (tgt := 117) hx hb dX7_basic_104 (by decide) (fun c104 => ?_) (fun c104 => ?_)
        · have hik : i = k := by rcases (show i < k ∨ i = k by omega) with q | q; exact absurd c104 (nI_ge q (by omega)); exact q
          refine lv_lconst (v := 0) hx hb dX7_basic_117 (by decide) ?_
          refine lv_ladd hx hb dX7_basic_118 ?_
          refine lv_lstore (lv' := [(10, .long ((a9 + 0))), (8, .long ((s9 + f39 i))), (6, .long ((n9 + 1))), (12, .int (nI i)), (4, .long ((pe k).toInt64)), (3, .int (nI (60 * wi + k))), (0, .ref (mm)), (1, .int (nI wi)), (2, .int (nI k))]) hx hb dX7_basic_119 hl (by decide) rfl (fun ls hl => ?_)
          refine lv_iinc (v := nI (i + 1)) (lv' := [(12, .int (nI (i + 1))), (10, .long ((a9 + 0))), (8, .long ((s9 + f39 i))), (6, .long ((n9 + 1))), (4, .long ((pe k).toInt64)), (3, .int (nI (60 * wi + k))), (0, .ref (mm)), (1, .int (nI wi)), (2, .int (nI k))]) hx hb dX7_basic_121 hl (k := 3) rfl (nI_1 _) (by decide) rfl (fun ls hl => ?_)
          refine lv_goto (tgt := 57) hx hb dX7_basic_124 (by decide) ?_
          exact ih (by omega) ((n9 + 1)) ((s9 + f39 i)) ((a9 + 0)) hm1 (by omega) (by rw [hn9, zUs, if_pos c75, lN_1]) (by rw [hs9, zSumU, if_pos c75]) (by rw [ha9, Int64.add_zero, Nat.min_eq_right (by omega), Nat.min_eq_right (by omega)])  _ _ _ hS (lv_sub hl [0, 1, 2, 3, 4, 5, 6, 7, 8] rfl)
        · have hik : i < k := by rcases (show i < k ∨ i = k by omega) with q | q; exact q; exact absurd (nI_le (show k ≤ i by omega) (by omega)) c104
          refine lv_aload_n hx hb dX7_basic_107 rfl (lv_at hl 6 rfl) ?_
          refine z_get (C := RX7) (T := TX7) (N := 45) (v := .ref (ad 40)) hx hb hts (by decide +kernel) hown hK hS h_m rfl 40 (by decide) (hts (.fieldLink RX7 111 "PayLedgerModel" "basics" "[J") (by decide +kernel)) rfl dX7_basic_108 ?_
          refine lv_iload hx hb dX7_basic_111 (lv_at hl 2 rfl) ?_
          refine z_lald hx hb hK hS h_40 (vp_in_nI (by omega) (by decide)) dX7_basic_113 ?_
          refine z_tl (y := ((f40) (i))) (congrArg _ (nI_clamp (by omega))) ?_
          refine z_tl (y := f40 i) rfl ?_
          refine lv_goto (tgt := 118) hx hb dX7_basic_114 (by decide) ?_
          refine lv_ladd hx hb dX7_basic_118 ?_
          refine lv_lstore (lv' := [(10, .long ((a9 + f40 i))), (8, .long ((s9 + f39 i))), (6, .long ((n9 + 1))), (12, .int (nI i)), (4, .long ((pe k).toInt64)), (3, .int (nI (60 * wi + k))), (0, .ref (mm)), (1, .int (nI wi)), (2, .int (nI k))]) hx hb dX7_basic_119 hl (by decide) rfl (fun ls hl => ?_)
          refine lv_iinc (v := nI (i + 1)) (lv' := [(12, .int (nI (i + 1))), (10, .long ((a9 + f40 i))), (8, .long ((s9 + f39 i))), (6, .long ((n9 + 1))), (4, .long ((pe k).toInt64)), (3, .int (nI (60 * wi + k))), (0, .ref (mm)), (1, .int (nI wi)), (2, .int (nI k))]) hx hb dX7_basic_121 hl (k := 3) rfl (nI_1 _) (by decide) rfl (fun ls hl => ?_)
          refine lv_goto (tgt := 57) hx hb dX7_basic_124 (by decide) ?_
          exact ih (by omega) ((n9 + 1)) ((s9 + f39 i)) ((a9 + f40 i)) hm1 (by omega) (by rw [hn9, zUs, if_pos c75, lN_1]) (by rw [hs9, zSumU, if_pos c75]) (by rw [ha9, Nat.min_eq_left (by omega), Nat.min_eq_left (by omega), zSumU, if_pos c75])  _ _ _ hS (lv_sub hl [0, 1, 2, 3, 4, 5, 6, 7, 8] rfl)
      · have hik : i < k := by rcases (show i < k ∨ i = k by omega) with q | q; exact q; exact absurd (by rw [q]; exact hbk) c75
        refine lv_goto (tgt := 121) hx hb dX7_basic_78 (by decide) ?_
        refine lv_iinc (v := nI (i + 1)) (lv' := [(12, .int (nI (i + 1))), (10, .long (a9)), (8, .long (s9)), (6, .long (n9)), (4, .long ((pe k).toInt64)), (3, .int (nI (60 * wi + k))), (0, .ref (mm)), (1, .int (nI wi)), (2, .int (nI k))]) hx hb dX7_basic_121 hl (k := 0) rfl (nI_1 _) (by decide) rfl (fun ls hl => ?_)
        refine lv_goto (tgt := 57) hx hb dX7_basic_124 (by decide) ?_
        exact ih (by omega) (n9) (s9) (a9) hm1 (by omega) (by rw [hn9, zUs, if_neg c75]) (by rw [hs9, zSumU, if_neg c75]) (by rw [ha9, Nat.min_eq_left (by omega), Nat.min_eq_left (by omega), zSumU, if_neg c75])  _ _ _ hS (lv_sub hl [0, 1, 2, 3, 4, 5, 6, 7, 8] rfl)
  refine lv_bipush (v := 60) hx hb dX7_basic_0 (by decide) ?_
  refine lv_iload_n hx hb dX7_basic_2 rfl (lv_at hl 1 rfl) ?_
  refine lv_imul hx hb dX7_basic_3 ?_
  refine z_ti (y := nI (60 * wi)) (zI_mul (60) (wi)) ?_
  refine lv_iload_n hx hb dX7_basic_4 rfl (lv_at hl 2 rfl) ?_
  refine lv_iadd hx hb dX7_basic_5 ?_
  refine z_ti (y := nI ((60 * wi) + k)) (nI_add ((60 * wi)) (k)) ?_
  refine lv_istore_n (lv' := [(3, .int (nI ((60 * wi) + k))), (0, .ref (mm)), (1, .int (nI wi)), (2, .int (nI k))]) hx hb dX7_basic_6 rfl hl (by decide) rfl (fun ls hl => ?_)
  refine lv_aload_n hx hb dX7_basic_7 rfl (lv_at hl 1 rfl) ?_
  refine z_get (C := RX7) (T := TX7) (N := 45) (v := .ref (ad 28)) hx hb hts (by decide +kernel) hown hK hS h_m rfl 28 (by decide) (hts (.fieldLink RX7 75 "PayLedgerModel" "withPeriods" "[I") (by decide +kernel)) rfl dX7_basic_8 ?_
  refine lv_iload_n hx hb dX7_basic_11 rfl (lv_at hl 0 rfl) ?_
  refine z_iald hx hb hK hS h_28 (vp_in_nI (by omega) (by decide)) dX7_basic_12 ?_
  refine z_ti (y := ((K 28) (((60 * wi) + k)))) (congrArg _ (nI_clamp (by omega))) ?_
  refine z_ti (y := pe k) (hP k (by omega)).2.2.2.1 ?_
  refine lv_i2l (v := ((pe k : Int32).toInt64)) hx hb dX7_basic_13 rfl ?_
  refine lv_lstore (lv' := [(4, .long (((pe k : Int32).toInt64))), (3, .int (nI ((60 * wi) + k))), (0, .ref (mm)), (1, .int (nI wi)), (2, .int (nI k))]) hx hb dX7_basic_14 hl (by decide) rfl (fun ls hl => ?_)
  refine lv_aload_n hx hb dX7_basic_16 rfl (lv_at hl 2 rfl) ?_
  refine z_get (C := RX7) (T := TX7) (N := 45) (v := .ref (ad 29)) hx hb hts (by decide +kernel) hown hK hS h_m rfl 29 (by decide) (hts (.fieldLink RX7 78 "PayLedgerModel" "withMethod" "[I") (by decide +kernel)) rfl dX7_basic_17 ?_
  refine lv_iload_n hx hb dX7_basic_20 rfl (lv_at hl 1 rfl) ?_
  refine z_iald hx hb hK hS h_29 (vp_in_nI (by omega) (by decide)) dX7_basic_21 ?_
  refine z_ti (y := ((K 29) (((60 * wi) + k)))) (congrArg _ (nI_clamp (by omega))) ?_
  refine z_ti (y := me k) (hP k (by omega)).2.2.2.2.1 ?_
  refine lv_if_ne (tgt := 45) hx hb dX7_basic_22 (by decide) (fun c22 => ?_) (fun c22 => ?_)
  · refine lv_lconst (v := 0) hx hb dX7_basic_45 (by decide) ?_
    refine lv_lstore (lv' := [(6, .long (0)), (4, .long (((pe k : Int32).toInt64))), (3, .int (nI ((60 * wi) + k))), (0, .ref (mm)), (1, .int (nI wi)), (2, .int (nI k))]) hx hb dX7_basic_46 hl (by decide) rfl (fun ls hl => ?_)
    refine lv_lconst (v := 0) hx hb dX7_basic_48 (by decide) ?_
    refine lv_lstore (lv' := [(8, .long (0)), (6, .long (0)), (4, .long (((pe k : Int32).toInt64))), (3, .int (nI ((60 * wi) + k))), (0, .ref (mm)), (1, .int (nI wi)), (2, .int (nI k))]) hx hb dX7_basic_49 hl (by decide) rfl (fun ls hl => ?_)
    refine lv_lconst (v := 0) hx hb dX7_basic_51 (by decide) ?_
    refine lv_lstore (lv' := [(10, .long (0)), (8, .long (0)), (6, .long (0)), (4, .long (((pe k : Int32).toInt64))), (3, .int (nI ((60 * wi) + k))), (0, .ref (mm)), (1, .int (nI wi)), (2, .int (nI k))]) hx hb dX7_basic_52 hl (by decide) rfl (fun ls hl => ?_)
    refine lv_iconst (v := 0) hx hb dX7_basic_54 (by decide) ?_
    refine lv_istore (lv' := [(12, .int (0)), (10, .long (0)), (8, .long (0)), (6, .long (0)), (4, .long (((pe k : Int32).toInt64))), (3, .int (nI ((60 * wi) + k))), (0, .ref (mm)), (1, .int (nI wi)), (2, .int (nI k))]) hx hb dX7_basic_55 hl (by decide) rfl (fun ls hl => ?_)
    exact L57 0 0 0 0 c22 (by omega) rfl rfl (by rw [Nat.zero_min]; rfl)  _ _ _ hS (lv_sub hl [0, 1, 2, 3, 4, 5, 6, 7, 8] rfl)
  · refine lv_aload_n hx hb dX7_basic_25 rfl (lv_at hl 2 rfl) ?_
    refine lv_iload_n hx hb dX7_basic_26 rfl (lv_at hl 1 rfl) ?_
    refine lv_aload_n hx hb dX7_basic_27 rfl (lv_at hl 2 rfl) ?_
    refine z_get (C := RX7) (T := TX7) (N := 45) (v := .ref (ad 39)) hx hb hts (by decide +kernel) hown hK hS h_m rfl 39 (by decide) (hts (.fieldLink RX7 108 "PayLedgerModel" "incomes" "[J") (by decide +kernel)) rfl dX7_basic_28 ?_
    refine lv_iload_n hx hb dX7_basic_31 rfl (lv_at hl 4 rfl) ?_
    refine z_lald hx hb hK hS h_39 (vp_in_nI (by omega) (by decide)) dX7_basic_32 ?_
    refine z_tl (y := ((f39) (k))) (congrArg _ (nI_clamp (by omega))) ?_
    refine z_tl (y := inc) hinc ?_
    refine lv_lload hx hb dX7_basic_33 (lv_at hl 0 rfl) ?_
    refine lv_lmul hx hb dX7_basic_35 ?_
    refine z_rV (As := [.int (nI ((60 * wi) + k)), .long ((inc * ((pe k : Int32).toInt64)))]) (rest := []) (n := 2) ⟨hx, hb, hml, hown, hts⟩ (c_X7_due l D cs w s.heap.size mm ad J K th tb dd wk br yr wd (tx k) (tn (tx k)) (FF (tx k)) (GF (tx k)) (60 * wi + k) (inc * (pe k).toInt64) (by have := (hP k (by omega)).2.2.2.2.2.2.2.2.2.2.1; have := hTb.1; omega) (hTb.2 (tx k) ((hP k (by omega)).2.2.2.2.2.2.2.2.2.2.1)).1 (hTb.2 (tx k) ((hP k (by omega)).2.2.2.2.2.2.2.2.2.2.1)).2.1 (hTb.2 (tx k) ((hP k (by omega)).2.2.2.2.2.2.2.2.2.2.1)).2.2 (by omega) (hP k (by omega)).2.2.1 h_m h_1 h_2 h_3 h_27 h_32 h_33) gX7_basic_X7_due rfl ⟨rfl, by decide +kernel, by decide +kernel, by decide +kernel⟩ ⟨Nat.le_of_ble_eq_true rfl, Nat.le_of_ble_eq_true rfl⟩ hK hE hS rfl h_m rfl hl.1 rfl (Nat.le_of_ble_eq_true rfl) dX7_basic_36 ⟨Nat.le_of_ble_eq_true rfl, Nat.le_of_ble_eq_true rfl⟩ (fun H locs hS => ?_)
    refine z_tl (y := mDuty (FF (tx k)) (GF (tx k)) (tn (tx k)) (re k) (cr k) (inc * (pe k).toInt64)) (by rw [(hP k (by omega)).2.2.2.2.2.2.2.1, (hP k (by omega)).2.2.2.2.2.2.2.2.1]) ?_
    refine lv_lload hx hb dX7_basic_39 (lv_at hl 0 rfl) ?_
    refine z_rS (As := [.long (mDuty (FF (tx k)) (GF (tx k)) (tn (tx k)) (re k) (cr k) (inc * (pe k).toInt64)), .long (((pe k : Int32).toInt64))]) (rest := []) (n := 2) ⟨hx, hb, hml, hown, hts⟩ (c_X7_round l D cs w H.size (mDuty (FF (tx k)) (GF (tx k)) (tn (tx k)) (re k) (cr k) (inc * (pe k).toInt64)) (pe k).toInt64 ((hP k (by omega)).2.2.2.2.2.2.2.2.2.2.2)) gX7_basic_X7_round rfl ⟨by decide +kernel, by decide +kernel, by decide +kernel⟩ ⟨Nat.le_of_ble_eq_true rfl, Nat.le_of_ble_eq_true rfl⟩ hK hE hS rfl hl.1 rfl (Nat.le_of_ble_eq_true rfl) dX7_basic_41 ⟨Nat.le_of_ble_eq_true rfl, Nat.le_of_ble_eq_true rfl⟩ (fun H locs hS => ?_)
    exact z_lret hx hb hr hlocks hS (Nat.le_of_ble_eq_true rfl) (Nat.le_of_ble_eq_true rfl) dX7_basic_44 ⟨by rw [mBas, if_pos c22], rfl⟩
set_option maxHeartbeats 8000000 in
set_option maxRecDepth 100000 in
theorem c_X7_worksOne (l : Launch) (D : va_G) (cs : Nat → ClassId) (w : zw) (sz : Nat) (mm : Nat) (ad : Nat → Nat) (J : Nat → Nat → Int64) (K : Nat → Nat → Int32) (th tb wk br yr wd : Int32) (wi : Nat) (bo rb pe me : Nat → Int32) (re cr ex : Nat → Int64) (en : Nat → Int32) (tx : Nat → Nat) (V P : Nat → Nat → Int64) (nb : Nat) (tn : Nat → Nat) (FF : Nat → Nat → Int64) (GF : Nat → Nat → Int32) (nd : Nat) (de so : Nat → Int32) (si ca bs : Nat → Int64) (k : Nat) (hinj : ∀ i j : Nat, i ≠ j → ad i ≠ ad j) (hM : zMA cs w ad J K) (hTb : mTb J K nb tn FF GF) (hDd : mDd J K nd de so si ca bs) (hP : mPy J K wi (k + 1) bo rb pe me re cr ex en tx V nb) (hw : wi < 10) (hk : k < 60) (hA : mAh J k V P) (hst : mWkd nd de so si ca bs bo rb pe me re cr ex en tx tn FF GF V P k) (h_m : w (mm) = some (mo ad (th) (tb) (nI nd) (wk) (br) (yr) (wd))) : zM l D cs yX7_worksOne wsX7_worksOne 4 0 0 w sz [.ref (mm), .int (nI wi), .int (nI k)] (fun r w2 => r = none ∧ ∃ J' : Nat → Nat → Int64, mOut J J' ∧ zMZ cs w w2 ad mSW J' K ∧ mAh J' (k + 1) V P) := by
  refine z_met (cc := cX7_worksOne) (maxL := 6) (ret := none) (by decide) rfl (Nat.le_of_ble_eq_true rfl) ?_
  intro p e s m below meth c hx hb hr hml hown hts hlocks hnm hsz hK hE hS ls hl
  have hl : lv_has ls 6 [(0, .ref (mm)), (1, .int (nI wi)), (2, .int (nI k))] := hl
  have h_1 : w (ad 1) = some (eJ cs (72) (J 1)) := hM 1 (by decide)
  have h_2 : w (ad 2) = some (eI cs (72) (K 2)) := hM 2 (by decide)
  have h_3 : w (ad 3) = some (eI cs (6) (K 3)) := hM 3 (by decide)
  have h_6 : w (ad 6) = some (eZ cs (8) (K 6)) := hM 6 (by decide)
  have h_7 : w (ad 7) = some (eI cs (8) (K 7)) := hM 7 (by decide)
  have h_8 : w (ad 8) = some (eJ cs (8) (J 8)) := hM 8 (by decide)
  have h_9 : w (ad 9) = some (eJ cs (8) (J 9)) := hM 9 (by decide)
  have h_10 : w (ad 10) = some (eJ cs (8) (J 10)) := hM 10 (by decide)
  have h_25 : w (ad 25) = some (eJ cs (600) (J 25)) := hM 25 (by decide)
  have h_26 : w (ad 26) = some (eZ cs (600) (K 26)) := hM 26 (by decide)
  have h_27 : w (ad 27) = some (eI cs (600) (K 27)) := hM 27 (by decide)
  have h_28 : w (ad 28) = some (eI cs (600) (K 28)) := hM 28 (by decide)
  have h_29 : w (ad 29) = some (eI cs (600) (K 29)) := hM 29 (by decide)
  have h_30 : w (ad 30) = some (eI cs (600) (K 30)) := hM 30 (by decide)
  have h_31 : w (ad 31) = some (eI cs (600) (K 31)) := hM 31 (by decide)
  have h_32 : w (ad 32) = some (eJ cs (600) (J 32)) := hM 32 (by decide)
  have h_33 : w (ad 33) = some (eJ cs (600) (J 33)) := hM 33 (by decide)
  have h_34 : w (ad 34) = some (eJ cs (600) (J 34)) := hM 34 (by decide)
  have h_37 : w (ad 37) = some (eJ cs (480) (J 37)) := hM 37 (by decide)
  have h_38 : w (ad 38) = some (eJ cs (60) (J 38)) := hM 38 (by decide)
  have h_39 : w (ad 39) = some (eJ cs (60) (J 39)) := hM 39 (by decide)
  have h_40 : w (ad 40) = some (eJ cs (60) (J 40)) := hM 40 (by decide)
  have h_41 : w (ad 41) = some (eJ cs (60) (J 41)) := hM 41 (by decide)
  have h_42 : w (ad 42) = some (eJ cs (60) (J 42)) := hM 42 (by decide)
  have h_43 : w (ad 43) = some (eJ cs (60) (J 43)) := hM 43 (by decide)
  have L10 : ∀ (d : Nat), ∀ (u : zw), (hd : d ≤ 8) → (h_m : u (mm) = some (mo ad (th) (tb) (nI nd) (wk) (br) (yr) (wd))) → (h_37 : u (ad 37) = some (eJ cs (480) (zRow (J 37) k (zClr (fun d => J 37 (8 * k + d)) d)))) → (hex0 : zEx w u [(ad 37, (eJ cs (480) (zRow (J 37) k (zClr (fun d => J 37 (8 * k + d)) d))))]) → (kk : ∀ (u2 : zw), (hexk : zEx w u2 [(ad 37, eJ cs (480) (zRow (J 37) k (fun _ => 0)))]) → ∀ (H : Heap) (locs : List Loc) (ls : Array Slot), zS (zA w sz) D u2 s.heap H locs → lv_has ls 6 [(3, .int (nI (60 * wi + k))), (0, .ref (mm)), (1, .int (nI wi)), (2, .int (nI k))] → W p l e (zR 4 0 0) s m [.ref (mm), .int (nI wi), .int (nI k)].toArray below meth c H locs 0 0 (MQ below (zQ D w sz (fun r w2 => r = none ∧ ∃ J' : Nat → Nat → Int64, mOut J J' ∧ zMZ cs w w2 ad mSW J' K ∧ mAh J' (k + 1) V P)) [.ref (mm), .int (nI wi), .int (nI k)].toArray s 0 0 (zA w sz)) (F0 m 36 ls [])) → ∀ (H : Heap) (locs : List Loc) (ls : Array Slot), zS (zA w sz) D u s.heap H locs → lv_has ls 6 [(4, .int (nI d)), (3, .int (nI (60 * wi + k))), (0, .ref (mm)), (1, .int (nI wi)), (2, .int (nI k))] → W p l e (zR 4 0 0) s m [.ref (mm), .int (nI wi), .int (nI k)].toArray below meth c H locs 0 0 (MQ below (zQ D w sz (fun r w2 => r = none ∧ ∃ J' : Nat → Nat → Int64, mOut J J' ∧ zMZ cs w w2 ad mSW J' K ∧ mAh J' (k + 1) V P)) [.ref (mm), .int (nI wi), .int (nI k)].toArray s 0 0 (zA w sz)) (F0 m 10 ls []) := by
    refine zloopU (P := fun d => ∀ (u : zw), (hd : d ≤ 8) → (h_m : u (mm) = some (mo ad (th) (tb) (nI nd) (wk) (br) (yr) (wd))) → (h_37 : u (ad 37) = some (eJ cs (480) (zRow (J 37) k (zClr (fun d => J 37 (8 * k + d)) d)))) → (hex0 : zEx w u [(ad 37, (eJ cs (480) (zRow (J 37) k (zClr (fun d => J 37 (8 * k + d)) d))))]) → (kk : ∀ (u2 : zw), (hexk : zEx w u2 [(ad 37, eJ cs (480) (zRow (J 37) k (fun _ => 0)))]) → ∀ (H : Heap) (locs : List Loc) (ls : Array Slot), zS (zA w sz) D u2 s.heap H locs → lv_has ls 6 [(3, .int (nI (60 * wi + k))), (0, .ref (mm)), (1, .int (nI wi)), (2, .int (nI k))] → W p l e (zR 4 0 0) s m [.ref (mm), .int (nI wi), .int (nI k)].toArray below meth c H locs 0 0 (MQ below (zQ D w sz (fun r w2 => r = none ∧ ∃ J' : Nat → Nat → Int64, mOut J J' ∧ zMZ cs w w2 ad mSW J' K ∧ mAh J' (k + 1) V P)) [.ref (mm), .int (nI wi), .int (nI k)].toArray s 0 0 (zA w sz)) (F0 m 36 ls [])) → ∀ (H : Heap) (locs : List Loc) (ls : Array Slot), zS (zA w sz) D u s.heap H locs → lv_has ls 6 [(4, .int (nI d)), (3, .int (nI (60 * wi + k))), (0, .ref (mm)), (1, .int (nI wi)), (2, .int (nI k))] → W p l e (zR 4 0 0) s m [.ref (mm), .int (nI wi), .int (nI k)].toArray below meth c H locs 0 0 (MQ below (zQ D w sz (fun r w2 => r = none ∧ ∃ J' : Nat → Nat → Int64, mOut J J' ∧ zMZ cs w w2 ad mSW J' K ∧ mAh J' (k + 1) V P)) [.ref (mm), .int (nI wi), .int (nI k)].toArray s 0 0 (zA w sz)) (F0 m 10 ls [])) 8 (fun d ih => ?_)
    intro u hd h_m h_37 hex0 kk H locs ls hS hl
    refine lv_iload hx hb dX7_worksOne_10 (lv_at hl 0 rfl) ?_
    refine lv_bipush (v := 8) hx hb dX7_worksOne_12 (by decide) ?_
    refine lv_icmp_ge (tgt := 36) hx hb dX7_worksOne_14 (by decide) (fun c14 => ?_) (fun c14 => ?_)
    · have hi9 : d = 8 := by rcases Nat.lt_or_ge d (8) with q | q; exact absurd c14 (nI_ge (b := 8) q (by omega)); omega
      have hex8 : zEx w u [(ad 37, eJ cs (480) (zRow (J 37) k (fun _ => 0)))] := by rw [← zRow_congr (f := J 37) (k := k) (g := zClr (fun d => J 37 (8 * k + d)) d) (g' := fun _ => 0) (fun x hx => by unfold zClr; exact if_pos (by omega))]; exact hex0
      exact kk u hex8 _ _ _ hS (lv_sub hl [1, 2, 3, 4] rfl)
    · have c14 : d < 8 := by rcases Nat.lt_or_ge d (8) with q | q; exact q; exact absurd (nI_le (a := 8) q (by omega)) c14
      refine lv_aload_n hx hb dX7_worksOne_17 rfl (lv_at hl 2 rfl) ?_
      refine z_get (C := RX7) (T := TX7) (N := 45) (v := .ref (ad 37)) hx hb hts (by decide +kernel) hown hK hS h_m rfl 37 (by decide) (hts (.fieldLink RX7 102 "PayLedgerModel" "parts" "[J") (by decide +kernel)) rfl dX7_worksOne_18 ?_
      refine lv_bipush (v := 8) hx hb dX7_worksOne_21 (by decide) ?_
      refine lv_iload_n hx hb dX7_worksOne_23 rfl (lv_at hl 4 rfl) ?_
      refine lv_imul hx hb dX7_worksOne_24 ?_
      refine z_ti (y := nI (8 * k)) (zI_mul (8) (k)) ?_
      refine lv_iload hx hb dX7_worksOne_25 (lv_at hl 0 rfl) ?_
      refine lv_iadd hx hb dX7_worksOne_27 ?_
      refine z_ti (y := nI ((8 * k) + d)) (nI_add ((8 * k)) (d)) ?_
      refine lv_lconst (v := 0) hx hb dX7_worksOne_28 (by decide) ?_
      refine z_last hx hb hK hS h_37 (vp_in_nI (by omega) (by decide)) dX7_worksOne_29 (fun H locs hS => ?_)
      obtain ⟨w1, ew1⟩ : ∃ z : zw, z = va_up u (ad 37) (some (eJ cs (480) (vp_updL (zRow (J 37) k (zClr (fun d => J 37 (8 * k + d)) d)) (nI ((8 * k) + d) : Int32).toNatClampNeg (0)))) := ⟨_, rfl⟩
      have hS : zS (zA w sz) D w1 s.heap H locs := by rw [ew1]; exact hS
      have h1_ad37 : w1 (ad 37) = some (eJ cs (480) (vp_updL (zRow (J 37) k (zClr (fun d => J 37 (8 * k + d)) d)) (nI ((8 * k) + d) : Int32).toNatClampNeg (0))) := by rw [ew1]; exact va_up_self _ _ _
      have h1_mm : w1 (mm) = some (mo ad (th) (tb) (nI nd) (wk) (br) (yr) (wd)) := by rw [ew1]; exact (va_up_ne _ _ (zne h_m h_37 (by intro q9; first | cases q9 | simp at q9))).trans h_m
      have h1_ad37 : w1 (ad 37) = some (eJ cs (480) (vp_updL (zRow (J 37) k (zClr (fun d => J 37 (8 * k + d)) d)) (((8 * k) + d)) (0))) := by rw [nI_clamp (by omega)] at h1_ad37; exact h1_ad37
      rw [show (eJ cs (480) (vp_updL (zRow (J 37) k (zClr (fun d => J 37 (8 * k + d)) d)) (((8 * k) + d)) (0))) = (eJ cs (480) (zRow (J 37) k (zClr (fun d => J 37 (8 * k + d)) (d + 1)))) from (by rw [zRow_upd (by omega), zClr_s])] at h1_ad37
      refine lv_iinc (v := nI (d + 1)) (lv' := [(4, .int (nI (d + 1))), (3, .int (nI (60 * wi + k))), (0, .ref (mm)), (1, .int (nI wi)), (2, .int (nI k))]) hx hb dX7_worksOne_30 hl (k := 0) rfl (nI_1 _) (by decide) rfl (fun ls hl => ?_)
      refine lv_goto (tgt := 10) hx hb dX7_worksOne_33 (by decide) ?_
      have hex : zEx w w1 [(ad 37, (eJ cs (480) (zRow (J 37) k (zClr (fun d => J 37 (8 * k + d)) (d + 1)))))] := ⟨(zm1 h1_ad37 zm0), fun a9 h9 => by rw [ew1, va_up_ne _ _ (show a9 ≠ ad 37 from h9 (ad 37, (eJ cs (480) (zRow (J 37) k (zClr (fun d => J 37 (8 * k + d)) (d + 1))))) (List.mem_of_getElem? (i := 0) rfl)), hex0.2 a9 (zm1 (show a9 ≠ ad 37 from h9 (ad 37, (eJ cs (480) (zRow (J 37) k (zClr (fun d => J 37 (8 * k + d)) (d + 1))))) (List.mem_of_getElem? (i := 0) rfl)) zm0)]⟩
      exact ih c14 _ (by omega) h1_mm h1_ad37 hex kk _ _ _ hS (lv_sub hl [0, 1, 2, 3, 4] rfl)
  refine lv_bipush (v := 60) hx hb dX7_worksOne_0 (by decide) ?_
  refine lv_iload_n hx hb dX7_worksOne_2 rfl (lv_at hl 1 rfl) ?_
  refine lv_imul hx hb dX7_worksOne_3 ?_
  refine z_ti (y := nI (60 * wi)) (zI_mul (60) (wi)) ?_
  refine lv_iload_n hx hb dX7_worksOne_4 rfl (lv_at hl 2 rfl) ?_
  refine lv_iadd hx hb dX7_worksOne_5 ?_
  refine z_ti (y := nI ((60 * wi) + k)) (nI_add ((60 * wi)) (k)) ?_
  refine lv_istore_n (lv' := [(3, .int (nI ((60 * wi) + k))), (0, .ref (mm)), (1, .int (nI wi)), (2, .int (nI k))]) hx hb dX7_worksOne_6 rfl hl (by decide) rfl (fun ls hl => ?_)
  have h_37z : w (ad 37) = some (eJ cs (480) (zRow (J 37) k (zClr (fun d => J 37 (8 * k + d)) 0))) := by rw [zClr_0, zRow_id]; exact h_37
  refine lv_iconst (v := 0) hx hb dX7_worksOne_7 (by decide) ?_
  refine lv_istore (lv' := [(4, .int (0)), (3, .int (nI ((60 * wi) + k))), (0, .ref (mm)), (1, .int (nI wi)), (2, .int (nI k))]) hx hb dX7_worksOne_8 hl (by decide) rfl (fun ls hl => ?_)
  have hex : zEx w w [(ad 37, (eJ cs (480) (zRow (J 37) k (zClr (fun d => J 37 (8 * k + d)) 0))))] := ⟨(zm1 h_37z zm0), fun a9 h9 => rfl⟩
  refine L10 0 w (by omega) h_m h_37z hex (fun u2 hexk H locs ls hS hl => ?_) _ _ _ hS (lv_sub hl [0, 1, 2, 3, 4] rfl)
  have h2_ad37 : u2 (ad 37) = some (eJ cs (480) (zRow (J 37) k (fun _ => 0))) := hexk.at 0 rfl
  have h2_mm : u2 (mm) = some (mo ad (th) (tb) (nI nd) (wk) (br) (yr) (wd)) := hexk.old h_m (zm1 (zne h_m h_37z (by intro q9; first | cases q9 | simp at q9)) zm0)
  have h2_ad1 : u2 (ad 1) = some (eJ cs (72) (J 1)) := hexk.old h_1 (zm1 (hinj 1 37 (by decide)) zm0)
  have h2_ad2 : u2 (ad 2) = some (eI cs (72) (K 2)) := hexk.old h_2 (zm1 (hinj 2 37 (by decide)) zm0)
  have h2_ad3 : u2 (ad 3) = some (eI cs (6) (K 3)) := hexk.old h_3 (zm1 (hinj 3 37 (by decide)) zm0)
  have h2_ad6 : u2 (ad 6) = some (eZ cs (8) (K 6)) := hexk.old h_6 (zm1 (hinj 6 37 (by decide)) zm0)
  have h2_ad7 : u2 (ad 7) = some (eI cs (8) (K 7)) := hexk.old h_7 (zm1 (hinj 7 37 (by decide)) zm0)
  have h2_ad8 : u2 (ad 8) = some (eJ cs (8) (J 8)) := hexk.old h_8 (zm1 (hinj 8 37 (by decide)) zm0)
  have h2_ad9 : u2 (ad 9) = some (eJ cs (8) (J 9)) := hexk.old h_9 (zm1 (hinj 9 37 (by decide)) zm0)
  have h2_ad10 : u2 (ad 10) = some (eJ cs (8) (J 10)) := hexk.old h_10 (zm1 (hinj 10 37 (by decide)) zm0)
  have h2_ad25 : u2 (ad 25) = some (eJ cs (600) (J 25)) := hexk.old h_25 (zm1 (hinj 25 37 (by decide)) zm0)
  have h2_ad26 : u2 (ad 26) = some (eZ cs (600) (K 26)) := hexk.old h_26 (zm1 (hinj 26 37 (by decide)) zm0)
  have h2_ad27 : u2 (ad 27) = some (eI cs (600) (K 27)) := hexk.old h_27 (zm1 (hinj 27 37 (by decide)) zm0)
  have h2_ad28 : u2 (ad 28) = some (eI cs (600) (K 28)) := hexk.old h_28 (zm1 (hinj 28 37 (by decide)) zm0)
  have h2_ad29 : u2 (ad 29) = some (eI cs (600) (K 29)) := hexk.old h_29 (zm1 (hinj 29 37 (by decide)) zm0)
  have h2_ad30 : u2 (ad 30) = some (eI cs (600) (K 30)) := hexk.old h_30 (zm1 (hinj 30 37 (by decide)) zm0)
  have h2_ad31 : u2 (ad 31) = some (eI cs (600) (K 31)) := hexk.old h_31 (zm1 (hinj 31 37 (by decide)) zm0)
  have h2_ad32 : u2 (ad 32) = some (eJ cs (600) (J 32)) := hexk.old h_32 (zm1 (hinj 32 37 (by decide)) zm0)
  have h2_ad33 : u2 (ad 33) = some (eJ cs (600) (J 33)) := hexk.old h_33 (zm1 (hinj 33 37 (by decide)) zm0)
  have h2_ad34 : u2 (ad 34) = some (eJ cs (600) (J 34)) := hexk.old h_34 (zm1 (hinj 34 37 (by decide)) zm0)
  have h2_ad38 : u2 (ad 38) = some (eJ cs (60) (J 38)) := hexk.old h_38 (zm1 (hinj 38 37 (by decide)) zm0)
  have h2_ad39 : u2 (ad 39) = some (eJ cs (60) (J 39)) := hexk.old h_39 (zm1 (hinj 39 37 (by decide)) zm0)
  have h2_ad40 : u2 (ad 40) = some (eJ cs (60) (J 40)) := hexk.old h_40 (zm1 (hinj 40 37 (by decide)) zm0)
  have h2_ad41 : u2 (ad 41) = some (eJ cs (60) (J 41)) := hexk.old h_41 (zm1 (hinj 41 37 (by decide)) zm0)
  have h2_ad42 : u2 (ad 42) = some (eJ cs (60) (J 42)) := hexk.old h_42 (zm1 (hinj 42 37 (by decide)) zm0)
  have h2_ad43 : u2 (ad 43) = some (eJ cs (60) (J 43)) := hexk.old h_43 (zm1 (hinj 43 37 (by decide)) zm0)
  refine lv_aload_n hx hb dX7_worksOne_36 rfl (lv_at hl 1 rfl) ?_
  refine lv_iload_n hx hb dX7_worksOne_37 rfl (lv_at hl 2 rfl) ?_
  refine lv_iload_n hx hb dX7_worksOne_38 rfl (lv_at hl 3 rfl) ?_
  refine lv_aload_n hx hb dX7_worksOne_39 rfl (lv_at hl 1 rfl) ?_
  refine z_get (C := RX7) (T := TX7) (N := 45) (v := .ref (ad 25)) hx hb hts (by decide +kernel) hown hK hS h2_mm rfl 25 (by decide) (hts (.fieldLink RX7 66 "PayLedgerModel" "gross" "[J") (by decide +kernel)) rfl dX7_worksOne_40 ?_
  refine lv_iload_n hx hb dX7_worksOne_43 rfl (lv_at hl 0 rfl) ?_
  refine z_lald hx hb hK hS h2_ad25 (vp_in_nI (by omega) (by decide)) dX7_worksOne_44 ?_
  refine z_tl (y := ((J 25) ((60 * wi + k)))) (congrArg _ (nI_clamp (by omega))) ?_
  refine z_tl (y := V k 0) (hP k (by omega)).1 ?_
  refine lv_iconst (v := 1) hx hb dX7_worksOne_45 (by decide) ?_
  refine z_invV (As := [.int (nI wi), .int (nI k), .long (V k 0), .int (1)]) (rest := []) (n := 4) ⟨hx, hb, hml, hown, hts⟩ (c_X7_deducts l D cs u2 H.size mm ad J K th tb wk br yr wd wi k (V k 0) 1 nd de so si ca bs (en k) (bo k) (V k 0) (zSum (fun j => V j 0) k) (fun d => zSum (fun j => P j d) k) (J 37) (fun _ => 0) hinj hDd hw hk (hP k (by omega)).2.2.2.2.2.1 (hP k (by omega)).2.1 (hP k (by omega)).1 (zSum_congr (fun i hi => (hP i (by omega)).1)) (fun i hi => zSum_congr (fun x hx => (hA x hx).2 i hi)) (fun d hd _ => rfl) h2_mm h2_ad6 h2_ad7 h2_ad8 h2_ad9 h2_ad10 h2_ad25 h2_ad26 h2_ad30 h2_ad37) gX7_worksOne_X7_deducts rfl ⟨rfl, by decide +kernel, by decide +kernel, by decide +kernel⟩ ⟨Nat.le_of_ble_eq_true rfl, Nat.le_of_ble_eq_true rfl⟩ hK hE hS rfl h2_mm rfl hl.1 rfl (Nat.le_of_ble_eq_true rfl) dX7_worksOne_46 ⟨Nat.le_of_ble_eq_true rfl, Nat.le_of_ble_eq_true rfl⟩ (fun v9 u3 H locs hq hS => ?_)
  obtain ⟨tk1, ht1⟩ : ∃ z, z = zTk (zSel de nd 1) (zHasF (en k)) (mDueF so si ca bs (bo k) (V k 0) (zSum (fun j => V j 0) k) (fun d => zSum (fun j => P j d) k)) (V k 0) (fun _ => 0) 8 := ⟨_, rfl⟩
  rw [← ht1] at hq
  obtain ⟨rfl, hx3⟩ := hq
  have h4_ad37 : u3 (ad 37) = some (eJ cs (480) (zRow (J 37) k (tk1.2))) := hx3.at 0 rfl
  have h4_mm : u3 (mm) = some (mo ad (th) (tb) (nI nd) (wk) (br) (yr) (wd)) := hx3.old h2_mm (zm1 (zne h2_mm h2_ad37 (by intro q9; first | cases q9 | simp at q9)) zm0)
  have h4_ad1 : u3 (ad 1) = some (eJ cs (72) (J 1)) := hx3.old h2_ad1 (zm1 (hinj 1 37 (by decide)) zm0)
  have h4_ad2 : u3 (ad 2) = some (eI cs (72) (K 2)) := hx3.old h2_ad2 (zm1 (hinj 2 37 (by decide)) zm0)
  have h4_ad3 : u3 (ad 3) = some (eI cs (6) (K 3)) := hx3.old h2_ad3 (zm1 (hinj 3 37 (by decide)) zm0)
  have h4_ad6 : u3 (ad 6) = some (eZ cs (8) (K 6)) := hx3.old h2_ad6 (zm1 (hinj 6 37 (by decide)) zm0)
  have h4_ad7 : u3 (ad 7) = some (eI cs (8) (K 7)) := hx3.old h2_ad7 (zm1 (hinj 7 37 (by decide)) zm0)
  have h4_ad8 : u3 (ad 8) = some (eJ cs (8) (J 8)) := hx3.old h2_ad8 (zm1 (hinj 8 37 (by decide)) zm0)
  have h4_ad9 : u3 (ad 9) = some (eJ cs (8) (J 9)) := hx3.old h2_ad9 (zm1 (hinj 9 37 (by decide)) zm0)
  have h4_ad10 : u3 (ad 10) = some (eJ cs (8) (J 10)) := hx3.old h2_ad10 (zm1 (hinj 10 37 (by decide)) zm0)
  have h4_ad25 : u3 (ad 25) = some (eJ cs (600) (J 25)) := hx3.old h2_ad25 (zm1 (hinj 25 37 (by decide)) zm0)
  have h4_ad26 : u3 (ad 26) = some (eZ cs (600) (K 26)) := hx3.old h2_ad26 (zm1 (hinj 26 37 (by decide)) zm0)
  have h4_ad27 : u3 (ad 27) = some (eI cs (600) (K 27)) := hx3.old h2_ad27 (zm1 (hinj 27 37 (by decide)) zm0)
  have h4_ad28 : u3 (ad 28) = some (eI cs (600) (K 28)) := hx3.old h2_ad28 (zm1 (hinj 28 37 (by decide)) zm0)
  have h4_ad29 : u3 (ad 29) = some (eI cs (600) (K 29)) := hx3.old h2_ad29 (zm1 (hinj 29 37 (by decide)) zm0)
  have h4_ad30 : u3 (ad 30) = some (eI cs (600) (K 30)) := hx3.old h2_ad30 (zm1 (hinj 30 37 (by decide)) zm0)
  have h4_ad31 : u3 (ad 31) = some (eI cs (600) (K 31)) := hx3.old h2_ad31 (zm1 (hinj 31 37 (by decide)) zm0)
  have h4_ad32 : u3 (ad 32) = some (eJ cs (600) (J 32)) := hx3.old h2_ad32 (zm1 (hinj 32 37 (by decide)) zm0)
  have h4_ad33 : u3 (ad 33) = some (eJ cs (600) (J 33)) := hx3.old h2_ad33 (zm1 (hinj 33 37 (by decide)) zm0)
  have h4_ad34 : u3 (ad 34) = some (eJ cs (600) (J 34)) := hx3.old h2_ad34 (zm1 (hinj 34 37 (by decide)) zm0)
  have h4_ad38 : u3 (ad 38) = some (eJ cs (60) (J 38)) := hx3.old h2_ad38 (zm1 (hinj 38 37 (by decide)) zm0)
  have h4_ad39 : u3 (ad 39) = some (eJ cs (60) (J 39)) := hx3.old h2_ad39 (zm1 (hinj 39 37 (by decide)) zm0)
  have h4_ad40 : u3 (ad 40) = some (eJ cs (60) (J 40)) := hx3.old h2_ad40 (zm1 (hinj 40 37 (by decide)) zm0)
  have h4_ad41 : u3 (ad 41) = some (eJ cs (60) (J 41)) := hx3.old h2_ad41 (zm1 (hinj 41 37 (by decide)) zm0)
  have h4_ad42 : u3 (ad 42) = some (eJ cs (60) (J 42)) := hx3.old h2_ad42 (zm1 (hinj 42 37 (by decide)) zm0)
  have h4_ad43 : u3 (ad 43) = some (eJ cs (60) (J 43)) := hx3.old h2_ad43 (zm1 (hinj 43 37 (by decide)) zm0)
  refine W.eq (g2 := F0 m 49 ls [.long (tk1.1)]) rfl ?_
  refine lv_lstore (lv' := [(4, .long (tk1.1)), (3, .int (nI (60 * wi + k))), (0, .ref (mm)), (1, .int (nI wi)), (2, .int (nI k))]) hx hb dX7_worksOne_49 hl (by decide) rfl (fun ls hl => ?_)
  refine lv_aload_n hx hb dX7_worksOne_51 rfl (lv_at hl 2 rfl) ?_
  refine z_get (C := RX7) (T := TX7) (N := 45) (v := .ref (ad 38)) hx hb hts (by decide +kernel) hown hK hS h4_mm rfl 38 (by decide) (hts (.fieldLink RX7 105 "PayLedgerModel" "earlies" "[J") (by decide +kernel)) rfl dX7_worksOne_52 ?_
  refine lv_iload_n hx hb dX7_worksOne_55 rfl (lv_at hl 4 rfl) ?_
  refine lv_aload_n hx hb dX7_worksOne_56 rfl (lv_at hl 2 rfl) ?_
  refine z_get (C := RX7) (T := TX7) (N := 45) (v := .ref (ad 25)) hx hb hts (by decide +kernel) hown hK hS h4_mm rfl 25 (by decide) (hts (.fieldLink RX7 66 "PayLedgerModel" "gross" "[J") (by decide +kernel)) rfl dX7_worksOne_57 ?_
  refine lv_iload_n hx hb dX7_worksOne_60 rfl (lv_at hl 1 rfl) ?_
  refine z_lald hx hb hK hS h4_ad25 (vp_in_nI (by omega) (by decide)) dX7_worksOne_61 ?_
  refine z_tl (y := ((J 25) ((60 * wi + k)))) (congrArg _ (nI_clamp (by omega))) ?_
  refine z_tl (y := V k 0) (hP k (by omega)).1 ?_
  refine lv_lload hx hb dX7_worksOne_62 (lv_at hl 0 rfl) ?_
  refine lv_lsub hx hb dX7_worksOne_64 ?_
  refine z_last hx hb hK hS h4_ad38 (vp_in_nI (by omega) (by decide)) dX7_worksOne_65 (fun H locs hS => ?_)
  obtain ⟨w5, ew5⟩ : ∃ z : zw, z = va_up u3 (ad 38) (some (eJ cs (60) (vp_updL (J 38) (nI k : Int32).toNatClampNeg ((V k 0 - tk1.1))))) := ⟨_, rfl⟩
  have hS : zS (zA w sz) D w5 s.heap H locs := by rw [ew5]; exact hS
  have h5_ad38 : w5 (ad 38) = some (eJ cs (60) (vp_updL (J 38) (nI k : Int32).toNatClampNeg ((V k 0 - tk1.1)))) := by rw [ew5]; exact va_up_self _ _ _
  have h5_ad37 : w5 (ad 37) = some (eJ cs (480) (zRow (J 37) k (tk1.2))) := by rw [ew5]; exact (va_up_ne _ _ (hinj 37 38 (by decide))).trans h4_ad37
  have h5_mm : w5 (mm) = some (mo ad (th) (tb) (nI nd) (wk) (br) (yr) (wd)) := by rw [ew5]; exact (va_up_ne _ _ (zne h4_mm h4_ad38 (by intro q9; first | cases q9 | simp at q9))).trans h4_mm
  have h5_ad1 : w5 (ad 1) = some (eJ cs (72) (J 1)) := by rw [ew5]; exact (va_up_ne _ _ (hinj 1 38 (by decide))).trans h4_ad1
  have h5_ad2 : w5 (ad 2) = some (eI cs (72) (K 2)) := by rw [ew5]; exact (va_up_ne _ _ (hinj 2 38 (by decide))).trans h4_ad2
  have h5_ad3 : w5 (ad 3) = some (eI cs (6) (K 3)) := by rw [ew5]; exact (va_up_ne _ _ (hinj 3 38 (by decide))).trans h4_ad3
  have h5_ad6 : w5 (ad 6) = some (eZ cs (8) (K 6)) := by rw [ew5]; exact (va_up_ne _ _ (hinj 6 38 (by decide))).trans h4_ad6
  have h5_ad7 : w5 (ad 7) = some (eI cs (8) (K 7)) := by rw [ew5]; exact (va_up_ne _ _ (hinj 7 38 (by decide))).trans h4_ad7
  have h5_ad8 : w5 (ad 8) = some (eJ cs (8) (J 8)) := by rw [ew5]; exact (va_up_ne _ _ (hinj 8 38 (by decide))).trans h4_ad8
  have h5_ad9 : w5 (ad 9) = some (eJ cs (8) (J 9)) := by rw [ew5]; exact (va_up_ne _ _ (hinj 9 38 (by decide))).trans h4_ad9
  have h5_ad10 : w5 (ad 10) = some (eJ cs (8) (J 10)) := by rw [ew5]; exact (va_up_ne _ _ (hinj 10 38 (by decide))).trans h4_ad10
  have h5_ad25 : w5 (ad 25) = some (eJ cs (600) (J 25)) := by rw [ew5]; exact (va_up_ne _ _ (hinj 25 38 (by decide))).trans h4_ad25
  have h5_ad26 : w5 (ad 26) = some (eZ cs (600) (K 26)) := by rw [ew5]; exact (va_up_ne _ _ (hinj 26 38 (by decide))).trans h4_ad26
  have h5_ad27 : w5 (ad 27) = some (eI cs (600) (K 27)) := by rw [ew5]; exact (va_up_ne _ _ (hinj 27 38 (by decide))).trans h4_ad27
  have h5_ad28 : w5 (ad 28) = some (eI cs (600) (K 28)) := by rw [ew5]; exact (va_up_ne _ _ (hinj 28 38 (by decide))).trans h4_ad28
  have h5_ad29 : w5 (ad 29) = some (eI cs (600) (K 29)) := by rw [ew5]; exact (va_up_ne _ _ (hinj 29 38 (by decide))).trans h4_ad29
  have h5_ad30 : w5 (ad 30) = some (eI cs (600) (K 30)) := by rw [ew5]; exact (va_up_ne _ _ (hinj 30 38 (by decide))).trans h4_ad30
  have h5_ad31 : w5 (ad 31) = some (eI cs (600) (K 31)) := by rw [ew5]; exact (va_up_ne _ _ (hinj 31 38 (by decide))).trans h4_ad31
  have h5_ad32 : w5 (ad 32) = some (eJ cs (600) (J 32)) := by rw [ew5]; exact (va_up_ne _ _ (hinj 32 38 (by decide))).trans h4_ad32
  have h5_ad33 : w5 (ad 33) = some (eJ cs (600) (J 33)) := by rw [ew5]; exact (va_up_ne _ _ (hinj 33 38 (by decide))).trans h4_ad33
  have h5_ad34 : w5 (ad 34) = some (eJ cs (600) (J 34)) := by rw [ew5]; exact (va_up_ne _ _ (hinj 34 38 (by decide))).trans h4_ad34
  have h5_ad39 : w5 (ad 39) = some (eJ cs (60) (J 39)) := by rw [ew5]; exact (va_up_ne _ _ (hinj 39 38 (by decide))).trans h4_ad39
  have h5_ad40 : w5 (ad 40) = some (eJ cs (60) (J 40)) := by rw [ew5]; exact (va_up_ne _ _ (hinj 40 38 (by decide))).trans h4_ad40
  have h5_ad41 : w5 (ad 41) = some (eJ cs (60) (J 41)) := by rw [ew5]; exact (va_up_ne _ _ (hinj 41 38 (by decide))).trans h4_ad41
  have h5_ad42 : w5 (ad 42) = some (eJ cs (60) (J 42)) := by rw [ew5]; exact (va_up_ne _ _ (hinj 42 38 (by decide))).trans h4_ad42
  have h5_ad43 : w5 (ad 43) = some (eJ cs (60) (J 43)) := by rw [ew5]; exact (va_up_ne _ _ (hinj 43 38 (by decide))).trans h4_ad43
  have h5_ad38 : w5 (ad 38) = some (eJ cs (60) (vp_updL (J 38) (k) ((V k 0 - tk1.1)))) := by rw [nI_clamp (by omega)] at h5_ad38; exact h5_ad38
  refine lv_aload_n hx hb dX7_worksOne_66 rfl (lv_at hl 2 rfl) ?_
  refine z_get (C := RX7) (T := TX7) (N := 45) (v := .ref (ad 39)) hx hb hts (by decide +kernel) hown hK hS h5_mm rfl 39 (by decide) (hts (.fieldLink RX7 108 "PayLedgerModel" "incomes" "[J") (by decide +kernel)) rfl dX7_worksOne_67 ?_
  refine lv_iload_n hx hb dX7_worksOne_70 rfl (lv_at hl 4 rfl) ?_
  refine lv_lload hx hb dX7_worksOne_71 (lv_at hl 0 rfl) ?_
  refine z_last hx hb hK hS h5_ad39 (vp_in_nI (by omega) (by decide)) dX7_worksOne_73 (fun H locs hS => ?_)
  obtain ⟨w6, ew6⟩ : ∃ z : zw, z = va_up w5 (ad 39) (some (eJ cs (60) (vp_updL (J 39) (nI k : Int32).toNatClampNeg (tk1.1)))) := ⟨_, rfl⟩
  have hS : zS (zA w sz) D w6 s.heap H locs := by rw [ew6]; exact hS
  have h6_ad39 : w6 (ad 39) = some (eJ cs (60) (vp_updL (J 39) (nI k : Int32).toNatClampNeg (tk1.1))) := by rw [ew6]; exact va_up_self _ _ _
  have h6_ad37 : w6 (ad 37) = some (eJ cs (480) (zRow (J 37) k (tk1.2))) := by rw [ew6]; exact (va_up_ne _ _ (hinj 37 39 (by decide))).trans h5_ad37
  have h6_mm : w6 (mm) = some (mo ad (th) (tb) (nI nd) (wk) (br) (yr) (wd)) := by rw [ew6]; exact (va_up_ne _ _ (zne h5_mm h5_ad39 (by intro q9; first | cases q9 | simp at q9))).trans h5_mm
  have h6_ad1 : w6 (ad 1) = some (eJ cs (72) (J 1)) := by rw [ew6]; exact (va_up_ne _ _ (hinj 1 39 (by decide))).trans h5_ad1
  have h6_ad2 : w6 (ad 2) = some (eI cs (72) (K 2)) := by rw [ew6]; exact (va_up_ne _ _ (hinj 2 39 (by decide))).trans h5_ad2
  have h6_ad3 : w6 (ad 3) = some (eI cs (6) (K 3)) := by rw [ew6]; exact (va_up_ne _ _ (hinj 3 39 (by decide))).trans h5_ad3
  have h6_ad6 : w6 (ad 6) = some (eZ cs (8) (K 6)) := by rw [ew6]; exact (va_up_ne _ _ (hinj 6 39 (by decide))).trans h5_ad6
  have h6_ad7 : w6 (ad 7) = some (eI cs (8) (K 7)) := by rw [ew6]; exact (va_up_ne _ _ (hinj 7 39 (by decide))).trans h5_ad7
  have h6_ad8 : w6 (ad 8) = some (eJ cs (8) (J 8)) := by rw [ew6]; exact (va_up_ne _ _ (hinj 8 39 (by decide))).trans h5_ad8
  have h6_ad9 : w6 (ad 9) = some (eJ cs (8) (J 9)) := by rw [ew6]; exact (va_up_ne _ _ (hinj 9 39 (by decide))).trans h5_ad9
  have h6_ad10 : w6 (ad 10) = some (eJ cs (8) (J 10)) := by rw [ew6]; exact (va_up_ne _ _ (hinj 10 39 (by decide))).trans h5_ad10
  have h6_ad25 : w6 (ad 25) = some (eJ cs (600) (J 25)) := by rw [ew6]; exact (va_up_ne _ _ (hinj 25 39 (by decide))).trans h5_ad25
  have h6_ad26 : w6 (ad 26) = some (eZ cs (600) (K 26)) := by rw [ew6]; exact (va_up_ne _ _ (hinj 26 39 (by decide))).trans h5_ad26
  have h6_ad27 : w6 (ad 27) = some (eI cs (600) (K 27)) := by rw [ew6]; exact (va_up_ne _ _ (hinj 27 39 (by decide))).trans h5_ad27
  have h6_ad28 : w6 (ad 28) = some (eI cs (600) (K 28)) := by rw [ew6]; exact (va_up_ne _ _ (hinj 28 39 (by decide))).trans h5_ad28
  have h6_ad29 : w6 (ad 29) = some (eI cs (600) (K 29)) := by rw [ew6]; exact (va_up_ne _ _ (hinj 29 39 (by decide))).trans h5_ad29
  have h6_ad30 : w6 (ad 30) = some (eI cs (600) (K 30)) := by rw [ew6]; exact (va_up_ne _ _ (hinj 30 39 (by decide))).trans h5_ad30
  have h6_ad31 : w6 (ad 31) = some (eI cs (600) (K 31)) := by rw [ew6]; exact (va_up_ne _ _ (hinj 31 39 (by decide))).trans h5_ad31
  have h6_ad32 : w6 (ad 32) = some (eJ cs (600) (J 32)) := by rw [ew6]; exact (va_up_ne _ _ (hinj 32 39 (by decide))).trans h5_ad32
  have h6_ad33 : w6 (ad 33) = some (eJ cs (600) (J 33)) := by rw [ew6]; exact (va_up_ne _ _ (hinj 33 39 (by decide))).trans h5_ad33
  have h6_ad34 : w6 (ad 34) = some (eJ cs (600) (J 34)) := by rw [ew6]; exact (va_up_ne _ _ (hinj 34 39 (by decide))).trans h5_ad34
  have h6_ad40 : w6 (ad 40) = some (eJ cs (60) (J 40)) := by rw [ew6]; exact (va_up_ne _ _ (hinj 40 39 (by decide))).trans h5_ad40
  have h6_ad41 : w6 (ad 41) = some (eJ cs (60) (J 41)) := by rw [ew6]; exact (va_up_ne _ _ (hinj 41 39 (by decide))).trans h5_ad41
  have h6_ad42 : w6 (ad 42) = some (eJ cs (60) (J 42)) := by rw [ew6]; exact (va_up_ne _ _ (hinj 42 39 (by decide))).trans h5_ad42
  have h6_ad43 : w6 (ad 43) = some (eJ cs (60) (J 43)) := by rw [ew6]; exact (va_up_ne _ _ (hinj 43 39 (by decide))).trans h5_ad43
  have h6_ad38 : w6 (ad 38) = some (eJ cs (60) (vp_updL (J 38) (k) ((V k 0 - tk1.1)))) := by rw [ew6]; exact (va_up_ne _ _ (hinj 38 39 (by decide))).trans h5_ad38
  have h6_ad39 : w6 (ad 39) = some (eJ cs (60) (vp_updL (J 39) (k) (tk1.1))) := by rw [nI_clamp (by omega)] at h6_ad39; exact h6_ad39
  refine lv_aload_n hx hb dX7_worksOne_74 rfl (lv_at hl 2 rfl) ?_
  refine z_get (C := RX7) (T := TX7) (N := 45) (v := .ref (ad 40)) hx hb hts (by decide +kernel) hown hK hS h6_mm rfl 40 (by decide) (hts (.fieldLink RX7 111 "PayLedgerModel" "basics" "[J") (by decide +kernel)) rfl dX7_worksOne_75 ?_
  refine lv_iload_n hx hb dX7_worksOne_78 rfl (lv_at hl 4 rfl) ?_
  refine lv_lload hx hb dX7_worksOne_79 (lv_at hl 0 rfl) ?_
  refine lv_aload_n hx hb dX7_worksOne_81 rfl (lv_at hl 2 rfl) ?_
  refine z_get (C := RX7) (T := TX7) (N := 45) (v := .ref (ad 26)) hx hb hts (by decide +kernel) hown hK hS h6_mm rfl 26 (by decide) (hts (.fieldLink RX7 69 "PayLedgerModel" "isBonus" "[Z") (by decide +kernel)) rfl dX7_worksOne_82 ?_
  refine lv_iload_n hx hb dX7_worksOne_85 rfl (lv_at hl 1 rfl) ?_
  refine z_zald hx hb hK hS h6_ad26 (vp_in_nI (by omega) (by decide)) dX7_worksOne_86 ?_
  refine z_ti (y := ((K 26) ((60 * wi + k)))) (congrArg _ (nI_clamp (by omega))) ?_
  refine z_ti (y := bo k) (hP k (by omega)).2.1 ?_
  refine lv_if_eq (tgt := 109) hx hb dX7_worksOne_87 (by decide) (fun c87 => ?_) (fun c87 => ?_)
  · refine lv_aload_n hx hb dX7_worksOne_109 rfl (lv_at hl 2 rfl) ?_
    refine lv_iload_n hx hb dX7_worksOne_110 rfl (lv_at hl 3 rfl) ?_
    refine lv_iload_n hx hb dX7_worksOne_111 rfl (lv_at hl 4 rfl) ?_
    refine z_rV (As := [.int (nI wi), .int (nI k)]) (rest := [.long (tk1.1), .int (nI k), .ref (ad 40)]) (n := 2) ⟨hx, hb, hml, hown, hts⟩ (c_X7_basic l D cs w6 H.size mm ad J K th tb (nI nd) wk br yr wd wi bo rb pe me re cr ex en tx V nb tn FF GF k (vp_updL (J 39) (k) (tk1.1)) (J 40) tk1.1 hP hTb hw hk (fun i hi => ⟨(vpL_ne _ _ (by omega)).trans ((hA i hi).1).2.1, ((hA i hi).1).2.2.1⟩) (vpL_self _ _ _) c87 h6_mm h6_ad1 h6_ad2 h6_ad3 h6_ad26 h6_ad27 h6_ad28 h6_ad29 h6_ad32 h6_ad33 h6_ad39 h6_ad40) gX7_worksOne_X7_basic rfl ⟨rfl, by decide +kernel, by decide +kernel, by decide +kernel⟩ ⟨Nat.le_of_ble_eq_true rfl, Nat.le_of_ble_eq_true rfl⟩ hK hE hS rfl h6_mm rfl hl.1 rfl (Nat.le_of_ble_eq_true rfl) dX7_worksOne_112 ⟨Nat.le_of_ble_eq_true rfl, Nat.le_of_ble_eq_true rfl⟩ (fun H locs hS => ?_)
    refine z_rS (As := [.long (tk1.1), .long (mBas (FF (tx k)) (GF (tx k)) (tn (tx k)) (pe k) (me k) (re k) (cr k) (zUs bo k) (zSumU bo (fun j => V j 2) k) (zSumU bo (fun j => V j 3) k) tk1.1)]) (rest := [.int (nI k), .ref (ad 40)]) (n := 2) ⟨hx, hb, hml, hown, hts⟩ (c_X7_least l D cs w6 H.size tk1.1 (mBas (FF (tx k)) (GF (tx k)) (tn (tx k)) (pe k) (me k) (re k) (cr k) (zUs bo k) (zSumU bo (fun j => V j 2) k) (zSumU bo (fun j => V j 3) k) tk1.1)) gX7_worksOne_X7_least rfl ⟨by decide +kernel, by decide +kernel, by decide +kernel⟩ ⟨Nat.le_of_ble_eq_true rfl, Nat.le_of_ble_eq_true rfl⟩ hK hE hS rfl hl.1 rfl (Nat.le_of_ble_eq_true rfl) dX7_worksOne_115 ⟨Nat.le_of_ble_eq_true rfl, Nat.le_of_ble_eq_true rfl⟩ (fun H locs hS => ?_)
    refine z_tl (y := zMin tk1.1 (mWh (FF (tx k)) (GF (tx k)) (tn (tx k)) (pe k) (me k) (re k) (cr k) (bo k) (rb k) (zUs bo k) (zSumU bo (fun j => V j 2) k) (zSumU bo (fun j => V j 3) k) tk1.1)) (by rw [zMin_comm]; unfold mWh; rw [if_pos c87]) ?_
    refine lv_topl (fun b1 e_b1 => ?_)
    refine z_last hx hb hK hS h6_ad40 (vp_in_nI (by omega) (by decide)) dX7_worksOne_118 (fun H locs hS => ?_)
    obtain ⟨w7, ew7⟩ : ∃ z : zw, z = va_up w6 (ad 40) (some (eJ cs (60) (vp_updL (J 40) (nI k : Int32).toNatClampNeg (b1)))) := ⟨_, rfl⟩
    have hS : zS (zA w sz) D w7 s.heap H locs := by rw [ew7]; exact hS
    have h7_ad40 : w7 (ad 40) = some (eJ cs (60) (vp_updL (J 40) (nI k : Int32).toNatClampNeg (b1))) := by rw [ew7]; exact va_up_self _ _ _
    have h7_ad37 : w7 (ad 37) = some (eJ cs (480) (zRow (J 37) k (tk1.2))) := by rw [ew7]; exact (va_up_ne _ _ (hinj 37 40 (by decide))).trans h6_ad37
    have h7_mm : w7 (mm) = some (mo ad (th) (tb) (nI nd) (wk) (br) (yr) (wd)) := by rw [ew7]; exact (va_up_ne _ _ (zne h6_mm h6_ad40 (by intro q9; first | cases q9 | simp at q9))).trans h6_mm
    have h7_ad1 : w7 (ad 1) = some (eJ cs (72) (J 1)) := by rw [ew7]; exact (va_up_ne _ _ (hinj 1 40 (by decide))).trans h6_ad1
    have h7_ad2 : w7 (ad 2) = some (eI cs (72) (K 2)) := by rw [ew7]; exact (va_up_ne _ _ (hinj 2 40 (by decide))).trans h6_ad2
    have h7_ad3 : w7 (ad 3) = some (eI cs (6) (K 3)) := by rw [ew7]; exact (va_up_ne _ _ (hinj 3 40 (by decide))).trans h6_ad3
    have h7_ad6 : w7 (ad 6) = some (eZ cs (8) (K 6)) := by rw [ew7]; exact (va_up_ne _ _ (hinj 6 40 (by decide))).trans h6_ad6
    have h7_ad7 : w7 (ad 7) = some (eI cs (8) (K 7)) := by rw [ew7]; exact (va_up_ne _ _ (hinj 7 40 (by decide))).trans h6_ad7
    have h7_ad8 : w7 (ad 8) = some (eJ cs (8) (J 8)) := by rw [ew7]; exact (va_up_ne _ _ (hinj 8 40 (by decide))).trans h6_ad8
    have h7_ad9 : w7 (ad 9) = some (eJ cs (8) (J 9)) := by rw [ew7]; exact (va_up_ne _ _ (hinj 9 40 (by decide))).trans h6_ad9
    have h7_ad10 : w7 (ad 10) = some (eJ cs (8) (J 10)) := by rw [ew7]; exact (va_up_ne _ _ (hinj 10 40 (by decide))).trans h6_ad10
    have h7_ad25 : w7 (ad 25) = some (eJ cs (600) (J 25)) := by rw [ew7]; exact (va_up_ne _ _ (hinj 25 40 (by decide))).trans h6_ad25
    have h7_ad26 : w7 (ad 26) = some (eZ cs (600) (K 26)) := by rw [ew7]; exact (va_up_ne _ _ (hinj 26 40 (by decide))).trans h6_ad26
    have h7_ad27 : w7 (ad 27) = some (eI cs (600) (K 27)) := by rw [ew7]; exact (va_up_ne _ _ (hinj 27 40 (by decide))).trans h6_ad27
    have h7_ad28 : w7 (ad 28) = some (eI cs (600) (K 28)) := by rw [ew7]; exact (va_up_ne _ _ (hinj 28 40 (by decide))).trans h6_ad28
    have h7_ad29 : w7 (ad 29) = some (eI cs (600) (K 29)) := by rw [ew7]; exact (va_up_ne _ _ (hinj 29 40 (by decide))).trans h6_ad29
    have h7_ad30 : w7 (ad 30) = some (eI cs (600) (K 30)) := by rw [ew7]; exact (va_up_ne _ _ (hinj 30 40 (by decide))).trans h6_ad30
    have h7_ad31 : w7 (ad 31) = some (eI cs (600) (K 31)) := by rw [ew7]; exact (va_up_ne _ _ (hinj 31 40 (by decide))).trans h6_ad31
    have h7_ad32 : w7 (ad 32) = some (eJ cs (600) (J 32)) := by rw [ew7]; exact (va_up_ne _ _ (hinj 32 40 (by decide))).trans h6_ad32
    have h7_ad33 : w7 (ad 33) = some (eJ cs (600) (J 33)) := by rw [ew7]; exact (va_up_ne _ _ (hinj 33 40 (by decide))).trans h6_ad33
    have h7_ad34 : w7 (ad 34) = some (eJ cs (600) (J 34)) := by rw [ew7]; exact (va_up_ne _ _ (hinj 34 40 (by decide))).trans h6_ad34
    have h7_ad41 : w7 (ad 41) = some (eJ cs (60) (J 41)) := by rw [ew7]; exact (va_up_ne _ _ (hinj 41 40 (by decide))).trans h6_ad41
    have h7_ad42 : w7 (ad 42) = some (eJ cs (60) (J 42)) := by rw [ew7]; exact (va_up_ne _ _ (hinj 42 40 (by decide))).trans h6_ad42
    have h7_ad43 : w7 (ad 43) = some (eJ cs (60) (J 43)) := by rw [ew7]; exact (va_up_ne _ _ (hinj 43 40 (by decide))).trans h6_ad43
    have h7_ad38 : w7 (ad 38) = some (eJ cs (60) (vp_updL (J 38) (k) ((V k 0 - tk1.1)))) := by rw [ew7]; exact (va_up_ne _ _ (hinj 38 40 (by decide))).trans h6_ad38
    have h7_ad39 : w7 (ad 39) = some (eJ cs (60) (vp_updL (J 39) (k) (tk1.1))) := by rw [ew7]; exact (va_up_ne _ _ (hinj 39 40 (by decide))).trans h6_ad39
    have h7_ad40 : w7 (ad 40) = some (eJ cs (60) (vp_updL (J 40) (k) (b1))) := by rw [nI_clamp (by omega)] at h7_ad40; exact h7_ad40
    refine lv_lload hx hb dX7_worksOne_119 (lv_at hl 0 rfl) ?_
    refine lv_aload_n hx hb dX7_worksOne_121 rfl (lv_at hl 2 rfl) ?_
    refine z_get (C := RX7) (T := TX7) (N := 45) (v := .ref (ad 40)) hx hb hts (by decide +kernel) hown hK hS h7_mm rfl 40 (by decide) (hts (.fieldLink RX7 111 "PayLedgerModel" "basics" "[J") (by decide +kernel)) rfl dX7_worksOne_122 ?_
    refine lv_iload_n hx hb dX7_worksOne_125 rfl (lv_at hl 4 rfl) ?_
    refine z_lald hx hb hK hS h7_ad40 (vp_in_nI (by omega) (by decide)) dX7_worksOne_126 ?_
    refine z_tl (y := ((vp_updL (J 40) (k) (b1)) (k))) (congrArg _ (nI_clamp (by omega))) ?_
    refine z_tl (y := b1) (vpL_self _ _ _) ?_
    refine lv_lsub hx hb dX7_worksOne_127 ?_
    refine lv_lstore (lv' := [(4, .long ((tk1.1 - b1))), (3, .int (nI (60 * wi + k))), (0, .ref (mm)), (1, .int (nI wi)), (2, .int (nI k))]) hx hb dX7_worksOne_128 hl (by decide) rfl (fun ls hl => ?_)
    refine lv_aload_n hx hb dX7_worksOne_130 rfl (lv_at hl 2 rfl) ?_
    refine z_get (C := RX7) (T := TX7) (N := 45) (v := .ref (ad 41)) hx hb hts (by decide +kernel) hown hK hS h7_mm rfl 41 (by decide) (hts (.fieldLink RX7 114 "PayLedgerModel" "mores" "[J") (by decide +kernel)) rfl dX7_worksOne_131 ?_
    refine lv_iload_n hx hb dX7_worksOne_134 rfl (lv_at hl 4 rfl) ?_
    refine lv_aload_n hx hb dX7_worksOne_135 rfl (lv_at hl 2 rfl) ?_
    refine z_get (C := RX7) (T := TX7) (N := 45) (v := .ref (ad 26)) hx hb hts (by decide +kernel) hown hK hS h7_mm rfl 26 (by decide) (hts (.fieldLink RX7 69 "PayLedgerModel" "isBonus" "[Z") (by decide +kernel)) rfl dX7_worksOne_136 ?_
    refine lv_iload_n hx hb dX7_worksOne_139 rfl (lv_at hl 1 rfl) ?_
    refine z_zald hx hb hK hS h7_ad26 (vp_in_nI (by omega) (by decide)) dX7_worksOne_140 ?_
    refine z_ti (y := ((K 26) ((60 * wi + k)))) (congrArg _ (nI_clamp (by omega))) ?_
    refine z_ti (y := bo k) (hP k (by omega)).2.1 ?_
    refine lv_if_eq (tgt := 148) hx hb dX7_worksOne_141 (by decide) (fun _ => ?_) (fun cq9 => absurd c87 cq9)
    refine lv_lload hx hb dX7_worksOne_148 (lv_at hl 0 rfl) ?_
    refine lv_aload_n hx hb dX7_worksOne_150 rfl (lv_at hl 2 rfl) ?_
    refine z_get (C := RX7) (T := TX7) (N := 45) (v := .ref (ad 34)) hx hb hts (by decide +kernel) hown hK hS h7_mm rfl 34 (by decide) (hts (.fieldLink RX7 93 "PayLedgerModel" "withExtra" "[J") (by decide +kernel)) rfl dX7_worksOne_151 ?_
    refine lv_iload_n hx hb dX7_worksOne_154 rfl (lv_at hl 1 rfl) ?_
    refine z_lald hx hb hK hS h7_ad34 (vp_in_nI (by omega) (by decide)) dX7_worksOne_155 ?_
    refine z_tl (y := ((J 34) ((60 * wi + k)))) (congrArg _ (nI_clamp (by omega))) ?_
    refine z_tl (y := ex k) (hP k (by omega)).2.2.2.2.2.2.2.2.2.1 ?_
    refine z_rS (As := [.long ((tk1.1 - b1)), .long (ex k)]) (rest := [.int (nI k), .ref (ad 41)]) (n := 2) ⟨hx, hb, hml, hown, hts⟩ (c_X7_least l D cs w7 H.size (tk1.1 - b1) (ex k)) gX7_worksOne_X7_least rfl ⟨by decide +kernel, by decide +kernel, by decide +kernel⟩ ⟨Nat.le_of_ble_eq_true rfl, Nat.le_of_ble_eq_true rfl⟩ hK hE hS rfl hl.1 rfl (Nat.le_of_ble_eq_true rfl) dX7_worksOne_156 ⟨Nat.le_of_ble_eq_true rfl, Nat.le_of_ble_eq_true rfl⟩ (fun H locs hS => ?_)
    refine z_tl (y := zMin (tk1.1 - b1) (ex k)) (zMin_comm _ _) ?_
    refine lv_topl (fun m1 e_m1 => ?_)
    refine z_last hx hb hK hS h7_ad41 (vp_in_nI (by omega) (by decide)) dX7_worksOne_159 (fun H locs hS => ?_)
    obtain ⟨w8, ew8⟩ : ∃ z : zw, z = va_up w7 (ad 41) (some (eJ cs (60) (vp_updL (J 41) (nI k : Int32).toNatClampNeg (m1)))) := ⟨_, rfl⟩
    have hS : zS (zA w sz) D w8 s.heap H locs := by rw [ew8]; exact hS
    have h8_ad41 : w8 (ad 41) = some (eJ cs (60) (vp_updL (J 41) (nI k : Int32).toNatClampNeg (m1))) := by rw [ew8]; exact va_up_self _ _ _
    have h8_ad37 : w8 (ad 37) = some (eJ cs (480) (zRow (J 37) k (tk1.2))) := by rw [ew8]; exact (va_up_ne _ _ (hinj 37 41 (by decide))).trans h7_ad37
    have h8_mm : w8 (mm) = some (mo ad (th) (tb) (nI nd) (wk) (br) (yr) (wd)) := by rw [ew8]; exact (va_up_ne _ _ (zne h7_mm h7_ad41 (by intro q9; first | cases q9 | simp at q9))).trans h7_mm
    have h8_ad1 : w8 (ad 1) = some (eJ cs (72) (J 1)) := by rw [ew8]; exact (va_up_ne _ _ (hinj 1 41 (by decide))).trans h7_ad1
    have h8_ad2 : w8 (ad 2) = some (eI cs (72) (K 2)) := by rw [ew8]; exact (va_up_ne _ _ (hinj 2 41 (by decide))).trans h7_ad2
    have h8_ad3 : w8 (ad 3) = some (eI cs (6) (K 3)) := by rw [ew8]; exact (va_up_ne _ _ (hinj 3 41 (by decide))).trans h7_ad3
    have h8_ad6 : w8 (ad 6) = some (eZ cs (8) (K 6)) := by rw [ew8]; exact (va_up_ne _ _ (hinj 6 41 (by decide))).trans h7_ad6
    have h8_ad7 : w8 (ad 7) = some (eI cs (8) (K 7)) := by rw [ew8]; exact (va_up_ne _ _ (hinj 7 41 (by decide))).trans h7_ad7
    have h8_ad8 : w8 (ad 8) = some (eJ cs (8) (J 8)) := by rw [ew8]; exact (va_up_ne _ _ (hinj 8 41 (by decide))).trans h7_ad8
    have h8_ad9 : w8 (ad 9) = some (eJ cs (8) (J 9)) := by rw [ew8]; exact (va_up_ne _ _ (hinj 9 41 (by decide))).trans h7_ad9
    have h8_ad10 : w8 (ad 10) = some (eJ cs (8) (J 10)) := by rw [ew8]; exact (va_up_ne _ _ (hinj 10 41 (by decide))).trans h7_ad10
    have h8_ad25 : w8 (ad 25) = some (eJ cs (600) (J 25)) := by rw [ew8]; exact (va_up_ne _ _ (hinj 25 41 (by decide))).trans h7_ad25
    have h8_ad26 : w8 (ad 26) = some (eZ cs (600) (K 26)) := by rw [ew8]; exact (va_up_ne _ _ (hinj 26 41 (by decide))).trans h7_ad26
    have h8_ad27 : w8 (ad 27) = some (eI cs (600) (K 27)) := by rw [ew8]; exact (va_up_ne _ _ (hinj 27 41 (by decide))).trans h7_ad27
    have h8_ad28 : w8 (ad 28) = some (eI cs (600) (K 28)) := by rw [ew8]; exact (va_up_ne _ _ (hinj 28 41 (by decide))).trans h7_ad28
    have h8_ad29 : w8 (ad 29) = some (eI cs (600) (K 29)) := by rw [ew8]; exact (va_up_ne _ _ (hinj 29 41 (by decide))).trans h7_ad29
    have h8_ad30 : w8 (ad 30) = some (eI cs (600) (K 30)) := by rw [ew8]; exact (va_up_ne _ _ (hinj 30 41 (by decide))).trans h7_ad30
    have h8_ad31 : w8 (ad 31) = some (eI cs (600) (K 31)) := by rw [ew8]; exact (va_up_ne _ _ (hinj 31 41 (by decide))).trans h7_ad31
    have h8_ad32 : w8 (ad 32) = some (eJ cs (600) (J 32)) := by rw [ew8]; exact (va_up_ne _ _ (hinj 32 41 (by decide))).trans h7_ad32
    have h8_ad33 : w8 (ad 33) = some (eJ cs (600) (J 33)) := by rw [ew8]; exact (va_up_ne _ _ (hinj 33 41 (by decide))).trans h7_ad33
    have h8_ad34 : w8 (ad 34) = some (eJ cs (600) (J 34)) := by rw [ew8]; exact (va_up_ne _ _ (hinj 34 41 (by decide))).trans h7_ad34
    have h8_ad42 : w8 (ad 42) = some (eJ cs (60) (J 42)) := by rw [ew8]; exact (va_up_ne _ _ (hinj 42 41 (by decide))).trans h7_ad42
    have h8_ad43 : w8 (ad 43) = some (eJ cs (60) (J 43)) := by rw [ew8]; exact (va_up_ne _ _ (hinj 43 41 (by decide))).trans h7_ad43
    have h8_ad38 : w8 (ad 38) = some (eJ cs (60) (vp_updL (J 38) (k) ((V k 0 - tk1.1)))) := by rw [ew8]; exact (va_up_ne _ _ (hinj 38 41 (by decide))).trans h7_ad38
    have h8_ad39 : w8 (ad 39) = some (eJ cs (60) (vp_updL (J 39) (k) (tk1.1))) := by rw [ew8]; exact (va_up_ne _ _ (hinj 39 41 (by decide))).trans h7_ad39
    have h8_ad40 : w8 (ad 40) = some (eJ cs (60) (vp_updL (J 40) (k) (b1))) := by rw [ew8]; exact (va_up_ne _ _ (hinj 40 41 (by decide))).trans h7_ad40
    have h8_ad41 : w8 (ad 41) = some (eJ cs (60) (vp_updL (J 41) (k) (m1))) := by rw [nI_clamp (by omega)] at h8_ad41; exact h8_ad41
    refine lv_lload hx hb dX7_worksOne_160 (lv_at hl 0 rfl) ?_
    refine lv_aload_n hx hb dX7_worksOne_162 rfl (lv_at hl 2 rfl) ?_
    refine z_get (C := RX7) (T := TX7) (N := 45) (v := .ref (ad 41)) hx hb hts (by decide +kernel) hown hK hS h8_mm rfl 41 (by decide) (hts (.fieldLink RX7 114 "PayLedgerModel" "mores" "[J") (by decide +kernel)) rfl dX7_worksOne_163 ?_
    refine lv_iload_n hx hb dX7_worksOne_166 rfl (lv_at hl 4 rfl) ?_
    refine z_lald hx hb hK hS h8_ad41 (vp_in_nI (by omega) (by decide)) dX7_worksOne_167 ?_
    refine z_tl (y := ((vp_updL (J 41) (k) (m1)) (k))) (congrArg _ (nI_clamp (by omega))) ?_
    refine z_tl (y := m1) (vpL_self _ _ _) ?_
    refine lv_lsub hx hb dX7_worksOne_168 ?_
    refine lv_lstore (lv' := [(4, .long (((tk1.1 - b1) - m1))), (3, .int (nI (60 * wi + k))), (0, .ref (mm)), (1, .int (nI wi)), (2, .int (nI k))]) hx hb dX7_worksOne_169 hl (by decide) rfl (fun ls hl => ?_)
    refine lv_aload_n hx hb dX7_worksOne_171 rfl (lv_at hl 2 rfl) ?_
    refine z_get (C := RX7) (T := TX7) (N := 45) (v := .ref (ad 43)) hx hb hts (by decide +kernel) hown hK hS h8_mm rfl 43 (by decide) (hts (.fieldLink RX7 120 "PayLedgerModel" "nets" "[J") (by decide +kernel)) rfl dX7_worksOne_172 ?_
    refine lv_iload_n hx hb dX7_worksOne_175 rfl (lv_at hl 4 rfl) ?_
    refine lv_aload_n hx hb dX7_worksOne_176 rfl (lv_at hl 2 rfl) ?_
    refine lv_iload_n hx hb dX7_worksOne_177 rfl (lv_at hl 3 rfl) ?_
    refine lv_iload_n hx hb dX7_worksOne_178 rfl (lv_at hl 4 rfl) ?_
    refine lv_lload hx hb dX7_worksOne_179 (lv_at hl 0 rfl) ?_
    refine lv_iconst (v := 0) hx hb dX7_worksOne_181 (by decide) ?_
    refine z_invV (As := [.int (nI wi), .int (nI k), .long (((tk1.1 - b1) - m1)), .int (0)]) (rest := [.int (nI k), .ref (ad 43)]) (n := 4) ⟨hx, hb, hml, hown, hts⟩ (c_X7_deducts l D cs w8 H.size mm ad J K th tb wk br yr wd wi k (tk1.1 - b1 - m1) 0 nd de so si ca bs (en k) (bo k) (V k 0) (zSum (fun j => V j 0) k) (fun d => zSum (fun j => P j d) k) (J 37) (tk1.2) hinj hDd hw hk (hP k (by omega)).2.2.2.2.2.1 (hP k (by omega)).2.1 (hP k (by omega)).1 (zSum_congr (fun i hi => (hP i (by omega)).1)) (fun i hi => zSum_congr (fun x hx => (hA x hx).2 i hi)) (fun d hd h0 => by rw [ht1]; exact zTk_un (by unfold zSel; rw [decide_eq_false_iff_not, h0]; exact fun q9 => absurd q9.2 (by decide))) h8_mm h8_ad6 h8_ad7 h8_ad8 h8_ad9 h8_ad10 h8_ad25 h8_ad26 h8_ad30 h8_ad37) gX7_worksOne_X7_deducts rfl ⟨rfl, by decide +kernel, by decide +kernel, by decide +kernel⟩ ⟨Nat.le_of_ble_eq_true rfl, Nat.le_of_ble_eq_true rfl⟩ hK hE hS rfl h8_mm rfl hl.1 rfl (Nat.le_of_ble_eq_true rfl) dX7_worksOne_182 ⟨Nat.le_of_ble_eq_true rfl, Nat.le_of_ble_eq_true rfl⟩ (fun v9 u9 H locs hq hS => ?_)
    obtain ⟨tk2, ht2⟩ : ∃ z, z = zTk (zSel de nd 0) (zHasF (en k)) (mDueF so si ca bs (bo k) (V k 0) (zSum (fun j => V j 0) k) (fun d => zSum (fun j => P j d) k)) (tk1.1 - b1 - m1) tk1.2 8 := ⟨_, rfl⟩
    rw [← ht2] at hq
    obtain ⟨rfl, hx9⟩ := hq
    have h10_ad37 : u9 (ad 37) = some (eJ cs (480) (zRow (J 37) k (tk2.2))) := hx9.at 0 rfl
    have h10_mm : u9 (mm) = some (mo ad (th) (tb) (nI nd) (wk) (br) (yr) (wd)) := hx9.old h8_mm (zm1 (zne h8_mm h8_ad37 (by intro q9; first | cases q9 | simp at q9)) zm0)
    have h10_ad1 : u9 (ad 1) = some (eJ cs (72) (J 1)) := hx9.old h8_ad1 (zm1 (hinj 1 37 (by decide)) zm0)
    have h10_ad2 : u9 (ad 2) = some (eI cs (72) (K 2)) := hx9.old h8_ad2 (zm1 (hinj 2 37 (by decide)) zm0)
    have h10_ad3 : u9 (ad 3) = some (eI cs (6) (K 3)) := hx9.old h8_ad3 (zm1 (hinj 3 37 (by decide)) zm0)
    have h10_ad6 : u9 (ad 6) = some (eZ cs (8) (K 6)) := hx9.old h8_ad6 (zm1 (hinj 6 37 (by decide)) zm0)
    have h10_ad7 : u9 (ad 7) = some (eI cs (8) (K 7)) := hx9.old h8_ad7 (zm1 (hinj 7 37 (by decide)) zm0)
    have h10_ad8 : u9 (ad 8) = some (eJ cs (8) (J 8)) := hx9.old h8_ad8 (zm1 (hinj 8 37 (by decide)) zm0)
    have h10_ad9 : u9 (ad 9) = some (eJ cs (8) (J 9)) := hx9.old h8_ad9 (zm1 (hinj 9 37 (by decide)) zm0)
    have h10_ad10 : u9 (ad 10) = some (eJ cs (8) (J 10)) := hx9.old h8_ad10 (zm1 (hinj 10 37 (by decide)) zm0)
    have h10_ad25 : u9 (ad 25) = some (eJ cs (600) (J 25)) := hx9.old h8_ad25 (zm1 (hinj 25 37 (by decide)) zm0)
    have h10_ad26 : u9 (ad 26) = some (eZ cs (600) (K 26)) := hx9.old h8_ad26 (zm1 (hinj 26 37 (by decide)) zm0)
    have h10_ad27 : u9 (ad 27) = some (eI cs (600) (K 27)) := hx9.old h8_ad27 (zm1 (hinj 27 37 (by decide)) zm0)
    have h10_ad28 : u9 (ad 28) = some (eI cs (600) (K 28)) := hx9.old h8_ad28 (zm1 (hinj 28 37 (by decide)) zm0)
    have h10_ad29 : u9 (ad 29) = some (eI cs (600) (K 29)) := hx9.old h8_ad29 (zm1 (hinj 29 37 (by decide)) zm0)
    have h10_ad30 : u9 (ad 30) = some (eI cs (600) (K 30)) := hx9.old h8_ad30 (zm1 (hinj 30 37 (by decide)) zm0)
    have h10_ad31 : u9 (ad 31) = some (eI cs (600) (K 31)) := hx9.old h8_ad31 (zm1 (hinj 31 37 (by decide)) zm0)
    have h10_ad32 : u9 (ad 32) = some (eJ cs (600) (J 32)) := hx9.old h8_ad32 (zm1 (hinj 32 37 (by decide)) zm0)
    have h10_ad33 : u9 (ad 33) = some (eJ cs (600) (J 33)) := hx9.old h8_ad33 (zm1 (hinj 33 37 (by decide)) zm0)
    have h10_ad34 : u9 (ad 34) = some (eJ cs (600) (J 34)) := hx9.old h8_ad34 (zm1 (hinj 34 37 (by decide)) zm0)
    have h10_ad42 : u9 (ad 42) = some (eJ cs (60) (J 42)) := hx9.old h8_ad42 (zm1 (hinj 42 37 (by decide)) zm0)
    have h10_ad43 : u9 (ad 43) = some (eJ cs (60) (J 43)) := hx9.old h8_ad43 (zm1 (hinj 43 37 (by decide)) zm0)
    have h10_ad38 : u9 (ad 38) = some (eJ cs (60) (vp_updL (J 38) (k) ((V k 0 - tk1.1)))) := hx9.old h8_ad38 (zm1 (hinj 38 37 (by decide)) zm0)
    have h10_ad39 : u9 (ad 39) = some (eJ cs (60) (vp_updL (J 39) (k) (tk1.1))) := hx9.old h8_ad39 (zm1 (hinj 39 37 (by decide)) zm0)
    have h10_ad40 : u9 (ad 40) = some (eJ cs (60) (vp_updL (J 40) (k) (b1))) := hx9.old h8_ad40 (zm1 (hinj 40 37 (by decide)) zm0)
    have h10_ad41 : u9 (ad 41) = some (eJ cs (60) (vp_updL (J 41) (k) (m1))) := hx9.old h8_ad41 (zm1 (hinj 41 37 (by decide)) zm0)
    refine W.eq (g2 := F0 m 185 ls [.long (tk2.1), .int (nI k), .ref (ad 43)]) rfl ?_
    refine z_last hx hb hK hS h10_ad43 (vp_in_nI (by omega) (by decide)) dX7_worksOne_185 (fun H locs hS => ?_)
    obtain ⟨w11, ew11⟩ : ∃ z : zw, z = va_up u9 (ad 43) (some (eJ cs (60) (vp_updL (J 43) (nI k : Int32).toNatClampNeg (tk2.1)))) := ⟨_, rfl⟩
    have hS : zS (zA w sz) D w11 s.heap H locs := by rw [ew11]; exact hS
    have h11_ad43 : w11 (ad 43) = some (eJ cs (60) (vp_updL (J 43) (nI k : Int32).toNatClampNeg (tk2.1))) := by rw [ew11]; exact va_up_self _ _ _
    have h11_ad37 : w11 (ad 37) = some (eJ cs (480) (zRow (J 37) k (tk2.2))) := by rw [ew11]; exact (va_up_ne _ _ (hinj 37 43 (by decide))).trans h10_ad37
    have h11_mm : w11 (mm) = some (mo ad (th) (tb) (nI nd) (wk) (br) (yr) (wd)) := by rw [ew11]; exact (va_up_ne _ _ (zne h10_mm h10_ad43 (by intro q9; first | cases q9 | simp at q9))).trans h10_mm
    have h11_ad1 : w11 (ad 1) = some (eJ cs (72) (J 1)) := by rw [ew11]; exact (va_up_ne _ _ (hinj 1 43 (by decide))).trans h10_ad1
    have h11_ad2 : w11 (ad 2) = some (eI cs (72) (K 2)) := by rw [ew11]; exact (va_up_ne _ _ (hinj 2 43 (by decide))).trans h10_ad2
    have h11_ad3 : w11 (ad 3) = some (eI cs (6) (K 3)) := by rw [ew11]; exact (va_up_ne _ _ (hinj 3 43 (by decide))).trans h10_ad3
    have h11_ad6 : w11 (ad 6) = some (eZ cs (8) (K 6)) := by rw [ew11]; exact (va_up_ne _ _ (hinj 6 43 (by decide))).trans h10_ad6
    have h11_ad7 : w11 (ad 7) = some (eI cs (8) (K 7)) := by rw [ew11]; exact (va_up_ne _ _ (hinj 7 43 (by decide))).trans h10_ad7
    have h11_ad8 : w11 (ad 8) = some (eJ cs (8) (J 8)) := by rw [ew11]; exact (va_up_ne _ _ (hinj 8 43 (by decide))).trans h10_ad8
    have h11_ad9 : w11 (ad 9) = some (eJ cs (8) (J 9)) := by rw [ew11]; exact (va_up_ne _ _ (hinj 9 43 (by decide))).trans h10_ad9
    have h11_ad10 : w11 (ad 10) = some (eJ cs (8) (J 10)) := by rw [ew11]; exact (va_up_ne _ _ (hinj 10 43 (by decide))).trans h10_ad10
    have h11_ad25 : w11 (ad 25) = some (eJ cs (600) (J 25)) := by rw [ew11]; exact (va_up_ne _ _ (hinj 25 43 (by decide))).trans h10_ad25
    have h11_ad26 : w11 (ad 26) = some (eZ cs (600) (K 26)) := by rw [ew11]; exact (va_up_ne _ _ (hinj 26 43 (by decide))).trans h10_ad26
    have h11_ad27 : w11 (ad 27) = some (eI cs (600) (K 27)) := by rw [ew11]; exact (va_up_ne _ _ (hinj 27 43 (by decide))).trans h10_ad27
    have h11_ad28 : w11 (ad 28) = some (eI cs (600) (K 28)) := by rw [ew11]; exact (va_up_ne _ _ (hinj 28 43 (by decide))).trans h10_ad28
    have h11_ad29 : w11 (ad 29) = some (eI cs (600) (K 29)) := by rw [ew11]; exact (va_up_ne _ _ (hinj 29 43 (by decide))).trans h10_ad29
    have h11_ad30 : w11 (ad 30) = some (eI cs (600) (K 30)) := by rw [ew11]; exact (va_up_ne _ _ (hinj 30 43 (by decide))).trans h10_ad30
    have h11_ad31 : w11 (ad 31) = some (eI cs (600) (K 31)) := by rw [ew11]; exact (va_up_ne _ _ (hinj 31 43 (by decide))).trans h10_ad31
    have h11_ad32 : w11 (ad 32) = some (eJ cs (600) (J 32)) := by rw [ew11]; exact (va_up_ne _ _ (hinj 32 43 (by decide))).trans h10_ad32
    have h11_ad33 : w11 (ad 33) = some (eJ cs (600) (J 33)) := by rw [ew11]; exact (va_up_ne _ _ (hinj 33 43 (by decide))).trans h10_ad33
    have h11_ad34 : w11 (ad 34) = some (eJ cs (600) (J 34)) := by rw [ew11]; exact (va_up_ne _ _ (hinj 34 43 (by decide))).trans h10_ad34
    have h11_ad42 : w11 (ad 42) = some (eJ cs (60) (J 42)) := by rw [ew11]; exact (va_up_ne _ _ (hinj 42 43 (by decide))).trans h10_ad42
    have h11_ad38 : w11 (ad 38) = some (eJ cs (60) (vp_updL (J 38) (k) ((V k 0 - tk1.1)))) := by rw [ew11]; exact (va_up_ne _ _ (hinj 38 43 (by decide))).trans h10_ad38
    have h11_ad39 : w11 (ad 39) = some (eJ cs (60) (vp_updL (J 39) (k) (tk1.1))) := by rw [ew11]; exact (va_up_ne _ _ (hinj 39 43 (by decide))).trans h10_ad39
    have h11_ad40 : w11 (ad 40) = some (eJ cs (60) (vp_updL (J 40) (k) (b1))) := by rw [ew11]; exact (va_up_ne _ _ (hinj 40 43 (by decide))).trans h10_ad40
    have h11_ad41 : w11 (ad 41) = some (eJ cs (60) (vp_updL (J 41) (k) (m1))) := by rw [ew11]; exact (va_up_ne _ _ (hinj 41 43 (by decide))).trans h10_ad41
    have h11_ad43 : w11 (ad 43) = some (eJ cs (60) (vp_updL (J 43) (k) (tk2.1))) := by rw [nI_clamp (by omega)] at h11_ad43; exact h11_ad43
    refine lv_aload_n hx hb dX7_worksOne_186 rfl (lv_at hl 2 rfl) ?_
    refine z_get (C := RX7) (T := TX7) (N := 45) (v := .ref (ad 42)) hx hb hts (by decide +kernel) hown hK hS h11_mm rfl 42 (by decide) (hts (.fieldLink RX7 117 "PayLedgerModel" "lates" "[J") (by decide +kernel)) rfl dX7_worksOne_187 ?_
    refine lv_iload_n hx hb dX7_worksOne_190 rfl (lv_at hl 4 rfl) ?_
    refine lv_lload hx hb dX7_worksOne_191 (lv_at hl 0 rfl) ?_
    refine lv_aload_n hx hb dX7_worksOne_193 rfl (lv_at hl 2 rfl) ?_
    refine z_get (C := RX7) (T := TX7) (N := 45) (v := .ref (ad 43)) hx hb hts (by decide +kernel) hown hK hS h11_mm rfl 43 (by decide) (hts (.fieldLink RX7 120 "PayLedgerModel" "nets" "[J") (by decide +kernel)) rfl dX7_worksOne_194 ?_
    refine lv_iload_n hx hb dX7_worksOne_197 rfl (lv_at hl 4 rfl) ?_
    refine z_lald hx hb hK hS h11_ad43 (vp_in_nI (by omega) (by decide)) dX7_worksOne_198 ?_
    refine z_tl (y := ((vp_updL (J 43) (k) (tk2.1)) (k))) (congrArg _ (nI_clamp (by omega))) ?_
    refine z_tl (y := tk2.1) (vpL_self _ _ _) ?_
    refine lv_lsub hx hb dX7_worksOne_199 ?_
    refine z_last hx hb hK hS h11_ad42 (vp_in_nI (by omega) (by decide)) dX7_worksOne_200 (fun H locs hS => ?_)
    obtain ⟨w12, ew12⟩ : ∃ z : zw, z = va_up w11 (ad 42) (some (eJ cs (60) (vp_updL (J 42) (nI k : Int32).toNatClampNeg ((((tk1.1 - b1) - m1) - tk2.1))))) := ⟨_, rfl⟩
    have hS : zS (zA w sz) D w12 s.heap H locs := by rw [ew12]; exact hS
    have h12_ad42 : w12 (ad 42) = some (eJ cs (60) (vp_updL (J 42) (nI k : Int32).toNatClampNeg ((((tk1.1 - b1) - m1) - tk2.1)))) := by rw [ew12]; exact va_up_self _ _ _
    have h12_ad37 : w12 (ad 37) = some (eJ cs (480) (zRow (J 37) k (tk2.2))) := by rw [ew12]; exact (va_up_ne _ _ (hinj 37 42 (by decide))).trans h11_ad37
    have h12_mm : w12 (mm) = some (mo ad (th) (tb) (nI nd) (wk) (br) (yr) (wd)) := by rw [ew12]; exact (va_up_ne _ _ (zne h11_mm h11_ad42 (by intro q9; first | cases q9 | simp at q9))).trans h11_mm
    have h12_ad1 : w12 (ad 1) = some (eJ cs (72) (J 1)) := by rw [ew12]; exact (va_up_ne _ _ (hinj 1 42 (by decide))).trans h11_ad1
    have h12_ad2 : w12 (ad 2) = some (eI cs (72) (K 2)) := by rw [ew12]; exact (va_up_ne _ _ (hinj 2 42 (by decide))).trans h11_ad2
    have h12_ad3 : w12 (ad 3) = some (eI cs (6) (K 3)) := by rw [ew12]; exact (va_up_ne _ _ (hinj 3 42 (by decide))).trans h11_ad3
    have h12_ad6 : w12 (ad 6) = some (eZ cs (8) (K 6)) := by rw [ew12]; exact (va_up_ne _ _ (hinj 6 42 (by decide))).trans h11_ad6
    have h12_ad7 : w12 (ad 7) = some (eI cs (8) (K 7)) := by rw [ew12]; exact (va_up_ne _ _ (hinj 7 42 (by decide))).trans h11_ad7
    have h12_ad8 : w12 (ad 8) = some (eJ cs (8) (J 8)) := by rw [ew12]; exact (va_up_ne _ _ (hinj 8 42 (by decide))).trans h11_ad8
    have h12_ad9 : w12 (ad 9) = some (eJ cs (8) (J 9)) := by rw [ew12]; exact (va_up_ne _ _ (hinj 9 42 (by decide))).trans h11_ad9
    have h12_ad10 : w12 (ad 10) = some (eJ cs (8) (J 10)) := by rw [ew12]; exact (va_up_ne _ _ (hinj 10 42 (by decide))).trans h11_ad10
    have h12_ad25 : w12 (ad 25) = some (eJ cs (600) (J 25)) := by rw [ew12]; exact (va_up_ne _ _ (hinj 25 42 (by decide))).trans h11_ad25
    have h12_ad26 : w12 (ad 26) = some (eZ cs (600) (K 26)) := by rw [ew12]; exact (va_up_ne _ _ (hinj 26 42 (by decide))).trans h11_ad26
    have h12_ad27 : w12 (ad 27) = some (eI cs (600) (K 27)) := by rw [ew12]; exact (va_up_ne _ _ (hinj 27 42 (by decide))).trans h11_ad27
    have h12_ad28 : w12 (ad 28) = some (eI cs (600) (K 28)) := by rw [ew12]; exact (va_up_ne _ _ (hinj 28 42 (by decide))).trans h11_ad28
    have h12_ad29 : w12 (ad 29) = some (eI cs (600) (K 29)) := by rw [ew12]; exact (va_up_ne _ _ (hinj 29 42 (by decide))).trans h11_ad29
    have h12_ad30 : w12 (ad 30) = some (eI cs (600) (K 30)) := by rw [ew12]; exact (va_up_ne _ _ (hinj 30 42 (by decide))).trans h11_ad30
    have h12_ad31 : w12 (ad 31) = some (eI cs (600) (K 31)) := by rw [ew12]; exact (va_up_ne _ _ (hinj 31 42 (by decide))).trans h11_ad31
    have h12_ad32 : w12 (ad 32) = some (eJ cs (600) (J 32)) := by rw [ew12]; exact (va_up_ne _ _ (hinj 32 42 (by decide))).trans h11_ad32
    have h12_ad33 : w12 (ad 33) = some (eJ cs (600) (J 33)) := by rw [ew12]; exact (va_up_ne _ _ (hinj 33 42 (by decide))).trans h11_ad33
    have h12_ad34 : w12 (ad 34) = some (eJ cs (600) (J 34)) := by rw [ew12]; exact (va_up_ne _ _ (hinj 34 42 (by decide))).trans h11_ad34
    have h12_ad38 : w12 (ad 38) = some (eJ cs (60) (vp_updL (J 38) (k) ((V k 0 - tk1.1)))) := by rw [ew12]; exact (va_up_ne _ _ (hinj 38 42 (by decide))).trans h11_ad38
    have h12_ad39 : w12 (ad 39) = some (eJ cs (60) (vp_updL (J 39) (k) (tk1.1))) := by rw [ew12]; exact (va_up_ne _ _ (hinj 39 42 (by decide))).trans h11_ad39
    have h12_ad40 : w12 (ad 40) = some (eJ cs (60) (vp_updL (J 40) (k) (b1))) := by rw [ew12]; exact (va_up_ne _ _ (hinj 40 42 (by decide))).trans h11_ad40
    have h12_ad41 : w12 (ad 41) = some (eJ cs (60) (vp_updL (J 41) (k) (m1))) := by rw [ew12]; exact (va_up_ne _ _ (hinj 41 42 (by decide))).trans h11_ad41
    have h12_ad43 : w12 (ad 43) = some (eJ cs (60) (vp_updL (J 43) (k) (tk2.1))) := by rw [ew12]; exact (va_up_ne _ _ (hinj 43 42 (by decide))).trans h11_ad43
    have h12_ad42 : w12 (ad 42) = some (eJ cs (60) (vp_updL (J 42) (k) ((((tk1.1 - b1) - m1) - tk2.1)))) := by rw [nI_clamp (by omega)] at h12_ad42; exact h12_ad42
    have hex : zEx w w12 [(ad 37, (eJ cs (480) (zRow (J 37) k (tk2.2)))), (ad 38, (eJ cs (60) (vp_updL (J 38) (k) ((V k 0 - tk1.1))))), (ad 39, (eJ cs (60) (vp_updL (J 39) (k) (tk1.1)))), (ad 40, (eJ cs (60) (vp_updL (J 40) (k) (b1)))), (ad 41, (eJ cs (60) (vp_updL (J 41) (k) (m1)))), (ad 42, (eJ cs (60) (vp_updL (J 42) (k) ((((tk1.1 - b1) - m1) - tk2.1))))), (ad 43, (eJ cs (60) (vp_updL (J 43) (k) (tk2.1))))] := ⟨(zm1 h12_ad37 (zm1 h12_ad38 (zm1 h12_ad39 (zm1 h12_ad40 (zm1 h12_ad41 (zm1 h12_ad42 (zm1 h12_ad43 zm0))))))), fun a9 h9 => by rw [ew12, va_up_ne _ _ (show a9 ≠ ad 42 from h9 (ad 42, (eJ cs (60) (vp_updL (J 42) (k) ((((tk1.1 - b1) - m1) - tk2.1))))) (List.mem_of_getElem? (i := 5) rfl)), ew11, va_up_ne _ _ (show a9 ≠ ad 43 from h9 (ad 43, (eJ cs (60) (vp_updL (J 43) (k) (tk2.1)))) (List.mem_of_getElem? (i := 6) rfl)), hx9.2 a9 (zm1 (show a9 ≠ ad 37 from h9 (ad 37, (eJ cs (480) (zRow (J 37) k (tk2.2)))) (List.mem_of_getElem? (i := 0) rfl)) zm0), ew8, va_up_ne _ _ (show a9 ≠ ad 41 from h9 (ad 41, (eJ cs (60) (vp_updL (J 41) (k) (m1)))) (List.mem_of_getElem? (i := 4) rfl)), ew7, va_up_ne _ _ (show a9 ≠ ad 40 from h9 (ad 40, (eJ cs (60) (vp_updL (J 40) (k) (b1)))) (List.mem_of_getElem? (i := 3) rfl)), ew6, va_up_ne _ _ (show a9 ≠ ad 39 from h9 (ad 39, (eJ cs (60) (vp_updL (J 39) (k) (tk1.1)))) (List.mem_of_getElem? (i := 2) rfl)), ew5, va_up_ne _ _ (show a9 ≠ ad 38 from h9 (ad 38, (eJ cs (60) (vp_updL (J 38) (k) ((V k 0 - tk1.1))))) (List.mem_of_getElem? (i := 1) rfl)), hx3.2 a9 (zm1 (show a9 ≠ ad 37 from h9 (ad 37, (eJ cs (480) (zRow (J 37) k (tk2.2)))) (List.mem_of_getElem? (i := 0) rfl)) zm0), hexk.2 a9 (zm1 (show a9 ≠ ad 37 from h9 (ad 37, (eJ cs (480) (zRow (J 37) k (tk2.2)))) (List.mem_of_getElem? (i := 0) rfl)) zm0)]⟩
    exact z_vret hx hb hr hlocks hS (Nat.le_of_ble_eq_true rfl) (Nat.le_of_ble_eq_true rfl) dX7_worksOne_201 ⟨rfl, mJ7 J (zRow (J 37) k tk2.2) (vp_updL (J 38) k (V k 0 - tk1.1)) (vp_updL (J 39) k tk1.1) (vp_updL (J 40) k b1) (vp_updL (J 41) k m1) (vp_updL (J 42) k (tk1.1 - b1 - m1 - tk2.1)) (vp_updL (J 43) k tk2.1), mJ7_out, hex, by have q9 := mWk_E (V := V k) (wh := mWh (FF (tx k)) (GF (tx k)) (tn (tx k)) (pe k) (me k) (re k) (cr k) (bo k) (rb k) (zUs bo k) (zSumU bo (fun j => V j 2) k) (zSumU bo (fun j => V j 3) k)) (ex := ex k) ht1 e_b1 (e_m1.trans (if_pos c87).symm) ht2; exact mAh_step (J := J) (g := tk2.2) hA (by rw [(hst.1 1 (by omega) (by omega)).trans q9.1]; rfl) (by rw [(hst.1 2 (by omega) (by omega)).trans q9.2.1]; rfl) (by rw [(hst.1 3 (by omega) (by omega)).trans q9.2.2.1]; rfl) (by rw [(hst.1 4 (by omega) (by omega)).trans q9.2.2.2.1]; rfl) (by rw [(hst.1 5 (by omega) (by omega)).trans q9.2.2.2.2.1]; rfl) (by rw [(hst.1 6 (by omega) (by omega)).trans q9.2.2.2.2.2.1]; rfl) rfl (fun d hd => (hst.2 d hd).trans (congrFun q9.2.2.2.2.2.2 d))⟩
  · refine lv_lload hx hb dX7_worksOne_90 (lv_at hl 0 rfl) ?_
    refine lv_aload_n hx hb dX7_worksOne_92 rfl (lv_at hl 2 rfl) ?_
    refine z_get (C := RX7) (T := TX7) (N := 45) (v := .ref (ad 31)) hx hb hts (by decide +kernel) hown hK hS h6_mm rfl 31 (by decide) (hts (.fieldLink RX7 84 "PayLedgerModel" "withRate" "[I") (by decide +kernel)) rfl dX7_worksOne_93 ?_
    refine lv_iload_n hx hb dX7_worksOne_96 rfl (lv_at hl 1 rfl) ?_
    refine z_iald hx hb hK hS h6_ad31 (vp_in_nI (by omega) (by decide)) dX7_worksOne_97 ?_
    refine z_ti (y := ((K 31) ((60 * wi + k)))) (congrArg _ (nI_clamp (by omega))) ?_
    refine z_ti (y := rb k) (hP k (by omega)).2.2.2.2.2.2.1 ?_
    refine lv_i2l (v := ((rb k : Int32).toInt64)) hx hb dX7_worksOne_98 rfl ?_
    refine lv_lmul hx hb dX7_worksOne_99 ?_
    refine lv_ldc2 (v := 1000000) hx hb hown (hts (.constantLong RX7 136 (1000000)) (by decide +kernel)) dX7_worksOne_100 ?_
    refine z_rS (As := [.long ((tk1.1 * ((rb k : Int32).toInt64))), .long (1000000)]) (rest := [.long (tk1.1), .int (nI k), .ref (ad 40)]) (n := 2) ⟨hx, hb, hml, hown, hts⟩ (c_X7_round l D cs w6 H.size (tk1.1 * (rb k).toInt64) 1000000 (by decide)) gX7_worksOne_X7_round rfl ⟨by decide +kernel, by decide +kernel, by decide +kernel⟩ ⟨Nat.le_of_ble_eq_true rfl, Nat.le_of_ble_eq_true rfl⟩ hK hE hS rfl hl.1 rfl (Nat.le_of_ble_eq_true rfl) dX7_worksOne_103 ⟨Nat.le_of_ble_eq_true rfl, Nat.le_of_ble_eq_true rfl⟩ (fun H locs hS => ?_)
    refine lv_goto (tgt := 115) hx hb dX7_worksOne_106 (by decide) ?_
    refine z_rS (As := [.long (tk1.1), .long (mRound (tk1.1 * (rb k).toInt64) 1000000)]) (rest := [.int (nI k), .ref (ad 40)]) (n := 2) ⟨hx, hb, hml, hown, hts⟩ (c_X7_least l D cs w6 H.size tk1.1 (mRound (tk1.1 * (rb k).toInt64) 1000000)) gX7_worksOne_X7_least rfl ⟨by decide +kernel, by decide +kernel, by decide +kernel⟩ ⟨Nat.le_of_ble_eq_true rfl, Nat.le_of_ble_eq_true rfl⟩ hK hE hS rfl hl.1 rfl (Nat.le_of_ble_eq_true rfl) dX7_worksOne_115 ⟨Nat.le_of_ble_eq_true rfl, Nat.le_of_ble_eq_true rfl⟩ (fun H locs hS => ?_)
    refine z_tl (y := zMin tk1.1 (mWh (FF (tx k)) (GF (tx k)) (tn (tx k)) (pe k) (me k) (re k) (cr k) (bo k) (rb k) (zUs bo k) (zSumU bo (fun j => V j 2) k) (zSumU bo (fun j => V j 3) k) tk1.1)) (by rw [zMin_comm]; unfold mWh; rw [if_neg c87]) ?_
    refine lv_topl (fun b1 e_b1 => ?_)
    refine z_last hx hb hK hS h6_ad40 (vp_in_nI (by omega) (by decide)) dX7_worksOne_118 (fun H locs hS => ?_)
    obtain ⟨w13, ew13⟩ : ∃ z : zw, z = va_up w6 (ad 40) (some (eJ cs (60) (vp_updL (J 40) (nI k : Int32).toNatClampNeg (b1)))) := ⟨_, rfl⟩
    have hS : zS (zA w sz) D w13 s.heap H locs := by rw [ew13]; exact hS
    have h13_ad40 : w13 (ad 40) = some (eJ cs (60) (vp_updL (J 40) (nI k : Int32).toNatClampNeg (b1))) := by rw [ew13]; exact va_up_self _ _ _
    have h13_ad37 : w13 (ad 37) = some (eJ cs (480) (zRow (J 37) k (tk1.2))) := by rw [ew13]; exact (va_up_ne _ _ (hinj 37 40 (by decide))).trans h6_ad37
    have h13_mm : w13 (mm) = some (mo ad (th) (tb) (nI nd) (wk) (br) (yr) (wd)) := by rw [ew13]; exact (va_up_ne _ _ (zne h6_mm h6_ad40 (by intro q9; first | cases q9 | simp at q9))).trans h6_mm
    have h13_ad1 : w13 (ad 1) = some (eJ cs (72) (J 1)) := by rw [ew13]; exact (va_up_ne _ _ (hinj 1 40 (by decide))).trans h6_ad1
    have h13_ad2 : w13 (ad 2) = some (eI cs (72) (K 2)) := by rw [ew13]; exact (va_up_ne _ _ (hinj 2 40 (by decide))).trans h6_ad2
    have h13_ad3 : w13 (ad 3) = some (eI cs (6) (K 3)) := by rw [ew13]; exact (va_up_ne _ _ (hinj 3 40 (by decide))).trans h6_ad3
    have h13_ad6 : w13 (ad 6) = some (eZ cs (8) (K 6)) := by rw [ew13]; exact (va_up_ne _ _ (hinj 6 40 (by decide))).trans h6_ad6
    have h13_ad7 : w13 (ad 7) = some (eI cs (8) (K 7)) := by rw [ew13]; exact (va_up_ne _ _ (hinj 7 40 (by decide))).trans h6_ad7
    have h13_ad8 : w13 (ad 8) = some (eJ cs (8) (J 8)) := by rw [ew13]; exact (va_up_ne _ _ (hinj 8 40 (by decide))).trans h6_ad8
    have h13_ad9 : w13 (ad 9) = some (eJ cs (8) (J 9)) := by rw [ew13]; exact (va_up_ne _ _ (hinj 9 40 (by decide))).trans h6_ad9
    have h13_ad10 : w13 (ad 10) = some (eJ cs (8) (J 10)) := by rw [ew13]; exact (va_up_ne _ _ (hinj 10 40 (by decide))).trans h6_ad10
    have h13_ad25 : w13 (ad 25) = some (eJ cs (600) (J 25)) := by rw [ew13]; exact (va_up_ne _ _ (hinj 25 40 (by decide))).trans h6_ad25
    have h13_ad26 : w13 (ad 26) = some (eZ cs (600) (K 26)) := by rw [ew13]; exact (va_up_ne _ _ (hinj 26 40 (by decide))).trans h6_ad26
    have h13_ad27 : w13 (ad 27) = some (eI cs (600) (K 27)) := by rw [ew13]; exact (va_up_ne _ _ (hinj 27 40 (by decide))).trans h6_ad27
    have h13_ad28 : w13 (ad 28) = some (eI cs (600) (K 28)) := by rw [ew13]; exact (va_up_ne _ _ (hinj 28 40 (by decide))).trans h6_ad28
    have h13_ad29 : w13 (ad 29) = some (eI cs (600) (K 29)) := by rw [ew13]; exact (va_up_ne _ _ (hinj 29 40 (by decide))).trans h6_ad29
    have h13_ad30 : w13 (ad 30) = some (eI cs (600) (K 30)) := by rw [ew13]; exact (va_up_ne _ _ (hinj 30 40 (by decide))).trans h6_ad30
    have h13_ad31 : w13 (ad 31) = some (eI cs (600) (K 31)) := by rw [ew13]; exact (va_up_ne _ _ (hinj 31 40 (by decide))).trans h6_ad31
    have h13_ad32 : w13 (ad 32) = some (eJ cs (600) (J 32)) := by rw [ew13]; exact (va_up_ne _ _ (hinj 32 40 (by decide))).trans h6_ad32
    have h13_ad33 : w13 (ad 33) = some (eJ cs (600) (J 33)) := by rw [ew13]; exact (va_up_ne _ _ (hinj 33 40 (by decide))).trans h6_ad33
    have h13_ad34 : w13 (ad 34) = some (eJ cs (600) (J 34)) := by rw [ew13]; exact (va_up_ne _ _ (hinj 34 40 (by decide))).trans h6_ad34
    have h13_ad41 : w13 (ad 41) = some (eJ cs (60) (J 41)) := by rw [ew13]; exact (va_up_ne _ _ (hinj 41 40 (by decide))).trans h6_ad41
    have h13_ad42 : w13 (ad 42) = some (eJ cs (60) (J 42)) := by rw [ew13]; exact (va_up_ne _ _ (hinj 42 40 (by decide))).trans h6_ad42
    have h13_ad43 : w13 (ad 43) = some (eJ cs (60) (J 43)) := by rw [ew13]; exact (va_up_ne _ _ (hinj 43 40 (by decide))).trans h6_ad43
    have h13_ad38 : w13 (ad 38) = some (eJ cs (60) (vp_updL (J 38) (k) ((V k 0 - tk1.1)))) := by rw [ew13]; exact (va_up_ne _ _ (hinj 38 40 (by decide))).trans h6_ad38
    have h13_ad39 : w13 (ad 39) = some (eJ cs (60) (vp_updL (J 39) (k) (tk1.1))) := by rw [ew13]; exact (va_up_ne _ _ (hinj 39 40 (by decide))).trans h6_ad39
    have h13_ad40 : w13 (ad 40) = some (eJ cs (60) (vp_updL (J 40) (k) (b1))) := by rw [nI_clamp (by omega)] at h13_ad40; exact h13_ad40
    refine lv_lload hx hb dX7_worksOne_119 (lv_at hl 0 rfl) ?_
    refine lv_aload_n hx hb dX7_worksOne_121 rfl (lv_at hl 2 rfl) ?_
    refine z_get (C := RX7) (T := TX7) (N := 45) (v := .ref (ad 40)) hx hb hts (by decide +kernel) hown hK hS h13_mm rfl 40 (by decide) (hts (.fieldLink RX7 111 "PayLedgerModel" "basics" "[J") (by decide +kernel)) rfl dX7_worksOne_122 ?_
    refine lv_iload_n hx hb dX7_worksOne_125 rfl (lv_at hl 4 rfl) ?_
    refine z_lald hx hb hK hS h13_ad40 (vp_in_nI (by omega) (by decide)) dX7_worksOne_126 ?_
    refine z_tl (y := ((vp_updL (J 40) (k) (b1)) (k))) (congrArg _ (nI_clamp (by omega))) ?_
    refine z_tl (y := b1) (vpL_self _ _ _) ?_
    refine lv_lsub hx hb dX7_worksOne_127 ?_
    refine lv_lstore (lv' := [(4, .long ((tk1.1 - b1))), (3, .int (nI (60 * wi + k))), (0, .ref (mm)), (1, .int (nI wi)), (2, .int (nI k))]) hx hb dX7_worksOne_128 hl (by decide) rfl (fun ls hl => ?_)
    refine lv_aload_n hx hb dX7_worksOne_130 rfl (lv_at hl 2 rfl) ?_
    refine z_get (C := RX7) (T := TX7) (N := 45) (v := .ref (ad 41)) hx hb hts (by decide +kernel) hown hK hS h13_mm rfl 41 (by decide) (hts (.fieldLink RX7 114 "PayLedgerModel" "mores" "[J") (by decide +kernel)) rfl dX7_worksOne_131 ?_
    refine lv_iload_n hx hb dX7_worksOne_134 rfl (lv_at hl 4 rfl) ?_
    refine lv_aload_n hx hb dX7_worksOne_135 rfl (lv_at hl 2 rfl) ?_
    refine z_get (C := RX7) (T := TX7) (N := 45) (v := .ref (ad 26)) hx hb hts (by decide +kernel) hown hK hS h13_mm rfl 26 (by decide) (hts (.fieldLink RX7 69 "PayLedgerModel" "isBonus" "[Z") (by decide +kernel)) rfl dX7_worksOne_136 ?_
    refine lv_iload_n hx hb dX7_worksOne_139 rfl (lv_at hl 1 rfl) ?_
    refine z_zald hx hb hK hS h13_ad26 (vp_in_nI (by omega) (by decide)) dX7_worksOne_140 ?_
    refine z_ti (y := ((K 26) ((60 * wi + k)))) (congrArg _ (nI_clamp (by omega))) ?_
    refine z_ti (y := bo k) (hP k (by omega)).2.1 ?_
    refine lv_if_eq (tgt := 148) hx hb dX7_worksOne_141 (by decide) (fun cq9 => absurd cq9 c87) (fun _ => ?_)
    refine lv_lconst (v := 0) hx hb dX7_worksOne_144 (by decide) ?_
    refine lv_goto (tgt := 159) hx hb dX7_worksOne_145 (by decide) ?_
    refine lv_topl (fun m1 e_m1 => ?_)
    refine z_last hx hb hK hS h13_ad41 (vp_in_nI (by omega) (by decide)) dX7_worksOne_159 (fun H locs hS => ?_)
    obtain ⟨w14, ew14⟩ : ∃ z : zw, z = va_up w13 (ad 41) (some (eJ cs (60) (vp_updL (J 41) (nI k : Int32).toNatClampNeg (m1)))) := ⟨_, rfl⟩
    have hS : zS (zA w sz) D w14 s.heap H locs := by rw [ew14]; exact hS
    have h14_ad41 : w14 (ad 41) = some (eJ cs (60) (vp_updL (J 41) (nI k : Int32).toNatClampNeg (m1))) := by rw [ew14]; exact va_up_self _ _ _
    have h14_ad37 : w14 (ad 37) = some (eJ cs (480) (zRow (J 37) k (tk1.2))) := by rw [ew14]; exact (va_up_ne _ _ (hinj 37 41 (by decide))).trans h13_ad37
    have h14_mm : w14 (mm) = some (mo ad (th) (tb) (nI nd) (wk) (br) (yr) (wd)) := by rw [ew14]; exact (va_up_ne _ _ (zne h13_mm h13_ad41 (by intro q9; first | cases q9 | simp at q9))).trans h13_mm
    have h14_ad1 : w14 (ad 1) = some (eJ cs (72) (J 1)) := by rw [ew14]; exact (va_up_ne _ _ (hinj 1 41 (by decide))).trans h13_ad1
    have h14_ad2 : w14 (ad 2) = some (eI cs (72) (K 2)) := by rw [ew14]; exact (va_up_ne _ _ (hinj 2 41 (by decide))).trans h13_ad2
    have h14_ad3 : w14 (ad 3) = some (eI cs (6) (K 3)) := by rw [ew14]; exact (va_up_ne _ _ (hinj 3 41 (by decide))).trans h13_ad3
    have h14_ad6 : w14 (ad 6) = some (eZ cs (8) (K 6)) := by rw [ew14]; exact (va_up_ne _ _ (hinj 6 41 (by decide))).trans h13_ad6
    have h14_ad7 : w14 (ad 7) = some (eI cs (8) (K 7)) := by rw [ew14]; exact (va_up_ne _ _ (hinj 7 41 (by decide))).trans h13_ad7
    have h14_ad8 : w14 (ad 8) = some (eJ cs (8) (J 8)) := by rw [ew14]; exact (va_up_ne _ _ (hinj 8 41 (by decide))).trans h13_ad8
    have h14_ad9 : w14 (ad 9) = some (eJ cs (8) (J 9)) := by rw [ew14]; exact (va_up_ne _ _ (hinj 9 41 (by decide))).trans h13_ad9
    have h14_ad10 : w14 (ad 10) = some (eJ cs (8) (J 10)) := by rw [ew14]; exact (va_up_ne _ _ (hinj 10 41 (by decide))).trans h13_ad10
    have h14_ad25 : w14 (ad 25) = some (eJ cs (600) (J 25)) := by rw [ew14]; exact (va_up_ne _ _ (hinj 25 41 (by decide))).trans h13_ad25
    have h14_ad26 : w14 (ad 26) = some (eZ cs (600) (K 26)) := by rw [ew14]; exact (va_up_ne _ _ (hinj 26 41 (by decide))).trans h13_ad26
    have h14_ad27 : w14 (ad 27) = some (eI cs (600) (K 27)) := by rw [ew14]; exact (va_up_ne _ _ (hinj 27 41 (by decide))).trans h13_ad27
    have h14_ad28 : w14 (ad 28) = some (eI cs (600) (K 28)) := by rw [ew14]; exact (va_up_ne _ _ (hinj 28 41 (by decide))).trans h13_ad28
    have h14_ad29 : w14 (ad 29) = some (eI cs (600) (K 29)) := by rw [ew14]; exact (va_up_ne _ _ (hinj 29 41 (by decide))).trans h13_ad29
    have h14_ad30 : w14 (ad 30) = some (eI cs (600) (K 30)) := by rw [ew14]; exact (va_up_ne _ _ (hinj 30 41 (by decide))).trans h13_ad30
    have h14_ad31 : w14 (ad 31) = some (eI cs (600) (K 31)) := by rw [ew14]; exact (va_up_ne _ _ (hinj 31 41 (by decide))).trans h13_ad31
    have h14_ad32 : w14 (ad 32) = some (eJ cs (600) (J 32)) := by rw [ew14]; exact (va_up_ne _ _ (hinj 32 41 (by decide))).trans h13_ad32
    have h14_ad33 : w14 (ad 33) = some (eJ cs (600) (J 33)) := by rw [ew14]; exact (va_up_ne _ _ (hinj 33 41 (by decide))).trans h13_ad33
    have h14_ad34 : w14 (ad 34) = some (eJ cs (600) (J 34)) := by rw [ew14]; exact (va_up_ne _ _ (hinj 34 41 (by decide))).trans h13_ad34
    have h14_ad42 : w14 (ad 42) = some (eJ cs (60) (J 42)) := by rw [ew14]; exact (va_up_ne _ _ (hinj 42 41 (by decide))).trans h13_ad42
    have h14_ad43 : w14 (ad 43) = some (eJ cs (60) (J 43)) := by rw [ew14]; exact (va_up_ne _ _ (hinj 43 41 (by decide))).trans h13_ad43
    have h14_ad38 : w14 (ad 38) = some (eJ cs (60) (vp_updL (J 38) (k) ((V k 0 - tk1.1)))) := by rw [ew14]; exact (va_up_ne _ _ (hinj 38 41 (by decide))).trans h13_ad38
    have h14_ad39 : w14 (ad 39) = some (eJ cs (60) (vp_updL (J 39) (k) (tk1.1))) := by rw [ew14]; exact (va_up_ne _ _ (hinj 39 41 (by decide))).trans h13_ad39
    have h14_ad40 : w14 (ad 40) = some (eJ cs (60) (vp_updL (J 40) (k) (b1))) := by rw [ew14]; exact (va_up_ne _ _ (hinj 40 41 (by decide))).trans h13_ad40
    have h14_ad41 : w14 (ad 41) = some (eJ cs (60) (vp_updL (J 41) (k) (m1))) := by rw [nI_clamp (by omega)] at h14_ad41; exact h14_ad41
    refine lv_lload hx hb dX7_worksOne_160 (lv_at hl 0 rfl) ?_
    refine lv_aload_n hx hb dX7_worksOne_162 rfl (lv_at hl 2 rfl) ?_
    refine z_get (C := RX7) (T := TX7) (N := 45) (v := .ref (ad 41)) hx hb hts (by decide +kernel) hown hK hS h14_mm rfl 41 (by decide) (hts (.fieldLink RX7 114 "PayLedgerModel" "mores" "[J") (by decide +kernel)) rfl dX7_worksOne_163 ?_
    refine lv_iload_n hx hb dX7_worksOne_166 rfl (lv_at hl 4 rfl) ?_
    refine z_lald hx hb hK hS h14_ad41 (vp_in_nI (by omega) (by decide)) dX7_worksOne_167 ?_
    refine z_tl (y := ((vp_updL (J 41) (k) (m1)) (k))) (congrArg _ (nI_clamp (by omega))) ?_
    refine z_tl (y := m1) (vpL_self _ _ _) ?_
    refine lv_lsub hx hb dX7_worksOne_168 ?_
    refine lv_lstore (lv' := [(4, .long (((tk1.1 - b1) - m1))), (3, .int (nI (60 * wi + k))), (0, .ref (mm)), (1, .int (nI wi)), (2, .int (nI k))]) hx hb dX7_worksOne_169 hl (by decide) rfl (fun ls hl => ?_)
    refine lv_aload_n hx hb dX7_worksOne_171 rfl (lv_at hl 2 rfl) ?_
    refine z_get (C := RX7) (T := TX7) (N := 45) (v := .ref (ad 43)) hx hb hts (by decide +kernel) hown hK hS h14_mm rfl 43 (by decide) (hts (.fieldLink RX7 120 "PayLedgerModel" "nets" "[J") (by decide +kernel)) rfl dX7_worksOne_172 ?_
    refine lv_iload_n hx hb dX7_worksOne_175 rfl (lv_at hl 4 rfl) ?_
    refine lv_aload_n hx hb dX7_worksOne_176 rfl (lv_at hl 2 rfl) ?_
    refine lv_iload_n hx hb dX7_worksOne_177 rfl (lv_at hl 3 rfl) ?_
    refine lv_iload_n hx hb dX7_worksOne_178 rfl (lv_at hl 4 rfl) ?_
    refine lv_lload hx hb dX7_worksOne_179 (lv_at hl 0 rfl) ?_
    refine lv_iconst (v := 0) hx hb dX7_worksOne_181 (by decide) ?_
    refine z_invV (As := [.int (nI wi), .int (nI k), .long (((tk1.1 - b1) - m1)), .int (0)]) (rest := [.int (nI k), .ref (ad 43)]) (n := 4) ⟨hx, hb, hml, hown, hts⟩ (c_X7_deducts l D cs w14 H.size mm ad J K th tb wk br yr wd wi k (tk1.1 - b1 - m1) 0 nd de so si ca bs (en k) (bo k) (V k 0) (zSum (fun j => V j 0) k) (fun d => zSum (fun j => P j d) k) (J 37) (tk1.2) hinj hDd hw hk (hP k (by omega)).2.2.2.2.2.1 (hP k (by omega)).2.1 (hP k (by omega)).1 (zSum_congr (fun i hi => (hP i (by omega)).1)) (fun i hi => zSum_congr (fun x hx => (hA x hx).2 i hi)) (fun d hd h0 => by rw [ht1]; exact zTk_un (by unfold zSel; rw [decide_eq_false_iff_not, h0]; exact fun q9 => absurd q9.2 (by decide))) h14_mm h14_ad6 h14_ad7 h14_ad8 h14_ad9 h14_ad10 h14_ad25 h14_ad26 h14_ad30 h14_ad37) gX7_worksOne_X7_deducts rfl ⟨rfl, by decide +kernel, by decide +kernel, by decide +kernel⟩ ⟨Nat.le_of_ble_eq_true rfl, Nat.le_of_ble_eq_true rfl⟩ hK hE hS rfl h14_mm rfl hl.1 rfl (Nat.le_of_ble_eq_true rfl) dX7_worksOne_182 ⟨Nat.le_of_ble_eq_true rfl, Nat.le_of_ble_eq_true rfl⟩ (fun v9 u15 H locs hq hS => ?_)
    obtain ⟨tk2, ht2⟩ : ∃ z, z = zTk (zSel de nd 0) (zHasF (en k)) (mDueF so si ca bs (bo k) (V k 0) (zSum (fun j => V j 0) k) (fun d => zSum (fun j => P j d) k)) (tk1.1 - b1 - m1) tk1.2 8 := ⟨_, rfl⟩
    rw [← ht2] at hq
    obtain ⟨rfl, hx15⟩ := hq
    have h16_ad37 : u15 (ad 37) = some (eJ cs (480) (zRow (J 37) k (tk2.2))) := hx15.at 0 rfl
    have h16_mm : u15 (mm) = some (mo ad (th) (tb) (nI nd) (wk) (br) (yr) (wd)) := hx15.old h14_mm (zm1 (zne h14_mm h14_ad37 (by intro q9; first | cases q9 | simp at q9)) zm0)
    have h16_ad1 : u15 (ad 1) = some (eJ cs (72) (J 1)) := hx15.old h14_ad1 (zm1 (hinj 1 37 (by decide)) zm0)
    have h16_ad2 : u15 (ad 2) = some (eI cs (72) (K 2)) := hx15.old h14_ad2 (zm1 (hinj 2 37 (by decide)) zm0)
    have h16_ad3 : u15 (ad 3) = some (eI cs (6) (K 3)) := hx15.old h14_ad3 (zm1 (hinj 3 37 (by decide)) zm0)
    have h16_ad6 : u15 (ad 6) = some (eZ cs (8) (K 6)) := hx15.old h14_ad6 (zm1 (hinj 6 37 (by decide)) zm0)
    have h16_ad7 : u15 (ad 7) = some (eI cs (8) (K 7)) := hx15.old h14_ad7 (zm1 (hinj 7 37 (by decide)) zm0)
    have h16_ad8 : u15 (ad 8) = some (eJ cs (8) (J 8)) := hx15.old h14_ad8 (zm1 (hinj 8 37 (by decide)) zm0)
    have h16_ad9 : u15 (ad 9) = some (eJ cs (8) (J 9)) := hx15.old h14_ad9 (zm1 (hinj 9 37 (by decide)) zm0)
    have h16_ad10 : u15 (ad 10) = some (eJ cs (8) (J 10)) := hx15.old h14_ad10 (zm1 (hinj 10 37 (by decide)) zm0)
    have h16_ad25 : u15 (ad 25) = some (eJ cs (600) (J 25)) := hx15.old h14_ad25 (zm1 (hinj 25 37 (by decide)) zm0)
    have h16_ad26 : u15 (ad 26) = some (eZ cs (600) (K 26)) := hx15.old h14_ad26 (zm1 (hinj 26 37 (by decide)) zm0)
    have h16_ad27 : u15 (ad 27) = some (eI cs (600) (K 27)) := hx15.old h14_ad27 (zm1 (hinj 27 37 (by decide)) zm0)
    have h16_ad28 : u15 (ad 28) = some (eI cs (600) (K 28)) := hx15.old h14_ad28 (zm1 (hinj 28 37 (by decide)) zm0)
    have h16_ad29 : u15 (ad 29) = some (eI cs (600) (K 29)) := hx15.old h14_ad29 (zm1 (hinj 29 37 (by decide)) zm0)
    have h16_ad30 : u15 (ad 30) = some (eI cs (600) (K 30)) := hx15.old h14_ad30 (zm1 (hinj 30 37 (by decide)) zm0)
    have h16_ad31 : u15 (ad 31) = some (eI cs (600) (K 31)) := hx15.old h14_ad31 (zm1 (hinj 31 37 (by decide)) zm0)
    have h16_ad32 : u15 (ad 32) = some (eJ cs (600) (J 32)) := hx15.old h14_ad32 (zm1 (hinj 32 37 (by decide)) zm0)
    have h16_ad33 : u15 (ad 33) = some (eJ cs (600) (J 33)) := hx15.old h14_ad33 (zm1 (hinj 33 37 (by decide)) zm0)
    have h16_ad34 : u15 (ad 34) = some (eJ cs (600) (J 34)) := hx15.old h14_ad34 (zm1 (hinj 34 37 (by decide)) zm0)
    have h16_ad42 : u15 (ad 42) = some (eJ cs (60) (J 42)) := hx15.old h14_ad42 (zm1 (hinj 42 37 (by decide)) zm0)
    have h16_ad43 : u15 (ad 43) = some (eJ cs (60) (J 43)) := hx15.old h14_ad43 (zm1 (hinj 43 37 (by decide)) zm0)
    have h16_ad38 : u15 (ad 38) = some (eJ cs (60) (vp_updL (J 38) (k) ((V k 0 - tk1.1)))) := hx15.old h14_ad38 (zm1 (hinj 38 37 (by decide)) zm0)
    have h16_ad39 : u15 (ad 39) = some (eJ cs (60) (vp_updL (J 39) (k) (tk1.1))) := hx15.old h14_ad39 (zm1 (hinj 39 37 (by decide)) zm0)
    have h16_ad40 : u15 (ad 40) = some (eJ cs (60) (vp_updL (J 40) (k) (b1))) := hx15.old h14_ad40 (zm1 (hinj 40 37 (by decide)) zm0)
    have h16_ad41 : u15 (ad 41) = some (eJ cs (60) (vp_updL (J 41) (k) (m1))) := hx15.old h14_ad41 (zm1 (hinj 41 37 (by decide)) zm0)
    refine W.eq (g2 := F0 m 185 ls [.long (tk2.1), .int (nI k), .ref (ad 43)]) rfl ?_
    refine z_last hx hb hK hS h16_ad43 (vp_in_nI (by omega) (by decide)) dX7_worksOne_185 (fun H locs hS => ?_)
    obtain ⟨w17, ew17⟩ : ∃ z : zw, z = va_up u15 (ad 43) (some (eJ cs (60) (vp_updL (J 43) (nI k : Int32).toNatClampNeg (tk2.1)))) := ⟨_, rfl⟩
    have hS : zS (zA w sz) D w17 s.heap H locs := by rw [ew17]; exact hS
    have h17_ad43 : w17 (ad 43) = some (eJ cs (60) (vp_updL (J 43) (nI k : Int32).toNatClampNeg (tk2.1))) := by rw [ew17]; exact va_up_self _ _ _
    have h17_ad37 : w17 (ad 37) = some (eJ cs (480) (zRow (J 37) k (tk2.2))) := by rw [ew17]; exact (va_up_ne _ _ (hinj 37 43 (by decide))).trans h16_ad37
    have h17_mm : w17 (mm) = some (mo ad (th) (tb) (nI nd) (wk) (br) (yr) (wd)) := by rw [ew17]; exact (va_up_ne _ _ (zne h16_mm h16_ad43 (by intro q9; first | cases q9 | simp at q9))).trans h16_mm
    have h17_ad1 : w17 (ad 1) = some (eJ cs (72) (J 1)) := by rw [ew17]; exact (va_up_ne _ _ (hinj 1 43 (by decide))).trans h16_ad1
    have h17_ad2 : w17 (ad 2) = some (eI cs (72) (K 2)) := by rw [ew17]; exact (va_up_ne _ _ (hinj 2 43 (by decide))).trans h16_ad2
    have h17_ad3 : w17 (ad 3) = some (eI cs (6) (K 3)) := by rw [ew17]; exact (va_up_ne _ _ (hinj 3 43 (by decide))).trans h16_ad3
    have h17_ad6 : w17 (ad 6) = some (eZ cs (8) (K 6)) := by rw [ew17]; exact (va_up_ne _ _ (hinj 6 43 (by decide))).trans h16_ad6
    have h17_ad7 : w17 (ad 7) = some (eI cs (8) (K 7)) := by rw [ew17]; exact (va_up_ne _ _ (hinj 7 43 (by decide))).trans h16_ad7
    have h17_ad8 : w17 (ad 8) = some (eJ cs (8) (J 8)) := by rw [ew17]; exact (va_up_ne _ _ (hinj 8 43 (by decide))).trans h16_ad8
    have h17_ad9 : w17 (ad 9) = some (eJ cs (8) (J 9)) := by rw [ew17]; exact (va_up_ne _ _ (hinj 9 43 (by decide))).trans h16_ad9
    have h17_ad10 : w17 (ad 10) = some (eJ cs (8) (J 10)) := by rw [ew17]; exact (va_up_ne _ _ (hinj 10 43 (by decide))).trans h16_ad10
    have h17_ad25 : w17 (ad 25) = some (eJ cs (600) (J 25)) := by rw [ew17]; exact (va_up_ne _ _ (hinj 25 43 (by decide))).trans h16_ad25
    have h17_ad26 : w17 (ad 26) = some (eZ cs (600) (K 26)) := by rw [ew17]; exact (va_up_ne _ _ (hinj 26 43 (by decide))).trans h16_ad26
    have h17_ad27 : w17 (ad 27) = some (eI cs (600) (K 27)) := by rw [ew17]; exact (va_up_ne _ _ (hinj 27 43 (by decide))).trans h16_ad27
    have h17_ad28 : w17 (ad 28) = some (eI cs (600) (K 28)) := by rw [ew17]; exact (va_up_ne _ _ (hinj 28 43 (by decide))).trans h16_ad28
    have h17_ad29 : w17 (ad 29) = some (eI cs (600) (K 29)) := by rw [ew17]; exact (va_up_ne _ _ (hinj 29 43 (by decide))).trans h16_ad29
    have h17_ad30 : w17 (ad 30) = some (eI cs (600) (K 30)) := by rw [ew17]; exact (va_up_ne _ _ (hinj 30 43 (by decide))).trans h16_ad30
    have h17_ad31 : w17 (ad 31) = some (eI cs (600) (K 31)) := by rw [ew17]; exact (va_up_ne _ _ (hinj 31 43 (by decide))).trans h16_ad31
    have h17_ad32 : w17 (ad 32) = some (eJ cs (600) (J 32)) := by rw [ew17]; exact (va_up_ne _ _ (hinj 32 43 (by decide))).trans h16_ad32
    have h17_ad33 : w17 (ad 33) = some (eJ cs (600) (J 33)) := by rw [ew17]; exact (va_up_ne _ _ (hinj 33 43 (by decide))).trans h16_ad33
    have h17_ad34 : w17 (ad 34) = some (eJ cs (600) (J 34)) := by rw [ew17]; exact (va_up_ne _ _ (hinj 34 43 (by decide))).trans h16_ad34
    have h17_ad42 : w17 (ad 42) = some (eJ cs (60) (J 42)) := by rw [ew17]; exact (va_up_ne _ _ (hinj 42 43 (by decide))).trans h16_ad42
    have h17_ad38 : w17 (ad 38) = some (eJ cs (60) (vp_updL (J 38) (k) ((V k 0 - tk1.1)))) := by rw [ew17]; exact (va_up_ne _ _ (hinj 38 43 (by decide))).trans h16_ad38
    have h17_ad39 : w17 (ad 39) = some (eJ cs (60) (vp_updL (J 39) (k) (tk1.1))) := by rw [ew17]; exact (va_up_ne _ _ (hinj 39 43 (by decide))).trans h16_ad39
    have h17_ad40 : w17 (ad 40) = some (eJ cs (60) (vp_updL (J 40) (k) (b1))) := by rw [ew17]; exact (va_up_ne _ _ (hinj 40 43 (by decide))).trans h16_ad40
    have h17_ad41 : w17 (ad 41) = some (eJ cs (60) (vp_updL (J 41) (k) (m1))) := by rw [ew17]; exact (va_up_ne _ _ (hinj 41 43 (by decide))).trans h16_ad41
    have h17_ad43 : w17 (ad 43) = some (eJ cs (60) (vp_updL (J 43) (k) (tk2.1))) := by rw [nI_clamp (by omega)] at h17_ad43; exact h17_ad43
    refine lv_aload_n hx hb dX7_worksOne_186 rfl (lv_at hl 2 rfl) ?_
    refine z_get (C := RX7) (T := TX7) (N := 45) (v := .ref (ad 42)) hx hb hts (by decide +kernel) hown hK hS h17_mm rfl 42 (by decide) (hts (.fieldLink RX7 117 "PayLedgerModel" "lates" "[J") (by decide +kernel)) rfl dX7_worksOne_187 ?_
    refine lv_iload_n hx hb dX7_worksOne_190 rfl (lv_at hl 4 rfl) ?_
    refine lv_lload hx hb dX7_worksOne_191 (lv_at hl 0 rfl) ?_
    refine lv_aload_n hx hb dX7_worksOne_193 rfl (lv_at hl 2 rfl) ?_
    refine z_get (C := RX7) (T := TX7) (N := 45) (v := .ref (ad 43)) hx hb hts (by decide +kernel) hown hK hS h17_mm rfl 43 (by decide) (hts (.fieldLink RX7 120 "PayLedgerModel" "nets" "[J") (by decide +kernel)) rfl dX7_worksOne_194 ?_
    refine lv_iload_n hx hb dX7_worksOne_197 rfl (lv_at hl 4 rfl) ?_
    refine z_lald hx hb hK hS h17_ad43 (vp_in_nI (by omega) (by decide)) dX7_worksOne_198 ?_
    refine z_tl (y := ((vp_updL (J 43) (k) (tk2.1)) (k))) (congrArg _ (nI_clamp (by omega))) ?_
    refine z_tl (y := tk2.1) (vpL_self _ _ _) ?_
    refine lv_lsub hx hb dX7_worksOne_199 ?_
    refine z_last hx hb hK hS h17_ad42 (vp_in_nI (by omega) (by decide)) dX7_worksOne_200 (fun H locs hS => ?_)
    obtain ⟨w18, ew18⟩ : ∃ z : zw, z = va_up w17 (ad 42) (some (eJ cs (60) (vp_updL (J 42) (nI k : Int32).toNatClampNeg ((((tk1.1 - b1) - m1) - tk2.1))))) := ⟨_, rfl⟩
    have hS : zS (zA w sz) D w18 s.heap H locs := by rw [ew18]; exact hS
    have h18_ad42 : w18 (ad 42) = some (eJ cs (60) (vp_updL (J 42) (nI k : Int32).toNatClampNeg ((((tk1.1 - b1) - m1) - tk2.1)))) := by rw [ew18]; exact va_up_self _ _ _
    have h18_ad37 : w18 (ad 37) = some (eJ cs (480) (zRow (J 37) k (tk2.2))) := by rw [ew18]; exact (va_up_ne _ _ (hinj 37 42 (by decide))).trans h17_ad37
    have h18_mm : w18 (mm) = some (mo ad (th) (tb) (nI nd) (wk) (br) (yr) (wd)) := by rw [ew18]; exact (va_up_ne _ _ (zne h17_mm h17_ad42 (by intro q9; first | cases q9 | simp at q9))).trans h17_mm
    have h18_ad1 : w18 (ad 1) = some (eJ cs (72) (J 1)) := by rw [ew18]; exact (va_up_ne _ _ (hinj 1 42 (by decide))).trans h17_ad1
    have h18_ad2 : w18 (ad 2) = some (eI cs (72) (K 2)) := by rw [ew18]; exact (va_up_ne _ _ (hinj 2 42 (by decide))).trans h17_ad2
    have h18_ad3 : w18 (ad 3) = some (eI cs (6) (K 3)) := by rw [ew18]; exact (va_up_ne _ _ (hinj 3 42 (by decide))).trans h17_ad3
    have h18_ad6 : w18 (ad 6) = some (eZ cs (8) (K 6)) := by rw [ew18]; exact (va_up_ne _ _ (hinj 6 42 (by decide))).trans h17_ad6
    have h18_ad7 : w18 (ad 7) = some (eI cs (8) (K 7)) := by rw [ew18]; exact (va_up_ne _ _ (hinj 7 42 (by decide))).trans h17_ad7
    have h18_ad8 : w18 (ad 8) = some (eJ cs (8) (J 8)) := by rw [ew18]; exact (va_up_ne _ _ (hinj 8 42 (by decide))).trans h17_ad8
    have h18_ad9 : w18 (ad 9) = some (eJ cs (8) (J 9)) := by rw [ew18]; exact (va_up_ne _ _ (hinj 9 42 (by decide))).trans h17_ad9
    have h18_ad10 : w18 (ad 10) = some (eJ cs (8) (J 10)) := by rw [ew18]; exact (va_up_ne _ _ (hinj 10 42 (by decide))).trans h17_ad10
    have h18_ad25 : w18 (ad 25) = some (eJ cs (600) (J 25)) := by rw [ew18]; exact (va_up_ne _ _ (hinj 25 42 (by decide))).trans h17_ad25
    have h18_ad26 : w18 (ad 26) = some (eZ cs (600) (K 26)) := by rw [ew18]; exact (va_up_ne _ _ (hinj 26 42 (by decide))).trans h17_ad26
    have h18_ad27 : w18 (ad 27) = some (eI cs (600) (K 27)) := by rw [ew18]; exact (va_up_ne _ _ (hinj 27 42 (by decide))).trans h17_ad27
    have h18_ad28 : w18 (ad 28) = some (eI cs (600) (K 28)) := by rw [ew18]; exact (va_up_ne _ _ (hinj 28 42 (by decide))).trans h17_ad28
    have h18_ad29 : w18 (ad 29) = some (eI cs (600) (K 29)) := by rw [ew18]; exact (va_up_ne _ _ (hinj 29 42 (by decide))).trans h17_ad29
    have h18_ad30 : w18 (ad 30) = some (eI cs (600) (K 30)) := by rw [ew18]; exact (va_up_ne _ _ (hinj 30 42 (by decide))).trans h17_ad30
    have h18_ad31 : w18 (ad 31) = some (eI cs (600) (K 31)) := by rw [ew18]; exact (va_up_ne _ _ (hinj 31 42 (by decide))).trans h17_ad31
    have h18_ad32 : w18 (ad 32) = some (eJ cs (600) (J 32)) := by rw [ew18]; exact (va_up_ne _ _ (hinj 32 42 (by decide))).trans h17_ad32
    have h18_ad33 : w18 (ad 33) = some (eJ cs (600) (J 33)) := by rw [ew18]; exact (va_up_ne _ _ (hinj 33 42 (by decide))).trans h17_ad33
    have h18_ad34 : w18 (ad 34) = some (eJ cs (600) (J 34)) := by rw [ew18]; exact (va_up_ne _ _ (hinj 34 42 (by decide))).trans h17_ad34
    have h18_ad38 : w18 (ad 38) = some (eJ cs (60) (vp_updL (J 38) (k) ((V k 0 - tk1.1)))) := by rw [ew18]; exact (va_up_ne _ _ (hinj 38 42 (by decide))).trans h17_ad38
    have h18_ad39 : w18 (ad 39) = some (eJ cs (60) (vp_updL (J 39) (k) (tk1.1))) := by rw [ew18]; exact (va_up_ne _ _ (hinj 39 42 (by decide))).trans h17_ad39
    have h18_ad40 : w18 (ad 40) = some (eJ cs (60) (vp_updL (J 40) (k) (b1))) := by rw [ew18]; exact (va_up_ne _ _ (hinj 40 42 (by decide))).trans h17_ad40
    have h18_ad41 : w18 (ad 41) = some (eJ cs (60) (vp_updL (J 41) (k) (m1))) := by rw [ew18]; exact (va_up_ne _ _ (hinj 41 42 (by decide))).trans h17_ad41
    have h18_ad43 : w18 (ad 43) = some (eJ cs (60) (vp_updL (J 43) (k) (tk2.1))) := by rw [ew18]; exact (va_up_ne _ _ (hinj 43 42 (by decide))).trans h17_ad43
    have h18_ad42 : w18 (ad 42) = some (eJ cs (60) (vp_updL (J 42) (k) ((((tk1.1 - b1) - m1) - tk2.1)))) := by rw [nI_clamp (by omega)] at h18_ad42; exact h18_ad42
    have hex : zEx w w18 [(ad 37, (eJ cs (480) (zRow (J 37) k (tk2.2)))), (ad 38, (eJ cs (60) (vp_updL (J 38) (k) ((V k 0 - tk1.1))))), (ad 39, (eJ cs (60) (vp_updL (J 39) (k) (tk1.1)))), (ad 40, (eJ cs (60) (vp_updL (J 40) (k) (b1)))), (ad 41, (eJ cs (60) (vp_updL (J 41) (k) (m1)))), (ad 42, (eJ cs (60) (vp_updL (J 42) (k) ((((tk1.1 - b1) - m1) - tk2.1))))), (ad 43, (eJ cs (60) (vp_updL (J 43) (k) (tk2.1))))] := ⟨(zm1 h18_ad37 (zm1 h18_ad38 (zm1 h18_ad39 (zm1 h18_ad40 (zm1 h18_ad41 (zm1 h18_ad42 (zm1 h18_ad43 zm0))))))), fun a9 h9 => by rw [ew18, va_up_ne _ _ (show a9 ≠ ad 42 from h9 (ad 42, (eJ cs (60) (vp_updL (J 42) (k) ((((tk1.1 - b1) - m1) - tk2.1))))) (List.mem_of_getElem? (i := 5) rfl)), ew17, va_up_ne _ _ (show a9 ≠ ad 43 from h9 (ad 43, (eJ cs (60) (vp_updL (J 43) (k) (tk2.1)))) (List.mem_of_getElem? (i := 6) rfl)), hx15.2 a9 (zm1 (show a9 ≠ ad 37 from h9 (ad 37, (eJ cs (480) (zRow (J 37) k (tk2.2)))) (List.mem_of_getElem? (i := 0) rfl)) zm0), ew14, va_up_ne _ _ (show a9 ≠ ad 41 from h9 (ad 41, (eJ cs (60) (vp_updL (J 41) (k) (m1)))) (List.mem_of_getElem? (i := 4) rfl)), ew13, va_up_ne _ _ (show a9 ≠ ad 40 from h9 (ad 40, (eJ cs (60) (vp_updL (J 40) (k) (b1)))) (List.mem_of_getElem? (i := 3) rfl)), ew6, va_up_ne _ _ (show a9 ≠ ad 39 from h9 (ad 39, (eJ cs (60) (vp_updL (J 39) (k) (tk1.1)))) (List.mem_of_getElem? (i := 2) rfl)), ew5, va_up_ne _ _ (show a9 ≠ ad 38 from h9 (ad 38, (eJ cs (60) (vp_updL (J 38) (k) ((V k 0 - tk1.1))))) (List.mem_of_getElem? (i := 1) rfl)), hx3.2 a9 (zm1 (show a9 ≠ ad 37 from h9 (ad 37, (eJ cs (480) (zRow (J 37) k (tk2.2)))) (List.mem_of_getElem? (i := 0) rfl)) zm0), hexk.2 a9 (zm1 (show a9 ≠ ad 37 from h9 (ad 37, (eJ cs (480) (zRow (J 37) k (tk2.2)))) (List.mem_of_getElem? (i := 0) rfl)) zm0)]⟩
    exact z_vret hx hb hr hlocks hS (Nat.le_of_ble_eq_true rfl) (Nat.le_of_ble_eq_true rfl) dX7_worksOne_201 ⟨rfl, mJ7 J (zRow (J 37) k tk2.2) (vp_updL (J 38) k (V k 0 - tk1.1)) (vp_updL (J 39) k tk1.1) (vp_updL (J 40) k b1) (vp_updL (J 41) k m1) (vp_updL (J 42) k (tk1.1 - b1 - m1 - tk2.1)) (vp_updL (J 43) k tk2.1), mJ7_out, hex, by have q9 := mWk_E (V := V k) (wh := mWh (FF (tx k)) (GF (tx k)) (tn (tx k)) (pe k) (me k) (re k) (cr k) (bo k) (rb k) (zUs bo k) (zSumU bo (fun j => V j 2) k) (zSumU bo (fun j => V j 3) k)) (ex := ex k) ht1 e_b1 (e_m1.trans (if_neg c87).symm) ht2; exact mAh_step (J := J) (g := tk2.2) hA (by rw [(hst.1 1 (by omega) (by omega)).trans q9.1]; rfl) (by rw [(hst.1 2 (by omega) (by omega)).trans q9.2.1]; rfl) (by rw [(hst.1 3 (by omega) (by omega)).trans q9.2.2.1]; rfl) (by rw [(hst.1 4 (by omega) (by omega)).trans q9.2.2.2.1]; rfl) (by rw [(hst.1 5 (by omega) (by omega)).trans q9.2.2.2.2.1]; rfl) (by rw [(hst.1 6 (by omega) (by omega)).trans q9.2.2.2.2.2.1]; rfl) rfl (fun d hd => (hst.2 d hd).trans (congrFun q9.2.2.2.2.2.2 d))⟩
