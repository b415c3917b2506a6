/-! ===== PayLedger: public methods that read, bonus, settle ===== -/
set_option maxHeartbeats 4000000 in
set_option maxRecDepth 100000 in
theorem c_X6_officeTotal (l : Launch) (D : va_G) (cs : Nat → ClassId) (w : zw) (sz : Nat) (of tbs dds wks aa : Nat) (tc dc wc brt yr wd : Int32) (WR : Nat → Option Nat) (WA WT WP WS hd : Nat → Nat) (se : Nat → Int64) (PR : Nat → Nat → Option Nat) (PA TE PP : Nat → Nat → Nat) (bo br : Nat → Nat → Int32) (V PT : Nat → Nat → Nat → Int64) (nw : Nat) (what : Int32) (hW : zWks cs w WR WA WT WP WS hd se PR PA TE PP bo br V PT nw) (h_f : w (of) = some (.inr (6, [.ref (tbs), .ref (dds), .ref (wks), .ref (aa), .int (tc), .int (dc), .int (wc), .int (brt), .int (yr), .int (wd)]))) (h_wr : w (wks) = some (eR cs 6 (10) (WR))) : zMr l D cs yX6_officeTotal wsX6_officeTotal 3 w sz [.ref (of), .int (what)] (.long (zSum (fun k => zTotal (bo k) (V k) (hd k) (se k) what) nw)) := by
  refine z_met (cc := cX6_officeTotal) (maxL := 8) (ret := (some .long)) (by decide) rfl (Nat.le_of_ble_eq_true rfl) ?_
  intro p e s m below meth c hx hb hr hml hown hts hlocks hnm hsz hK hE hS ls hl
  have hl : lv_has ls 8 [(0, .ref (of)), (1, .int (what))] := hl
  have L16 : ∀ (i : Nat), ∀ (acc : Int64), (hi : i ≤ 10) → (hacc : acc = zSum (fun k => zTotal (bo k) (V k) (hd k) (se k) what) (min i nw)) → ∀ (H : Heap) (locs : List Loc) (ls : Array Slot), zS (zA w sz) D w s.heap H locs → lv_has ls 8 [(6, .int (nI i)), (5, .int (10)), (4, .ref (wks)), (2, .long (acc)), (0, .ref (of)), (1, .int (what))] → W p l e (zR 3 0 0) s m [.ref (of), .int (what)].toArray below meth c H locs 0 0 (MQ below (zQ D w sz (fun r w2 => r = some (.long (zSum (fun k => zTotal (bo k) (V k) (hd k) (se k) what) nw)) ∧ w2 = w)) [.ref (of), .int (what)].toArray s 0 0 (zA w sz)) (F0 m 16 ls []) := by
    refine zloopU (P := fun i => ∀ (acc : Int64), (hi : i ≤ 10) → (hacc : acc = zSum (fun k => zTotal (bo k) (V k) (hd k) (se k) what) (min i nw)) → ∀ (H : Heap) (locs : List Loc) (ls : Array Slot), zS (zA w sz) D w s.heap H locs → lv_has ls 8 [(6, .int (nI i)), (5, .int (10)), (4, .ref (wks)), (2, .long (acc)), (0, .ref (of)), (1, .int (what))] → W p l e (zR 3 0 0) s m [.ref (of), .int (what)].toArray below meth c H locs 0 0 (MQ below (zQ D w sz (fun r w2 => r = some (.long (zSum (fun k => zTotal (bo k) (V k) (hd k) (se k) what) nw)) ∧ w2 = w)) [.ref (of), .int (what)].toArray s 0 0 (zA w sz)) (F0 m 16 ls [])) 10 (fun i ih => ?_)
    intro acc hi hacc H locs ls hS hl
    refine lv_iload hx hb dX6_officeTotal_16 (lv_at hl 0 rfl) ?_
    refine lv_iload hx hb dX6_officeTotal_18 (lv_at hl 1 rfl) ?_
    refine lv_icmp_ge (tgt := 50) hx hb dX6_officeTotal_20 (by decide) (fun c20 => ?_) (fun c20 => ?_)
    · have hi10 : i = 10 := by rcases Nat.lt_or_ge i 10 with q | q; exact absurd c20 (nI_ge (b := 10) q (by omega)); omega
      refine lv_lload_n hx hb dX6_officeTotal_50 rfl (lv_at hl 3 rfl) ?_
      exact z_lret hx hb hr hlocks hS (Nat.le_of_ble_eq_true rfl) (Nat.le_of_ble_eq_true rfl) dX6_officeTotal_51 ⟨by rw [hacc, hi10, Nat.min_eq_right hW.1], rfl⟩
    · have c20 : i < 10 := by rcases Nat.lt_or_ge i 10 with q | q; exact q; exact absurd (nI_le (a := 10) q (by omega)) c20
      refine lv_aload hx hb dX6_officeTotal_23 (lv_at hl 2 rfl) ?_
      refine lv_iload hx hb dX6_officeTotal_25 (lv_at hl 0 rfl) ?_
      rcases Nat.lt_or_ge i nw with hwn | hwn
      · refine z_aaldv (v := .ref (WA i)) hx hb hK hS h_wr rfl (vp_in_nI c20 (by omega)) (by rw [nI_clamp (by omega), (hW.2.1 i hwn).1]; rfl) dX6_officeTotal_27 ?_
        have hwi := hW.2.1 i hwn
        have h_wi := hwi.2.1
        have h_pi := hwi.2.2.1
        refine lv_astore (lv' := [(7, .ref (WA i)), (6, .int (nI i)), (5, .int (10)), (4, .ref (wks)), (2, .long (acc)), (0, .ref (of)), (1, .int (what))]) hx hb dX6_officeTotal_28 hl (by decide) rfl (fun ls hl => ?_)
        refine lv_aload hx hb dX6_officeTotal_30 (lv_at hl 0 rfl) ?_
        refine lv_ifnull hx hb dX6_officeTotal_32 ?_
        refine lv_lload_n hx hb dX6_officeTotal_35 rfl (lv_at hl 4 rfl) ?_
        refine lv_aload hx hb dX6_officeTotal_36 (lv_at hl 0 rfl) ?_
        refine lv_iload_n hx hb dX6_officeTotal_38 rfl (lv_at hl 6 rfl) ?_
        refine z_rV (As := [.int (what)]) (rest := [.long (acc)]) (n := 1) ⟨hx, hb, hml, hown, hts⟩ (c_X5_total l D cs w H.size (WA i) (WT i) (WP i) (WS i) (hd i) (se i) (PR i) (PA i) (TE i) (PP i) (bo i) (br i) (V i) (PT i) what hwi.2.2.2.1 hwi.2.2.2.2 h_wi h_pi) gX6_officeTotal_X5_total rfl ⟨rfl, by decide +kernel, by decide +kernel, by decide +kernel⟩ ⟨Nat.le_of_ble_eq_true rfl, Nat.le_of_ble_eq_true rfl⟩ hK hE hS rfl h_wi rfl hl.1 rfl (Nat.le_of_ble_eq_true rfl) dX6_officeTotal_39 ⟨Nat.le_of_ble_eq_true rfl, Nat.le_of_ble_eq_true rfl⟩ (fun H locs hS => ?_)
        refine lv_ladd hx hb dX6_officeTotal_42 ?_
        refine lv_lstore_n (lv' := [(2, .long ((acc + zTotal (bo i) (V i) (hd i) (se i) what))), (7, .ref (WA i)), (6, .int (nI i)), (5, .int (10)), (4, .ref (wks)), (0, .ref (of)), (1, .int (what))]) hx hb dX6_officeTotal_43 rfl hl (by decide) rfl (fun ls hl => ?_)
        refine lv_iinc (v := nI (i + 1)) (lv' := [(6, .int (nI (i + 1))), (2, .long ((acc + zTotal (bo i) (V i) (hd i) (se i) what))), (7, .ref (WA i)), (5, .int (10)), (4, .ref (wks)), (0, .ref (of)), (1, .int (what))]) hx hb dX6_officeTotal_44 hl (k := 2) rfl (nI_1 _) (by decide) rfl (fun ls hl => ?_)
        refine lv_goto (tgt := 16) hx hb dX6_officeTotal_47 (by decide) ?_
        exact ih c20 ((acc + zTotal (bo i) (V i) (hd i) (se i) what)) (by omega) (by rw [hacc]; exact (zSum_min hwn).symm)  _ _ _ hS (lv_sub hl [0, 3, 4, 1, 5, 6] rfl)
      · refine z_aaldv (v := .null) hx hb hK hS h_wr rfl (vp_in_nI c20 (by omega)) (by rw [nI_clamp (by omega), hW.2.2 i hwn c20]; rfl) dX6_officeTotal_27 ?_
        refine lv_astoreN (lv' := [(7, .null), (6, .int (nI i)), (5, .int (10)), (4, .ref (wks)), (2, .long (acc)), (0, .ref (of)), (1, .int (what))]) hx hb dX6_officeTotal_28 hl (by decide) rfl (fun ls hl => ?_)
        refine lv_aloadN hx hb dX6_officeTotal_30 (lv_at hl 0 rfl) ?_
        refine lv_ifnullN (tgt := 44) hx hb dX6_officeTotal_32 (by decide) ?_
        refine lv_iinc (v := nI (i + 1)) (lv' := [(6, .int (nI (i + 1))), (7, .null), (5, .int (10)), (4, .ref (wks)), (2, .long (acc)), (0, .ref (of)), (1, .int (what))]) hx hb dX6_officeTotal_44 hl (k := 1) rfl (nI_1 _) (by decide) rfl (fun ls hl => ?_)
        refine lv_goto (tgt := 16) hx hb dX6_officeTotal_47 (by decide) ?_
        exact ih c20 (acc) (by omega) (by rw [hacc]; exact (zSum_min2 hwn).symm)  _ _ _ hS (lv_sub hl [0, 2, 3, 4, 5, 6] rfl)
  refine lv_lconst (v := 0) hx hb dX6_officeTotal_0 (by decide) ?_
  refine lv_lstore_n (lv' := [(2, .long (0)), (0, .ref (of)), (1, .int (what))]) hx hb dX6_officeTotal_1 rfl hl (by decide) rfl (fun ls hl => ?_)
  refine lv_aload_n hx hb dX6_officeTotal_2 rfl (lv_at hl 1 rfl) ?_
  refine z_get (C := RX6) (T := TX6) (N := 10) (v := .ref (wks)) hx hb hts (by decide +kernel) hown hK hS h_f rfl 2 (by decide) (hts (.fieldLink RX6 23 "PayLedger" "workers" "[LPayLedger$Worker;") (by decide +kernel)) rfl dX6_officeTotal_3 ?_
  refine lv_astore (lv' := [(4, .ref (wks)), (2, .long (0)), (0, .ref (of)), (1, .int (what))]) hx hb dX6_officeTotal_6 hl (by decide) rfl (fun ls hl => ?_)
  refine lv_aload hx hb dX6_officeTotal_8 (lv_at hl 0 rfl) ?_
  refine z_alen (t0 := 6) (v := 10) hx hb hK hS h_wr rfl rfl dX6_officeTotal_10 ?_
  refine lv_istore (lv' := [(5, .int (10)), (4, .ref (wks)), (2, .long (0)), (0, .ref (of)), (1, .int (what))]) hx hb dX6_officeTotal_11 hl (by decide) rfl (fun ls hl => ?_)
  refine lv_iconst (v := 0) hx hb dX6_officeTotal_13 (by decide) ?_
  refine lv_istore (lv' := [(6, .int (0)), (5, .int (10)), (4, .ref (wks)), (2, .long (0)), (0, .ref (of)), (1, .int (what))]) hx hb dX6_officeTotal_14 hl (by decide) rfl (fun ls hl => ?_)
  exact L16 0 0 (by omega) (by rw [Nat.zero_min]; rfl)  _ _ _ hS (lv_sub hl [0, 1, 2, 3, 4, 5] rfl)
set_option maxHeartbeats 4000000 in
set_option maxRecDepth 100000 in
theorem c_X6_isAnythingOwed (l : Launch) (D : va_G) (cs : Nat → ClassId) (w : zw) (sz : Nat) (of tbs dds wks aa : Nat) (tc dc wc brt yr wd : Int32) (WR : Nat → Option Nat) (WA WT WP WS hd : Nat → Nat) (se : Nat → Int64) (PR : Nat → Nat → Option Nat) (PA TE PP : Nat → Nat → Nat) (bo br : Nat → Nat → Int32) (V PT : Nat → Nat → Nat → Int64) (nw : Nat) (hW : zWks cs w WR WA WT WP WS hd se PR PA TE PP bo br V PT nw) (h_f : w (of) = some (.inr (6, [.ref (tbs), .ref (dds), .ref (wks), .ref (aa), .int (tc), .int (dc), .int (wc), .int (brt), .int (yr), .int (wd)]))) (h_wr : w (wks) = some (eR cs 6 (10) (WR))) : zMr l D cs yX6_isAnythingOwed wsX6_isAnythingOwed 3 w sz [.ref (of)] (.int (zB (∃ k : Nat, k < nw ∧ ¬ zTotal (bo k) (V k) (hd k) (se k) 10 = 0))) := by
  refine z_met (cc := cX6_isAnythingOwed) (maxL := 5) (ret := (some .boolean)) (by decide) rfl (Nat.le_of_ble_eq_true rfl) ?_
  intro p e s m below meth c hx hb hr hml hown hts hlocks hnm hsz hK hE hS ls hl
  have hl : lv_has ls 5 [(0, .ref (of))] := hl
  have L10 : ∀ (i : Nat), (hi : i ≤ 10) → (hno : ∀ k : Nat, k < i → k < nw → zTotal (bo k) (V k) (hd k) (se k) 10 = 0) → ∀ (H : Heap) (locs : List Loc) (ls : Array Slot), zS (zA w sz) D w s.heap H locs → lv_has ls 5 [(3, .int (nI i)), (2, .int (10)), (1, .ref (wks)), (0, .ref (of))] → W p l e (zR 3 0 0) s m [.ref (of)].toArray below meth c H locs 0 0 (MQ below (zQ D w sz (fun r w2 => r = some (.int (zB (∃ k : Nat, k < nw ∧ ¬ zTotal (bo k) (V k) (hd k) (se k) 10 = 0))) ∧ w2 = w)) [.ref (of)].toArray s 0 0 (zA w sz)) (F0 m 10 ls []) := by
    refine zloopU (P := fun i => (hi : i ≤ 10) → (hno : ∀ k : Nat, k < i → k < nw → zTotal (bo k) (V k) (hd k) (se k) 10 = 0) → ∀ (H : Heap) (locs : List Loc) (ls : Array Slot), zS (zA w sz) D w s.heap H locs → lv_has ls 5 [(3, .int (nI i)), (2, .int (10)), (1, .ref (wks)), (0, .ref (of))] → W p l e (zR 3 0 0) s m [.ref (of)].toArray below meth c H locs 0 0 (MQ below (zQ D w sz (fun r w2 => r = some (.int (zB (∃ k : Nat, k < nw ∧ ¬ zTotal (bo k) (V k) (hd k) (se k) 10 = 0))) ∧ w2 = w)) [.ref (of)].toArray s 0 0 (zA w sz)) (F0 m 10 ls [])) 10 (fun i ih => ?_)
    intro hi hno H locs ls hS hl
    refine lv_iload_n hx hb dX6_isAnythingOwed_10 rfl (lv_at hl 0 rfl) ?_
    refine lv_iload_n hx hb dX6_isAnythingOwed_11 rfl (lv_at hl 1 rfl) ?_
    refine lv_icmp_ge (tgt := 45) hx hb dX6_isAnythingOwed_12 (by decide) (fun c12 => ?_) (fun c12 => ?_)
    · have hi10 : i = 10 := by rcases Nat.lt_or_ge i 10 with q | q; exact absurd c12 (nI_ge (b := 10) q (by omega)); omega
      refine lv_iconst (v := 0) hx hb dX6_isAnythingOwed_45 (by decide) ?_
      exact z_zret hx hb hr hlocks (zb_narrow (Or.inl rfl)) hS (Nat.le_of_ble_eq_true rfl) (Nat.le_of_ble_eq_true rfl) dX6_isAnythingOwed_46 ⟨by rw [zB_f (fun q9 => by obtain ⟨k, h1, h2⟩ := q9; exact h2 (hno k (by have := hW.1; omega) h1))], rfl⟩
    · have c12 : i < 10 := by rcases Nat.lt_or_ge i 10 with q | q; exact q; exact absurd (nI_le (a := 10) q (by omega)) c12
      refine lv_aload_n hx hb dX6_isAnythingOwed_15 rfl (lv_at hl 2 rfl) ?_
      refine lv_iload_n hx hb dX6_isAnythingOwed_16 rfl (lv_at hl 0 rfl) ?_
      rcases Nat.lt_or_ge i nw with hwn | hwn
      · refine z_aaldv (v := .ref (WA i)) hx hb hK hS h_wr rfl (vp_in_nI c12 (by omega)) (by rw [nI_clamp (by omega), (hW.2.1 i hwn).1]; rfl) dX6_isAnythingOwed_17 ?_
        have hwi := hW.2.1 i hwn
        have h_wi := hwi.2.1
        have h_pi := hwi.2.2.1
        refine lv_astore (lv' := [(4, .ref (WA i)), (3, .int (nI i)), (2, .int (10)), (1, .ref (wks)), (0, .ref (of))]) hx hb dX6_isAnythingOwed_18 hl (by decide) rfl (fun ls hl => ?_)
        refine lv_aload hx hb dX6_isAnythingOwed_20 (lv_at hl 0 rfl) ?_
        refine lv_ifnull hx hb dX6_isAnythingOwed_22 ?_
        refine lv_aload hx hb dX6_isAnythingOwed_25 (lv_at hl 0 rfl) ?_
        refine lv_bipush (v := 10) hx hb dX6_isAnythingOwed_27 (by decide) ?_
        refine z_rV (As := [.int (10)]) (rest := []) (n := 1) ⟨hx, hb, hml, hown, hts⟩ (c_X5_total l D cs w H.size (WA i) (WT i) (WP i) (WS i) (hd i) (se i) (PR i) (PA i) (TE i) (PP i) (bo i) (br i) (V i) (PT i) 10 hwi.2.2.2.1 hwi.2.2.2.2 h_wi h_pi) gX6_isAnythingOwed_X5_total rfl ⟨rfl, by decide +kernel, by decide +kernel, by decide +kernel⟩ ⟨Nat.le_of_ble_eq_true rfl, Nat.le_of_ble_eq_true rfl⟩ hK hE hS rfl h_wi rfl hl.1 rfl (Nat.le_of_ble_eq_true rfl) dX6_isAnythingOwed_29 ⟨Nat.le_of_ble_eq_true rfl, Nat.le_of_ble_eq_true rfl⟩ (fun H locs hS => ?_)
        refine lv_lconst (v := 0) hx hb dX6_isAnythingOwed_32 (by decide) ?_
        refine z_lif_eq (tgt := 39) hx hb dX6_isAnythingOwed_33 dX6_isAnythingOwed_34 (by decide) (fun c33 => ?_) (fun c33 => ?_)
        · refine lv_iinc (v := nI (i + 1)) (lv' := [(3, .int (nI (i + 1))), (4, .ref (WA i)), (2, .int (10)), (1, .ref (wks)), (0, .ref (of))]) hx hb dX6_isAnythingOwed_39 hl (k := 1) rfl (nI_1 _) (by decide) rfl (fun ls hl => ?_)
          refine lv_goto (tgt := 10) hx hb dX6_isAnythingOwed_42 (by decide) ?_
          exact ih c12 (by omega) (fun k hk hk2 => by rcases (show k < i ∨ k = i by omega) with q | q; exact hno k q hk2; rw [q]; exact c33)  _ _ _ hS (lv_sub hl [0, 2, 3, 4] rfl)
        · refine lv_iconst (v := 1) hx hb dX6_isAnythingOwed_37 (by decide) ?_
          exact z_zret hx hb hr hlocks (zb_narrow (Or.inr rfl)) hS (Nat.le_of_ble_eq_true rfl) (Nat.le_of_ble_eq_true rfl) dX6_isAnythingOwed_38 ⟨by rw [zB_t ⟨i, hwn, c33⟩], rfl⟩
      · refine z_aaldv (v := .null) hx hb hK hS h_wr rfl (vp_in_nI c12 (by omega)) (by rw [nI_clamp (by omega), hW.2.2 i hwn c12]; rfl) dX6_isAnythingOwed_17 ?_
        refine lv_astoreN (lv' := [(4, .null), (3, .int (nI i)), (2, .int (10)), (1, .ref (wks)), (0, .ref (of))]) hx hb dX6_isAnythingOwed_18 hl (by decide) rfl (fun ls hl => ?_)
        refine lv_aloadN hx hb dX6_isAnythingOwed_20 (lv_at hl 0 rfl) ?_
        refine lv_ifnullN (tgt := 39) hx hb dX6_isAnythingOwed_22 (by decide) ?_
        refine lv_iinc (v := nI (i + 1)) (lv' := [(3, .int (nI (i + 1))), (4, .null), (2, .int (10)), (1, .ref (wks)), (0, .ref (of))]) hx hb dX6_isAnythingOwed_39 hl (k := 1) rfl (nI_1 _) (by decide) rfl (fun ls hl => ?_)
        refine lv_goto (tgt := 10) hx hb dX6_isAnythingOwed_42 (by decide) ?_
        exact ih c12 (by omega) (fun k hk hk2 => by rcases (show k < i ∨ k = i by omega) with q | q; exact hno k q hk2; omega)  _ _ _ hS (lv_sub hl [0, 2, 3, 4] rfl)
  refine lv_aload_n hx hb dX6_isAnythingOwed_0 rfl (lv_at hl 0 rfl) ?_
  refine z_get (C := RX6) (T := TX6) (N := 10) (v := .ref (wks)) hx hb hts (by decide +kernel) hown hK hS h_f rfl 2 (by decide) (hts (.fieldLink RX6 23 "PayLedger" "workers" "[LPayLedger$Worker;") (by decide +kernel)) rfl dX6_isAnythingOwed_1 ?_
  refine lv_astore_n (lv' := [(1, .ref (wks)), (0, .ref (of))]) hx hb dX6_isAnythingOwed_4 rfl hl (by decide) rfl (fun ls hl => ?_)
  refine lv_aload_n hx hb dX6_isAnythingOwed_5 rfl (lv_at hl 0 rfl) ?_
  refine z_alen (t0 := 6) (v := 10) hx hb hK hS h_wr rfl rfl dX6_isAnythingOwed_6 ?_
  refine lv_istore_n (lv' := [(2, .int (10)), (1, .ref (wks)), (0, .ref (of))]) hx hb dX6_isAnythingOwed_7 rfl hl (by decide) rfl (fun ls hl => ?_)
  refine lv_iconst (v := 0) hx hb dX6_isAnythingOwed_8 (by decide) ?_
  refine lv_istore_n (lv' := [(3, .int (0)), (2, .int (10)), (1, .ref (wks)), (0, .ref (of))]) hx hb dX6_isAnythingOwed_9 rfl hl (by decide) rfl (fun ls hl => ?_)
  exact L10 0 (by omega) (fun k hk => absurd hk (by omega))  _ _ _ hS (lv_sub hl [0, 1, 2, 3] rfl)
set_option maxHeartbeats 4000000 in
set_option maxRecDepth 100000 in
theorem c_X6_sum (l : Launch) (D : va_G) (cs : Nat → ClassId) (w : zw) (sz : Nat) (of tbs dds wks aa : Nat) (tc dc wc brt yr wd : Int32) (WR : Nat → Option Nat) (WA WT WP WS hd : Nat → Nat) (se : Nat → Int64) (PR : Nat → Nat → Option Nat) (PA TE PP : Nat → Nat → Nat) (bo br : Nat → Nat → Int32) (V PT : Nat → Nat → Nat → Int64) (nw : Nat) (k : Nat) (what : Int32) (hW : zWks cs w WR WA WT WP WS hd se PR PA TE PP bo br V PT nw) (hk : k < nw) (hwh : zUpTo what.toInt64 10 = 1) (h_f : w (of) = some (.inr (6, [.ref (tbs), .ref (dds), .ref (wks), .ref (aa), .int (tc), .int (dc), .int (wc), .int (brt), .int (yr), .int (wd)]))) (h_wr : w (wks) = some (eR cs 6 (10) (WR))) : zMr l D cs yX6_sum wsX6_sum 3 w sz [.ref (of), .int (nI k), .int (what)] (.long (zTotal (bo k) (V k) (hd k) (se k) what)) := by
  refine z_met (cc := cX6_sum) (maxL := 4) (ret := (some .long)) (by decide) rfl (Nat.le_of_ble_eq_true rfl) ?_
  intro p e s m below meth c hx hb hr hml hown hts hlocks hnm hsz hK hE hS ls hl
  have hl : lv_has ls 4 [(0, .ref (of)), (1, .int (nI k)), (2, .int (what))] := hl
  refine lv_aload_n hx hb dX6_sum_0 rfl (lv_at hl 0 rfl) ?_
  refine lv_iload_n hx hb dX6_sum_1 rfl (lv_at hl 1 rfl) ?_
  refine z_rV (As := [.int (nI k)]) (rest := []) (n := 1) ⟨hx, hb, hml, hown, hts⟩ (c_X6_workerNumbered l D cs w s.heap.size of tbs dds wks aa tc dc wc brt yr wd WR WA nw k (⟨hW.1, fun i hi => (hW.2.1 i hi).1, hW.2.2⟩) hk h_f h_wr) gX6_sum_X6_workerNumbered rfl ⟨rfl, by decide +kernel, by decide +kernel, by decide +kernel⟩ ⟨Nat.le_of_ble_eq_true rfl, Nat.le_of_ble_eq_true rfl⟩ hK hE hS rfl h_f rfl hl.1 rfl (Nat.le_of_ble_eq_true rfl) dX6_sum_2 ⟨Nat.le_of_ble_eq_true rfl, Nat.le_of_ble_eq_true rfl⟩ (fun H locs hS => ?_)
  have hwi := hW.2.1 k hk
  have h_wi := hwi.2.1
  have h_pi := hwi.2.2.1
  refine lv_astore_n (lv' := [(3, .ref (WA k)), (0, .ref (of)), (1, .int (nI k)), (2, .int (what))]) hx hb dX6_sum_5 rfl hl (by decide) rfl (fun ls hl => ?_)
  refine lv_iload_n hx hb dX6_sum_6 rfl (lv_at hl 3 rfl) ?_
  refine lv_i2l (v := ((what : Int32).toInt64)) hx hb dX6_sum_7 rfl ?_
  refine lv_ldc2 (v := 10) hx hb hown (hts (.constantLong RX6 217 (10)) (by decide +kernel)) dX6_sum_8 ?_
  refine z_rS (As := [.long (((what : Int32).toInt64)), .long (10)]) (rest := []) (n := 2) ⟨hx, hb, hml, hown, hts⟩ (c_X6_isUpTo l D cs w H.size (what : Int32).toInt64 10) gX6_sum_X6_isUpTo rfl ⟨by decide +kernel, by decide +kernel, by decide +kernel⟩ ⟨Nat.le_of_ble_eq_true rfl, Nat.le_of_ble_eq_true rfl⟩ hK hE hS rfl hl.1 rfl (Nat.le_of_ble_eq_true rfl) dX6_sum_11 ⟨Nat.le_of_ble_eq_true rfl, Nat.le_of_ble_eq_true rfl⟩ (fun H locs hS => ?_)
  refine lv_if_ne (tgt := 27) hx hb dX6_sum_14 (by decide) (fun _ => ?_) (fun cq9 => absurd cq9 (by rw [hwh]; decide))
  refine lv_aload_n hx hb dX6_sum_27 rfl (lv_at hl 0 rfl) ?_
  refine lv_iload_n hx hb dX6_sum_28 rfl (lv_at hl 3 rfl) ?_
  refine z_rV (As := [.int (what)]) (rest := []) (n := 1) ⟨hx, hb, hml, hown, hts⟩ (c_X5_total l D cs w H.size (WA k) (WT k) (WP k) (WS k) (hd k) (se k) (PR k) (PA k) (TE k) (PP k) (bo k) (br k) (V k) (PT k) what hwi.2.2.2.1 hwi.2.2.2.2 h_wi h_pi) gX6_sum_X5_total rfl ⟨rfl, by decide +kernel, by decide +kernel, by decide +kernel⟩ ⟨Nat.le_of_ble_eq_true rfl, Nat.le_of_ble_eq_true rfl⟩ hK hE hS rfl h_wi rfl hl.1 rfl (Nat.le_of_ble_eq_true rfl) dX6_sum_29 ⟨Nat.le_of_ble_eq_true rfl, Nat.le_of_ble_eq_true rfl⟩ (fun H locs hS => ?_)
  exact z_lret hx hb hr hlocks hS (Nat.le_of_ble_eq_true rfl) (Nat.le_of_ble_eq_true rfl) dX6_sum_32 ⟨rfl, rfl⟩
set_option maxHeartbeats 4000000 in
set_option maxRecDepth 100000 in
theorem t1_X6_sum (l : Launch) (D : va_G) (cs : Nat → ClassId) (w : zw) (sz : Nat) (of tbs dds wks aa : Nat) (tc dc wc brt yr wd : Int32) (WR : Nat → Option Nat) (WA WT WP WS hd : Nat → Nat) (se : Nat → Int64) (PR : Nat → Nat → Option Nat) (PA TE PP : Nat → Nat → Nat) (bo br : Nat → Nat → Int32) (V PT : Nat → Nat → Nat → Int64) (nw : Nat) (x what : Int32) (hlst : l.stackTraces = false) (hW : zWks cs w WR WA WT WP WS hd se PR PA TE PP bo br V PT nw) (hx9 : ∀ k : Nat, k < nw → x ≠ nI k) (h_f : w (of) = some (.inr (6, [.ref (tbs), .ref (dds), .ref (wks), .ref (aa), .int (tc), .int (dc), .int (wc), .int (brt), .int (yr), .int (wd)]))) (h_wr : w (wks) = some (eR cs 6 (10) (WR))) : zMX l D cs yX6_sum wsX6_sum 3 1 6 w sz [.ref (of), .int (x), .int (what)] (fun _ _ => False) (fun E9 => E9 = "java/lang/IndexOutOfBoundsException") := by
  refine z_metX (cc := cX6_sum) (maxL := 4) (ret := (some .long)) (by decide) rfl (Nat.le_of_ble_eq_true rfl) ?_
  intro p e s m below meth c hx hb hr hml hown hts hlocks hnm hsz hK hE hS ls hl
  have hl : lv_has ls 4 [(0, .ref (of)), (1, .int (x)), (2, .int (what))] := hl
  refine lv_aload_n hx hb dX6_sum_0 rfl (lv_at hl 0 rfl) ?_
  refine lv_iload_n hx hb dX6_sum_1 rfl (lv_at hl 1 rfl) ?_
  refine z_invVX (As := [.int (x)]) (rest := []) (n := 1) ⟨hx, hb, hml, hown, hts⟩ (t_X6_workerNumbered l D cs w s.heap.size of tbs dds wks aa tc dc wc brt yr wd WR WA nw x hlst (⟨hW.1, fun i hi => (hW.2.1 i hi).1, hW.2.2⟩) hx9 h_f h_wr) gX6_sum_X6_workerNumbered rfl ⟨rfl, by decide +kernel, by decide +kernel, by decide +kernel⟩ ⟨Nat.le_of_ble_eq_true rfl, Nat.le_of_ble_eq_true rfl⟩ hK hE hS rfl h_f rfl hl.1 rfl (Nat.le_of_ble_eq_true rfl) dX6_sum_2 ⟨Nat.le_of_ble_eq_true rfl, Nat.le_of_ble_eq_true rfl⟩ (fun E9 ce9 q9 H9 locs9 hp9 hS9 h91 h92 h93 => z_out hS9 hnm hlocks h91 h92 h93 hp9 (Nat.le_of_ble_eq_true rfl) (Nat.le_of_ble_eq_true rfl)) (fun v9 u1 H locs hq hS => absurd hq id)
set_option maxHeartbeats 4000000 in
set_option maxRecDepth 100000 in
theorem t2_X6_sum (l : Launch) (D : va_G) (cs : Nat → ClassId) (w : zw) (sz : Nat) (of tbs dds wks aa : Nat) (tc dc wc brt yr wd : Int32) (WR : Nat → Option Nat) (WA WT WP WS hd : Nat → Nat) (se : Nat → Int64) (PR : Nat → Nat → Option Nat) (PA TE PP : Nat → Nat → Nat) (bo br : Nat → Nat → Int32) (V PT : Nat → Nat → Nat → Int64) (nw : Nat) (k : Nat) (what : Int32) (hlst : l.stackTraces = false) (hW : zWks cs w WR WA WT WP WS hd se PR PA TE PP bo br V PT nw) (hk : k < nw) (hwh : zUpTo what.toInt64 10 = 0) (h_f : w (of) = some (.inr (6, [.ref (tbs), .ref (dds), .ref (wks), .ref (aa), .int (tc), .int (dc), .int (wc), .int (brt), .int (yr), .int (wd)]))) (h_wr : w (wks) = some (eR cs 6 (10) (WR))) : zMX l D cs yX6_sum wsX6_sum 3 1 6 w sz [.ref (of), .int (nI k), .int (what)] (fun _ _ => False) (fun E9 => E9 = "java/lang/IllegalArgumentException") := by
  refine z_metX (cc := cX6_sum) (maxL := 4) (ret := (some .long)) (by decide) rfl (Nat.le_of_ble_eq_true rfl) ?_
  intro p e s m below meth c hx hb hr hml hown hts hlocks hnm hsz hK hE hS ls hl
  have hl : lv_has ls 4 [(0, .ref (of)), (1, .int (nI k)), (2, .int (what))] := hl
  refine lv_aload_n hx hb dX6_sum_0 rfl (lv_at hl 0 rfl) ?_
  refine lv_iload_n hx hb dX6_sum_1 rfl (lv_at hl 1 rfl) ?_
  refine z_rV (As := [.int (nI k)]) (rest := []) (n := 1) ⟨hx, hb, hml, hown, hts⟩ (c_X6_workerNumbered l D cs w s.heap.size of tbs dds wks aa tc dc wc brt yr wd WR WA nw k (⟨hW.1, fun i hi => (hW.2.1 i hi).1, hW.2.2⟩) hk h_f h_wr) gX6_sum_X6_workerNumbered rfl ⟨rfl, by decide +kernel, by decide +kernel, by decide +kernel⟩ ⟨Nat.le_of_ble_eq_true rfl, Nat.le_of_ble_eq_true rfl⟩ hK hE hS rfl h_f rfl hl.1 rfl (Nat.le_of_ble_eq_true rfl) dX6_sum_2 ⟨Nat.le_of_ble_eq_true rfl, Nat.le_of_ble_eq_true rfl⟩ (fun H locs hS => ?_)
  have hwi := hW.2.1 k hk
  have h_wi := hwi.2.1
  have h_pi := hwi.2.2.1
  refine lv_astore_n (lv' := [(3, .ref (WA k)), (0, .ref (of)), (1, .int (nI k)), (2, .int (what))]) hx hb dX6_sum_5 rfl hl (by decide) rfl (fun ls hl => ?_)
  refine lv_iload_n hx hb dX6_sum_6 rfl (lv_at hl 3 rfl) ?_
  refine lv_i2l (v := ((what : Int32).toInt64)) hx hb dX6_sum_7 rfl ?_
  refine lv_ldc2 (v := 10) hx hb hown (hts (.constantLong RX6 217 (10)) (by decide +kernel)) dX6_sum_8 ?_
  refine z_rS (As := [.long (((what : Int32).toInt64)), .long (10)]) (rest := []) (n := 2) ⟨hx, hb, hml, hown, hts⟩ (c_X6_isUpTo l D cs w H.size (what : Int32).toInt64 10) gX6_sum_X6_isUpTo rfl ⟨by decide +kernel, by decide +kernel, by decide +kernel⟩ ⟨Nat.le_of_ble_eq_true rfl, Nat.le_of_ble_eq_true rfl⟩ hK hE hS rfl hl.1 rfl (Nat.le_of_ble_eq_true rfl) dX6_sum_11 ⟨Nat.le_of_ble_eq_true rfl, Nat.le_of_ble_eq_true rfl⟩ (fun H locs hS => ?_)
  refine lv_if_ne (tgt := 27) hx hb dX6_sum_14 (by decide) (fun cq9 => absurd hwh cq9) (fun _ => ?_)
  exact z_thr (text := "no such sum") hx hb hlst hown hts (by decide +kernel) (by decide +kernel) (by decide +kernel) zbad76 (by decide +kernel) (by decide +kernel) (by decide +kernel) (by decide +kernel) hE hS (hl.1.trans hml.symm) dX6_sum_17 dX6_sum_20 dX6_sum_21 dX6_sum_23 dX6_sum_26 hnm ⟨Nat.le_of_ble_eq_true rfl, Nat.le_of_ble_eq_true rfl, Nat.le_of_ble_eq_true rfl, Nat.le_of_ble_eq_true rfl⟩ hlocks rfl (Nat.le_of_ble_eq_true rfl) (Nat.le_of_ble_eq_true rfl)
set_option maxHeartbeats 4000000 in
set_option maxRecDepth 100000 in
theorem c_X6_deducted (l : Launch) (D : va_G) (cs : Nat → ClassId) (w : zw) (sz : Nat) (of tbs dds wks aa : Nat) (tc dc wc brt yr wd : Int32) (WR : Nat → Option Nat) (WA WT WP WS hd : Nat → Nat) (se : Nat → Int64) (PR : Nat → Nat → Option Nat) (PA TE PP : Nat → Nat → Nat) (bo br : Nat → Nat → Int32) (V PT : Nat → Nat → Nat → Int64) (nw : Nat) (DR : Nat → Option Nat) (DA : Nat → Nat) (nd : Nat) (k j : Nat) (hW : zWks cs w WR WA WT WP WS hd se PR PA TE PP bo br V PT nw) (hD : zArrN 8 DR DA nd) (hk : k < nw) (hj : j < nd) (h_f : w (of) = some (.inr (6, [.ref (tbs), .ref (dds), .ref (wks), .ref (aa), .int (tc), .int (dc), .int (wc), .int (brt), .int (yr), .int (wd)]))) (h_wr : w (wks) = some (eR cs 6 (10) (WR))) (h_dr : w (dds) = some (eR cs 3 (8) (DR))) : zMr l D cs yX6_deducted wsX6_deducted 3 w sz [.ref (of), .int (nI k), .int (nI j)] (.long (zSum (fun i => PT k i j) (hd k))) := by
  refine z_met (cc := cX6_deducted) (maxL := 4) (ret := (some .long)) (by decide) rfl (Nat.le_of_ble_eq_true rfl) ?_
  intro p e s m below meth c hx hb hr hml hown hts hlocks hnm hsz hK hE hS ls hl
  have hl : lv_has ls 4 [(0, .ref (of)), (1, .int (nI k)), (2, .int (nI j))] := hl
  refine lv_aload_n hx hb dX6_deducted_0 rfl (lv_at hl 0 rfl) ?_
  refine lv_iload_n hx hb dX6_deducted_1 rfl (lv_at hl 1 rfl) ?_
  refine z_rV (As := [.int (nI k)]) (rest := []) (n := 1) ⟨hx, hb, hml, hown, hts⟩ (c_X6_workerNumbered l D cs w s.heap.size of tbs dds wks aa tc dc wc brt yr wd WR WA nw k (⟨hW.1, fun i hi => (hW.2.1 i hi).1, hW.2.2⟩) hk h_f h_wr) gX6_deducted_X6_workerNumbered rfl ⟨rfl, by decide +kernel, by decide +kernel, by decide +kernel⟩ ⟨Nat.le_of_ble_eq_true rfl, Nat.le_of_ble_eq_true rfl⟩ hK hE hS rfl h_f rfl hl.1 rfl (Nat.le_of_ble_eq_true rfl) dX6_deducted_2 ⟨Nat.le_of_ble_eq_true rfl, Nat.le_of_ble_eq_true rfl⟩ (fun H locs hS => ?_)
  have hwi := hW.2.1 k hk
  have h_wi := hwi.2.1
  have h_pi := hwi.2.2.1
  refine lv_astore_n (lv' := [(3, .ref (WA k)), (0, .ref (of)), (1, .int (nI k)), (2, .int (nI j))]) hx hb dX6_deducted_5 rfl hl (by decide) rfl (fun ls hl => ?_)
  refine lv_aload_n hx hb dX6_deducted_6 rfl (lv_at hl 1 rfl) ?_
  refine lv_iload_n hx hb dX6_deducted_7 rfl (lv_at hl 3 rfl) ?_
  refine z_invV (As := [.int (nI j)]) (rest := []) (n := 1) ⟨hx, hb, hml, hown, hts⟩ (c_X6_needDeduction l D cs w H.size of tbs dds wks aa tc dc wc brt yr wd DR DA nd j hD hj h_f h_dr) gX6_deducted_X6_needDeduction rfl ⟨rfl, by decide +kernel, by decide +kernel, by decide +kernel⟩ ⟨Nat.le_of_ble_eq_true rfl, Nat.le_of_ble_eq_true rfl⟩ hK hE hS rfl h_f rfl hl.1 rfl (Nat.le_of_ble_eq_true rfl) dX6_deducted_8 ⟨Nat.le_of_ble_eq_true rfl, Nat.le_of_ble_eq_true rfl⟩ (fun v9 u1 H locs hq hS => ?_)
  obtain ⟨hv9, hw9⟩ := hq
  subst hv9
  rw [hw9] at hS
  refine W.eq (g2 := F0 m 11 ls []) rfl ?_
  refine lv_aload_n hx hb dX6_deducted_11 rfl (lv_at hl 0 rfl) ?_
  refine lv_iload_n hx hb dX6_deducted_12 rfl (lv_at hl 3 rfl) ?_
  refine z_rV (As := [.int (nI j)]) (rest := []) (n := 1) ⟨hx, hb, hml, hown, hts⟩ (c_X5_totalPart l D cs w H.size (WA k) (WT k) (WP k) (WS k) (hd k) (se k) (PR k) (PA k) (TE k) (PP k) (bo k) (br k) (V k) (PT k) j hwi.2.2.2.1 (by have := hD.1; omega) hwi.2.2.2.2 h_wi h_pi) gX6_deducted_X5_totalPart rfl ⟨rfl, by decide +kernel, by decide +kernel, by decide +kernel⟩ ⟨Nat.le_of_ble_eq_true rfl, Nat.le_of_ble_eq_true rfl⟩ hK hE hS rfl h_wi rfl hl.1 rfl (Nat.le_of_ble_eq_true rfl) dX6_deducted_13 ⟨Nat.le_of_ble_eq_true rfl, Nat.le_of_ble_eq_true rfl⟩ (fun H locs hS => ?_)
  exact z_lret hx hb hr hlocks hS (Nat.le_of_ble_eq_true rfl) (Nat.le_of_ble_eq_true rfl) dX6_deducted_16 ⟨rfl, rfl⟩
set_option maxHeartbeats 4000000 in
set_option maxRecDepth 100000 in
theorem t1_X6_deducted (l : Launch) (D : va_G) (cs : Nat → ClassId) (w : zw) (sz : Nat) (of tbs dds wks aa : Nat) (tc dc wc brt yr wd : Int32) (WR : Nat → Option Nat) (WA WT WP WS hd : Nat → Nat) (se : Nat → Int64) (PR : Nat → Nat → Option Nat) (PA TE PP : Nat → Nat → Nat) (bo br : Nat → Nat → Int32) (V PT : Nat → Nat → Nat → Int64) (nw : Nat) (x y : Int32) (hlst : l.stackTraces = false) (hW : zWks cs w WR WA WT WP WS hd se PR PA TE PP bo br V PT nw) (hx9 : ∀ k : Nat, k < nw → x ≠ nI k) (h_f : w (of) = some (.inr (6, [.ref (tbs), .ref (dds), .ref (wks), .ref (aa), .int (tc), .int (dc), .int (wc), .int (brt), .int (yr), .int (wd)]))) (h_wr : w (wks) = some (eR cs 6 (10) (WR))) : zMX l D cs yX6_deducted wsX6_deducted 3 1 6 w sz [.ref (of), .int (x), .int (y)] (fun _ _ => False) (fun E9 => E9 = "java/lang/IndexOutOfBoundsException") := by
  refine z_metX (cc := cX6_deducted) (maxL := 4) (ret := (some .long)) (by decide) rfl (Nat.le_of_ble_eq_true rfl) ?_
  intro p e s m below meth c hx hb hr hml hown hts hlocks hnm hsz hK hE hS ls hl
  have hl : lv_has ls 4 [(0, .ref (of)), (1, .int (x)), (2, .int (y))] := hl
  refine lv_aload_n hx hb dX6_deducted_0 rfl (lv_at hl 0 rfl) ?_
  refine lv_iload_n hx hb dX6_deducted_1 rfl (lv_at hl 1 rfl) ?_
  refine z_invVX (As := [.int (x)]) (rest := []) (n := 1) ⟨hx, hb, hml, hown, hts⟩ (t_X6_workerNumbered l D cs w s.heap.size of tbs dds wks aa tc dc wc brt yr wd WR WA nw x hlst (⟨hW.1, fun i hi => (hW.2.1 i hi).1, hW.2.2⟩) hx9 h_f h_wr) gX6_deducted_X6_workerNumbered rfl ⟨rfl, by decide +kernel, by decide +kernel, by decide +kernel⟩ ⟨Nat.le_of_ble_eq_true rfl, Nat.le_of_ble_eq_true rfl⟩ hK hE hS rfl h_f rfl hl.1 rfl (Nat.le_of_ble_eq_true rfl) dX6_deducted_2 ⟨Nat.le_of_ble_eq_true rfl, Nat.le_of_ble_eq_true rfl⟩ (fun E9 ce9 q9 H9 locs9 hp9 hS9 h91 h92 h93 => z_out hS9 hnm hlocks h91 h92 h93 hp9 (Nat.le_of_ble_eq_true rfl) (Nat.le_of_ble_eq_true rfl)) (fun v9 u1 H locs hq hS => absurd hq id)
set_option maxHeartbeats 4000000 in
set_option maxRecDepth 100000 in
theorem t2_X6_deducted (l : Launch) (D : va_G) (cs : Nat → ClassId) (w : zw) (sz : Nat) (of tbs dds wks aa : Nat) (tc dc wc brt yr wd : Int32) (WR : Nat → Option Nat) (WA WT WP WS hd : Nat → Nat) (se : Nat → Int64) (PR : Nat → Nat → Option Nat) (PA TE PP : Nat → Nat → Nat) (bo br : Nat → Nat → Int32) (V PT : Nat → Nat → Nat → Int64) (nw : Nat) (DR : Nat → Option Nat) (DA : Nat → Nat) (nd : Nat) (k : Nat) (y : Int32) (hlst : l.stackTraces = false) (hW : zWks cs w WR WA WT WP WS hd se PR PA TE PP bo br V PT nw) (hD : zArrN 8 DR DA nd) (hk : k < nw) (hy9 : ∀ k : Nat, k < nd → y ≠ nI k) (h_f : w (of) = some (.inr (6, [.ref (tbs), .ref (dds), .ref (wks), .ref (aa), .int (tc), .int (dc), .int (wc), .int (brt), .int (yr), .int (wd)]))) (h_wr : w (wks) = some (eR cs 6 (10) (WR))) (h_dr : w (dds) = some (eR cs 3 (8) (DR))) : zMX l D cs yX6_deducted wsX6_deducted 3 1 6 w sz [.ref (of), .int (nI k), .int (y)] (fun _ _ => False) (fun E9 => E9 = "java/lang/IndexOutOfBoundsException") := by
  refine z_metX (cc := cX6_deducted) (maxL := 4) (ret := (some .long)) (by decide) rfl (Nat.le_of_ble_eq_true rfl) ?_
  intro p e s m below meth c hx hb hr hml hown hts hlocks hnm hsz hK hE hS ls hl
  have hl : lv_has ls 4 [(0, .ref (of)), (1, .int (nI k)), (2, .int (y))] := hl
  refine lv_aload_n hx hb dX6_deducted_0 rfl (lv_at hl 0 rfl) ?_
  refine lv_iload_n hx hb dX6_deducted_1 rfl (lv_at hl 1 rfl) ?_
  refine z_rV (As := [.int (nI k)]) (rest := []) (n := 1) ⟨hx, hb, hml, hown, hts⟩ (c_X6_workerNumbered l D cs w s.heap.size of tbs dds wks aa tc dc wc brt yr wd WR WA nw k (⟨hW.1, fun i hi => (hW.2.1 i hi).1, hW.2.2⟩) hk h_f h_wr) gX6_deducted_X6_workerNumbered rfl ⟨rfl, by decide +kernel, by decide +kernel, by decide +kernel⟩ ⟨Nat.le_of_ble_eq_true rfl, Nat.le_of_ble_eq_true rfl⟩ hK hE hS rfl h_f rfl hl.1 rfl (Nat.le_of_ble_eq_true rfl) dX6_deducted_2 ⟨Nat.le_of_ble_eq_true rfl, Nat.le_of_ble_eq_true rfl⟩ (fun H locs hS => ?_)
  have hwi := hW.2.1 k hk
  have h_wi := hwi.2.1
  have h_pi := hwi.2.2.1
  refine lv_astore_n (lv' := [(3, .ref (WA k)), (0, .ref (of)), (1, .int (nI k)), (2, .int (y))]) hx hb dX6_deducted_5 rfl hl (by decide) rfl (fun ls hl => ?_)
  refine lv_aload_n hx hb dX6_deducted_6 rfl (lv_at hl 1 rfl) ?_
  refine lv_iload_n hx hb dX6_deducted_7 rfl (lv_at hl 3 rfl) ?_
  refine z_invVX (As := [.int (y)]) (rest := []) (n := 1) ⟨hx, hb, hml, hown, hts⟩ (t_X6_needDeduction l D cs w H.size of tbs dds wks aa tc dc wc brt yr wd DR DA nd y hlst hD hy9 h_f h_dr) gX6_deducted_X6_needDeduction rfl ⟨rfl, by decide +kernel, by decide +kernel, by decide +kernel⟩ ⟨Nat.le_of_ble_eq_true rfl, Nat.le_of_ble_eq_true rfl⟩ hK hE hS rfl h_f rfl hl.1 rfl (Nat.le_of_ble_eq_true rfl) dX6_deducted_8 ⟨Nat.le_of_ble_eq_true rfl, Nat.le_of_ble_eq_true rfl⟩ (fun E9 ce9 q9 H9 locs9 hp9 hS9 h91 h92 h93 => z_out hS9 hnm hlocks h91 h92 h93 hp9 (Nat.le_of_ble_eq_true rfl) (Nat.le_of_ble_eq_true rfl)) (fun v9 u1 H locs hq hS => absurd hq id)
set_option maxHeartbeats 4000000 in
set_option maxRecDepth 100000 in
theorem c_X6_settle (l : Launch) (D : va_G) (cs : Nat → ClassId) (w : zw) (sz : Nat) (of tbs dds wks aa : Nat) (tc dc wc brt yr wd : Int32) (WR : Nat → Option Nat) (WA WT WP WS hd : Nat → Nat) (se : Nat → Int64) (PR : Nat → Nat → Option Nat) (PA TE PP : Nat → Nat → Nat) (bo br : Nat → Nat → Int32) (V PT : Nat → Nat → Nat → Int64) (nw : Nat) (k : Nat) (hW : zWks cs w WR WA WT WP WS hd se PR PA TE PP bo br V PT nw) (hk : k < nw) (h_f : w (of) = some (.inr (6, [.ref (tbs), .ref (dds), .ref (wks), .ref (aa), .int (tc), .int (dc), .int (wc), .int (brt), .int (yr), .int (wd)]))) (h_wr : w (wks) = some (eR cs 6 (10) (WR))) : zM l D cs yX6_settle wsX6_settle 3 0 0 w sz [.ref (of), .int (nI k)] (fun r w2 => r = some (.long (zTotal (bo k) (V k) (hd k) (se k) 10)) ∧ zEx w w2 [(WA k, .inr (5, [.ref (WT k), .ref (WP k), .ref (WS k), .int (nI (hd k)), .long (se k + zTotal (bo k) (V k) (hd k) (se k) 10)]))]) := by
  refine z_met (cc := cX6_settle) (maxL := 5) (ret := (some .long)) (by decide) rfl (Nat.le_of_ble_eq_true rfl) ?_
  intro p e s m below meth c hx hb hr hml hown hts hlocks hnm hsz hK hE hS ls hl
  have hl : lv_has ls 5 [(0, .ref (of)), (1, .int (nI k))] := hl
  refine lv_aload_n hx hb dX6_settle_0 rfl (lv_at hl 0 rfl) ?_
  refine lv_iload_n hx hb dX6_settle_1 rfl (lv_at hl 1 rfl) ?_
  refine z_rV (As := [.int (nI k)]) (rest := []) (n := 1) ⟨hx, hb, hml, hown, hts⟩ (c_X6_workerNumbered l D cs w s.heap.size of tbs dds wks aa tc dc wc brt yr wd WR WA nw k (⟨hW.1, fun i hi => (hW.2.1 i hi).1, hW.2.2⟩) hk h_f h_wr) gX6_settle_X6_workerNumbered rfl ⟨rfl, by decide +kernel, by decide +kernel, by decide +kernel⟩ ⟨Nat.le_of_ble_eq_true rfl, Nat.le_of_ble_eq_true rfl⟩ hK hE hS rfl h_f rfl hl.1 rfl (Nat.le_of_ble_eq_true rfl) dX6_settle_2 ⟨Nat.le_of_ble_eq_true rfl, Nat.le_of_ble_eq_true rfl⟩ (fun H locs hS => ?_)
  have hwi := hW.2.1 k hk
  have h_wi := hwi.2.1
  have h_pi := hwi.2.2.1
  refine lv_astore_n (lv' := [(2, .ref (WA k)), (0, .ref (of)), (1, .int (nI k))]) hx hb dX6_settle_5 rfl hl (by decide) rfl (fun ls hl => ?_)
  refine lv_aload_n hx hb dX6_settle_6 rfl (lv_at hl 0 rfl) ?_
  refine lv_bipush (v := 10) hx hb dX6_settle_7 (by decide) ?_
  refine z_rV (As := [.int (10)]) (rest := []) (n := 1) ⟨hx, hb, hml, hown, hts⟩ (c_X5_total l D cs w H.size (WA k) (WT k) (WP k) (WS k) (hd k) (se k) (PR k) (PA k) (TE k) (PP k) (bo k) (br k) (V k) (PT k) 10 hwi.2.2.2.1 hwi.2.2.2.2 h_wi h_pi) gX6_settle_X5_total rfl ⟨rfl, by decide +kernel, by decide +kernel, by decide +kernel⟩ ⟨Nat.le_of_ble_eq_true rfl, Nat.le_of_ble_eq_true rfl⟩ hK hE hS rfl h_wi rfl hl.1 rfl (Nat.le_of_ble_eq_true rfl) dX6_settle_9 ⟨Nat.le_of_ble_eq_true rfl, Nat.le_of_ble_eq_true rfl⟩ (fun H locs hS => ?_)
  refine lv_lstore_n (lv' := [(3, .long (zTotal (bo k) (V k) (hd k) (se k) 10)), (2, .ref (WA k)), (0, .ref (of)), (1, .int (nI k))]) hx hb dX6_settle_12 rfl hl (by decide) rfl (fun ls hl => ?_)
  refine lv_aload_n hx hb dX6_settle_13 rfl (lv_at hl 1 rfl) ?_
  refine lv_dup hx hb dX6_settle_14 rfl ?_
  refine z_get (C := RX5) (T := TX5) (N := 5) (v := .long (se k)) hx hb hts (by decide +kernel) hown hK hS h_wi rfl 4 (by decide) (hts (.fieldLink RX6 227 "PayLedger$Worker" "settled" "J") (by decide +kernel)) rfl dX6_settle_15 ?_
  refine lv_lload_n hx hb dX6_settle_18 rfl (lv_at hl 0 rfl) ?_
  refine lv_ladd hx hb dX6_settle_19 ?_
  refine z_put (C := RX5) (T := TX5) (N := 5) (v := .long ((se k + zTotal (bo k) (V k) (hd k) (se k) 10))) hx hb hts (by decide +kernel) tyX5 tyX5_ok nmX5 hown hK hS h_wi rfl 4 (by decide) (hts (.fieldLink RX6 227 "PayLedger$Worker" "settled" "J") (by decide +kernel)) rfl rfl rfl (Nat.le_of_ble_eq_true rfl) dX6_settle_20 (fun H locs hS => ?_)
  obtain ⟨w1, ew1⟩ : ∃ z : zw, z = va_up w (WA k) (some (.inr (5, [.ref (WT k), .ref (WP k), .ref (WS k), .int (nI (hd k)), .long ((se k + zTotal (bo k) (V k) (hd k) (se k) 10))]))) := ⟨_, rfl⟩
  have hS : zS (zA w sz) D w1 s.heap H locs := by rw [ew1]; exact hS
  have h1_WAk : w1 (WA k) = some (.inr (5, [.ref (WT k), .ref (WP k), .ref (WS k), .int (nI (hd k)), .long ((se k + zTotal (bo k) (V k) (hd k) (se k) 10))])) := by rw [ew1]; exact va_up_self _ _ _
  have h1_of : w1 (of) = some (.inr (6, [.ref (tbs), .ref (dds), .ref (wks), .ref (aa), .int (tc), .int (dc), .int (wc), .int (brt), .int (yr), .int (wd)])) := by rw [ew1]; exact (va_up_ne _ _ (zne h_f h_wi (by intro q9; first | cases q9 | simp at q9))).trans h_f
  have h1_wks : w1 (wks) = some (eR cs 6 (10) (WR)) := by rw [ew1]; exact (va_up_ne _ _ (zne h_wr h_wi (by intro q9; first | cases q9 | simp at q9))).trans h_wr
  have h1_WPk : w1 (WP k) = some (eR cs 4 (60) (PR k)) := by rw [ew1]; exact (va_up_ne _ _ (zne h_pi h_wi (by intro q9; first | cases q9 | simp at q9))).trans h_pi
  refine lv_lload_n hx hb dX6_settle_23 rfl (lv_at hl 0 rfl) ?_
  have hex : zEx w w1 [(WA k, (.inr (5, [.ref (WT k), .ref (WP k), .ref (WS k), .int (nI (hd k)), .long ((se k + zTotal (bo k) (V k) (hd k) (se k) 10))])))] := ⟨(zm1 h1_WAk zm0), fun a9 h9 => by rw [ew1, va_up_ne _ _ (show a9 ≠ WA k from h9 (WA k, (.inr (5, [.ref (WT k), .ref (WP k), .ref (WS k), .int (nI (hd k)), .long ((se k + zTotal (bo k) (V k) (hd k) (se k) 10))]))) (List.mem_of_getElem? (i := 0) rfl))]⟩
  exact z_lret hx hb hr hlocks hS (Nat.le_of_ble_eq_true rfl) (Nat.le_of_ble_eq_true rfl) dX6_settle_24 ⟨rfl, hex⟩
set_option maxHeartbeats 4000000 in
set_option maxRecDepth 100000 in
theorem t1_X6_settle (l : Launch) (D : va_G) (cs : Nat → ClassId) (w : zw) (sz : Nat) (of tbs dds wks aa : Nat) (tc dc wc brt yr wd : Int32) (WR : Nat → Option Nat) (WA WT WP WS hd : Nat → Nat) (se : Nat → Int64) (PR : Nat → Nat → Option Nat) (PA TE PP : Nat → Nat → Nat) (bo br : Nat → Nat → Int32) (V PT : Nat → Nat → Nat → Int64) (nw : Nat) (x : Int32) (hlst : l.stackTraces = false) (hW : zWks cs w WR WA WT WP WS hd se PR PA TE PP bo br V PT nw) (hx9 : ∀ k : Nat, k < nw → x ≠ nI k) (h_f : w (of) = some (.inr (6, [.ref (tbs), .ref (dds), .ref (wks), .ref (aa), .int (tc), .int (dc), .int (wc), .int (brt), .int (yr), .int (wd)]))) (h_wr : w (wks) = some (eR cs 6 (10) (WR))) : zMX l D cs yX6_settle wsX6_settle 3 1 6 w sz [.ref (of), .int (x)] (fun _ _ => False) (fun E9 => E9 = "java/lang/IndexOutOfBoundsException") := by
  refine z_metX (cc := cX6_settle) (maxL := 5) (ret := (some .long)) (by decide) rfl (Nat.le_of_ble_eq_true rfl) ?_
  intro p e s m below meth c hx hb hr hml hown hts hlocks hnm hsz hK hE hS ls hl
  have hl : lv_has ls 5 [(0, .ref (of)), (1, .int (x))] := hl
  refine lv_aload_n hx hb dX6_settle_0 rfl (lv_at hl 0 rfl) ?_
  refine lv_iload_n hx hb dX6_settle_1 rfl (lv_at hl 1 rfl) ?_
  refine z_invVX (As := [.int (x)]) (rest := []) (n := 1) ⟨hx, hb, hml, hown, hts⟩ (t_X6_workerNumbered l D cs w s.heap.size of tbs dds wks aa tc dc wc brt yr wd WR WA nw x hlst (⟨hW.1, fun i hi => (hW.2.1 i hi).1, hW.2.2⟩) hx9 h_f h_wr) gX6_settle_X6_workerNumbered rfl ⟨rfl, by decide +kernel, by decide +kernel, by decide +kernel⟩ ⟨Nat.le_of_ble_eq_true rfl, Nat.le_of_ble_eq_true rfl⟩ hK hE hS rfl h_f rfl hl.1 rfl (Nat.le_of_ble_eq_true rfl) dX6_settle_2 ⟨Nat.le_of_ble_eq_true rfl, Nat.le_of_ble_eq_true rfl⟩ (fun E9 ce9 q9 H9 locs9 hp9 hS9 h91 h92 h93 => z_out hS9 hnm hlocks h91 h92 h93 hp9 (Nat.le_of_ble_eq_true rfl) (Nat.le_of_ble_eq_true rfl)) (fun v9 u1 H locs hq hS => absurd hq id)
set_option maxHeartbeats 4000000 in
set_option maxRecDepth 100000 in
theorem c_X6_duty (l : Launch) (D : va_G) (cs : Nat → ClassId) (w : zw) (sz : Nat) (of tbs dds wks aa : Nat) (tc dc wc brt yr wd : Int32) (WR : Nat → Option Nat) (WA WT WP WS hd : Nat → Nat) (se : Nat → Int64) (PR : Nat → Nat → Option Nat) (PA TE PP : Nat → Nat → Nat) (bo br : Nat → Nat → Int32) (V PT : Nat → Nat → Nat → Int64) (nw : Nat) (k : Nat) (t fl ra nt : Nat) (F : Nat → Int64) (G : Nat → Int32) (tk pe me : Int32) (re cr ex : Int64) (en : Int32) (hW : zWks cs w WR WA WT WP WS hd se PR PA TE PP bo br V PT nw) (hk : k < nw) (hnt : nt ≤ 12) (h_f : w (of) = some (.inr (6, [.ref (tbs), .ref (dds), .ref (wks), .ref (aa), .int (tc), .int (dc), .int (wc), .int (brt), .int (yr), .int (wd)]))) (h_wr : w (wks) = some (eR cs 6 (10) (WR))) (h_te : w (WT k) = some (.inr (4, [.ref (t), .int (pe), .int (me), .long (re), .long (cr), .long (ex), .int (en)]))) (h_t : w (t) = some (.inr (3, [.ref (fl), .ref (ra), .int (nI nt), .int (tk)]))) (h_fl : w (fl) = some (eJ cs (12) (F))) (h_ra : w (ra) = some (eI cs (12) (G))) : zMr l D cs yX6_duty wsX6_duty 4 w sz [.ref (of), .int (nI k)] (.long (zDuty F G nt re cr (zTot (bo k) (V k) (hd k) 2))) := by
  refine z_met (cc := cX6_duty) (maxL := 2) (ret := (some .long)) (by decide) rfl (Nat.le_of_ble_eq_true rfl) ?_
  intro p e s m below meth c hx hb hr hml hown hts hlocks hnm hsz hK hE hS ls hl
  have hl : lv_has ls 2 [(0, .ref (of)), (1, .int (nI k))] := hl
  refine lv_aload_n hx hb dX6_duty_0 rfl (lv_at hl 0 rfl) ?_
  refine lv_iload_n hx hb dX6_duty_1 rfl (lv_at hl 1 rfl) ?_
  refine z_rV (As := [.int (nI k)]) (rest := []) (n := 1) ⟨hx, hb, hml, hown, hts⟩ (c_X6_workerNumbered l D cs w s.heap.size of tbs dds wks aa tc dc wc brt yr wd WR WA nw k (⟨hW.1, fun i hi => (hW.2.1 i hi).1, hW.2.2⟩) hk h_f h_wr) gX6_duty_X6_workerNumbered rfl ⟨rfl, by decide +kernel, by decide +kernel, by decide +kernel⟩ ⟨Nat.le_of_ble_eq_true rfl, Nat.le_of_ble_eq_true rfl⟩ hK hE hS rfl h_f rfl hl.1 rfl (Nat.le_of_ble_eq_true rfl) dX6_duty_2 ⟨Nat.le_of_ble_eq_true rfl, Nat.le_of_ble_eq_true rfl⟩ (fun H locs hS => ?_)
  have hwi := hW.2.1 k hk
  have h_wi := hwi.2.1
  have h_pi := hwi.2.2.1
  refine z_rV (As := []) (rest := []) (n := 0) ⟨hx, hb, hml, hown, hts⟩ (c_X5_dutyOfYear l D cs w H.size (WA k) (WT k) (WP k) (WS k) (hd k) (se k) (PR k) (PA k) (TE k) (PP k) (bo k) (br k) (V k) (PT k) t fl ra nt F G tk pe me re cr ex en hwi.2.2.2.1 hnt hwi.2.2.2.2 h_wi h_pi h_te h_t h_fl h_ra) gX6_duty_X5_dutyOfYear rfl ⟨rfl, by decide +kernel, by decide +kernel, by decide +kernel⟩ ⟨Nat.le_of_ble_eq_true rfl, Nat.le_of_ble_eq_true rfl⟩ hK hE hS rfl h_wi rfl hl.1 rfl (Nat.le_of_ble_eq_true rfl) dX6_duty_5 ⟨Nat.le_of_ble_eq_true rfl, Nat.le_of_ble_eq_true rfl⟩ (fun H locs hS => ?_)
  exact z_lret hx hb hr hlocks hS (Nat.le_of_ble_eq_true rfl) (Nat.le_of_ble_eq_true rfl) dX6_duty_8 ⟨rfl, rfl⟩
set_option maxHeartbeats 4000000 in
set_option maxRecDepth 100000 in
theorem t1_X6_duty (l : Launch) (D : va_G) (cs : Nat → ClassId) (w : zw) (sz : Nat) (of tbs dds wks aa : Nat) (tc dc wc brt yr wd : Int32) (WR : Nat → Option Nat) (WA WT WP WS hd : Nat → Nat) (se : Nat → Int64) (PR : Nat → Nat → Option Nat) (PA TE PP : Nat → Nat → Nat) (bo br : Nat → Nat → Int32) (V PT : Nat → Nat → Nat → Int64) (nw : Nat) (x : Int32) (hlst : l.stackTraces = false) (hW : zWks cs w WR WA WT WP WS hd se PR PA TE PP bo br V PT nw) (hx9 : ∀ k : Nat, k < nw → x ≠ nI k) (h_f : w (of) = some (.inr (6, [.ref (tbs), .ref (dds), .ref (wks), .ref (aa), .int (tc), .int (dc), .int (wc), .int (brt), .int (yr), .int (wd)]))) (h_wr : w (wks) = some (eR cs 6 (10) (WR))) : zMX l D cs yX6_duty wsX6_duty 4 1 6 w sz [.ref (of), .int (x)] (fun _ _ => False) (fun E9 => E9 = "java/lang/IndexOutOfBoundsException") := by
  refine z_metX (cc := cX6_duty) (maxL := 2) (ret := (some .long)) (by decide) rfl (Nat.le_of_ble_eq_true rfl) ?_
  intro p e s m below meth c hx hb hr hml hown hts hlocks hnm hsz hK hE hS ls hl
  have hl : lv_has ls 2 [(0, .ref (of)), (1, .int (x))] := hl
  refine lv_aload_n hx hb dX6_duty_0 rfl (lv_at hl 0 rfl) ?_
  refine lv_iload_n hx hb dX6_duty_1 rfl (lv_at hl 1 rfl) ?_
  refine z_invVX (As := [.int (x)]) (rest := []) (n := 1) ⟨hx, hb, hml, hown, hts⟩ (t_X6_workerNumbered l D cs w s.heap.size of tbs dds wks aa tc dc wc brt yr wd WR WA nw x hlst (⟨hW.1, fun i hi => (hW.2.1 i hi).1, hW.2.2⟩) hx9 h_f h_wr) gX6_duty_X6_workerNumbered rfl ⟨rfl, by decide +kernel, by decide +kernel, by decide +kernel⟩ ⟨Nat.le_of_ble_eq_true rfl, Nat.le_of_ble_eq_true rfl⟩ hK hE hS rfl h_f rfl hl.1 rfl (Nat.le_of_ble_eq_true rfl) dX6_duty_2 ⟨Nat.le_of_ble_eq_true rfl, Nat.le_of_ble_eq_true rfl⟩ (fun E9 ce9 q9 H9 locs9 hp9 hS9 h91 h92 h93 => z_out hS9 hnm hlocks h91 h92 h93 hp9 (Nat.le_of_ble_eq_true rfl) (Nat.le_of_ble_eq_true rfl)) (fun v9 u1 H locs hq hS => absurd hq id)
set_option maxHeartbeats 4000000 in
set_option maxRecDepth 100000 in
theorem c_X6_office (l : Launch) (D : va_G) (cs : Nat → ClassId) (w : zw) (sz : Nat) (of tbs dds wks aa : Nat) (tc dc wc brt yr wd : Int32) (WR : Nat → Option Nat) (WA WT WP WS hd : Nat → Nat) (se : Nat → Int64) (PR : Nat → Nat → Option Nat) (PA TE PP : Nat → Nat → Nat) (bo br : Nat → Nat → Int32) (V PT : Nat → Nat → Nat → Int64) (nw : Nat) (what : Int32) (hW : zWks cs w WR WA WT WP WS hd se PR PA TE PP bo br V PT nw) (hwh : zUpTo what.toInt64 10 = 1) (h_f : w (of) = some (.inr (6, [.ref (tbs), .ref (dds), .ref (wks), .ref (aa), .int (tc), .int (dc), .int (wc), .int (brt), .int (yr), .int (wd)]))) (h_wr : w (wks) = some (eR cs 6 (10) (WR))) : zMr l D cs yX6_office wsX6_office 4 w sz [.ref (of), .int (what)] (.long (zSum (fun k => zTotal (bo k) (V k) (hd k) (se k) what) nw)) := by
  refine z_met (cc := cX6_office) (maxL := 2) (ret := (some .long)) (by decide) rfl (Nat.le_of_ble_eq_true rfl) ?_
  intro p e s m below meth c hx hb hr hml hown hts hlocks hnm hsz hK hE hS ls hl
  have hl : lv_has ls 2 [(0, .ref (of)), (1, .int (what))] := hl
  refine lv_iload_n hx hb dX6_office_0 rfl (lv_at hl 1 rfl) ?_
  refine lv_i2l (v := ((what : Int32).toInt64)) hx hb dX6_office_1 rfl ?_
  refine lv_ldc2 (v := 10) hx hb hown (hts (.constantLong RX6 217 (10)) (by decide +kernel)) dX6_office_2 ?_
  refine z_rS (As := [.long (((what : Int32).toInt64)), .long (10)]) (rest := []) (n := 2) ⟨hx, hb, hml, hown, hts⟩ (c_X6_isUpTo l D cs w s.heap.size (what : Int32).toInt64 10) gX6_office_X6_isUpTo rfl ⟨by decide +kernel, by decide +kernel, by decide +kernel⟩ ⟨Nat.le_of_ble_eq_true rfl, Nat.le_of_ble_eq_true rfl⟩ hK hE hS rfl hl.1 rfl (Nat.le_of_ble_eq_true rfl) dX6_office_5 ⟨Nat.le_of_ble_eq_true rfl, Nat.le_of_ble_eq_true rfl⟩ (fun H locs hS => ?_)
  refine lv_if_ne (tgt := 21) hx hb dX6_office_8 (by decide) (fun _ => ?_) (fun cq9 => absurd cq9 (by rw [hwh]; decide))
  refine lv_aload_n hx hb dX6_office_21 rfl (lv_at hl 0 rfl) ?_
  refine lv_iload_n hx hb dX6_office_22 rfl (lv_at hl 1 rfl) ?_
  refine z_rV (As := [.int (what)]) (rest := []) (n := 1) ⟨hx, hb, hml, hown, hts⟩ (c_X6_officeTotal l D cs w H.size of tbs dds wks aa tc dc wc brt yr wd WR WA WT WP WS hd se PR PA TE PP bo br V PT nw what hW h_f h_wr) gX6_office_X6_officeTotal rfl ⟨rfl, by decide +kernel, by decide +kernel, by decide +kernel⟩ ⟨Nat.le_of_ble_eq_true rfl, Nat.le_of_ble_eq_true rfl⟩ hK hE hS rfl h_f rfl hl.1 rfl (Nat.le_of_ble_eq_true rfl) dX6_office_23 ⟨Nat.le_of_ble_eq_true rfl, Nat.le_of_ble_eq_true rfl⟩ (fun H locs hS => ?_)
  exact z_lret hx hb hr hlocks hS (Nat.le_of_ble_eq_true rfl) (Nat.le_of_ble_eq_true rfl) dX6_office_26 ⟨rfl, rfl⟩
set_option maxHeartbeats 4000000 in
set_option maxRecDepth 100000 in
theorem t1_X6_office (l : Launch) (D : va_G) (cs : Nat → ClassId) (w : zw) (sz : Nat) (of tbs dds wks aa : Nat) (tc dc wc brt yr wd : Int32) (WR : Nat → Option Nat) (WA WT WP WS hd : Nat → Nat) (se : Nat → Int64) (PR : Nat → Nat → Option Nat) (PA TE PP : Nat → Nat → Nat) (bo br : Nat → Nat → Int32) (V PT : Nat → Nat → Nat → Int64) (nw : Nat) (what : Int32) (hlst : l.stackTraces = false) (hW : zWks cs w WR WA WT WP WS hd se PR PA TE PP bo br V PT nw) (hwh : zUpTo what.toInt64 10 = 0) (h_f : w (of) = some (.inr (6, [.ref (tbs), .ref (dds), .ref (wks), .ref (aa), .int (tc), .int (dc), .int (wc), .int (brt), .int (yr), .int (wd)]))) (h_wr : w (wks) = some (eR cs 6 (10) (WR))) : zMX l D cs yX6_office wsX6_office 4 1 6 w sz [.ref (of), .int (what)] (fun _ _ => False) (fun E9 => E9 = "java/lang/IllegalArgumentException") := by
  refine z_metX (cc := cX6_office) (maxL := 2) (ret := (some .long)) (by decide) rfl (Nat.le_of_ble_eq_true rfl) ?_
  intro p e s m below meth c hx hb hr hml hown hts hlocks hnm hsz hK hE hS ls hl
  have hl : lv_has ls 2 [(0, .ref (of)), (1, .int (what))] := hl
  refine lv_iload_n hx hb dX6_office_0 rfl (lv_at hl 1 rfl) ?_
  refine lv_i2l (v := ((what : Int32).toInt64)) hx hb dX6_office_1 rfl ?_
  refine lv_ldc2 (v := 10) hx hb hown (hts (.constantLong RX6 217 (10)) (by decide +kernel)) dX6_office_2 ?_
  refine z_rS (As := [.long (((what : Int32).toInt64)), .long (10)]) (rest := []) (n := 2) ⟨hx, hb, hml, hown, hts⟩ (c_X6_isUpTo l D cs w s.heap.size (what : Int32).toInt64 10) gX6_office_X6_isUpTo rfl ⟨by decide +kernel, by decide +kernel, by decide +kernel⟩ ⟨Nat.le_of_ble_eq_true rfl, Nat.le_of_ble_eq_true rfl⟩ hK hE hS rfl hl.1 rfl (Nat.le_of_ble_eq_true rfl) dX6_office_5 ⟨Nat.le_of_ble_eq_true rfl, Nat.le_of_ble_eq_true rfl⟩ (fun H locs hS => ?_)
  refine lv_if_ne (tgt := 21) hx hb dX6_office_8 (by decide) (fun cq9 => absurd hwh cq9) (fun _ => ?_)
  exact z_thr (text := "no such sum") hx hb hlst hown hts (by decide +kernel) (by decide +kernel) (by decide +kernel) zbad76 (by decide +kernel) (by decide +kernel) (by decide +kernel) (by decide +kernel) hE hS (hl.1.trans hml.symm) dX6_office_11 dX6_office_14 dX6_office_15 dX6_office_17 dX6_office_20 hnm ⟨Nat.le_of_ble_eq_true rfl, Nat.le_of_ble_eq_true rfl, Nat.le_of_ble_eq_true rfl, Nat.le_of_ble_eq_true rfl⟩ hlocks rfl (Nat.le_of_ble_eq_true rfl) (Nat.le_of_ble_eq_true rfl)
set_option maxHeartbeats 4000000 in
set_option maxRecDepth 100000 in
theorem c_X6_count (l : Launch) (D : va_G) (cs : Nat → ClassId) (w : zw) (sz : Nat) (of tbs dds wks aa : Nat) (tc dc wc brt yr wd : Int32) (WR : Nat → Option Nat) (WA WT WP WS hd : Nat → Nat) (se : Nat → Int64) (PR : Nat → Nat → Option Nat) (PA TE PP : Nat → Nat → Nat) (bo br : Nat → Nat → Int32) (V PT : Nat → Nat → Nat → Int64) (nw : Nat) (what : Int32) (hW : zWks cs w WR WA WT WP WS hd se PR PA TE PP bo br V PT nw) (h_f : w (of) = some (.inr (6, [.ref (tbs), .ref (dds), .ref (wks), .ref (aa), .int (tc), .int (dc), .int (wc), .int (brt), .int (yr), .int (wd)]))) (h_wr : w (wks) = some (eR cs 6 (10) (WR))) : zMr l D cs yX6_count wsX6_count 4 w sz [.ref (of), .int (what)] (.int ((if what = 0 then tc else if what = 1 then dc else if what = 2 then wc else if what = 3 then yr else if what = 4 then (zSum (fun k => zTotal (bo k) (V k) (hd k) (se k) 8) nw).toInt32 else if what = 5 then wd else if what = 6 then brt else -1))) := by
  refine z_met (cc := cX6_count) (maxL := 2) (ret := (some .int)) (by decide) rfl (Nat.le_of_ble_eq_true rfl) ?_
  intro p e s m below meth c hx hb hr hml hown hts hlocks hnm hsz hK hE hS ls hl
  have hl : lv_has ls 2 [(0, .ref (of)), (1, .int (what))] := hl
  refine lv_iload_n hx hb dX6_count_0 rfl (lv_at hl 1 rfl) ?_
  by_cases t1_0 : what = 0
  · refine lv_tableIn (off := 43) (tgt := 44) hx hb dX6_count_1 (by rw [t1_0]; decide) (by rw [t1_0]; decide) (by rw [t1_0]; rfl) (by decide) ?_
    refine lv_aload_n hx hb dX6_count_44 rfl (lv_at hl 0 rfl) ?_
    refine z_get (C := RX6) (T := TX6) (N := 10) (v := .int (tc)) hx hb hts (by decide +kernel) hown hK hS h_f rfl 4 (by decide) (hts (.fieldLink RX6 34 "PayLedger" "tableCount" "I") (by decide +kernel)) rfl dX6_count_45 ?_
    exact z_iret hx hb hr hlocks hS (Nat.le_of_ble_eq_true rfl) (Nat.le_of_ble_eq_true rfl) dX6_count_48 ⟨by simp only [t1_0]; rfl, rfl⟩
  by_cases t1_1 : what = 1
  · refine lv_tableIn (off := 48) (tgt := 49) hx hb dX6_count_1 (by rw [t1_1]; decide) (by rw [t1_1]; decide) (by rw [t1_1]; rfl) (by decide) ?_
    refine lv_aload_n hx hb dX6_count_49 rfl (lv_at hl 0 rfl) ?_
    refine z_get (C := RX6) (T := TX6) (N := 10) (v := .int (dc)) hx hb hts (by decide +kernel) hown hK hS h_f rfl 5 (by decide) (hts (.fieldLink RX6 38 "PayLedger" "deductionCount" "I") (by decide +kernel)) rfl dX6_count_50 ?_
    exact z_iret hx hb hr hlocks hS (Nat.le_of_ble_eq_true rfl) (Nat.le_of_ble_eq_true rfl) dX6_count_53 ⟨by simp only [t1_1]; rfl, rfl⟩
  by_cases t1_2 : what = 2
  · refine lv_tableIn (off := 53) (tgt := 54) hx hb dX6_count_1 (by rw [t1_2]; decide) (by rw [t1_2]; decide) (by rw [t1_2]; rfl) (by decide) ?_
    refine lv_aload_n hx hb dX6_count_54 rfl (lv_at hl 0 rfl) ?_
    refine z_get (C := RX6) (T := TX6) (N := 10) (v := .int (wc)) hx hb hts (by decide +kernel) hown hK hS h_f rfl 6 (by decide) (hts (.fieldLink RX6 41 "PayLedger" "workerCount" "I") (by decide +kernel)) rfl dX6_count_55 ?_
    exact z_iret hx hb hr hlocks hS (Nat.le_of_ble_eq_true rfl) (Nat.le_of_ble_eq_true rfl) dX6_count_58 ⟨by simp only [t1_2]; rfl, rfl⟩
  by_cases t1_3 : what = 3
  · refine lv_tableIn (off := 58) (tgt := 59) hx hb dX6_count_1 (by rw [t1_3]; decide) (by rw [t1_3]; decide) (by rw [t1_3]; rfl) (by decide) ?_
    refine lv_aload_n hx hb dX6_count_59 rfl (lv_at hl 0 rfl) ?_
    refine z_get (C := RX6) (T := TX6) (N := 10) (v := .int (yr)) hx hb hts (by decide +kernel) hown hK hS h_f rfl 8 (by decide) (hts (.fieldLink RX6 47 "PayLedger" "year" "I") (by decide +kernel)) rfl dX6_count_60 ?_
    exact z_iret hx hb hr hlocks hS (Nat.le_of_ble_eq_true rfl) (Nat.le_of_ble_eq_true rfl) dX6_count_63 ⟨by simp only [t1_3]; rfl, rfl⟩
  by_cases t1_4 : what = 4
  · refine lv_tableIn (off := 63) (tgt := 64) hx hb dX6_count_1 (by rw [t1_4]; decide) (by rw [t1_4]; decide) (by rw [t1_4]; rfl) (by decide) ?_
    refine lv_aload_n hx hb dX6_count_64 rfl (lv_at hl 0 rfl) ?_
    refine lv_bipush (v := 8) hx hb dX6_count_65 (by decide) ?_
    refine z_rV (As := [.int (8)]) (rest := []) (n := 1) ⟨hx, hb, hml, hown, hts⟩ (c_X6_officeTotal l D cs w s.heap.size of tbs dds wks aa tc dc wc brt yr wd WR WA WT WP WS hd se PR PA TE PP bo br V PT nw 8 hW h_f h_wr) gX6_count_X6_officeTotal rfl ⟨rfl, by decide +kernel, by decide +kernel, by decide +kernel⟩ ⟨Nat.le_of_ble_eq_true rfl, Nat.le_of_ble_eq_true rfl⟩ hK hE hS rfl h_f rfl hl.1 rfl (Nat.le_of_ble_eq_true rfl) dX6_count_67 ⟨Nat.le_of_ble_eq_true rfl, Nat.le_of_ble_eq_true rfl⟩ (fun H locs hS => ?_)
    refine lv_l2i (v := ((zSum (fun k => zTotal (bo k) (V k) (hd k) (se k) 8) nw : Int64).toInt32)) hx hb dX6_count_70 rfl ?_
    exact z_iret hx hb hr hlocks hS (Nat.le_of_ble_eq_true rfl) (Nat.le_of_ble_eq_true rfl) dX6_count_71 ⟨by simp only [t1_4]; rfl, rfl⟩
  by_cases t1_5 : what = 5
  · refine lv_tableIn (off := 71) (tgt := 72) hx hb dX6_count_1 (by rw [t1_5]; decide) (by rw [t1_5]; decide) (by rw [t1_5]; rfl) (by decide) ?_
    refine lv_aload_n hx hb dX6_count_72 rfl (lv_at hl 0 rfl) ?_
    refine z_get (C := RX6) (T := TX6) (N := 10) (v := .int (wd)) hx hb hts (by decide +kernel) hown hK hS h_f rfl 9 (by decide) (hts (.fieldLink RX6 50 "PayLedger" "worked" "I") (by decide +kernel)) rfl dX6_count_73 ?_
    exact z_iret hx hb hr hlocks hS (Nat.le_of_ble_eq_true rfl) (Nat.le_of_ble_eq_true rfl) dX6_count_76 ⟨by simp only [t1_5]; rfl, rfl⟩
  by_cases t1_6 : what = 6
  · refine lv_tableIn (off := 76) (tgt := 77) hx hb dX6_count_1 (by rw [t1_6]; decide) (by rw [t1_6]; decide) (by rw [t1_6]; rfl) (by decide) ?_
    refine lv_aload_n hx hb dX6_count_77 rfl (lv_at hl 0 rfl) ?_
    refine z_get (C := RX6) (T := TX6) (N := 10) (v := .int (brt)) hx hb hts (by decide +kernel) hown hK hS h_f rfl 7 (by decide) (hts (.fieldLink RX6 44 "PayLedger" "bonusRate" "I") (by decide +kernel)) rfl dX6_count_78 ?_
    exact z_iret hx hb hr hlocks hS (Nat.le_of_ble_eq_true rfl) (Nat.le_of_ble_eq_true rfl) dX6_count_81 ⟨by simp only [t1_6]; rfl, rfl⟩
  refine lv_tableOut (tgt := 82) hx hb dX6_count_1 (by have q0 := lv_neT (a := 0) t1_0 rfl; have q1 := lv_neT (a := 1) t1_1 rfl; have q2 := lv_neT (a := 2) t1_2 rfl; have q3 := lv_neT (a := 3) t1_3 rfl; have q4 := lv_neT (a := 4) t1_4 rfl; have q5 := lv_neT (a := 5) t1_5 rfl; have q6 := lv_neT (a := 6) t1_6 rfl; omega) (by decide) ?_
  refine lv_iconst (v := -1) hx hb dX6_count_82 (by decide) ?_
  exact z_iret hx hb hr hlocks hS (Nat.le_of_ble_eq_true rfl) (Nat.le_of_ble_eq_true rfl) dX6_count_83 ⟨by rw [if_neg t1_0, if_neg t1_1, if_neg t1_2, if_neg t1_3, if_neg t1_4, if_neg t1_5, if_neg t1_6], rfl⟩
set_option maxHeartbeats 4000000 in
set_option maxRecDepth 100000 in
theorem c_X6_bonus (l : Launch) (D : va_G) (cs : Nat → ClassId) (w : zw) (sz : Nat) (of tbs dds wks aa : Nat) (tc dc wc brt yr wd : Int32) (rate : Int32) (hr9 : zUpTo rate.toInt64 1000000 = 1) (h_f : w (of) = some (.inr (6, [.ref (tbs), .ref (dds), .ref (wks), .ref (aa), .int (tc), .int (dc), .int (wc), .int (brt), .int (yr), .int (wd)]))) : zM l D cs yX6_bonus wsX6_bonus 2 0 0 w sz [.ref (of), .int (rate)] (fun r w2 => r = none ∧ zEx w w2 [(of, .inr (6, [.ref tbs, .ref dds, .ref wks, .ref aa, .int tc, .int dc, .int wc, .int rate, .int yr, .int wd]))]) := by
  refine z_met (cc := cX6_bonus) (maxL := 2) (ret := none) (by decide) rfl (Nat.le_of_ble_eq_true rfl) ?_
  intro p e s m below meth c hx hb hr hml hown hts hlocks hnm hsz hK hE hS ls hl
  have hl : lv_has ls 2 [(0, .ref (of)), (1, .int (rate))] := hl
  refine lv_iload_n hx hb dX6_bonus_0 rfl (lv_at hl 1 rfl) ?_
  refine lv_i2l (v := ((rate : Int32).toInt64)) hx hb dX6_bonus_1 rfl ?_
  refine z_rS (As := [.long (((rate : Int32).toInt64))]) (rest := []) (n := 1) ⟨hx, hb, hml, hown, hts⟩ (c_X6_isRate l D cs w s.heap.size (rate : Int32).toInt64) gX6_bonus_X6_isRate rfl ⟨by decide +kernel, by decide +kernel, by decide +kernel⟩ ⟨Nat.le_of_ble_eq_true rfl, Nat.le_of_ble_eq_true rfl⟩ hK hE hS rfl hl.1 rfl (Nat.le_of_ble_eq_true rfl) dX6_bonus_2 ⟨Nat.le_of_ble_eq_true rfl, Nat.le_of_ble_eq_true rfl⟩ (fun H locs hS => ?_)
  refine lv_if_ne (tgt := 18) hx hb dX6_bonus_5 (by decide) (fun _ => ?_) (fun cq9 => absurd cq9 (by rw [hr9]; decide))
  refine lv_aload_n hx hb dX6_bonus_18 rfl (lv_at hl 0 rfl) ?_
  refine lv_iload_n hx hb dX6_bonus_19 rfl (lv_at hl 1 rfl) ?_
  refine z_put (C := RX6) (T := TX6) (N := 10) (v := .int (rate)) hx hb hts (by decide +kernel) tyX6 tyX6_ok nmX6 hown hK hS h_f rfl 7 (by decide) (hts (.fieldLink RX6 44 "PayLedger" "bonusRate" "I") (by decide +kernel)) rfl rfl rfl (Nat.le_of_ble_eq_true rfl) dX6_bonus_20 (fun H locs hS => ?_)
  obtain ⟨w1, ew1⟩ : ∃ z : zw, z = va_up w (of) (some (.inr (6, [.ref (tbs), .ref (dds), .ref (wks), .ref (aa), .int (tc), .int (dc), .int (wc), .int (rate), .int (yr), .int (wd)]))) := ⟨_, rfl⟩
  have hS : zS (zA w sz) D w1 s.heap H locs := by rw [ew1]; exact hS
  have h1_of : w1 (of) = some (.inr (6, [.ref (tbs), .ref (dds), .ref (wks), .ref (aa), .int (tc), .int (dc), .int (wc), .int (rate), .int (yr), .int (wd)])) := by rw [ew1]; exact va_up_self _ _ _
  have hex : zEx w w1 [(of, (.inr (6, [.ref (tbs), .ref (dds), .ref (wks), .ref (aa), .int (tc), .int (dc), .int (wc), .int (rate), .int (yr), .int (wd)])))] := ⟨(zm1 h1_of zm0), fun a9 h9 => by rw [ew1, va_up_ne _ _ (show a9 ≠ of from h9 (of, (.inr (6, [.ref (tbs), .ref (dds), .ref (wks), .ref (aa), .int (tc), .int (dc), .int (wc), .int (rate), .int (yr), .int (wd)]))) (List.mem_of_getElem? (i := 0) rfl))]⟩
  exact z_vret hx hb hr hlocks hS (Nat.le_of_ble_eq_true rfl) (Nat.le_of_ble_eq_true rfl) dX6_bonus_23 ⟨rfl, hex⟩
set_option maxHeartbeats 4000000 in
set_option maxRecDepth 100000 in
theorem t1_X6_bonus (l : Launch) (D : va_G) (cs : Nat → ClassId) (w : zw) (sz : Nat) (of tbs dds wks aa : Nat) (tc dc wc brt yr wd : Int32) (rate : Int32) (hlst : l.stackTraces = false) (hr9 : zUpTo rate.toInt64 1000000 = 0) (h_f : w (of) = some (.inr (6, [.ref (tbs), .ref (dds), .ref (wks), .ref (aa), .int (tc), .int (dc), .int (wc), .int (brt), .int (yr), .int (wd)]))) : zMX l D cs yX6_bonus wsX6_bonus 2 1 6 w sz [.ref (of), .int (rate)] (fun _ _ => False) (fun E9 => E9 = "java/lang/IllegalArgumentException") := by
  refine z_metX (cc := cX6_bonus) (maxL := 2) (ret := none) (by decide) rfl (Nat.le_of_ble_eq_true rfl) ?_
  intro p e s m below meth c hx hb hr hml hown hts hlocks hnm hsz hK hE hS ls hl
  have hl : lv_has ls 2 [(0, .ref (of)), (1, .int (rate))] := hl
  refine lv_iload_n hx hb dX6_bonus_0 rfl (lv_at hl 1 rfl) ?_
  refine lv_i2l (v := ((rate : Int32).toInt64)) hx hb dX6_bonus_1 rfl ?_
  refine z_rS (As := [.long (((rate : Int32).toInt64))]) (rest := []) (n := 1) ⟨hx, hb, hml, hown, hts⟩ (c_X6_isRate l D cs w s.heap.size (rate : Int32).toInt64) gX6_bonus_X6_isRate rfl ⟨by decide +kernel, by decide +kernel, by decide +kernel⟩ ⟨Nat.le_of_ble_eq_true rfl, Nat.le_of_ble_eq_true rfl⟩ hK hE hS rfl hl.1 rfl (Nat.le_of_ble_eq_true rfl) dX6_bonus_2 ⟨Nat.le_of_ble_eq_true rfl, Nat.le_of_ble_eq_true rfl⟩ (fun H locs hS => ?_)
  refine lv_if_ne (tgt := 18) hx hb dX6_bonus_5 (by decide) (fun cq9 => absurd hr9 cq9) (fun _ => ?_)
  exact z_thr (text := "no such rate") hx hb hlst hown hts (by decide +kernel) (by decide +kernel) (by decide +kernel) zbad76 (by decide +kernel) (by decide +kernel) (by decide +kernel) (by decide +kernel) hE hS (hl.1.trans hml.symm) dX6_bonus_8 dX6_bonus_11 dX6_bonus_12 dX6_bonus_14 dX6_bonus_17 hnm ⟨Nat.le_of_ble_eq_true rfl, Nat.le_of_ble_eq_true rfl, Nat.le_of_ble_eq_true rfl, Nat.le_of_ble_eq_true rfl⟩ hlocks rfl (Nat.le_of_ble_eq_true rfl) (Nat.le_of_ble_eq_true rfl)
