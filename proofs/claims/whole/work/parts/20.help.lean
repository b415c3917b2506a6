/-! ===== PayLedger: its small static methods ===== -/
set_option maxHeartbeats 4000000 in
set_option maxRecDepth 100000 in
theorem c_X6_round (l : Launch) (D : va_G) (cs : Nat → ClassId) (w : zw) (sz : Nat) (a b : Int64)   : zMr l D cs yX6_round wsX6_round 0 w sz [.long (a), .long (b)] (.long (zRound a b)) := by
  refine z_met (cc := cX6_round) (maxL := 4) (ret := (some .long)) (by decide) rfl (Nat.le_of_ble_eq_true rfl) ?_
  intro p e s m below meth c hx hb hr hml hown hts hlocks hnm hsz hK hE hS ls hl
  have hl : lv_has ls 4 [(0, .long (a)), (2, .long (b))] := hl
  refine lv_lload_n hx hb dX6_round_0 rfl (lv_at hl 1 rfl) ?_
  refine lv_lconst (v := 1) hx hb dX6_round_1 (by decide) ?_
  refine z_lif_ge (tgt := 10) hx hb dX6_round_2 dX6_round_3 (by decide) (fun c2 => ?_) (fun c2 => ?_)
  · refine lv_lload_n hx hb dX6_round_10 rfl (lv_at hl 0 rfl) ?_
    refine lv_lload_n hx hb dX6_round_11 rfl (lv_at hl 1 rfl) ?_
    refine lv_ldc2 (v := 2) hx hb hown (hts (.constantLong RX6 366 (2)) (by decide +kernel)) dX6_round_12 ?_
    refine lv_ldiv hx hb dX6_round_15 (by decide) ?_
    refine lv_ladd hx hb dX6_round_16 ?_
    refine lv_lload_n hx hb dX6_round_17 rfl (lv_at hl 1 rfl) ?_
    refine lv_ldiv hx hb dX6_round_18 (fun q9 => by rw [q9] at c2; exact absurd c2 (by decide)) ?_
    exact z_lret hx hb hr hlocks hS (Nat.le_of_ble_eq_true rfl) (Nat.le_of_ble_eq_true rfl) dX6_round_19 ⟨by rw [zRound, if_pos c2], rfl⟩
  · refine lv_lconst (v := 0) hx hb dX6_round_6 (by decide) ?_
    refine lv_goto (tgt := 19) hx hb dX6_round_7 (by decide) ?_
    exact z_lret hx hb hr hlocks hS (Nat.le_of_ble_eq_true rfl) (Nat.le_of_ble_eq_true rfl) dX6_round_19 ⟨by rw [zRound, if_neg c2], rfl⟩
set_option maxHeartbeats 4000000 in
set_option maxRecDepth 100000 in
theorem c_X6_elementOf (l : Launch) (D : va_G) (cs : Nat → ClassId) (w : zw) (sz : Nat) (q n j : Nat) (f : Nat → Int64) (hn : n < 2 ^ 31) (hj : j < n) (h_q : w (q) = some (eJ cs (n) (f))) : zMr l D cs yX6_elementOf wsX6_elementOf 0 w sz [.ref (q), .int (nI j)] (.long (f j)) := by
  refine z_met (cc := cX6_elementOf) (maxL := 2) (ret := (some .long)) (by decide) rfl (Nat.le_of_ble_eq_true rfl) ?_
  intro p e s m below meth c hx hb hr hml hown hts hlocks hnm hsz hK hE hS ls hl
  have hl : lv_has ls 2 [(0, .ref (q)), (1, .int (nI j))] := hl
  refine lv_aload_n hx hb dX6_elementOf_0 rfl (lv_at hl 0 rfl) ?_
  refine lv_ifnull hx hb dX6_elementOf_1 ?_
  refine lv_iload_n hx hb dX6_elementOf_4 rfl (lv_at hl 1 rfl) ?_
  refine lv_if_lt (tgt := 14) hx hb dX6_elementOf_5 (by decide) (fun cq9 => absurd cq9 (nI_pos (by omega))) (fun _ => ?_)
  refine lv_iload_n hx hb dX6_elementOf_8 rfl (lv_at hl 1 rfl) ?_
  refine lv_aload_n hx hb dX6_elementOf_9 rfl (lv_at hl 0 rfl) ?_
  refine z_alen (t0 := 1) (v := nI (n)) hx hb hK hS h_q rfl rfl dX6_elementOf_10 ?_
  refine lv_icmp_lt (tgt := 18) hx hb dX6_elementOf_11 (by decide) (fun _ => ?_) (fun cq9 => absurd (nI_lt hj hn) cq9)
  refine lv_aload_n hx hb dX6_elementOf_18 rfl (lv_at hl 0 rfl) ?_
  refine lv_iload_n hx hb dX6_elementOf_19 rfl (lv_at hl 1 rfl) ?_
  refine z_lald hx hb hK hS h_q (vp_in_nI hj hn) dX6_elementOf_20 ?_
  refine z_tl (y := f j) (by rw [nI_clamp (by omega)]) ?_
  exact z_lret hx hb hr hlocks hS (Nat.le_of_ble_eq_true rfl) (Nat.le_of_ble_eq_true rfl) dX6_elementOf_21 ⟨rfl, rfl⟩
set_option maxHeartbeats 4000000 in
set_option maxRecDepth 100000 in
theorem c_X6_isUpTo (l : Launch) (D : va_G) (cs : Nat → ClassId) (w : zw) (sz : Nat) (v most : Int64)   : zMr l D cs yX6_isUpTo wsX6_isUpTo 0 w sz [.long (v), .long (most)] (.int (zUpTo v most)) := by
  refine z_met (cc := cX6_isUpTo) (maxL := 4) (ret := (some .boolean)) (by decide) rfl (Nat.le_of_ble_eq_true rfl) ?_
  intro p e s m below meth c hx hb hr hml hown hts hlocks hnm hsz hK hE hS ls hl
  have hl : lv_has ls 4 [(0, .long (v)), (2, .long (most))] := hl
  refine lv_lload_n hx hb dX6_isUpTo_0 rfl (lv_at hl 0 rfl) ?_
  refine lv_lconst (v := 0) hx hb dX6_isUpTo_1 (by decide) ?_
  refine z_lif_lt (tgt := 16) hx hb dX6_isUpTo_2 dX6_isUpTo_3 (by decide) (fun c2 => ?_) (fun c2 => ?_)
  · refine lv_iconst (v := 0) hx hb dX6_isUpTo_16 (by decide) ?_
    exact z_zret hx hb hr hlocks (zb_narrow (Or.inl rfl)) hS (Nat.le_of_ble_eq_true rfl) (Nat.le_of_ble_eq_true rfl) dX6_isUpTo_17 ⟨by rw [zUpTo, zB_f (fun q9 => absurd q9.1 (fun q8 => by rw [Int64.le_iff_toInt_le] at q8; rw [Int64.lt_iff_toInt_lt] at c2; omega))], rfl⟩
  · refine lv_lload_n hx hb dX6_isUpTo_6 rfl (lv_at hl 0 rfl) ?_
    refine lv_lload_n hx hb dX6_isUpTo_7 rfl (lv_at hl 1 rfl) ?_
    refine z_lif_gt (tgt := 16) hx hb dX6_isUpTo_8 dX6_isUpTo_9 (by decide) (fun c8 => ?_) (fun c8 => ?_)
    · refine lv_iconst (v := 0) hx hb dX6_isUpTo_16 (by decide) ?_
      exact z_zret hx hb hr hlocks (zb_narrow (Or.inl rfl)) hS (Nat.le_of_ble_eq_true rfl) (Nat.le_of_ble_eq_true rfl) dX6_isUpTo_17 ⟨by rw [zUpTo, zB_f (fun q9 => absurd q9.2 (fun q8 => by rw [Int64.le_iff_toInt_le] at q8; rw [Int64.lt_iff_toInt_lt] at c8; omega))], rfl⟩
    · refine lv_iconst (v := 1) hx hb dX6_isUpTo_12 (by decide) ?_
      refine lv_goto (tgt := 17) hx hb dX6_isUpTo_13 (by decide) ?_
      exact z_zret hx hb hr hlocks (zb_narrow (Or.inr rfl)) hS (Nat.le_of_ble_eq_true rfl) (Nat.le_of_ble_eq_true rfl) dX6_isUpTo_17 ⟨by rw [zUpTo, zB_t ⟨zI64_nlt c2, zI64_nlt c8⟩], rfl⟩
set_option maxHeartbeats 4000000 in
set_option maxRecDepth 100000 in
theorem c_X6_isRate (l : Launch) (D : va_G) (cs : Nat → ClassId) (w : zw) (sz : Nat) (v : Int64)   : zMr l D cs yX6_isRate wsX6_isRate 1 w sz [.long (v)] (.int (zUpTo v 1000000)) := by
  refine z_met (cc := cX6_isRate) (maxL := 2) (ret := (some .boolean)) (by decide) rfl (Nat.le_of_ble_eq_true rfl) ?_
  intro p e s m below meth c hx hb hr hml hown hts hlocks hnm hsz hK hE hS ls hl
  have hl : lv_has ls 2 [(0, .long (v))] := hl
  refine lv_lload_n hx hb dX6_isRate_0 rfl (lv_at hl 0 rfl) ?_
  refine lv_ldc2 (v := 1000000) hx hb hown (hts (.constantLong RX6 340 (1000000)) (by decide +kernel)) dX6_isRate_1 ?_
  refine z_rS (As := [.long (v), .long (1000000)]) (rest := []) (n := 2) ⟨hx, hb, hml, hown, hts⟩ (c_X6_isUpTo l D cs w s.heap.size v 1000000) gX6_isRate_X6_isUpTo rfl ⟨by decide +kernel, by decide +kernel, by decide +kernel⟩ ⟨Nat.le_of_ble_eq_true rfl, Nat.le_of_ble_eq_true rfl⟩ hK hE hS rfl hl.1 rfl (Nat.le_of_ble_eq_true rfl) dX6_isRate_4 ⟨Nat.le_of_ble_eq_true rfl, Nat.le_of_ble_eq_true rfl⟩ (fun H locs hS => ?_)
  exact z_zret hx hb hr hlocks (zb_narrow (zUpTo_01 _ _)) hS (Nat.le_of_ble_eq_true rfl) (Nat.le_of_ble_eq_true rfl) dX6_isRate_7 ⟨rfl, rfl⟩
set_option maxHeartbeats 4000000 in
set_option maxRecDepth 100000 in
theorem c_X6_isPeriods (l : Launch) (D : va_G) (cs : Nat → ClassId) (w : zw) (sz : Nat) (v : Int64)   : zMr l D cs yX6_isPeriods wsX6_isPeriods 0 w sz [.long (v)] (.int (zPerB v)) := by
  refine z_met (cc := cX6_isPeriods) (maxL := 6) (ret := (some .boolean)) (by decide) rfl (Nat.le_of_ble_eq_true rfl) ?_
  intro p e s m below meth c hx hb hr hml hown hts hlocks hnm hsz hK hE hS ls hl
  have hl : lv_has ls 6 [(0, .long (v))] := hl
  obtain ⟨tP, hZ, hTb⟩ := hE.2.1
  have L10 : ∀ (i : Nat), (hi : i ≤ 8) → (hne : ∀ j : Nat, j < i → ¬ (zPer j).toInt64 = v) → ∀ (H : Heap) (locs : List Loc) (ls : Array Slot), zS (zA w sz) D w s.heap H locs → lv_has ls 6 [(4, .int (nI i)), (3, .int (8)), (2, .ref (tP)), (0, .long (v))] → W p l e (zR 0 0 0) s m [.long (v)].toArray below meth c H locs 0 0 (MQ below (zQ D w sz (fun r w2 => r = some (.int (zPerB v)) ∧ w2 = w)) [.long (v)].toArray s 0 0 (zA w sz)) (F0 m 10 ls []) := by
    refine zloopU (P := fun i => (hi : i ≤ 8) → (hne : ∀ j : Nat, j < i → ¬ (zPer j).toInt64 = v) → ∀ (H : Heap) (locs : List Loc) (ls : Array Slot), zS (zA w sz) D w s.heap H locs → lv_has ls 6 [(4, .int (nI i)), (3, .int (8)), (2, .ref (tP)), (0, .long (v))] → W p l e (zR 0 0 0) s m [.long (v)].toArray below meth c H locs 0 0 (MQ below (zQ D w sz (fun r w2 => r = some (.int (zPerB v)) ∧ w2 = w)) [.long (v)].toArray s 0 0 (zA w sz)) (F0 m 10 ls [])) 8 (fun i ih => ?_)
    intro hi hne H locs ls hS hl
    refine lv_iload hx hb dX6_isPeriods_10 (lv_at hl 0 rfl) ?_
    refine lv_iload_n hx hb dX6_isPeriods_12 rfl (lv_at hl 1 rfl) ?_
    refine lv_icmp_ge (tgt := 38) hx hb dX6_isPeriods_13 (by decide) (fun c13 => ?_) (fun c13 => ?_)
    · have hi8 : i = 8 := by rcases Nat.lt_or_ge i 8 with q | q; exact absurd c13 (nI_ge (b := 8) q (by omega)); omega
      subst hi8
      refine lv_iconst (v := 0) hx hb dX6_isPeriods_38 (by decide) ?_
      exact z_zret hx hb hr hlocks (zb_narrow (Or.inl rfl)) hS (Nat.le_of_ble_eq_true rfl) (Nat.le_of_ble_eq_true rfl) dX6_isPeriods_39 ⟨by rw [zPerB, zB_f (fun q9 => by obtain ⟨j, q1, q2⟩ := q9; exact hne j q1 q2)], rfl⟩
    · have c13 : i < 8 := by rcases Nat.lt_or_ge i 8 with q | q; exact q; exact absurd (nI_le (a := 8) q (by omega)) c13
      refine lv_aload_n hx hb dX6_isPeriods_16 rfl (lv_at hl 2 rfl) ?_
      refine lv_iload hx hb dX6_isPeriods_17 (lv_at hl 0 rfl) ?_
      refine va_ti (v := .int (zPer i)) hx hb hTb hS.2.2.1 (vp_in_nI c13 (by omega)) (by rw [nI_clamp (by omega)]) dX6_isPeriods_19 ?_
      refine lv_istore (lv' := [(5, .int (zPer i)), (4, .int (nI i)), (3, .int (8)), (2, .ref (tP)), (0, .long (v))]) hx hb dX6_isPeriods_20 hl (by decide) rfl (fun ls hl => ?_)
      refine lv_iload hx hb dX6_isPeriods_22 (lv_at hl 0 rfl) ?_
      refine lv_i2l (v := ((zPer i : Int32).toInt64)) hx hb dX6_isPeriods_24 rfl ?_
      refine lv_lload_n hx hb dX6_isPeriods_25 rfl (lv_at hl 4 rfl) ?_
      refine z_lif_ne (tgt := 32) hx hb dX6_isPeriods_26 dX6_isPeriods_27 (by decide) (fun c26 => ?_) (fun c26 => ?_)
      · refine lv_iinc (v := nI (i + 1)) (lv' := [(4, .int (nI (i + 1))), (5, .int (zPer i)), (3, .int (8)), (2, .ref (tP)), (0, .long (v))]) hx hb dX6_isPeriods_32 hl (k := 1) rfl (nI_1 _) (by decide) rfl (fun ls hl => ?_)
        refine lv_goto (tgt := 10) hx hb dX6_isPeriods_35 (by decide) ?_
        exact ih c13 (by omega) (fun j hj => by rcases (show j < i ∨ j = i by omega) with q | q; exact hne j q; rw [q]; exact c26)  _ _ _ hS (lv_sub hl [0, 2, 3, 4] rfl)
      · refine lv_iconst (v := 1) hx hb dX6_isPeriods_30 (by decide) ?_
        exact z_zret hx hb hr hlocks (zb_narrow (Or.inr rfl)) hS (Nat.le_of_ble_eq_true rfl) (Nat.le_of_ble_eq_true rfl) dX6_isPeriods_31 ⟨by rw [zPerB, zB_t ⟨i, c13, c26⟩], rfl⟩
  refine va_gets (C := RX6) (n := "PERIODS") (d := "[I") hx hb hZ hS.2.2.1 hown (hts (.fieldLink RX6 368 "PayLedger" "PERIODS" "[I") (by decide +kernel)) (fun _ h => h) dX6_isPeriods_0 ?_
  refine lv_astore_n (lv' := [(2, .ref (tP)), (0, .long (v))]) hx hb dX6_isPeriods_3 rfl hl (by decide) rfl (fun ls hl => ?_)
  refine lv_aload_n hx hb dX6_isPeriods_4 rfl (lv_at hl 0 rfl) ?_
  refine va_tlen (v := 8) hx hb hTb hS.2.2.1 rfl dX6_isPeriods_5 ?_
  refine lv_istore_n (lv' := [(3, .int (8)), (2, .ref (tP)), (0, .long (v))]) hx hb dX6_isPeriods_6 rfl hl (by decide) rfl (fun ls hl => ?_)
  refine lv_iconst (v := 0) hx hb dX6_isPeriods_7 (by decide) ?_
  refine lv_istore (lv' := [(4, .int (0)), (3, .int (8)), (2, .ref (tP)), (0, .long (v))]) hx hb dX6_isPeriods_8 hl (by decide) rfl (fun ls hl => ?_)
  exact L10 0 (by omega) (fun j hj => absurd hj (by omega))  _ _ _ hS (lv_sub hl [0, 1, 2, 3] rfl)
set_option maxHeartbeats 4000000 in
set_option maxRecDepth 100000 in
theorem c_X6_isSize (l : Launch) (D : va_G) (cs : Nat → ClassId) (w : zw) (sz : Nat) (sort : Int32) (size : Int64)   : zMr l D cs yX6_isSize wsX6_isSize 2 w sz [.int (sort), .long (size)] (.int (zSizeB sort size)) := by
  refine z_met (cc := cX6_isSize) (maxL := 3) (ret := (some .boolean)) (by decide) rfl (Nat.le_of_ble_eq_true rfl) ?_
  intro p e s m below meth c hx hb hr hml hown hts hlocks hnm hsz hK hE hS ls hl
  have hl : lv_has ls 3 [(0, .int (sort)), (1, .long (size))] := hl
  refine lv_iload_n hx hb dX6_isSize_0 rfl (lv_at hl 0 rfl) ?_
  by_cases t1_0 : sort = 0
  · refine lv_tableIn (off := 27) (tgt := 28) hx hb dX6_isSize_1 (by rw [t1_0]; decide) (by rw [t1_0]; decide) (by rw [t1_0]; rfl) (by decide) ?_
    refine lv_lload_n hx hb dX6_isSize_28 rfl (lv_at hl 1 rfl) ?_
    refine lv_ldc2 (v := 1000000000) hx hb hown (hts (.constantLong RX6 190 (1000000000)) (by decide +kernel)) dX6_isSize_29 ?_
    refine z_rS (As := [.long (size), .long (1000000000)]) (rest := []) (n := 2) ⟨hx, hb, hml, hown, hts⟩ (c_X6_isUpTo l D cs w s.heap.size size 1000000000) gX6_isSize_X6_isUpTo rfl ⟨by decide +kernel, by decide +kernel, by decide +kernel⟩ ⟨Nat.le_of_ble_eq_true rfl, Nat.le_of_ble_eq_true rfl⟩ hK hE hS rfl hl.1 rfl (Nat.le_of_ble_eq_true rfl) dX6_isSize_32 ⟨Nat.le_of_ble_eq_true rfl, Nat.le_of_ble_eq_true rfl⟩ (fun H locs hS => ?_)
    exact z_zret hx hb hr hlocks (zb_narrow (zUpTo_01 _ _)) hS (Nat.le_of_ble_eq_true rfl) (Nat.le_of_ble_eq_true rfl) dX6_isSize_35 ⟨by rw [zSizeB, if_pos t1_0], rfl⟩
  by_cases t1_1 : sort = 1
  · refine lv_tableIn (off := 35) (tgt := 36) hx hb dX6_isSize_1 (by rw [t1_1]; decide) (by rw [t1_1]; decide) (by rw [t1_1]; rfl) (by decide) ?_
    refine lv_lload_n hx hb dX6_isSize_36 rfl (lv_at hl 1 rfl) ?_
    refine z_rS (As := [.long (size)]) (rest := []) (n := 1) ⟨hx, hb, hml, hown, hts⟩ (c_X6_isRate l D cs w s.heap.size size) gX6_isSize_X6_isRate rfl ⟨by decide +kernel, by decide +kernel, by decide +kernel⟩ ⟨Nat.le_of_ble_eq_true rfl, Nat.le_of_ble_eq_true rfl⟩ hK hE hS rfl hl.1 rfl (Nat.le_of_ble_eq_true rfl) dX6_isSize_37 ⟨Nat.le_of_ble_eq_true rfl, Nat.le_of_ble_eq_true rfl⟩ (fun H locs hS => ?_)
    exact z_zret hx hb hr hlocks (zb_narrow (zUpTo_01 _ _)) hS (Nat.le_of_ble_eq_true rfl) (Nat.le_of_ble_eq_true rfl) dX6_isSize_40 ⟨by rw [zSizeB, if_neg t1_0, if_pos (Or.inl t1_1)], rfl⟩
  by_cases t1_2 : sort = 2
  · refine lv_tableIn (off := 35) (tgt := 36) hx hb dX6_isSize_1 (by rw [t1_2]; decide) (by rw [t1_2]; decide) (by rw [t1_2]; rfl) (by decide) ?_
    refine lv_lload_n hx hb dX6_isSize_36 rfl (lv_at hl 1 rfl) ?_
    refine z_rS (As := [.long (size)]) (rest := []) (n := 1) ⟨hx, hb, hml, hown, hts⟩ (c_X6_isRate l D cs w s.heap.size size) gX6_isSize_X6_isRate rfl ⟨by decide +kernel, by decide +kernel, by decide +kernel⟩ ⟨Nat.le_of_ble_eq_true rfl, Nat.le_of_ble_eq_true rfl⟩ hK hE hS rfl hl.1 rfl (Nat.le_of_ble_eq_true rfl) dX6_isSize_37 ⟨Nat.le_of_ble_eq_true rfl, Nat.le_of_ble_eq_true rfl⟩ (fun H locs hS => ?_)
    exact z_zret hx hb hr hlocks (zb_narrow (zUpTo_01 _ _)) hS (Nat.le_of_ble_eq_true rfl) (Nat.le_of_ble_eq_true rfl) dX6_isSize_40 ⟨by rw [zSizeB, if_neg t1_0, if_pos (Or.inr t1_2)], rfl⟩
  refine lv_tableOut (tgt := 41) hx hb dX6_isSize_1 (by have q0 := lv_neT (a := 0) t1_0 rfl; have q1 := lv_neT (a := 1) t1_1 rfl; have q2 := lv_neT (a := 2) t1_2 rfl; omega) (by decide) ?_
  refine lv_iconst (v := 0) hx hb dX6_isSize_41 (by decide) ?_
  exact z_zret hx hb hr hlocks (zb_narrow (Or.inl rfl)) hS (Nat.le_of_ble_eq_true rfl) (Nat.le_of_ble_eq_true rfl) dX6_isSize_42 ⟨by rw [zSizeB, if_neg t1_0, if_neg (fun q9 => q9.elim t1_1 t1_2)], rfl⟩
set_option maxHeartbeats 4000000 in
set_option maxRecDepth 100000 in
theorem c_X6_canBe (l : Launch) (D : va_G) (cs : Nat → ClassId) (w : zw) (sz : Nat) (what : Int32) (v : Int64)   : zMr l D cs yX6_canBe wsX6_canBe 2 w sz [.int (what), .long (v)] (.int (zCanB what v)) := by
  refine z_met (cc := cX6_canBe) (maxL := 3) (ret := (some .boolean)) (by decide) rfl (Nat.le_of_ble_eq_true rfl) ?_
  intro p e s m below meth c hx hb hr hml hown hts hlocks hnm hsz hK hE hS ls hl
  have hl : lv_has ls 3 [(0, .int (what)), (1, .long (v))] := hl
  refine lv_iload_n hx hb dX6_canBe_0 rfl (lv_at hl 0 rfl) ?_
  by_cases t1_0 : what = 0
  · refine lv_tableIn (off := 39) (tgt := 40) hx hb dX6_canBe_1 (by rw [t1_0]; decide) (by rw [t1_0]; decide) (by rw [t1_0]; rfl) (by decide) ?_
    refine lv_lload_n hx hb dX6_canBe_40 rfl (lv_at hl 1 rfl) ?_
    refine lv_lconst (v := 1) hx hb dX6_canBe_41 (by decide) ?_
    refine z_rS (As := [.long (v), .long (1)]) (rest := []) (n := 2) ⟨hx, hb, hml, hown, hts⟩ (c_X6_isUpTo l D cs w s.heap.size v 1) gX6_canBe_X6_isUpTo rfl ⟨by decide +kernel, by decide +kernel, by decide +kernel⟩ ⟨Nat.le_of_ble_eq_true rfl, Nat.le_of_ble_eq_true rfl⟩ hK hE hS rfl hl.1 rfl (Nat.le_of_ble_eq_true rfl) dX6_canBe_42 ⟨Nat.le_of_ble_eq_true rfl, Nat.le_of_ble_eq_true rfl⟩ (fun H locs hS => ?_)
    exact z_zret hx hb hr hlocks (zb_narrow (zUpTo_01 _ _)) hS (Nat.le_of_ble_eq_true rfl) (Nat.le_of_ble_eq_true rfl) dX6_canBe_45 ⟨by rw [zCanB, if_pos t1_0], rfl⟩
  by_cases t1_1 : what = 1
  · refine lv_tableIn (off := 45) (tgt := 46) hx hb dX6_canBe_1 (by rw [t1_1]; decide) (by rw [t1_1]; decide) (by rw [t1_1]; rfl) (by decide) ?_
    refine lv_lload_n hx hb dX6_canBe_46 rfl (lv_at hl 1 rfl) ?_
    refine lv_ldc2 (v := 1000000000000) hx hb hown (hts (.constantLong RX6 99 (1000000000000)) (by decide +kernel)) dX6_canBe_47 ?_
    refine z_rS (As := [.long (v), .long (1000000000000)]) (rest := []) (n := 2) ⟨hx, hb, hml, hown, hts⟩ (c_X6_isUpTo l D cs w s.heap.size v 1000000000000) gX6_canBe_X6_isUpTo rfl ⟨by decide +kernel, by decide +kernel, by decide +kernel⟩ ⟨Nat.le_of_ble_eq_true rfl, Nat.le_of_ble_eq_true rfl⟩ hK hE hS rfl hl.1 rfl (Nat.le_of_ble_eq_true rfl) dX6_canBe_50 ⟨Nat.le_of_ble_eq_true rfl, Nat.le_of_ble_eq_true rfl⟩ (fun H locs hS => ?_)
    exact z_zret hx hb hr hlocks (zb_narrow (zUpTo_01 _ _)) hS (Nat.le_of_ble_eq_true rfl) (Nat.le_of_ble_eq_true rfl) dX6_canBe_53 ⟨by rw [zCanB, if_neg t1_0, if_pos (Or.inl t1_1)], rfl⟩
  by_cases t1_2 : what = 2
  · refine lv_tableIn (off := 45) (tgt := 46) hx hb dX6_canBe_1 (by rw [t1_2]; decide) (by rw [t1_2]; decide) (by rw [t1_2]; rfl) (by decide) ?_
    refine lv_lload_n hx hb dX6_canBe_46 rfl (lv_at hl 1 rfl) ?_
    refine lv_ldc2 (v := 1000000000000) hx hb hown (hts (.constantLong RX6 99 (1000000000000)) (by decide +kernel)) dX6_canBe_47 ?_
    refine z_rS (As := [.long (v), .long (1000000000000)]) (rest := []) (n := 2) ⟨hx, hb, hml, hown, hts⟩ (c_X6_isUpTo l D cs w s.heap.size v 1000000000000) gX6_canBe_X6_isUpTo rfl ⟨by decide +kernel, by decide +kernel, by decide +kernel⟩ ⟨Nat.le_of_ble_eq_true rfl, Nat.le_of_ble_eq_true rfl⟩ hK hE hS rfl hl.1 rfl (Nat.le_of_ble_eq_true rfl) dX6_canBe_50 ⟨Nat.le_of_ble_eq_true rfl, Nat.le_of_ble_eq_true rfl⟩ (fun H locs hS => ?_)
    exact z_zret hx hb hr hlocks (zb_narrow (zUpTo_01 _ _)) hS (Nat.le_of_ble_eq_true rfl) (Nat.le_of_ble_eq_true rfl) dX6_canBe_53 ⟨by rw [zCanB, if_neg t1_0, if_pos (Or.inr t1_2)], rfl⟩
  by_cases t1_3 : what = 3
  · refine lv_tableIn (off := 53) (tgt := 54) hx hb dX6_canBe_1 (by rw [t1_3]; decide) (by rw [t1_3]; decide) (by rw [t1_3]; rfl) (by decide) ?_
    refine lv_lload_n hx hb dX6_canBe_54 rfl (lv_at hl 1 rfl) ?_
    refine lv_ldc2 (v := 1000000000) hx hb hown (hts (.constantLong RX6 190 (1000000000)) (by decide +kernel)) dX6_canBe_55 ?_
    refine z_rS (As := [.long (v), .long (1000000000)]) (rest := []) (n := 2) ⟨hx, hb, hml, hown, hts⟩ (c_X6_isUpTo l D cs w s.heap.size v 1000000000) gX6_canBe_X6_isUpTo rfl ⟨by decide +kernel, by decide +kernel, by decide +kernel⟩ ⟨Nat.le_of_ble_eq_true rfl, Nat.le_of_ble_eq_true rfl⟩ hK hE hS rfl hl.1 rfl (Nat.le_of_ble_eq_true rfl) dX6_canBe_58 ⟨Nat.le_of_ble_eq_true rfl, Nat.le_of_ble_eq_true rfl⟩ (fun H locs hS => ?_)
    exact z_zret hx hb hr hlocks (zb_narrow (zUpTo_01 _ _)) hS (Nat.le_of_ble_eq_true rfl) (Nat.le_of_ble_eq_true rfl) dX6_canBe_61 ⟨by rw [zCanB, if_neg t1_0, if_neg (fun q9 => q9.elim t1_1 t1_2), if_pos t1_3], rfl⟩
  by_cases t1_4 : what = 4
  · refine lv_tableIn (off := 66) (tgt := 67) hx hb dX6_canBe_1 (by rw [t1_4]; decide) (by rw [t1_4]; decide) (by rw [t1_4]; rfl) (by decide) ?_
    refine lv_iconst (v := 0) hx hb dX6_canBe_67 (by decide) ?_
    exact z_zret hx hb hr hlocks (zb_narrow (Or.inl rfl)) hS (Nat.le_of_ble_eq_true rfl) (Nat.le_of_ble_eq_true rfl) dX6_canBe_68 ⟨by rw [zCanB, if_neg t1_0, if_neg (fun q9 => q9.elim t1_1 t1_2), if_neg t1_3, if_neg (by rw [t1_4]; decide)], rfl⟩
  by_cases t1_5 : what = 5
  · refine lv_tableIn (off := 61) (tgt := 62) hx hb dX6_canBe_1 (by rw [t1_5]; decide) (by rw [t1_5]; decide) (by rw [t1_5]; rfl) (by decide) ?_
    refine lv_lload_n hx hb dX6_canBe_62 rfl (lv_at hl 1 rfl) ?_
    refine z_rS (As := [.long (v)]) (rest := []) (n := 1) ⟨hx, hb, hml, hown, hts⟩ (c_X6_isPeriods l D cs w s.heap.size v) gX6_canBe_X6_isPeriods rfl ⟨by decide +kernel, by decide +kernel, by decide +kernel⟩ ⟨Nat.le_of_ble_eq_true rfl, Nat.le_of_ble_eq_true rfl⟩ hK hE hS rfl hl.1 rfl (Nat.le_of_ble_eq_true rfl) dX6_canBe_63 ⟨Nat.le_of_ble_eq_true rfl, Nat.le_of_ble_eq_true rfl⟩ (fun H locs hS => ?_)
    exact z_zret hx hb hr hlocks (zb_narrow (zPerB_01 _)) hS (Nat.le_of_ble_eq_true rfl) (Nat.le_of_ble_eq_true rfl) dX6_canBe_66 ⟨by rw [zCanB, if_neg t1_0, if_neg (fun q9 => q9.elim t1_1 t1_2), if_neg t1_3, if_pos t1_5], rfl⟩
  refine lv_tableOut (tgt := 67) hx hb dX6_canBe_1 (by have q0 := lv_neT (a := 0) t1_0 rfl; have q1 := lv_neT (a := 1) t1_1 rfl; have q2 := lv_neT (a := 2) t1_2 rfl; have q3 := lv_neT (a := 3) t1_3 rfl; have q4 := lv_neT (a := 4) t1_4 rfl; have q5 := lv_neT (a := 5) t1_5 rfl; omega) (by decide) ?_
  refine lv_iconst (v := 0) hx hb dX6_canBe_67 (by decide) ?_
  exact z_zret hx hb hr hlocks (zb_narrow (Or.inl rfl)) hS (Nat.le_of_ble_eq_true rfl) (Nat.le_of_ble_eq_true rfl) dX6_canBe_68 ⟨by rw [zCanB, if_neg t1_0, if_neg (fun q9 => q9.elim t1_1 t1_2), if_neg t1_3, if_neg t1_5], rfl⟩
