/-! ===== the model: leaves ===== -/
set_option maxHeartbeats 4000000 in
set_option maxRecDepth 100000 in
theorem c_X7_thrown (l : Launch) (D : va_G) (cs : Nat → ClassId) (w : zw) (sz : Nat) (mm : Nat) (ad : Nat → Nat) (th tb dd wk br yr wd : Int32)  (h_m : w (mm) = some (mo ad (th) (tb) (dd) (wk) (br) (yr) (wd))) : zMr l D cs yX7_thrown wsX7_thrown 0 w sz [.ref (mm)] (.int (th)) := by
  refine z_met (cc := cX7_thrown) (maxL := 1) (ret := (some .int)) (by decide) rfl (Nat.le_of_ble_eq_true rfl) ?_
  intro p e s m below meth c hx hb hr hml hown hts hlocks hnm hsz hK hE hS ls hl
  have hl : lv_has ls 1 [(0, .ref (mm))] := hl
  refine lv_aload_n hx hb dX7_thrown_0 rfl (lv_at hl 0 rfl) ?_
  refine z_get (C := RX7) (T := TX7) (N := 45) (v := .int (th)) hx hb hts (by decide +kernel) hown hK hS h_m rfl 0 (by decide) (hts (.fieldLink RX7 126 "PayLedgerModel" "thrown" "I") (by decide +kernel)) rfl dX7_thrown_1 ?_
  exact z_iret hx hb hr hlocks hS (Nat.le_of_ble_eq_true rfl) (Nat.le_of_ble_eq_true rfl) dX7_thrown_4 ⟨rfl, rfl⟩
set_option maxHeartbeats 4000000 in
set_option maxRecDepth 100000 in
theorem c_X7_round (l : Launch) (D : va_G) (cs : Nat → ClassId) (w : zw) (sz : Nat) (a b : Int64) (hb0 : b ≠ 0)  : zMr l D cs yX7_round wsX7_round 0 w sz [.long (a), .long (b)] (.long (mRound a b)) := by
  refine z_met (cc := cX7_round) (maxL := 4) (ret := (some .long)) (by decide) rfl (Nat.le_of_ble_eq_true rfl) ?_
  intro p e s m below meth c hx hb hr hml hown hts hlocks hnm hsz hK hE hS ls hl
  have hl : lv_has ls 4 [(0, .long (a)), (2, .long (b))] := hl
  refine lv_ldc2 (v := 2) hx hb hown (hts (.constantLong RX7 130 (2)) (by decide +kernel)) dX7_round_0 ?_
  refine lv_lload_n hx hb dX7_round_3 rfl (lv_at hl 0 rfl) ?_
  refine lv_lload_n hx hb dX7_round_4 rfl (lv_at hl 1 rfl) ?_
  refine lv_lrem hx hb dX7_round_5 hb0 ?_
  refine lv_lmul hx hb dX7_round_6 ?_
  refine lv_lload_n hx hb dX7_round_7 rfl (lv_at hl 1 rfl) ?_
  refine z_lif_lt (tgt := 16) hx hb dX7_round_8 dX7_round_9 (by decide) (fun c8 => ?_) (fun c8 => ?_)
  · refine lv_lconst (v := 0) hx hb dX7_round_16 (by decide) ?_
    refine lv_lload_n hx hb dX7_round_17 rfl (lv_at hl 0 rfl) ?_
    refine lv_lload_n hx hb dX7_round_18 rfl (lv_at hl 1 rfl) ?_
    refine lv_ldiv hx hb dX7_round_19 hb0 ?_
    refine lv_ladd hx hb dX7_round_20 ?_
    exact z_lret hx hb hr hlocks hS (Nat.le_of_ble_eq_true rfl) (Nat.le_of_ble_eq_true rfl) dX7_round_21 ⟨by rw [mRound, if_pos c8], rfl⟩
  · refine lv_lconst (v := 1) hx hb dX7_round_12 (by decide) ?_
    refine lv_goto (tgt := 17) hx hb dX7_round_13 (by decide) ?_
    refine lv_lload_n hx hb dX7_round_17 rfl (lv_at hl 0 rfl) ?_
    refine lv_lload_n hx hb dX7_round_18 rfl (lv_at hl 1 rfl) ?_
    refine lv_ldiv hx hb dX7_round_19 hb0 ?_
    refine lv_ladd hx hb dX7_round_20 ?_
    exact z_lret hx hb hr hlocks hS (Nat.le_of_ble_eq_true rfl) (Nat.le_of_ble_eq_true rfl) dX7_round_21 ⟨by rw [mRound, if_neg c8], rfl⟩
set_option maxHeartbeats 4000000 in
set_option maxRecDepth 100000 in
theorem c_X7_least (l : Launch) (D : va_G) (cs : Nat → ClassId) (w : zw) (sz : Nat) (a b : Int64)   : zMr l D cs yX7_least wsX7_least 0 w sz [.long (a), .long (b)] (.long (zMin b a)) := by
  refine z_met (cc := cX7_least) (maxL := 4) (ret := (some .long)) (by decide) rfl (Nat.le_of_ble_eq_true rfl) ?_
  intro p e s m below meth c hx hb hr hml hown hts hlocks hnm hsz hK hE hS ls hl
  have hl : lv_has ls 4 [(0, .long (a)), (2, .long (b))] := hl
  refine lv_lload_n hx hb dX7_least_0 rfl (lv_at hl 0 rfl) ?_
  refine lv_lload_n hx hb dX7_least_1 rfl (lv_at hl 1 rfl) ?_
  refine z_lif_ge (tgt := 10) hx hb dX7_least_2 dX7_least_3 (by decide) (fun c2 => ?_) (fun c2 => ?_)
  · refine lv_lload_n hx hb dX7_least_10 rfl (lv_at hl 1 rfl) ?_
    exact z_lret hx hb hr hlocks hS (Nat.le_of_ble_eq_true rfl) (Nat.le_of_ble_eq_true rfl) dX7_least_11 ⟨by rw [zMin, if_neg (fun q9 => by rw [Int64.le_iff_toInt_le] at c2; rw [Int64.lt_iff_toInt_lt] at q9; omega)], rfl⟩
  · refine lv_lload_n hx hb dX7_least_6 rfl (lv_at hl 0 rfl) ?_
    refine lv_goto (tgt := 11) hx hb dX7_least_7 (by decide) ?_
    exact z_lret hx hb hr hlocks hS (Nat.le_of_ble_eq_true rfl) (Nat.le_of_ble_eq_true rfl) dX7_least_11 ⟨by rw [zMin, if_pos (zI64_nle c2)], rfl⟩
set_option maxHeartbeats 4000000 in
set_option maxRecDepth 100000 in
theorem c_X7_above (l : Launch) (D : va_G) (cs : Nat → ClassId) (w : zw) (sz : Nat) (a : Int64)   : zMr l D cs yX7_above wsX7_above 0 w sz [.long (a)] (.long (zMax0 a)) := by
  refine z_met (cc := cX7_above) (maxL := 2) (ret := (some .long)) (by decide) rfl (Nat.le_of_ble_eq_true rfl) ?_
  intro p e s m below meth c hx hb hr hml hown hts hlocks hnm hsz hK hE hS ls hl
  have hl : lv_has ls 2 [(0, .long (a))] := hl
  refine lv_lload_n hx hb dX7_above_0 rfl (lv_at hl 0 rfl) ?_
  refine lv_lconst (v := 0) hx hb dX7_above_1 (by decide) ?_
  refine z_lif_ge (tgt := 10) hx hb dX7_above_2 dX7_above_3 (by decide) (fun c2 => ?_) (fun c2 => ?_)
  · refine lv_lload_n hx hb dX7_above_10 rfl (lv_at hl 0 rfl) ?_
    exact z_lret hx hb hr hlocks hS (Nat.le_of_ble_eq_true rfl) (Nat.le_of_ble_eq_true rfl) dX7_above_11 ⟨by rw [zMax0, if_neg (fun q9 => by rw [Int64.le_iff_toInt_le] at c2; rw [Int64.lt_iff_toInt_lt] at q9; omega)], rfl⟩
  · refine lv_lconst (v := 0) hx hb dX7_above_6 (by decide) ?_
    refine lv_goto (tgt := 11) hx hb dX7_above_7 (by decide) ?_
    exact z_lret hx hb hr hlocks hS (Nat.le_of_ble_eq_true rfl) (Nat.le_of_ble_eq_true rfl) dX7_above_11 ⟨by rw [zMax0, if_pos (zI64_nle c2)], rfl⟩
set_option maxHeartbeats 4000000 in
set_option maxRecDepth 100000 in
theorem c_X7_in (l : Launch) (D : va_G) (cs : Nat → ClassId) (w : zw) (sz : Nat) (v low high : Int64)   : zMr l D cs yX7_in wsX7_in 0 w sz [.long (v), .long (low), .long (high)] (.int (mIn v low high)) := by
  refine z_met (cc := cX7_in) (maxL := 6) (ret := (some .boolean)) (by decide) rfl (Nat.le_of_ble_eq_true rfl) ?_
  intro p e s m below meth c hx hb hr hml hown hts hlocks hnm hsz hK hE hS ls hl
  have hl : lv_has ls 6 [(0, .long (v)), (2, .long (low)), (4, .long (high))] := hl
  refine lv_lload_n hx hb dX7_in_0 rfl (lv_at hl 0 rfl) ?_
  refine lv_lload_n hx hb dX7_in_1 rfl (lv_at hl 1 rfl) ?_
  refine z_lif_lt (tgt := 17) hx hb dX7_in_2 dX7_in_3 (by decide) (fun c2 => ?_) (fun c2 => ?_)
  · refine lv_iconst (v := 0) hx hb dX7_in_17 (by decide) ?_
    exact z_zret hx hb hr hlocks (zb_narrow (Or.inl rfl)) hS (Nat.le_of_ble_eq_true rfl) (Nat.le_of_ble_eq_true rfl) dX7_in_18 ⟨by rw [mIn, zB_f (fun q9 => absurd q9.1 (fun q8 => by rw [Int64.le_iff_toInt_le] at q8; rw [Int64.lt_iff_toInt_lt] at c2; omega))], rfl⟩
  · refine lv_lload_n hx hb dX7_in_6 rfl (lv_at hl 0 rfl) ?_
    refine lv_lload hx hb dX7_in_7 (lv_at hl 2 rfl) ?_
    refine z_lif_gt (tgt := 17) hx hb dX7_in_9 dX7_in_10 (by decide) (fun c9 => ?_) (fun c9 => ?_)
    · refine lv_iconst (v := 0) hx hb dX7_in_17 (by decide) ?_
      exact z_zret hx hb hr hlocks (zb_narrow (Or.inl rfl)) hS (Nat.le_of_ble_eq_true rfl) (Nat.le_of_ble_eq_true rfl) dX7_in_18 ⟨by rw [mIn, zB_f (fun q9 => absurd q9.2 (fun q8 => by rw [Int64.le_iff_toInt_le] at q8; rw [Int64.lt_iff_toInt_lt] at c9; omega))], rfl⟩
    · refine lv_iconst (v := 1) hx hb dX7_in_13 (by decide) ?_
      refine lv_goto (tgt := 18) hx hb dX7_in_14 (by decide) ?_
      exact z_zret hx hb hr hlocks (zb_narrow (Or.inr rfl)) hS (Nat.le_of_ble_eq_true rfl) (Nat.le_of_ble_eq_true rfl) dX7_in_18 ⟨by rw [mIn, zB_t ⟨zI64_nlt c2, zI64_nlt c9⟩], rfl⟩
set_option maxHeartbeats 4000000 in
set_option maxRecDepth 100000 in
theorem c_X7_isPeriods (l : Launch) (D : va_G) (cs : Nat → ClassId) (w : zw) (sz : Nat) (v : Int64)   : zMr l D cs yX7_isPeriods wsX7_isPeriods 0 w sz [.long (v)] (.int (zPerB v)) := by
  refine z_met (cc := cX7_isPeriods) (maxL := 2) (ret := (some .boolean)) (by decide) rfl (Nat.le_of_ble_eq_true rfl) ?_
  intro p e s m below meth c hx hb hr hml hown hts hlocks hnm hsz hK hE hS ls hl
  have hl : lv_has ls 2 [(0, .long (v))] := hl
  refine lv_lload_n hx hb dX7_isPeriods_0 rfl (lv_at hl 0 rfl) ?_
  refine lv_lconst (v := 1) hx hb dX7_isPeriods_1 (by decide) ?_
  refine z_lif_eq (tgt := 62) hx hb dX7_isPeriods_2 dX7_isPeriods_3 (by decide) (fun c2 => ?_) (fun c2 => ?_)
  · refine lv_iconst (v := 1) hx hb dX7_isPeriods_62 (by decide) ?_
    refine lv_goto (tgt := 67) hx hb dX7_isPeriods_63 (by decide) ?_
    exact z_zret hx hb hr hlocks (zb_narrow (Or.inr rfl)) hS (Nat.le_of_ble_eq_true rfl) (Nat.le_of_ble_eq_true rfl) dX7_isPeriods_67 ⟨by rw [zPerB, zB_t ⟨0, by decide, c2.symm⟩], rfl⟩
  · refine lv_lload_n hx hb dX7_isPeriods_6 rfl (lv_at hl 0 rfl) ?_
    refine lv_ldc2 (v := 2) hx hb hown (hts (.constantLong RX7 130 (2)) (by decide +kernel)) dX7_isPeriods_7 ?_
    refine z_lif_eq (tgt := 62) hx hb dX7_isPeriods_10 dX7_isPeriods_11 (by decide) (fun c10 => ?_) (fun c10 => ?_)
    · refine lv_iconst (v := 1) hx hb dX7_isPeriods_62 (by decide) ?_
      refine lv_goto (tgt := 67) hx hb dX7_isPeriods_63 (by decide) ?_
      exact z_zret hx hb hr hlocks (zb_narrow (Or.inr rfl)) hS (Nat.le_of_ble_eq_true rfl) (Nat.le_of_ble_eq_true rfl) dX7_isPeriods_67 ⟨by rw [zPerB, zB_t ⟨1, by decide, c10.symm⟩], rfl⟩
    · refine lv_lload_n hx hb dX7_isPeriods_14 rfl (lv_at hl 0 rfl) ?_
      refine lv_ldc2 (v := 4) hx hb hown (hts (.constantLong RX7 186 (4)) (by decide +kernel)) dX7_isPeriods_15 ?_
      refine z_lif_eq (tgt := 62) hx hb dX7_isPeriods_18 dX7_isPeriods_19 (by decide) (fun c18 => ?_) (fun c18 => ?_)
      · refine lv_iconst (v := 1) hx hb dX7_isPeriods_62 (by decide) ?_
        refine lv_goto (tgt := 67) hx hb dX7_isPeriods_63 (by decide) ?_
        exact z_zret hx hb hr hlocks (zb_narrow (Or.inr rfl)) hS (Nat.le_of_ble_eq_true rfl) (Nat.le_of_ble_eq_true rfl) dX7_isPeriods_67 ⟨by rw [zPerB, zB_t ⟨2, by decide, c18.symm⟩], rfl⟩
      · refine lv_lload_n hx hb dX7_isPeriods_22 rfl (lv_at hl 0 rfl) ?_
        refine lv_ldc2 (v := 12) hx hb hown (hts (.constantLong RX7 188 (12)) (by decide +kernel)) dX7_isPeriods_23 ?_
        refine z_lif_eq (tgt := 62) hx hb dX7_isPeriods_26 dX7_isPeriods_27 (by decide) (fun c26 => ?_) (fun c26 => ?_)
        · refine lv_iconst (v := 1) hx hb dX7_isPeriods_62 (by decide) ?_
          refine lv_goto (tgt := 67) hx hb dX7_isPeriods_63 (by decide) ?_
          exact z_zret hx hb hr hlocks (zb_narrow (Or.inr rfl)) hS (Nat.le_of_ble_eq_true rfl) (Nat.le_of_ble_eq_true rfl) dX7_isPeriods_67 ⟨by rw [zPerB, zB_t ⟨3, by decide, c26.symm⟩], rfl⟩
        · refine lv_lload_n hx hb dX7_isPeriods_30 rfl (lv_at hl 0 rfl) ?_
          refine lv_ldc2 (v := 13) hx hb hown (hts (.constantLong RX7 190 (13)) (by decide +kernel)) dX7_isPeriods_31 ?_
          refine z_lif_eq (tgt := 62) hx hb dX7_isPeriods_34 dX7_isPeriods_35 (by decide) (fun c34 => ?_) (fun c34 => ?_)
          · refine lv_iconst (v := 1) hx hb dX7_isPeriods_62 (by decide) ?_
            refine lv_goto (tgt := 67) hx hb dX7_isPeriods_63 (by decide) ?_
            exact z_zret hx hb hr hlocks (zb_narrow (Or.inr rfl)) hS (Nat.le_of_ble_eq_true rfl) (Nat.le_of_ble_eq_true rfl) dX7_isPeriods_67 ⟨by rw [zPerB, zB_t ⟨4, by decide, c34.symm⟩], rfl⟩
          · refine lv_lload_n hx hb dX7_isPeriods_38 rfl (lv_at hl 0 rfl) ?_
            refine lv_ldc2 (v := 24) hx hb hown (hts (.constantLong RX7 192 (24)) (by decide +kernel)) dX7_isPeriods_39 ?_
            refine z_lif_eq (tgt := 62) hx hb dX7_isPeriods_42 dX7_isPeriods_43 (by decide) (fun c42 => ?_) (fun c42 => ?_)
            · refine lv_iconst (v := 1) hx hb dX7_isPeriods_62 (by decide) ?_
              refine lv_goto (tgt := 67) hx hb dX7_isPeriods_63 (by decide) ?_
              exact z_zret hx hb hr hlocks (zb_narrow (Or.inr rfl)) hS (Nat.le_of_ble_eq_true rfl) (Nat.le_of_ble_eq_true rfl) dX7_isPeriods_67 ⟨by rw [zPerB, zB_t ⟨5, by decide, c42.symm⟩], rfl⟩
            · refine lv_lload_n hx hb dX7_isPeriods_46 rfl (lv_at hl 0 rfl) ?_
              refine lv_ldc2 (v := 26) hx hb hown (hts (.constantLong RX7 194 (26)) (by decide +kernel)) dX7_isPeriods_47 ?_
              refine z_lif_eq (tgt := 62) hx hb dX7_isPeriods_50 dX7_isPeriods_51 (by decide) (fun c50 => ?_) (fun c50 => ?_)
              · refine lv_iconst (v := 1) hx hb dX7_isPeriods_62 (by decide) ?_
                refine lv_goto (tgt := 67) hx hb dX7_isPeriods_63 (by decide) ?_
                exact z_zret hx hb hr hlocks (zb_narrow (Or.inr rfl)) hS (Nat.le_of_ble_eq_true rfl) (Nat.le_of_ble_eq_true rfl) dX7_isPeriods_67 ⟨by rw [zPerB, zB_t ⟨6, by decide, c50.symm⟩], rfl⟩
              · refine lv_lload_n hx hb dX7_isPeriods_54 rfl (lv_at hl 0 rfl) ?_
                refine lv_ldc2 (v := 52) hx hb hown (hts (.constantLong RX7 196 (52)) (by decide +kernel)) dX7_isPeriods_55 ?_
                refine z_lif_ne (tgt := 66) hx hb dX7_isPeriods_58 dX7_isPeriods_59 (by decide) (fun c58 => ?_) (fun c58 => ?_)
                · refine lv_iconst (v := 0) hx hb dX7_isPeriods_66 (by decide) ?_
                  exact z_zret hx hb hr hlocks (zb_narrow (Or.inl rfl)) hS (Nat.le_of_ble_eq_true rfl) (Nat.le_of_ble_eq_true rfl) dX7_isPeriods_67 ⟨by rw [zPerB, zB_f (fun q9 => by obtain ⟨j, q1, q2⟩ := q9; rcases (show j = 0 ∨ j = 1 ∨ j = 2 ∨ j = 3 ∨ j = 4 ∨ j = 5 ∨ j = 6 ∨ j = 7 by omega) with q | q | q | q | q | q | q | q <;> subst q <;> first | exact c2 q2.symm | exact c10 q2.symm | exact c18 q2.symm | exact c26 q2.symm | exact c34 q2.symm | exact c42 q2.symm | exact c50 q2.symm | exact c58 q2.symm)], rfl⟩
                · refine lv_iconst (v := 1) hx hb dX7_isPeriods_62 (by decide) ?_
                  refine lv_goto (tgt := 67) hx hb dX7_isPeriods_63 (by decide) ?_
                  exact z_zret hx hb hr hlocks (zb_narrow (Or.inr rfl)) hS (Nat.le_of_ble_eq_true rfl) (Nat.le_of_ble_eq_true rfl) dX7_isPeriods_67 ⟨by rw [zPerB, zB_t ⟨7, by decide, c58.symm⟩], rfl⟩
set_option maxHeartbeats 4000000 in
set_option maxRecDepth 100000 in
theorem c_X7_mayBe (l : Launch) (D : va_G) (cs : Nat → ClassId) (w : zw) (sz : Nat) (what : Int32) (v : Int64)   : zMr l D cs yX7_mayBe wsX7_mayBe 1 w sz [.int (what), .long (v)] (.int (mMay what v)) := by
  refine z_met (cc := cX7_mayBe) (maxL := 3) (ret := (some .boolean)) (by decide) rfl (Nat.le_of_ble_eq_true rfl) ?_
  intro p e s m below meth c hx hb hr hml hown hts hlocks hnm hsz hK hE hS ls hl
  have hl : lv_has ls 3 [(0, .int (what)), (1, .long (v))] := hl
  refine lv_iload_n hx hb dX7_mayBe_0 rfl (lv_at hl 0 rfl) ?_
  by_cases t1_0 : what = 0
  · refine lv_tableIn (off := 39) (tgt := 40) hx hb dX7_mayBe_1 (by rw [t1_0]; decide) (by rw [t1_0]; decide) (by rw [t1_0]; rfl) (by decide) ?_
    refine lv_lload_n hx hb dX7_mayBe_40 rfl (lv_at hl 1 rfl) ?_
    refine lv_lconst (v := 0) hx hb dX7_mayBe_41 (by decide) ?_
    refine lv_lconst (v := 1) hx hb dX7_mayBe_42 (by decide) ?_
    refine z_rS (As := [.long (v), .long (0), .long (1)]) (rest := []) (n := 3) ⟨hx, hb, hml, hown, hts⟩ (c_X7_in l D cs w s.heap.size v 0 1) gX7_mayBe_X7_in rfl ⟨by decide +kernel, by decide +kernel, by decide +kernel⟩ ⟨Nat.le_of_ble_eq_true rfl, Nat.le_of_ble_eq_true rfl⟩ hK hE hS rfl hl.1 rfl (Nat.le_of_ble_eq_true rfl) dX7_mayBe_43 ⟨Nat.le_of_ble_eq_true rfl, Nat.le_of_ble_eq_true rfl⟩ (fun H locs hS => ?_)
    exact z_zret hx hb hr hlocks (zb_narrow (mIn_01 _ _ _)) hS (Nat.le_of_ble_eq_true rfl) (Nat.le_of_ble_eq_true rfl) dX7_mayBe_46 ⟨by rw [mMay, if_neg (by rw [t1_0]; decide), zCanB, if_pos t1_0]; rfl, rfl⟩
  by_cases t1_1 : what = 1
  · refine lv_tableIn (off := 46) (tgt := 47) hx hb dX7_mayBe_1 (by rw [t1_1]; decide) (by rw [t1_1]; decide) (by rw [t1_1]; rfl) (by decide) ?_
    refine lv_lload_n hx hb dX7_mayBe_47 rfl (lv_at hl 1 rfl) ?_
    refine lv_lconst (v := 0) hx hb dX7_mayBe_48 (by decide) ?_
    refine lv_ldc2 (v := 1000000000000) hx hb hown (hts (.constantLong RX7 210 (1000000000000)) (by decide +kernel)) dX7_mayBe_49 ?_
    refine z_rS (As := [.long (v), .long (0), .long (1000000000000)]) (rest := []) (n := 3) ⟨hx, hb, hml, hown, hts⟩ (c_X7_in l D cs w s.heap.size v 0 1000000000000) gX7_mayBe_X7_in rfl ⟨by decide +kernel, by decide +kernel, by decide +kernel⟩ ⟨Nat.le_of_ble_eq_true rfl, Nat.le_of_ble_eq_true rfl⟩ hK hE hS rfl hl.1 rfl (Nat.le_of_ble_eq_true rfl) dX7_mayBe_52 ⟨Nat.le_of_ble_eq_true rfl, Nat.le_of_ble_eq_true rfl⟩ (fun H locs hS => ?_)
    exact z_zret hx hb hr hlocks (zb_narrow (mIn_01 _ _ _)) hS (Nat.le_of_ble_eq_true rfl) (Nat.le_of_ble_eq_true rfl) dX7_mayBe_55 ⟨by rw [mMay, if_neg (by rw [t1_1]; decide), zCanB, if_neg t1_0, if_pos (Or.inl t1_1)]; rfl, rfl⟩
  by_cases t1_2 : what = 2
  · refine lv_tableIn (off := 46) (tgt := 47) hx hb dX7_mayBe_1 (by rw [t1_2]; decide) (by rw [t1_2]; decide) (by rw [t1_2]; rfl) (by decide) ?_
    refine lv_lload_n hx hb dX7_mayBe_47 rfl (lv_at hl 1 rfl) ?_
    refine lv_lconst (v := 0) hx hb dX7_mayBe_48 (by decide) ?_
    refine lv_ldc2 (v := 1000000000000) hx hb hown (hts (.constantLong RX7 210 (1000000000000)) (by decide +kernel)) dX7_mayBe_49 ?_
    refine z_rS (As := [.long (v), .long (0), .long (1000000000000)]) (rest := []) (n := 3) ⟨hx, hb, hml, hown, hts⟩ (c_X7_in l D cs w s.heap.size v 0 1000000000000) gX7_mayBe_X7_in rfl ⟨by decide +kernel, by decide +kernel, by decide +kernel⟩ ⟨Nat.le_of_ble_eq_true rfl, Nat.le_of_ble_eq_true rfl⟩ hK hE hS rfl hl.1 rfl (Nat.le_of_ble_eq_true rfl) dX7_mayBe_52 ⟨Nat.le_of_ble_eq_true rfl, Nat.le_of_ble_eq_true rfl⟩ (fun H locs hS => ?_)
    exact z_zret hx hb hr hlocks (zb_narrow (mIn_01 _ _ _)) hS (Nat.le_of_ble_eq_true rfl) (Nat.le_of_ble_eq_true rfl) dX7_mayBe_55 ⟨by rw [mMay, if_neg (by rw [t1_2]; decide), zCanB, if_neg t1_0, if_pos (Or.inr t1_2)]; rfl, rfl⟩
  by_cases t1_3 : what = 3
  · refine lv_tableIn (off := 55) (tgt := 56) hx hb dX7_mayBe_1 (by rw [t1_3]; decide) (by rw [t1_3]; decide) (by rw [t1_3]; rfl) (by decide) ?_
    refine lv_lload_n hx hb dX7_mayBe_56 rfl (lv_at hl 1 rfl) ?_
    refine lv_lconst (v := 0) hx hb dX7_mayBe_57 (by decide) ?_
    refine lv_ldc2 (v := 1000000000) hx hb hown (hts (.constantLong RX7 212 (1000000000)) (by decide +kernel)) dX7_mayBe_58 ?_
    refine z_rS (As := [.long (v), .long (0), .long (1000000000)]) (rest := []) (n := 3) ⟨hx, hb, hml, hown, hts⟩ (c_X7_in l D cs w s.heap.size v 0 1000000000) gX7_mayBe_X7_in rfl ⟨by decide +kernel, by decide +kernel, by decide +kernel⟩ ⟨Nat.le_of_ble_eq_true rfl, Nat.le_of_ble_eq_true rfl⟩ hK hE hS rfl hl.1 rfl (Nat.le_of_ble_eq_true rfl) dX7_mayBe_61 ⟨Nat.le_of_ble_eq_true rfl, Nat.le_of_ble_eq_true rfl⟩ (fun H locs hS => ?_)
    exact z_zret hx hb hr hlocks (zb_narrow (mIn_01 _ _ _)) hS (Nat.le_of_ble_eq_true rfl) (Nat.le_of_ble_eq_true rfl) dX7_mayBe_64 ⟨by rw [mMay, if_neg (by rw [t1_3]; decide), zCanB, if_neg t1_0, if_neg (fun q9 => q9.elim t1_1 t1_2), if_pos t1_3]; rfl, rfl⟩
  by_cases t1_4 : what = 4
  · refine lv_tableIn (off := 64) (tgt := 65) hx hb dX7_mayBe_1 (by rw [t1_4]; decide) (by rw [t1_4]; decide) (by rw [t1_4]; rfl) (by decide) ?_
    refine lv_iconst (v := 1) hx hb dX7_mayBe_65 (by decide) ?_
    exact z_zret hx hb hr hlocks (zb_narrow (Or.inr rfl)) hS (Nat.le_of_ble_eq_true rfl) (Nat.le_of_ble_eq_true rfl) dX7_mayBe_66 ⟨by rw [mMay, if_pos t1_4], rfl⟩
  by_cases t1_5 : what = 5
  · refine lv_tableIn (off := 66) (tgt := 67) hx hb dX7_mayBe_1 (by rw [t1_5]; decide) (by rw [t1_5]; decide) (by rw [t1_5]; rfl) (by decide) ?_
    refine lv_lload_n hx hb dX7_mayBe_67 rfl (lv_at hl 1 rfl) ?_
    refine z_rS (As := [.long (v)]) (rest := []) (n := 1) ⟨hx, hb, hml, hown, hts⟩ (c_X7_isPeriods l D cs w s.heap.size v) gX7_mayBe_X7_isPeriods rfl ⟨by decide +kernel, by decide +kernel, by decide +kernel⟩ ⟨Nat.le_of_ble_eq_true rfl, Nat.le_of_ble_eq_true rfl⟩ hK hE hS rfl hl.1 rfl (Nat.le_of_ble_eq_true rfl) dX7_mayBe_68 ⟨Nat.le_of_ble_eq_true rfl, Nat.le_of_ble_eq_true rfl⟩ (fun H locs hS => ?_)
    exact z_zret hx hb hr hlocks (zb_narrow (zPerB_01 _)) hS (Nat.le_of_ble_eq_true rfl) (Nat.le_of_ble_eq_true rfl) dX7_mayBe_71 ⟨by rw [mMay, if_neg t1_4, zCanB, if_neg t1_0, if_neg (fun q9 => q9.elim t1_1 t1_2), if_neg t1_3, if_pos t1_5], rfl⟩
  refine lv_tableOut (tgt := 72) hx hb dX7_mayBe_1 (by have q0 := lv_neT (a := 0) t1_0 rfl; have q1 := lv_neT (a := 1) t1_1 rfl; have q2 := lv_neT (a := 2) t1_2 rfl; have q3 := lv_neT (a := 3) t1_3 rfl; have q4 := lv_neT (a := 4) t1_4 rfl; have q5 := lv_neT (a := 5) t1_5 rfl; omega) (by decide) ?_
  refine lv_iconst (v := 0) hx hb dX7_mayBe_72 (by decide) ?_
  exact z_zret hx hb hr hlocks (zb_narrow (Or.inl rfl)) hS (Nat.le_of_ble_eq_true rfl) (Nat.le_of_ble_eq_true rfl) dX7_mayBe_73 ⟨by rw [mMay, if_neg t1_4, zCanB, if_neg t1_0, if_neg (fun q9 => q9.elim t1_1 t1_2), if_neg t1_3, if_neg t1_5], rfl⟩
set_option maxHeartbeats 4000000 in
set_option maxRecDepth 100000 in
theorem c0_X7_throwsIf (l : Launch) (D : va_G) (cs : Nat → ClassId) (w : zw) (sz : Nat) (mm : Nat) (ad : Nat → Nat) (th tb dd wk br yr wd : Int32) (code : Int32)  (h_m : w (mm) = some (mo ad (th) (tb) (dd) (wk) (br) (yr) (wd))) : zMr l D cs yX7_throwsIf wsX7_throwsIf 0 w sz [.ref (mm), .int (0), .int (code)] (.int (0)) := by
  refine z_met (cc := cX7_throwsIf) (maxL := 3) (ret := (some .boolean)) (by decide) rfl (Nat.le_of_ble_eq_true rfl) ?_
  intro p e s m below meth c hx hb hr hml hown hts hlocks hnm hsz hK hE hS ls hl
  have hl : lv_has ls 3 [(0, .ref (mm)), (1, .int (0)), (2, .int (code))] := hl
  refine lv_iload_n hx hb dX7_throwsIf_0 rfl (lv_at hl 1 rfl) ?_
  refine lv_if_eq (tgt := 9) hx hb dX7_throwsIf_1 (by decide) (fun _ => ?_) (fun cq9 => absurd rfl cq9)
  refine lv_iload_n hx hb dX7_throwsIf_9 rfl (lv_at hl 1 rfl) ?_
  exact z_zret hx hb hr hlocks (zb_narrow (Or.inl rfl)) hS (Nat.le_of_ble_eq_true rfl) (Nat.le_of_ble_eq_true rfl) dX7_throwsIf_10 ⟨rfl, rfl⟩
set_option maxHeartbeats 4000000 in
set_option maxRecDepth 100000 in
theorem c1_X7_throwsIf (l : Launch) (D : va_G) (cs : Nat → ClassId) (w : zw) (sz : Nat) (mm : Nat) (ad : Nat → Nat) (th tb dd wk br yr wd : Int32) (code : Int32)  (h_m : w (mm) = some (mo ad (th) (tb) (dd) (wk) (br) (yr) (wd))) : zM l D cs yX7_throwsIf wsX7_throwsIf 0 0 0 w sz [.ref (mm), .int (1), .int (code)] (fun r w2 => r = some (.int 1) ∧ zEx w w2 [(mm, (mo ad (code) (tb) (dd) (wk) (br) (yr) (wd)))]) := by
  refine z_met (cc := cX7_throwsIf) (maxL := 3) (ret := (some .boolean)) (by decide) rfl (Nat.le_of_ble_eq_true rfl) ?_
  intro p e s m below meth c hx hb hr hml hown hts hlocks hnm hsz hK hE hS ls hl
  have hl : lv_has ls 3 [(0, .ref (mm)), (1, .int (1)), (2, .int (code))] := hl
  refine lv_iload_n hx hb dX7_throwsIf_0 rfl (lv_at hl 1 rfl) ?_
  refine lv_if_eq (tgt := 9) hx hb dX7_throwsIf_1 (by decide) (fun cq9 => absurd cq9 (by decide)) (fun _ => ?_)
  refine lv_aload_n hx hb dX7_throwsIf_4 rfl (lv_at hl 0 rfl) ?_
  refine lv_iload_n hx hb dX7_throwsIf_5 rfl (lv_at hl 2 rfl) ?_
  refine z_put (C := RX7) (T := TX7) (N := 45) (v := .int (code)) hx hb hts (by decide +kernel) tyX7 tyX7_ok nmX7 hown hK hS h_m rfl 0 (by decide) (hts (.fieldLink RX7 126 "PayLedgerModel" "thrown" "I") (by decide +kernel)) rfl rfl rfl (Nat.le_of_ble_eq_true rfl) dX7_throwsIf_6 (fun H locs hS => ?_)
  obtain ⟨w1, ew1⟩ : ∃ z : zw, z = va_up w (mm) (some (mo ad (code) (tb) (dd) (wk) (br) (yr) (wd))) := ⟨_, rfl⟩
  have hS : zS (zA w sz) D w1 s.heap H locs := by rw [ew1]; exact hS
  have h1_mm : w1 (mm) = some (mo ad (code) (tb) (dd) (wk) (br) (yr) (wd)) := by rw [ew1]; exact va_up_self _ _ _
  refine lv_iload_n hx hb dX7_throwsIf_9 rfl (lv_at hl 1 rfl) ?_
  have hex : zEx w w1 [(mm, (mo ad (code) (tb) (dd) (wk) (br) (yr) (wd)))] := ⟨(zm1 h1_mm zm0), fun a9 h9 => by rw [ew1, va_up_ne _ _ (show a9 ≠ mm from h9 (mm, (mo ad (code) (tb) (dd) (wk) (br) (yr) (wd))) (List.mem_of_getElem? (i := 0) rfl))]⟩
  exact z_zret hx hb hr hlocks (zb_narrow (Or.inr rfl)) hS (Nat.le_of_ble_eq_true rfl) (Nat.le_of_ble_eq_true rfl) dX7_throwsIf_10 ⟨rfl, hex⟩
set_option maxHeartbeats 4000000 in
set_option maxRecDepth 100000 in
theorem c_X7_noWorker (l : Launch) (D : va_G) (cs : Nat → ClassId) (w : zw) (sz : Nat) (mm : Nat) (ad : Nat → Nat) (th tb dd br yr wd : Int32) (n k : Nat) (hn : n < 100) (hk : k < n) (h_m : w (mm) = some (mo ad (th) (tb) (dd) (nI n) (br) (yr) (wd))) : zMr l D cs yX7_noWorker wsX7_noWorker 0 w sz [.ref (mm), .int (nI k)] (.int (0)) := by
  refine z_met (cc := cX7_noWorker) (maxL := 2) (ret := (some .boolean)) (by decide) rfl (Nat.le_of_ble_eq_true rfl) ?_
  intro p e s m below meth c hx hb hr hml hown hts hlocks hnm hsz hK hE hS ls hl
  have hl : lv_has ls 2 [(0, .ref (mm)), (1, .int (nI k))] := hl
  refine lv_iload_n hx hb dX7_noWorker_0 rfl (lv_at hl 1 rfl) ?_
  refine lv_if_lt (tgt := 12) hx hb dX7_noWorker_1 (by decide) (fun cq9 => absurd cq9 (nI_pos (by omega))) (fun _ => ?_)
  refine lv_iload_n hx hb dX7_noWorker_4 rfl (lv_at hl 1 rfl) ?_
  refine lv_aload_n hx hb dX7_noWorker_5 rfl (lv_at hl 0 rfl) ?_
  refine z_get (C := RX7) (T := TX7) (N := 45) (v := .int (nI n)) hx hb hts (by decide +kernel) hown hK hS h_m rfl 21 (by decide) (hts (.fieldLink RX7 183 "PayLedgerModel" "workers" "I") (by decide +kernel)) rfl dX7_noWorker_6 ?_
  refine lv_icmp_lt (tgt := 16) hx hb dX7_noWorker_9 (by decide) (fun _ => ?_) (fun cq9 => absurd (nI_lt hk (by omega)) cq9)
  refine lv_iconst (v := 0) hx hb dX7_noWorker_16 (by decide) ?_
  exact z_zret hx hb hr hlocks (zb_narrow (Or.inl rfl)) hS (Nat.le_of_ble_eq_true rfl) (Nat.le_of_ble_eq_true rfl) dX7_noWorker_17 ⟨rfl, rfl⟩
set_option maxHeartbeats 4000000 in
set_option maxRecDepth 100000 in
theorem n_X7_noWorker (l : Launch) (D : va_G) (cs : Nat → ClassId) (w : zw) (sz : Nat) (mm : Nat) (ad : Nat → Nat) (th tb dd br yr wd : Int32) (n : Nat) (x : Int32) (hn : n < 100) (hx9 : ∀ k : Nat, k < n → x ≠ nI k) (h_m : w (mm) = some (mo ad (th) (tb) (dd) (nI n) (br) (yr) (wd))) : zMr l D cs yX7_noWorker wsX7_noWorker 0 w sz [.ref (mm), .int (x)] (.int (1)) := by
  refine z_met (cc := cX7_noWorker) (maxL := 2) (ret := (some .boolean)) (by decide) rfl (Nat.le_of_ble_eq_true rfl) ?_
  intro p e s m below meth c hx hb hr hml hown hts hlocks hnm hsz hK hE hS ls hl
  have hl : lv_has ls 2 [(0, .ref (mm)), (1, .int (x))] := hl
  refine lv_iload_n hx hb dX7_noWorker_0 rfl (lv_at hl 1 rfl) ?_
  refine lv_if_lt (tgt := 12) hx hb dX7_noWorker_1 (by decide) (fun c1 => ?_) (fun c1 => ?_)
  · refine lv_iconst (v := 1) hx hb dX7_noWorker_12 (by decide) ?_
    refine lv_goto (tgt := 17) hx hb dX7_noWorker_13 (by decide) ?_
    exact z_zret hx hb hr hlocks (zb_narrow (Or.inr rfl)) hS (Nat.le_of_ble_eq_true rfl) (Nat.le_of_ble_eq_true rfl) dX7_noWorker_17 ⟨rfl, rfl⟩
  · refine lv_iload_n hx hb dX7_noWorker_4 rfl (lv_at hl 1 rfl) ?_
    refine lv_aload_n hx hb dX7_noWorker_5 rfl (lv_at hl 0 rfl) ?_
    refine z_get (C := RX7) (T := TX7) (N := 45) (v := .int (nI n)) hx hb hts (by decide +kernel) hown hK hS h_m rfl 21 (by decide) (hts (.fieldLink RX7 183 "PayLedgerModel" "workers" "I") (by decide +kernel)) rfl dX7_noWorker_6 ?_
    refine lv_icmp_lt (tgt := 16) hx hb dX7_noWorker_9 (by decide) (fun cq9 => absurd cq9 (fun q9 => by obtain ⟨j9, h91, h92⟩ := zI32_of c1 q9 (by omega); exact hx9 j9 h91 h92)) (fun _ => ?_)
    refine lv_iconst (v := 1) hx hb dX7_noWorker_12 (by decide) ?_
    refine lv_goto (tgt := 17) hx hb dX7_noWorker_13 (by decide) ?_
    exact z_zret hx hb hr hlocks (zb_narrow (Or.inr rfl)) hS (Nat.le_of_ble_eq_true rfl) (Nat.le_of_ble_eq_true rfl) dX7_noWorker_17 ⟨rfl, rfl⟩
set_option maxHeartbeats 4000000 in
set_option maxRecDepth 100000 in
theorem c_X7_noDeduction (l : Launch) (D : va_G) (cs : Nat → ClassId) (w : zw) (sz : Nat) (mm : Nat) (ad : Nat → Nat) (th tb wk br yr wd : Int32) (n k : Nat) (hn : n < 100) (hk : k < n) (h_m : w (mm) = some (mo ad (th) (tb) (nI n) (wk) (br) (yr) (wd))) : zMr l D cs yX7_noDeduction wsX7_noDeduction 0 w sz [.ref (mm), .int (nI k)] (.int (0)) := by
  refine z_met (cc := cX7_noDeduction) (maxL := 2) (ret := (some .boolean)) (by decide) rfl (Nat.le_of_ble_eq_true rfl) ?_
  intro p e s m below meth c hx hb hr hml hown hts hlocks hnm hsz hK hE hS ls hl
  have hl : lv_has ls 2 [(0, .ref (mm)), (1, .int (nI k))] := hl
  refine lv_iload_n hx hb dX7_noDeduction_0 rfl (lv_at hl 1 rfl) ?_
  refine lv_if_lt (tgt := 12) hx hb dX7_noDeduction_1 (by decide) (fun cq9 => absurd cq9 (nI_pos (by omega))) (fun _ => ?_)
  refine lv_iload_n hx hb dX7_noDeduction_4 rfl (lv_at hl 1 rfl) ?_
  refine lv_aload_n hx hb dX7_noDeduction_5 rfl (lv_at hl 0 rfl) ?_
  refine z_get (C := RX7) (T := TX7) (N := 45) (v := .int (nI n)) hx hb hts (by decide +kernel) hown hK hS h_m rfl 11 (by decide) (hts (.fieldLink RX7 157 "PayLedgerModel" "deductions" "I") (by decide +kernel)) rfl dX7_noDeduction_6 ?_
  refine lv_icmp_lt (tgt := 16) hx hb dX7_noDeduction_9 (by decide) (fun _ => ?_) (fun cq9 => absurd (nI_lt hk (by omega)) cq9)
  refine lv_iconst (v := 0) hx hb dX7_noDeduction_16 (by decide) ?_
  exact z_zret hx hb hr hlocks (zb_narrow (Or.inl rfl)) hS (Nat.le_of_ble_eq_true rfl) (Nat.le_of_ble_eq_true rfl) dX7_noDeduction_17 ⟨rfl, rfl⟩
set_option maxHeartbeats 4000000 in
set_option maxRecDepth 100000 in
theorem n_X7_noDeduction (l : Launch) (D : va_G) (cs : Nat → ClassId) (w : zw) (sz : Nat) (mm : Nat) (ad : Nat → Nat) (th tb wk br yr wd : Int32) (n : Nat) (x : Int32) (hn : n < 100) (hx9 : ∀ k : Nat, k < n → x ≠ nI k) (h_m : w (mm) = some (mo ad (th) (tb) (nI n) (wk) (br) (yr) (wd))) : zMr l D cs yX7_noDeduction wsX7_noDeduction 0 w sz [.ref (mm), .int (x)] (.int (1)) := by
  refine z_met (cc := cX7_noDeduction) (maxL := 2) (ret := (some .boolean)) (by decide) rfl (Nat.le_of_ble_eq_true rfl) ?_
  intro p e s m below meth c hx hb hr hml hown hts hlocks hnm hsz hK hE hS ls hl
  have hl : lv_has ls 2 [(0, .ref (mm)), (1, .int (x))] := hl
  refine lv_iload_n hx hb dX7_noDeduction_0 rfl (lv_at hl 1 rfl) ?_
  refine lv_if_lt (tgt := 12) hx hb dX7_noDeduction_1 (by decide) (fun c1 => ?_) (fun c1 => ?_)
  · refine lv_iconst (v := 1) hx hb dX7_noDeduction_12 (by decide) ?_
    refine lv_goto (tgt := 17) hx hb dX7_noDeduction_13 (by decide) ?_
    exact z_zret hx hb hr hlocks (zb_narrow (Or.inr rfl)) hS (Nat.le_of_ble_eq_true rfl) (Nat.le_of_ble_eq_true rfl) dX7_noDeduction_17 ⟨rfl, rfl⟩
  · refine lv_iload_n hx hb dX7_noDeduction_4 rfl (lv_at hl 1 rfl) ?_
    refine lv_aload_n hx hb dX7_noDeduction_5 rfl (lv_at hl 0 rfl) ?_
    refine z_get (C := RX7) (T := TX7) (N := 45) (v := .int (nI n)) hx hb hts (by decide +kernel) hown hK hS h_m rfl 11 (by decide) (hts (.fieldLink RX7 157 "PayLedgerModel" "deductions" "I") (by decide +kernel)) rfl dX7_noDeduction_6 ?_
    refine lv_icmp_lt (tgt := 16) hx hb dX7_noDeduction_9 (by decide) (fun cq9 => absurd cq9 (fun q9 => by obtain ⟨j9, h91, h92⟩ := zI32_of c1 q9 (by omega); exact hx9 j9 h91 h92)) (fun _ => ?_)
    refine lv_iconst (v := 1) hx hb dX7_noDeduction_12 (by decide) ?_
    refine lv_goto (tgt := 17) hx hb dX7_noDeduction_13 (by decide) ?_
    exact z_zret hx hb hr hlocks (zb_narrow (Or.inr rfl)) hS (Nat.le_of_ble_eq_true rfl) (Nat.le_of_ble_eq_true rfl) dX7_noDeduction_17 ⟨rfl, rfl⟩
set_option maxHeartbeats 4000000 in
set_option maxRecDepth 100000 in
theorem c_X7_noTable (l : Launch) (D : va_G) (cs : Nat → ClassId) (w : zw) (sz : Nat) (mm : Nat) (ad : Nat → Nat) (th dd wk br yr wd : Int32) (n k : Nat) (hn : n < 100) (hk : k < n) (h_m : w (mm) = some (mo ad (th) (nI n) (dd) (wk) (br) (yr) (wd))) : zMr l D cs yX7_noTable wsX7_noTable 0 w sz [.ref (mm), .long (lN k)] (.int (0)) := by
  refine z_met (cc := cX7_noTable) (maxL := 3) (ret := (some .boolean)) (by decide) rfl (Nat.le_of_ble_eq_true rfl) ?_
  intro p e s m below meth c hx hb hr hml hown hts hlocks hnm hsz hK hE hS ls hl
  have hl : lv_has ls 3 [(0, .ref (mm)), (1, .long (lN k))] := hl
  refine lv_lload_n hx hb dX7_noTable_0 rfl (lv_at hl 1 rfl) ?_
  refine lv_lconst (v := 0) hx hb dX7_noTable_1 (by decide) ?_
  refine z_lif_lt (tgt := 16) hx hb dX7_noTable_2 dX7_noTable_3 (by decide) (fun cq9 => absurd cq9 (zlN_nneg (by omega))) (fun _ => ?_)
  refine lv_lload_n hx hb dX7_noTable_6 rfl (lv_at hl 1 rfl) ?_
  refine lv_aload_n hx hb dX7_noTable_7 rfl (lv_at hl 0 rfl) ?_
  refine z_get (C := RX7) (T := TX7) (N := 45) (v := .int (nI n)) hx hb hts (by decide +kernel) hown hK hS h_m rfl 5 (by decide) (hts (.fieldLink RX7 180 "PayLedgerModel" "tables" "I") (by decide +kernel)) rfl dX7_noTable_8 ?_
  refine lv_i2l (v := ((nI n : Int32).toInt64)) hx hb dX7_noTable_11 rfl ?_
  refine z_tl (y := lN n) (nI_l (by omega)) ?_
  refine z_lif_lt (tgt := 20) hx hb dX7_noTable_12 dX7_noTable_13 (by decide) (fun _ => ?_) (fun cq9 => absurd ((pk_lLT (by omega) (by omega)).mpr hk) cq9)
  refine lv_iconst (v := 0) hx hb dX7_noTable_20 (by decide) ?_
  exact z_zret hx hb hr hlocks (zb_narrow (Or.inl rfl)) hS (Nat.le_of_ble_eq_true rfl) (Nat.le_of_ble_eq_true rfl) dX7_noTable_21 ⟨rfl, rfl⟩
set_option maxHeartbeats 4000000 in
set_option maxRecDepth 100000 in
theorem n_X7_noTable (l : Launch) (D : va_G) (cs : Nat → ClassId) (w : zw) (sz : Nat) (mm : Nat) (ad : Nat → Nat) (th dd wk br yr wd : Int32) (n : Nat) (x : Int64) (hn : n < 100) (hx9 : ∀ k : Nat, k < n → x ≠ lN k) (h_m : w (mm) = some (mo ad (th) (nI n) (dd) (wk) (br) (yr) (wd))) : zMr l D cs yX7_noTable wsX7_noTable 0 w sz [.ref (mm), .long (x)] (.int (1)) := by
  refine z_met (cc := cX7_noTable) (maxL := 3) (ret := (some .boolean)) (by decide) rfl (Nat.le_of_ble_eq_true rfl) ?_
  intro p e s m below meth c hx hb hr hml hown hts hlocks hnm hsz hK hE hS ls hl
  have hl : lv_has ls 3 [(0, .ref (mm)), (1, .long (x))] := hl
  refine lv_lload_n hx hb dX7_noTable_0 rfl (lv_at hl 1 rfl) ?_
  refine lv_lconst (v := 0) hx hb dX7_noTable_1 (by decide) ?_
  refine z_lif_lt (tgt := 16) hx hb dX7_noTable_2 dX7_noTable_3 (by decide) (fun c2 => ?_) (fun c2 => ?_)
  · refine lv_iconst (v := 1) hx hb dX7_noTable_16 (by decide) ?_
    refine lv_goto (tgt := 21) hx hb dX7_noTable_17 (by decide) ?_
    exact z_zret hx hb hr hlocks (zb_narrow (Or.inr rfl)) hS (Nat.le_of_ble_eq_true rfl) (Nat.le_of_ble_eq_true rfl) dX7_noTable_21 ⟨rfl, rfl⟩
  · refine lv_lload_n hx hb dX7_noTable_6 rfl (lv_at hl 1 rfl) ?_
    refine lv_aload_n hx hb dX7_noTable_7 rfl (lv_at hl 0 rfl) ?_
    refine z_get (C := RX7) (T := TX7) (N := 45) (v := .int (nI n)) hx hb hts (by decide +kernel) hown hK hS h_m rfl 5 (by decide) (hts (.fieldLink RX7 180 "PayLedgerModel" "tables" "I") (by decide +kernel)) rfl dX7_noTable_8 ?_
    refine lv_i2l (v := ((nI n : Int32).toInt64)) hx hb dX7_noTable_11 rfl ?_
    refine z_tl (y := lN n) (nI_l (by omega)) ?_
    refine z_lif_lt (tgt := 20) hx hb dX7_noTable_12 dX7_noTable_13 (by decide) (fun cq9 => absurd cq9 (fun q9 => by obtain ⟨j9, h91, h92⟩ := zI64_of c2 q9 (by omega); exact hx9 j9 h91 h92)) (fun _ => ?_)
    refine lv_iconst (v := 1) hx hb dX7_noTable_16 (by decide) ?_
    refine lv_goto (tgt := 21) hx hb dX7_noTable_17 (by decide) ?_
    exact z_zret hx hb hr hlocks (zb_narrow (Or.inr rfl)) hS (Nat.le_of_ble_eq_true rfl) (Nat.le_of_ble_eq_true rfl) dX7_noTable_21 ⟨rfl, rfl⟩
