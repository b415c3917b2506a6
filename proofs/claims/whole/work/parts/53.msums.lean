/-! ===== the model: works, told, sums, dutyOf ===== -/
set_option maxHeartbeats 4000000 in
set_option maxRecDepth 100000 in
theorem c_X7_works (l : Launch) (D : va_G) (cs : Nat → ClassId) (w : zw) (sz : Nat) (mm : Nat) (ad : Nat → Nat) (J : Nat → Nat → Int64) (K : Nat → Nat → Int32) (th tb wk br yr wd : Int32) (wi : Nat) (bo rb pe me : Nat → Int32) (re cr ex : Nat → Int64) (en : Nat → Int32) (tx : Nat → Nat) (V P : Nat → Nat → Int64) (nb : Nat) (tn : Nat → Nat) (FF : Nat → Nat → Int64) (GF : Nat → Nat → Int32) (nd : Nat) (de so : Nat → Int32) (si ca bs : Nat → Int64) (n : Nat) (hinj : ∀ i j : Nat, i ≠ j → ad i ≠ ad j) (hM : zMA cs w ad J K) (hTb : mTb J K nb tn FF GF) (hDd : mDd J K nd de so si ca bs) (hP : mPy J K wi (n) bo rb pe me re cr ex en tx V nb) (hw : wi < 10) (hn : n ≤ 60) (hWk : ∀ k : Nat, k < n → mWkd nd de so si ca bs bo rb pe me re cr ex en tx tn FF GF V P k) (h_m : w (mm) = some (mo ad (th) (tb) (nI nd) (wk) (br) (yr) (wd))) : zM l D cs yX7_works wsX7_works 5 0 0 w sz [.ref (mm), .int (nI wi), .int (nI n)] (fun r w2 => r = none ∧ ∃ J' : Nat → Nat → Int64, mOut J J' ∧ zMZ cs w w2 ad mSW J' K ∧ mAh J' n V P) := by
  refine z_met (cc := cX7_works) (maxL := 4) (ret := none) (by decide) rfl (Nat.le_of_ble_eq_true rfl) ?_
  intro p e s m below meth c hx hb hr hml hown hts hlocks hnm hsz hK hE hS ls hl
  have hl : lv_has ls 4 [(0, .ref (mm)), (1, .int (nI wi)), (2, .int (nI n))] := hl
  have L2 : ∀ (k : Nat), ∀ (u : zw) (J2 : Nat → Nat → Int64), (hi : k ≤ n) → (ho : mOut J J2) → (hz : zMZ cs w u ad mSW J2 K) → (hA2 : mAh J2 k V P) → (h_m : u (mm) = some (mo ad (th) (tb) (nI nd) (wk) (br) (yr) (wd))) → ∀ (H : Heap) (locs : List Loc) (ls : Array Slot), zS (zA w sz) D u s.heap H locs → lv_has ls 4 [(3, .int (nI k)), (0, .ref (mm)), (1, .int (nI wi)), (2, .int (nI n))] → W p l e (zR 5 0 0) s m [.ref (mm), .int (nI wi), .int (nI n)].toArray below meth c H locs 0 0 (MQ below (zQ D w sz (fun r w2 => r = none ∧ ∃ J' : Nat → Nat → Int64, mOut J J' ∧ zMZ cs w w2 ad mSW J' K ∧ mAh J' n V P)) [.ref (mm), .int (nI wi), .int (nI n)].toArray s 0 0 (zA w sz)) (F0 m 2 ls []) := by
    refine zloopU (P := fun k => ∀ (u : zw) (J2 : Nat → Nat → Int64), (hi : k ≤ n) → (ho : mOut J J2) → (hz : zMZ cs w u ad mSW J2 K) → (hA2 : mAh J2 k V P) → (h_m : u (mm) = some (mo ad (th) (tb) (nI nd) (wk) (br) (yr) (wd))) → ∀ (H : Heap) (locs : List Loc) (ls : Array Slot), zS (zA w sz) D u s.heap H locs → lv_has ls 4 [(3, .int (nI k)), (0, .ref (mm)), (1, .int (nI wi)), (2, .int (nI n))] → W p l e (zR 5 0 0) s m [.ref (mm), .int (nI wi), .int (nI n)].toArray below meth c H locs 0 0 (MQ below (zQ D w sz (fun r w2 => r = none ∧ ∃ J' : Nat → Nat → Int64, mOut J J' ∧ zMZ cs w w2 ad mSW J' K ∧ mAh J' n V P)) [.ref (mm), .int (nI wi), .int (nI n)].toArray s 0 0 (zA w sz)) (F0 m 2 ls [])) n (fun k ih => ?_)
    intro u J2 hi ho hz hA2 h_m H locs ls hS hl
    refine lv_iload_n hx hb dX7_works_2 rfl (lv_at hl 0 rfl) ?_
    refine lv_iload_n hx hb dX7_works_3 rfl (lv_at hl 3 rfl) ?_
    refine lv_icmp_ge (tgt := 19) hx hb dX7_works_4 (by decide) (fun c4 => ?_) (fun c4 => ?_)
    · have hi9 : k = n := by rcases Nat.lt_or_ge k (n) with q | q; exact absurd c4 (nI_ge (b := n) q (by omega)); omega
      exact z_vret hx hb hr hlocks hS (Nat.le_of_ble_eq_true rfl) (Nat.le_of_ble_eq_true rfl) dX7_works_19 ⟨rfl, J2, ho, hz, by rw [hi9] at hA2; exact hA2⟩
    · have c4 : k < n := by rcases Nat.lt_or_ge k (n) with q | q; exact q; exact absurd (nI_le (a := n) q (by omega)) c4
      refine lv_aload_n hx hb dX7_works_7 rfl (lv_at hl 1 rfl) ?_
      refine lv_iload_n hx hb dX7_works_8 rfl (lv_at hl 2 rfl) ?_
      refine lv_iload_n hx hb dX7_works_9 rfl (lv_at hl 0 rfl) ?_
      refine z_invV (As := [.int (nI wi), .int (nI k)]) (rest := []) (n := 2) ⟨hx, hb, hml, hown, hts⟩ (c_X7_worksOne l D cs u H.size mm ad J2 K th tb wk br yr wd wi bo rb pe me re cr ex en tx V P nb tn FF GF nd de so si ca bs k hinj (hM.w hinj hz ho) (hTb.out ho) (hDd.out ho) (fun i hi => hP.out ho i (by omega)) hw (by omega) hA2 (hWk k c4) h_m) gX7_works_X7_worksOne rfl ⟨rfl, by decide +kernel, by decide +kernel, by decide +kernel⟩ ⟨Nat.le_of_ble_eq_true rfl, Nat.le_of_ble_eq_true rfl⟩ hK hE hS rfl h_m rfl hl.1 rfl (Nat.le_of_ble_eq_true rfl) dX7_works_10 ⟨Nat.le_of_ble_eq_true rfl, Nat.le_of_ble_eq_true rfl⟩ (fun v9 u1 H locs hq hS => ?_)
      obtain ⟨rfl, J3, ho3, hz3, hA3⟩ := hq
      have h_m3 : u1 mm = some (mo ad (th) (tb) (nI nd) (wk) (br) (yr) (wd)) := hz3.mm (hM.w hinj hz ho) h_m (by decide)
      refine W.eq (g2 := F0 m 13 ls []) rfl ?_
      refine lv_iinc (v := nI (k + 1)) (lv' := [(3, .int (nI (k + 1))), (0, .ref (mm)), (1, .int (nI wi)), (2, .int (nI n))]) hx hb dX7_works_13 hl (k := 0) rfl (nI_1 _) (by decide) rfl (fun ls hl => ?_)
      refine lv_goto (tgt := 2) hx hb dX7_works_16 (by decide) ?_
      exact ih c4 _ J3 (by omega) (ho.trans ho3) (hz.trans hz3) hA3 h_m3 _ _ _ hS (lv_sub hl [0, 1, 2, 3] rfl)
  refine lv_iconst (v := 0) hx hb dX7_works_0 (by decide) ?_
  refine lv_istore_n (lv' := [(3, .int (0)), (0, .ref (mm)), (1, .int (nI wi)), (2, .int (nI n))]) hx hb dX7_works_1 rfl hl (by decide) rfl (fun ls hl => ?_)
  exact L2 0 w J (by omega) mOut.refl (zMZ.refl hM (by decide)) (fun i hi => absurd hi (by omega)) h_m _ _ _ hS (lv_sub hl [0, 1, 2, 3] rfl)
set_option maxHeartbeats 4000000 in
set_option maxRecDepth 100000 in
theorem c_X7_told (l : Launch) (D : va_G) (cs : Nat → ClassId) (w : zw) (sz : Nat) (mm : Nat) (ad : Nat → Nat) (J : Nat → Nat → Int64) (K : Nat → Nat → Int32) (th tb dd wk br yr wd : Int32) (wi k : Nat) (b what : Int32) (v : Nat → Int64) (hw : wi < 10) (hk : k < 60) (e26 : K 26 (60 * wi + k) = b) (e0 : J 25 (60 * wi + k) = v 0) (e1 : J 38 k = v 1) (e2 : J 39 k = v 2) (e3 : J 40 k = v 3) (e4 : J 41 k = v 4) (e5 : J 42 k = v 5) (e6 : J 43 k = v 6) (e7 : J 35 (60 * wi + k) = v 7) (h_m : w (mm) = some (mo ad (th) (tb) (dd) (wk) (br) (yr) (wd))) (h_25 : w (ad 25) = some (eJ cs (600) (J 25))) (h_26 : w (ad 26) = some (eZ cs (600) (K 26))) (h_35 : w (ad 35) = some (eJ cs (600) (J 35))) (h_38 : w (ad 38) = some (eJ cs (60) (J 38))) (h_39 : w (ad 39) = some (eJ cs (60) (J 39))) (h_40 : w (ad 40) = some (eJ cs (60) (J 40))) (h_41 : w (ad 41) = some (eJ cs (60) (J 41))) (h_42 : w (ad 42) = some (eJ cs (60) (J 42))) (h_43 : w (ad 43) = some (eJ cs (60) (J 43))) : zMr l D cs yX7_told wsX7_told 0 w sz [.ref (mm), .int (nI wi), .int (nI k), .int (what)] (.long (zLine what b v)) := by
  refine z_met (cc := cX7_told) (maxL := 4) (ret := (some .long)) (by decide) rfl (Nat.le_of_ble_eq_true rfl) ?_
  intro p e s m below meth c hx hb hr hml hown hts hlocks hnm hsz hK hE hS ls hl
  have hl : lv_has ls 4 [(0, .ref (mm)), (1, .int (nI wi)), (2, .int (nI k)), (3, .int (what))] := hl
  refine lv_iload_n hx hb dX7_told_0 rfl (lv_at hl 3 rfl) ?_
  by_cases t1_0 : what = 0
  · refine lv_tableIn (off := 47) (tgt := 48) hx hb dX7_told_1 (by rw [t1_0]; decide) (by rw [t1_0]; decide) (by rw [t1_0]; rfl) (by decide) ?_
    refine lv_aload_n hx hb dX7_told_48 rfl (lv_at hl 0 rfl) ?_
    refine z_get (C := RX7) (T := TX7) (N := 45) (v := .ref (ad 25)) hx hb hts (by decide +kernel) hown hK hS h_m rfl 25 (by decide) (hts (.fieldLink RX7 66 "PayLedgerModel" "gross" "[J") (by decide +kernel)) rfl dX7_told_49 ?_
    refine lv_bipush (v := 60) hx hb dX7_told_52 (by decide) ?_
    refine lv_iload_n hx hb dX7_told_54 rfl (lv_at hl 1 rfl) ?_
    refine lv_imul hx hb dX7_told_55 ?_
    refine z_ti (y := nI (60 * wi)) (zI_mul (60) (wi)) ?_
    refine lv_iload_n hx hb dX7_told_56 rfl (lv_at hl 2 rfl) ?_
    refine lv_iadd hx hb dX7_told_57 ?_
    refine z_ti (y := nI ((60 * wi) + k)) (nI_add ((60 * wi)) (k)) ?_
    refine z_lald hx hb hK hS h_25 (vp_in_nI (by omega) (by decide)) dX7_told_58 ?_
    refine z_tl (y := ((J 25) (((60 * wi) + k)))) (congrArg _ (nI_clamp (by omega))) ?_
    refine z_tl (y := v 0) e0 ?_
    exact z_lret hx hb hr hlocks hS (Nat.le_of_ble_eq_true rfl) (Nat.le_of_ble_eq_true rfl) dX7_told_59 ⟨by rw [zLine, zTell, if_pos t1_0], rfl⟩
  by_cases t1_1 : what = 1
  · refine lv_tableIn (off := 59) (tgt := 60) hx hb dX7_told_1 (by rw [t1_1]; decide) (by rw [t1_1]; decide) (by rw [t1_1]; rfl) (by decide) ?_
    refine lv_aload_n hx hb dX7_told_60 rfl (lv_at hl 0 rfl) ?_
    refine z_get (C := RX7) (T := TX7) (N := 45) (v := .ref (ad 38)) hx hb hts (by decide +kernel) hown hK hS h_m rfl 38 (by decide) (hts (.fieldLink RX7 105 "PayLedgerModel" "earlies" "[J") (by decide +kernel)) rfl dX7_told_61 ?_
    refine lv_iload_n hx hb dX7_told_64 rfl (lv_at hl 2 rfl) ?_
    refine z_lald hx hb hK hS h_38 (vp_in_nI (by omega) (by decide)) dX7_told_65 ?_
    refine z_tl (y := ((J 38) (k))) (congrArg _ (nI_clamp (by omega))) ?_
    refine z_tl (y := v 1) e1 ?_
    exact z_lret hx hb hr hlocks hS (Nat.le_of_ble_eq_true rfl) (Nat.le_of_ble_eq_true rfl) dX7_told_66 ⟨by rw [zLine, zTell, if_neg t1_0, if_pos t1_1], rfl⟩
  by_cases t1_2 : what = 2
  · refine lv_tableIn (off := 66) (tgt := 67) hx hb dX7_told_1 (by rw [t1_2]; decide) (by rw [t1_2]; decide) (by rw [t1_2]; rfl) (by decide) ?_
    refine lv_aload_n hx hb dX7_told_67 rfl (lv_at hl 0 rfl) ?_
    refine z_get (C := RX7) (T := TX7) (N := 45) (v := .ref (ad 39)) hx hb hts (by decide +kernel) hown hK hS h_m rfl 39 (by decide) (hts (.fieldLink RX7 108 "PayLedgerModel" "incomes" "[J") (by decide +kernel)) rfl dX7_told_68 ?_
    refine lv_iload_n hx hb dX7_told_71 rfl (lv_at hl 2 rfl) ?_
    refine z_lald hx hb hK hS h_39 (vp_in_nI (by omega) (by decide)) dX7_told_72 ?_
    refine z_tl (y := ((J 39) (k))) (congrArg _ (nI_clamp (by omega))) ?_
    refine z_tl (y := v 2) e2 ?_
    exact z_lret hx hb hr hlocks hS (Nat.le_of_ble_eq_true rfl) (Nat.le_of_ble_eq_true rfl) dX7_told_73 ⟨by rw [zLine, zTell, if_neg t1_0, if_neg t1_1, if_pos t1_2], rfl⟩
  by_cases t1_3 : what = 3
  · refine lv_tableIn (off := 73) (tgt := 74) hx hb dX7_told_1 (by rw [t1_3]; decide) (by rw [t1_3]; decide) (by rw [t1_3]; rfl) (by decide) ?_
    refine lv_aload_n hx hb dX7_told_74 rfl (lv_at hl 0 rfl) ?_
    refine z_get (C := RX7) (T := TX7) (N := 45) (v := .ref (ad 40)) hx hb hts (by decide +kernel) hown hK hS h_m rfl 40 (by decide) (hts (.fieldLink RX7 111 "PayLedgerModel" "basics" "[J") (by decide +kernel)) rfl dX7_told_75 ?_
    refine lv_iload_n hx hb dX7_told_78 rfl (lv_at hl 2 rfl) ?_
    refine z_lald hx hb hK hS h_40 (vp_in_nI (by omega) (by decide)) dX7_told_79 ?_
    refine z_tl (y := ((J 40) (k))) (congrArg _ (nI_clamp (by omega))) ?_
    refine z_tl (y := v 3) e3 ?_
    exact z_lret hx hb hr hlocks hS (Nat.le_of_ble_eq_true rfl) (Nat.le_of_ble_eq_true rfl) dX7_told_80 ⟨by rw [zLine, zTell, if_neg t1_0, if_neg t1_1, if_neg t1_2, if_pos t1_3], rfl⟩
  by_cases t1_4 : what = 4
  · refine lv_tableIn (off := 80) (tgt := 81) hx hb dX7_told_1 (by rw [t1_4]; decide) (by rw [t1_4]; decide) (by rw [t1_4]; rfl) (by decide) ?_
    refine lv_aload_n hx hb dX7_told_81 rfl (lv_at hl 0 rfl) ?_
    refine z_get (C := RX7) (T := TX7) (N := 45) (v := .ref (ad 41)) hx hb hts (by decide +kernel) hown hK hS h_m rfl 41 (by decide) (hts (.fieldLink RX7 114 "PayLedgerModel" "mores" "[J") (by decide +kernel)) rfl dX7_told_82 ?_
    refine lv_iload_n hx hb dX7_told_85 rfl (lv_at hl 2 rfl) ?_
    refine z_lald hx hb hK hS h_41 (vp_in_nI (by omega) (by decide)) dX7_told_86 ?_
    refine z_tl (y := ((J 41) (k))) (congrArg _ (nI_clamp (by omega))) ?_
    refine z_tl (y := v 4) e4 ?_
    exact z_lret hx hb hr hlocks hS (Nat.le_of_ble_eq_true rfl) (Nat.le_of_ble_eq_true rfl) dX7_told_87 ⟨by rw [zLine, zTell, if_neg t1_0, if_neg t1_1, if_neg t1_2, if_neg t1_3, if_pos t1_4], rfl⟩
  by_cases t1_5 : what = 5
  · refine lv_tableIn (off := 87) (tgt := 88) hx hb dX7_told_1 (by rw [t1_5]; decide) (by rw [t1_5]; decide) (by rw [t1_5]; rfl) (by decide) ?_
    refine lv_aload_n hx hb dX7_told_88 rfl (lv_at hl 0 rfl) ?_
    refine z_get (C := RX7) (T := TX7) (N := 45) (v := .ref (ad 42)) hx hb hts (by decide +kernel) hown hK hS h_m rfl 42 (by decide) (hts (.fieldLink RX7 117 "PayLedgerModel" "lates" "[J") (by decide +kernel)) rfl dX7_told_89 ?_
    refine lv_iload_n hx hb dX7_told_92 rfl (lv_at hl 2 rfl) ?_
    refine z_lald hx hb hK hS h_42 (vp_in_nI (by omega) (by decide)) dX7_told_93 ?_
    refine z_tl (y := ((J 42) (k))) (congrArg _ (nI_clamp (by omega))) ?_
    refine z_tl (y := v 5) e5 ?_
    exact z_lret hx hb hr hlocks hS (Nat.le_of_ble_eq_true rfl) (Nat.le_of_ble_eq_true rfl) dX7_told_94 ⟨by rw [zLine, zTell, if_neg t1_0, if_neg t1_1, if_neg t1_2, if_neg t1_3, if_neg t1_4, if_pos t1_5], rfl⟩
  by_cases t1_6 : what = 6
  · refine lv_tableIn (off := 94) (tgt := 95) hx hb dX7_told_1 (by rw [t1_6]; decide) (by rw [t1_6]; decide) (by rw [t1_6]; rfl) (by decide) ?_
    refine lv_aload_n hx hb dX7_told_95 rfl (lv_at hl 0 rfl) ?_
    refine z_get (C := RX7) (T := TX7) (N := 45) (v := .ref (ad 43)) hx hb hts (by decide +kernel) hown hK hS h_m rfl 43 (by decide) (hts (.fieldLink RX7 120 "PayLedgerModel" "nets" "[J") (by decide +kernel)) rfl dX7_told_96 ?_
    refine lv_iload_n hx hb dX7_told_99 rfl (lv_at hl 2 rfl) ?_
    refine z_lald hx hb hK hS h_43 (vp_in_nI (by omega) (by decide)) dX7_told_100 ?_
    refine z_tl (y := ((J 43) (k))) (congrArg _ (nI_clamp (by omega))) ?_
    refine z_tl (y := v 6) e6 ?_
    exact z_lret hx hb hr hlocks hS (Nat.le_of_ble_eq_true rfl) (Nat.le_of_ble_eq_true rfl) dX7_told_101 ⟨by rw [zLine, zTell, if_neg t1_0, if_neg t1_1, if_neg t1_2, if_neg t1_3, if_neg t1_4, if_neg t1_5, if_pos t1_6], rfl⟩
  by_cases t1_7 : what = 7
  · refine lv_tableIn (off := 101) (tgt := 102) hx hb dX7_told_1 (by rw [t1_7]; decide) (by rw [t1_7]; decide) (by rw [t1_7]; rfl) (by decide) ?_
    refine lv_aload_n hx hb dX7_told_102 rfl (lv_at hl 0 rfl) ?_
    refine z_get (C := RX7) (T := TX7) (N := 45) (v := .ref (ad 35)) hx hb hts (by decide +kernel) hown hK hS h_m rfl 35 (by decide) (hts (.fieldLink RX7 96 "PayLedgerModel" "paid" "[J") (by decide +kernel)) rfl dX7_told_103 ?_
    refine lv_bipush (v := 60) hx hb dX7_told_106 (by decide) ?_
    refine lv_iload_n hx hb dX7_told_108 rfl (lv_at hl 1 rfl) ?_
    refine lv_imul hx hb dX7_told_109 ?_
    refine z_ti (y := nI (60 * wi)) (zI_mul (60) (wi)) ?_
    refine lv_iload_n hx hb dX7_told_110 rfl (lv_at hl 2 rfl) ?_
    refine lv_iadd hx hb dX7_told_111 ?_
    refine z_ti (y := nI ((60 * wi) + k)) (nI_add ((60 * wi)) (k)) ?_
    refine z_lald hx hb hK hS h_35 (vp_in_nI (by omega) (by decide)) dX7_told_112 ?_
    refine z_tl (y := ((J 35) (((60 * wi) + k)))) (congrArg _ (nI_clamp (by omega))) ?_
    refine z_tl (y := v 7) e7 ?_
    exact z_lret hx hb hr hlocks hS (Nat.le_of_ble_eq_true rfl) (Nat.le_of_ble_eq_true rfl) dX7_told_113 ⟨by rw [zLine, zTell, if_neg t1_0, if_neg t1_1, if_neg t1_2, if_neg t1_3, if_neg t1_4, if_neg t1_5, if_neg t1_6, if_pos t1_7], rfl⟩
  refine lv_tableOut (tgt := 114) hx hb dX7_told_1 (by have q0 := lv_neT (a := 0) t1_0 rfl; have q1 := lv_neT (a := 1) t1_1 rfl; have q2 := lv_neT (a := 2) t1_2 rfl; have q3 := lv_neT (a := 3) t1_3 rfl; have q4 := lv_neT (a := 4) t1_4 rfl; have q5 := lv_neT (a := 5) t1_5 rfl; have q6 := lv_neT (a := 6) t1_6 rfl; have q7 := lv_neT (a := 7) t1_7 rfl; omega) (by decide) ?_
  refine lv_aload_n hx hb dX7_told_114 rfl (lv_at hl 0 rfl) ?_
  refine z_get (C := RX7) (T := TX7) (N := 45) (v := .ref (ad 26)) hx hb hts (by decide +kernel) hown hK hS h_m rfl 26 (by decide) (hts (.fieldLink RX7 69 "PayLedgerModel" "isBonus" "[Z") (by decide +kernel)) rfl dX7_told_115 ?_
  refine lv_bipush (v := 60) hx hb dX7_told_118 (by decide) ?_
  refine lv_iload_n hx hb dX7_told_120 rfl (lv_at hl 1 rfl) ?_
  refine lv_imul hx hb dX7_told_121 ?_
  refine z_ti (y := nI (60 * wi)) (zI_mul (60) (wi)) ?_
  refine lv_iload_n hx hb dX7_told_122 rfl (lv_at hl 2 rfl) ?_
  refine lv_iadd hx hb dX7_told_123 ?_
  refine z_ti (y := nI ((60 * wi) + k)) (nI_add ((60 * wi)) (k)) ?_
  refine z_zald hx hb hK hS h_26 (vp_in_nI (by omega) (by decide)) dX7_told_124 ?_
  refine z_ti (y := ((K 26) (((60 * wi) + k)))) (congrArg _ (nI_clamp (by omega))) ?_
  refine z_ti (y := b) e26 ?_
  refine lv_if_eq (tgt := 132) hx hb dX7_told_125 (by decide) (fun c125 => ?_) (fun c125 => ?_)
  · refine lv_lconst (v := 0) hx hb dX7_told_132 (by decide) ?_
    exact z_lret hx hb hr hlocks hS (Nat.le_of_ble_eq_true rfl) (Nat.le_of_ble_eq_true rfl) dX7_told_133 ⟨by rw [zLine, zTell, if_neg t1_0, if_neg t1_1, if_neg t1_2, if_neg t1_3, if_neg t1_4, if_neg t1_5, if_neg t1_6, if_neg t1_7, if_pos c125], rfl⟩
  · refine lv_lconst (v := 1) hx hb dX7_told_128 (by decide) ?_
    refine lv_goto (tgt := 133) hx hb dX7_told_129 (by decide) ?_
    exact z_lret hx hb hr hlocks hS (Nat.le_of_ble_eq_true rfl) (Nat.le_of_ble_eq_true rfl) dX7_told_133 ⟨by rw [zLine, zTell, if_neg t1_0, if_neg t1_1, if_neg t1_2, if_neg t1_3, if_neg t1_4, if_neg t1_5, if_neg t1_6, if_neg t1_7, if_neg c125], rfl⟩
set_option maxHeartbeats 4000000 in
set_option maxRecDepth 100000 in
theorem c1_X7_sums (l : Launch) (D : va_G) (cs : Nat → ClassId) (w : zw) (sz : Nat) (mm : Nat) (ad : Nat → Nat) (J : Nat → Nat → Int64) (K : Nat → Nat → Int32) (th tb wk br yr wd : Int32) (wi : Nat) (bo rb pe me : Nat → Int32) (re cr ex : Nat → Int64) (en : Nat → Int32) (tx : Nat → Nat) (V P : Nat → Nat → Int64) (nb : Nat) (tn : Nat → Nat) (FF : Nat → Nat → Int64) (GF : Nat → Nat → Int32) (nd : Nat) (de so : Nat → Int32) (si ca bs : Nat → Int64) (n : Nat) (what : Int32) (hinj : ∀ i j : Nat, i ≠ j → ad i ≠ ad j) (hM : zMA cs w ad J K) (hW : mWr J K wi bo rb pe me re cr ex en tx V P nb tn FF GF nd de so si ca bs n) (h10 : ¬ what = 10) (h_m : w (mm) = some (mo ad (th) (tb) (nI nd) (wk) (br) (yr) (wd))) : zM l D cs yX7_sums wsX7_sums 6 0 0 w sz [.ref (mm), .int (nI wi), .int (what)] (fun r w2 => r = some (.long (zTotal bo V n (J 20 wi) (what))) ∧ ∃ J' : Nat → Nat → Int64, mOut J J' ∧ zMZ cs w w2 ad mSW J' K) := by
  refine z_met (cc := cX7_sums) (maxL := 6) (ret := (some .long)) (by decide) rfl (Nat.le_of_ble_eq_true rfl) ?_
  intro p e s m below meth c hx hb hr hml hown hts hlocks hnm hsz hK hE hS ls hl
  have hl : lv_has ls 6 [(0, .ref (mm)), (1, .int (nI wi)), (2, .int (what))] := hl
  have h19 := hW.2.2.2.2.2.2.1
  have h35 := hW.2.2.2.2.2.2.2
  have hP := hW.2.2.1
  have hw := hW.2.2.2.1
  have hn := hW.2.2.2.2.1
  have h_19 : w (ad 19) = some (eI cs (10) (K 19)) := hM 19 (by decide)
  have h_20 : w (ad 20) = some (eJ cs (10) (J 20)) := hM 20 (by decide)
  have L72 : ∀ (i : Nat), ∀ (u : zw) (J2 : Nat → Nat → Int64) (acc : Int64), (h8 : ¬ what = 8) → (h9 : ¬ what = 9) → (hi : i ≤ n) → (ho : mOut J J2) → (hz : zMZ cs w u ad mSW J2 K) → (hA2 : mAh J2 n V P) → (hacc : acc = zSum (fun j => zLine what (bo j) (V j)) i) → (h_m : u (mm) = some (mo ad (th) (tb) (nI nd) (wk) (br) (yr) (wd))) → (h_19 : u (ad 19) = some (eI cs (10) (K 19))) → ∀ (H : Heap) (locs : List Loc) (ls : Array Slot), zS (zA w sz) D u s.heap H locs → lv_has ls 6 [(5, .int (nI i)), (3, .long (acc)), (0, .ref (mm)), (1, .int (nI wi)), (2, .int (what))] → W p l e (zR 6 0 0) s m [.ref (mm), .int (nI wi), .int (what)].toArray below meth c H locs 0 0 (MQ below (zQ D w sz (fun r w2 => r = some (.long (zTotal bo V n (J 20 wi) (what))) ∧ ∃ J' : Nat → Nat → Int64, mOut J J' ∧ zMZ cs w w2 ad mSW J' K)) [.ref (mm), .int (nI wi), .int (what)].toArray s 0 0 (zA w sz)) (F0 m 72 ls []) := by
    refine zloopU (P := fun i => ∀ (u : zw) (J2 : Nat → Nat → Int64) (acc : Int64), (h8 : ¬ what = 8) → (h9 : ¬ what = 9) → (hi : i ≤ n) → (ho : mOut J J2) → (hz : zMZ cs w u ad mSW J2 K) → (hA2 : mAh J2 n V P) → (hacc : acc = zSum (fun j => zLine what (bo j) (V j)) i) → (h_m : u (mm) = some (mo ad (th) (tb) (nI nd) (wk) (br) (yr) (wd))) → (h_19 : u (ad 19) = some (eI cs (10) (K 19))) → ∀ (H : Heap) (locs : List Loc) (ls : Array Slot), zS (zA w sz) D u s.heap H locs → lv_has ls 6 [(5, .int (nI i)), (3, .long (acc)), (0, .ref (mm)), (1, .int (nI wi)), (2, .int (what))] → W p l e (zR 6 0 0) s m [.ref (mm), .int (nI wi), .int (what)].toArray below meth c H locs 0 0 (MQ below (zQ D w sz (fun r w2 => r = some (.long (zTotal bo V n (J 20 wi) (what))) ∧ ∃ J' : Nat → Nat → Int64, mOut J J' ∧ zMZ cs w w2 ad mSW J' K)) [.ref (mm), .int (nI wi), .int (what)].toArray s 0 0 (zA w sz)) (F0 m 72 ls [])) n (fun i ih => ?_)
    intro u J2 acc h8 h9 hi ho hz hA2 hacc h_m h_19 H locs ls hS hl
    have hM2 := hM.w hinj hz ho
    refine lv_iload hx hb dX7_sums_72 (lv_at hl 0 rfl) ?_
    refine lv_aload_n hx hb dX7_sums_74 rfl (lv_at hl 2 rfl) ?_
    refine z_get (C := RX7) (T := TX7) (N := 45) (v := .ref (ad 19)) hx hb hts (by decide +kernel) hown hK hS h_m rfl 19 (by decide) (hts (.fieldLink RX7 60 "PayLedgerModel" "many" "[I") (by decide +kernel)) rfl dX7_sums_75 ?_
    refine lv_iload_n hx hb dX7_sums_78 rfl (lv_at hl 3 rfl) ?_
    refine z_iald hx hb hK hS h_19 (vp_in_nI (by omega) (by decide)) dX7_sums_79 ?_
    refine z_ti (y := ((K 19) (wi))) (congrArg _ (nI_clamp (by omega))) ?_
    refine z_ti (y := nI n) h19 ?_
    refine lv_icmp_ge (tgt := 100) hx hb dX7_sums_80 (by decide) (fun c80 => ?_) (fun c80 => ?_)
    · have hi9 : i = n := by rcases Nat.lt_or_ge i (n) with q | q; exact absurd c80 (nI_ge (b := n) q (by omega)); omega
      refine lv_lload_n hx hb dX7_sums_100 rfl (lv_at hl 1 rfl) ?_
      exact z_lret hx hb hr hlocks hS (Nat.le_of_ble_eq_true rfl) (Nat.le_of_ble_eq_true rfl) dX7_sums_101 ⟨by rw [zTotal_x h8 h9 h10, hacc, hi9]; rfl, J2, ho, hz⟩
    · have c80 : i < n := by rcases Nat.lt_or_ge i (n) with q | q; exact q; exact absurd (nI_le (a := n) q (by omega)) c80
      refine lv_lload_n hx hb dX7_sums_83 rfl (lv_at hl 1 rfl) ?_
      refine lv_aload_n hx hb dX7_sums_84 rfl (lv_at hl 2 rfl) ?_
      refine lv_iload_n hx hb dX7_sums_85 rfl (lv_at hl 3 rfl) ?_
      refine lv_iload hx hb dX7_sums_86 (lv_at hl 0 rfl) ?_
      refine lv_iload_n hx hb dX7_sums_88 rfl (lv_at hl 4 rfl) ?_
      refine z_rV (As := [.int (nI wi), .int (nI i), .int (what)]) (rest := [.long (acc)]) (n := 3) ⟨hx, hb, hml, hown, hts⟩ (c_X7_told l D cs u H.size mm ad J2 K th tb (nI nd) wk br yr wd wi i (bo i) what (V i) hw (by omega) (hP i (by omega)).2.1 (by rw [ho 25 (by decide)]; exact (hP i (by omega)).1) ((hA2 i (by omega)).1).1 ((hA2 i (by omega)).1).2.1 ((hA2 i (by omega)).1).2.2.1 ((hA2 i (by omega)).1).2.2.2.1 ((hA2 i (by omega)).1).2.2.2.2.1 ((hA2 i (by omega)).1).2.2.2.2.2 (by rw [ho 35 (by decide)]; exact h35 i (by omega)) h_m (hM2 25 (by decide)) (hM2 26 (by decide)) (hM2 35 (by decide)) (hM2 38 (by decide)) (hM2 39 (by decide)) (hM2 40 (by decide)) (hM2 41 (by decide)) (hM2 42 (by decide)) (hM2 43 (by decide))) gX7_sums_X7_told rfl ⟨rfl, by decide +kernel, by decide +kernel, by decide +kernel⟩ ⟨Nat.le_of_ble_eq_true rfl, Nat.le_of_ble_eq_true rfl⟩ hK hE hS rfl h_m rfl hl.1 rfl (Nat.le_of_ble_eq_true rfl) dX7_sums_89 ⟨Nat.le_of_ble_eq_true rfl, Nat.le_of_ble_eq_true rfl⟩ (fun H locs hS => ?_)
      refine lv_ladd hx hb dX7_sums_92 ?_
      refine lv_lstore_n (lv' := [(3, .long ((acc + zLine what (bo i) (V i)))), (5, .int (nI i)), (0, .ref (mm)), (1, .int (nI wi)), (2, .int (what))]) hx hb dX7_sums_93 rfl hl (by decide) rfl (fun ls hl => ?_)
      refine lv_iinc (v := nI (i + 1)) (lv' := [(5, .int (nI (i + 1))), (3, .long ((acc + zLine what (bo i) (V i)))), (0, .ref (mm)), (1, .int (nI wi)), (2, .int (what))]) hx hb dX7_sums_94 hl (k := 1) rfl (nI_1 _) (by decide) rfl (fun ls hl => ?_)
      refine lv_goto (tgt := 72) hx hb dX7_sums_97 (by decide) ?_
      exact ih c80 _ J2 ((acc + zLine what (bo i) (V i))) h8 h9 (by omega) ho hz hA2 (by rw [hacc]; rfl) h_m h_19 _ _ _ hS (lv_sub hl [0, 1, 2, 3, 4] rfl)
  refine lv_iload_n hx hb dX7_sums_0 rfl (lv_at hl 2 rfl) ?_
  refine lv_bipush (v := 8) hx hb dX7_sums_1 (by decide) ?_
  refine lv_icmp_ne (tgt := 14) hx hb dX7_sums_3 (by decide) (fun c3 => ?_) (fun c3 => ?_)
  · refine lv_iload_n hx hb dX7_sums_14 rfl (lv_at hl 2 rfl) ?_
    refine lv_bipush (v := 9) hx hb dX7_sums_15 (by decide) ?_
    refine lv_icmp_ne (tgt := 27) hx hb dX7_sums_17 (by decide) (fun c17 => ?_) (fun c17 => ?_)
    · refine lv_iload_n hx hb dX7_sums_27 rfl (lv_at hl 2 rfl) ?_
      refine lv_bipush (v := 10) hx hb dX7_sums_28 (by decide) ?_
      refine lv_icmp_ne (tgt := 56) hx hb dX7_sums_30 (by decide) (fun _ => ?_) (fun cq9 => absurd cq9 h10)
      refine lv_aload_n hx hb dX7_sums_56 rfl (lv_at hl 0 rfl) ?_
      refine lv_iload_n hx hb dX7_sums_57 rfl (lv_at hl 1 rfl) ?_
      refine lv_aload_n hx hb dX7_sums_58 rfl (lv_at hl 0 rfl) ?_
      refine z_get (C := RX7) (T := TX7) (N := 45) (v := .ref (ad 19)) hx hb hts (by decide +kernel) hown hK hS h_m rfl 19 (by decide) (hts (.fieldLink RX7 60 "PayLedgerModel" "many" "[I") (by decide +kernel)) rfl dX7_sums_59 ?_
      refine lv_iload_n hx hb dX7_sums_62 rfl (lv_at hl 1 rfl) ?_
      refine z_iald hx hb hK hS h_19 (vp_in_nI (by omega) (by decide)) dX7_sums_63 ?_
      refine z_ti (y := ((K 19) (wi))) (congrArg _ (nI_clamp (by omega))) ?_
      refine z_ti (y := nI n) h19 ?_
      refine z_invV (As := [.int (nI wi), .int (nI n)]) (rest := []) (n := 2) ⟨hx, hb, hml, hown, hts⟩ (c_X7_works l D cs w s.heap.size mm ad J K th tb wk br yr wd wi bo rb pe me re cr ex en tx V P nb tn FF GF nd de so si ca bs n hinj hM hW.1 hW.2.1 hP hw hn hW.2.2.2.2.2.1 h_m) gX7_sums_X7_works rfl ⟨rfl, by decide +kernel, by decide +kernel, by decide +kernel⟩ ⟨Nat.le_of_ble_eq_true rfl, Nat.le_of_ble_eq_true rfl⟩ hK hE hS rfl h_m rfl hl.1 rfl (Nat.le_of_ble_eq_true rfl) dX7_sums_64 ⟨Nat.le_of_ble_eq_true rfl, Nat.le_of_ble_eq_true rfl⟩ (fun v9 u1 H locs hq hS => ?_)
      obtain ⟨rfl, J2, ho, hz, hA2⟩ := hq
      have h_m3 : u1 mm = some (mo ad (th) (tb) (nI nd) (wk) (br) (yr) (wd)) := hz.mm hM h_m (by decide)
      have h_193 : u1 (ad 19) = some (eI cs (10) (K 19)) := (hM.w hinj hz ho) 19 (by decide)
      refine W.eq (g2 := F0 m 67 ls []) rfl ?_
      refine lv_lconst (v := 0) hx hb dX7_sums_67 (by decide) ?_
      refine lv_lstore_n (lv' := [(3, .long (0)), (0, .ref (mm)), (1, .int (nI wi)), (2, .int (what))]) hx hb dX7_sums_68 rfl hl (by decide) rfl (fun ls hl => ?_)
      refine lv_iconst (v := 0) hx hb dX7_sums_69 (by decide) ?_
      refine lv_istore (lv' := [(5, .int (0)), (3, .long (0)), (0, .ref (mm)), (1, .int (nI wi)), (2, .int (what))]) hx hb dX7_sums_70 hl (by decide) rfl (fun ls hl => ?_)
      exact L72 0 _ J2 0 c3 c17 (by omega) ho hz hA2 rfl h_m3 h_193 _ _ _ hS (lv_sub hl [0, 1, 2, 3, 4] rfl)
    · refine lv_aload_n hx hb dX7_sums_20 rfl (lv_at hl 0 rfl) ?_
      refine z_get (C := RX7) (T := TX7) (N := 45) (v := .ref (ad 20)) hx hb hts (by decide +kernel) hown hK hS h_m rfl 20 (by decide) (hts (.fieldLink RX7 63 "PayLedgerModel" "settled" "[J") (by decide +kernel)) rfl dX7_sums_21 ?_
      refine lv_iload_n hx hb dX7_sums_24 rfl (lv_at hl 1 rfl) ?_
      refine z_lald hx hb hK hS h_20 (vp_in_nI (by omega) (by decide)) dX7_sums_25 ?_
      refine z_tl (y := ((J 20) (wi))) (congrArg _ (nI_clamp (by omega))) ?_
      exact z_lret hx hb hr hlocks hS (Nat.le_of_ble_eq_true rfl) (Nat.le_of_ble_eq_true rfl) dX7_sums_26 ⟨by unfold zTotal; rw [if_neg c3, if_pos c17], J, mOut.refl, zMZ.refl hM (by decide)⟩
  · refine lv_aload_n hx hb dX7_sums_6 rfl (lv_at hl 0 rfl) ?_
    refine z_get (C := RX7) (T := TX7) (N := 45) (v := .ref (ad 19)) hx hb hts (by decide +kernel) hown hK hS h_m rfl 19 (by decide) (hts (.fieldLink RX7 60 "PayLedgerModel" "many" "[I") (by decide +kernel)) rfl dX7_sums_7 ?_
    refine lv_iload_n hx hb dX7_sums_10 rfl (lv_at hl 1 rfl) ?_
    refine z_iald hx hb hK hS h_19 (vp_in_nI (by omega) (by decide)) dX7_sums_11 ?_
    refine z_ti (y := ((K 19) (wi))) (congrArg _ (nI_clamp (by omega))) ?_
    refine z_ti (y := nI n) h19 ?_
    refine lv_i2l (v := ((nI n : Int32).toInt64)) hx hb dX7_sums_12 rfl ?_
    exact z_lret hx hb hr hlocks hS (Nat.le_of_ble_eq_true rfl) (Nat.le_of_ble_eq_true rfl) dX7_sums_13 ⟨by unfold zTotal; rw [if_pos c3], J, mOut.refl, zMZ.refl hM (by decide)⟩
set_option maxHeartbeats 4000000 in
set_option maxRecDepth 100000 in
theorem c_X7_sums (l : Launch) (D : va_G) (cs : Nat → ClassId) (w : zw) (sz : Nat) (mm : Nat) (ad : Nat → Nat) (J : Nat → Nat → Int64) (K : Nat → Nat → Int32) (th tb wk br yr wd : Int32) (wi : Nat) (bo rb pe me : Nat → Int32) (re cr ex : Nat → Int64) (en : Nat → Int32) (tx : Nat → Nat) (V P : Nat → Nat → Int64) (nb : Nat) (tn : Nat → Nat) (FF : Nat → Nat → Int64) (GF : Nat → Nat → Int32) (nd : Nat) (de so : Nat → Int32) (si ca bs : Nat → Int64) (n : Nat) (what : Int32) (hinj : ∀ i j : Nat, i ≠ j → ad i ≠ ad j) (hM : zMA cs w ad J K) (hW : mWr J K wi bo rb pe me re cr ex en tx V P nb tn FF GF nd de so si ca bs n) (h_m : w (mm) = some (mo ad (th) (tb) (nI nd) (wk) (br) (yr) (wd))) : zM l D cs yX7_sums wsX7_sums 7 0 0 w sz [.ref (mm), .int (nI wi), .int (what)] (fun r w2 => r = some (.long (zTotal bo V n (J 20 wi) (what))) ∧ ∃ J' : Nat → Nat → Int64, mOut J J' ∧ zMZ cs w w2 ad mSW J' K) := by
  refine z_met (cc := cX7_sums) (maxL := 6) (ret := (some .long)) (by decide) rfl (Nat.le_of_ble_eq_true rfl) ?_
  intro p e s m below meth c hx hb hr hml hown hts hlocks hnm hsz hK hE hS ls hl
  have hl : lv_has ls 6 [(0, .ref (mm)), (1, .int (nI wi)), (2, .int (what))] := hl
  have h19 := hW.2.2.2.2.2.2.1
  have h35 := hW.2.2.2.2.2.2.2
  have hP := hW.2.2.1
  have hw := hW.2.2.2.1
  have hn := hW.2.2.2.2.1
  have h_19 : w (ad 19) = some (eI cs (10) (K 19)) := hM 19 (by decide)
  have h_20 : w (ad 20) = some (eJ cs (10) (J 20)) := hM 20 (by decide)
  have L72 : ∀ (i : Nat), ∀ (u : zw) (J2 : Nat → Nat → Int64) (acc : Int64), (h8 : ¬ what = 8) → (h9 : ¬ what = 9) → (h10 : ¬ what = 10) → (hi : i ≤ n) → (ho : mOut J J2) → (hz : zMZ cs w u ad mSW J2 K) → (hA2 : mAh J2 n V P) → (hacc : acc = zSum (fun j => zLine what (bo j) (V j)) i) → (h_m : u (mm) = some (mo ad (th) (tb) (nI nd) (wk) (br) (yr) (wd))) → (h_19 : u (ad 19) = some (eI cs (10) (K 19))) → ∀ (H : Heap) (locs : List Loc) (ls : Array Slot), zS (zA w sz) D u s.heap H locs → lv_has ls 6 [(5, .int (nI i)), (3, .long (acc)), (0, .ref (mm)), (1, .int (nI wi)), (2, .int (what))] → W p l e (zR 7 0 0) s m [.ref (mm), .int (nI wi), .int (what)].toArray below meth c H locs 0 0 (MQ below (zQ D w sz (fun r w2 => r = some (.long (zTotal bo V n (J 20 wi) (what))) ∧ ∃ J' : Nat → Nat → Int64, mOut J J' ∧ zMZ cs w w2 ad mSW J' K)) [.ref (mm), .int (nI wi), .int (what)].toArray s 0 0 (zA w sz)) (F0 m 72 ls []) := by
    refine zloopU (P := fun i => ∀ (u : zw) (J2 : Nat → Nat → Int64) (acc : Int64), (h8 : ¬ what = 8) → (h9 : ¬ what = 9) → (h10 : ¬ what = 10) → (hi : i ≤ n) → (ho : mOut J J2) → (hz : zMZ cs w u ad mSW J2 K) → (hA2 : mAh J2 n V P) → (hacc : acc = zSum (fun j => zLine what (bo j) (V j)) i) → (h_m : u (mm) = some (mo ad (th) (tb) (nI nd) (wk) (br) (yr) (wd))) → (h_19 : u (ad 19) = some (eI cs (10) (K 19))) → ∀ (H : Heap) (locs : List Loc) (ls : Array Slot), zS (zA w sz) D u s.heap H locs → lv_has ls 6 [(5, .int (nI i)), (3, .long (acc)), (0, .ref (mm)), (1, .int (nI wi)), (2, .int (what))] → W p l e (zR 7 0 0) s m [.ref (mm), .int (nI wi), .int (what)].toArray below meth c H locs 0 0 (MQ below (zQ D w sz (fun r w2 => r = some (.long (zTotal bo V n (J 20 wi) (what))) ∧ ∃ J' : Nat → Nat → Int64, mOut J J' ∧ zMZ cs w w2 ad mSW J' K)) [.ref (mm), .int (nI wi), .int (what)].toArray s 0 0 (zA w sz)) (F0 m 72 ls [])) n (fun i ih => ?_)
    intro u J2 acc h8 h9 h10 hi ho hz hA2 hacc h_m h_19 H locs ls hS hl
    have hM2 := hM.w hinj hz ho
    refine lv_iload hx hb dX7_sums_72 (lv_at hl 0 rfl) ?_
    refine lv_aload_n hx hb dX7_sums_74 rfl (lv_at hl 2 rfl) ?_
    refine z_get (C := RX7) (T := TX7) (N := 45) (v := .ref (ad 19)) hx hb hts (by decide +kernel) hown hK hS h_m rfl 19 (by decide) (hts (.fieldLink RX7 60 "PayLedgerModel" "many" "[I") (by decide +kernel)) rfl dX7_sums_75 ?_
    refine lv_iload_n hx hb dX7_sums_78 rfl (lv_at hl 3 rfl) ?_
    refine z_iald hx hb hK hS h_19 (vp_in_nI (by omega) (by decide)) dX7_sums_79 ?_
    refine z_ti (y := ((K 19) (wi))) (congrArg _ (nI_clamp (by omega))) ?_
    refine z_ti (y := nI n) h19 ?_
    refine lv_icmp_ge (tgt := 100) hx hb dX7_sums_80 (by decide) (fun c80 => ?_) (fun c80 => ?_)
    · have hi9 : i = n := by rcases Nat.lt_or_ge i (n) with q | q; exact absurd c80 (nI_ge (b := n) q (by omega)); omega
      refine lv_lload_n hx hb dX7_sums_100 rfl (lv_at hl 1 rfl) ?_
      exact z_lret hx hb hr hlocks hS (Nat.le_of_ble_eq_true rfl) (Nat.le_of_ble_eq_true rfl) dX7_sums_101 ⟨by rw [zTotal_x h8 h9 h10, hacc, hi9]; rfl, J2, ho, hz⟩
    · have c80 : i < n := by rcases Nat.lt_or_ge i (n) with q | q; exact q; exact absurd (nI_le (a := n) q (by omega)) c80
      refine lv_lload_n hx hb dX7_sums_83 rfl (lv_at hl 1 rfl) ?_
      refine lv_aload_n hx hb dX7_sums_84 rfl (lv_at hl 2 rfl) ?_
      refine lv_iload_n hx hb dX7_sums_85 rfl (lv_at hl 3 rfl) ?_
      refine lv_iload hx hb dX7_sums_86 (lv_at hl 0 rfl) ?_
      refine lv_iload_n hx hb dX7_sums_88 rfl (lv_at hl 4 rfl) ?_
      refine z_rV (As := [.int (nI wi), .int (nI i), .int (what)]) (rest := [.long (acc)]) (n := 3) ⟨hx, hb, hml, hown, hts⟩ (c_X7_told l D cs u H.size mm ad J2 K th tb (nI nd) wk br yr wd wi i (bo i) what (V i) hw (by omega) (hP i (by omega)).2.1 (by rw [ho 25 (by decide)]; exact (hP i (by omega)).1) ((hA2 i (by omega)).1).1 ((hA2 i (by omega)).1).2.1 ((hA2 i (by omega)).1).2.2.1 ((hA2 i (by omega)).1).2.2.2.1 ((hA2 i (by omega)).1).2.2.2.2.1 ((hA2 i (by omega)).1).2.2.2.2.2 (by rw [ho 35 (by decide)]; exact h35 i (by omega)) h_m (hM2 25 (by decide)) (hM2 26 (by decide)) (hM2 35 (by decide)) (hM2 38 (by decide)) (hM2 39 (by decide)) (hM2 40 (by decide)) (hM2 41 (by decide)) (hM2 42 (by decide)) (hM2 43 (by decide))) gX7_sums_X7_told rfl ⟨rfl, by decide +kernel, by decide +kernel, by decide +kernel⟩ ⟨Nat.le_of_ble_eq_true rfl, Nat.le_of_ble_eq_true rfl⟩ hK hE hS rfl h_m rfl hl.1 rfl (Nat.le_of_ble_eq_true rfl) dX7_sums_89 ⟨Nat.le_of_ble_eq_true rfl, Nat.le_of_ble_eq_true rfl⟩ (fun H locs hS => ?_)
      refine lv_ladd hx hb dX7_sums_92 ?_
      refine lv_lstore_n (lv' := [(3, .long ((acc + zLine what (bo i) (V i)))), (5, .int (nI i)), (0, .ref (mm)), (1, .int (nI wi)), (2, .int (what))]) hx hb dX7_sums_93 rfl hl (by decide) rfl (fun ls hl => ?_)
      refine lv_iinc (v := nI (i + 1)) (lv' := [(5, .int (nI (i + 1))), (3, .long ((acc + zLine what (bo i) (V i)))), (0, .ref (mm)), (1, .int (nI wi)), (2, .int (what))]) hx hb dX7_sums_94 hl (k := 1) rfl (nI_1 _) (by decide) rfl (fun ls hl => ?_)
      refine lv_goto (tgt := 72) hx hb dX7_sums_97 (by decide) ?_
      exact ih c80 _ J2 ((acc + zLine what (bo i) (V i))) h8 h9 h10 (by omega) ho hz hA2 (by rw [hacc]; rfl) h_m h_19 _ _ _ hS (lv_sub hl [0, 1, 2, 3, 4] rfl)
  refine lv_iload_n hx hb dX7_sums_0 rfl (lv_at hl 2 rfl) ?_
  refine lv_bipush (v := 8) hx hb dX7_sums_1 (by decide) ?_
  refine lv_icmp_ne (tgt := 14) hx hb dX7_sums_3 (by decide) (fun c3 => ?_) (fun c3 => ?_)
  · refine lv_iload_n hx hb dX7_sums_14 rfl (lv_at hl 2 rfl) ?_
    refine lv_bipush (v := 9) hx hb dX7_sums_15 (by decide) ?_
    refine lv_icmp_ne (tgt := 27) hx hb dX7_sums_17 (by decide) (fun c17 => ?_) (fun c17 => ?_)
    · refine lv_iload_n hx hb dX7_sums_27 rfl (lv_at hl 2 rfl) ?_
      refine lv_bipush (v := 10) hx hb dX7_sums_28 (by decide) ?_
      refine lv_icmp_ne (tgt := 56) hx hb dX7_sums_30 (by decide) (fun c30 => ?_) (fun c30 => ?_)
      · refine lv_aload_n hx hb dX7_sums_56 rfl (lv_at hl 0 rfl) ?_
        refine lv_iload_n hx hb dX7_sums_57 rfl (lv_at hl 1 rfl) ?_
        refine lv_aload_n hx hb dX7_sums_58 rfl (lv_at hl 0 rfl) ?_
        refine z_get (C := RX7) (T := TX7) (N := 45) (v := .ref (ad 19)) hx hb hts (by decide +kernel) hown hK hS h_m rfl 19 (by decide) (hts (.fieldLink RX7 60 "PayLedgerModel" "many" "[I") (by decide +kernel)) rfl dX7_sums_59 ?_
        refine lv_iload_n hx hb dX7_sums_62 rfl (lv_at hl 1 rfl) ?_
        refine z_iald hx hb hK hS h_19 (vp_in_nI (by omega) (by decide)) dX7_sums_63 ?_
        refine z_ti (y := ((K 19) (wi))) (congrArg _ (nI_clamp (by omega))) ?_
        refine z_ti (y := nI n) h19 ?_
        refine z_invV (As := [.int (nI wi), .int (nI n)]) (rest := []) (n := 2) ⟨hx, hb, hml, hown, hts⟩ (c_X7_works l D cs w s.heap.size mm ad J K th tb wk br yr wd wi bo rb pe me re cr ex en tx V P nb tn FF GF nd de so si ca bs n hinj hM hW.1 hW.2.1 hP hw hn hW.2.2.2.2.2.1 h_m) gX7_sums_X7_works rfl ⟨rfl, by decide +kernel, by decide +kernel, by decide +kernel⟩ ⟨Nat.le_of_ble_eq_true rfl, Nat.le_of_ble_eq_true rfl⟩ hK hE hS rfl h_m rfl hl.1 rfl (Nat.le_of_ble_eq_true rfl) dX7_sums_64 ⟨Nat.le_of_ble_eq_true rfl, Nat.le_of_ble_eq_true rfl⟩ (fun v9 u1 H locs hq hS => ?_)
        obtain ⟨rfl, J2, ho, hz, hA2⟩ := hq
        have h_m3 : u1 mm = some (mo ad (th) (tb) (nI nd) (wk) (br) (yr) (wd)) := hz.mm hM h_m (by decide)
        have h_193 : u1 (ad 19) = some (eI cs (10) (K 19)) := (hM.w hinj hz ho) 19 (by decide)
        refine W.eq (g2 := F0 m 67 ls []) rfl ?_
        refine lv_lconst (v := 0) hx hb dX7_sums_67 (by decide) ?_
        refine lv_lstore_n (lv' := [(3, .long (0)), (0, .ref (mm)), (1, .int (nI wi)), (2, .int (what))]) hx hb dX7_sums_68 rfl hl (by decide) rfl (fun ls hl => ?_)
        refine lv_iconst (v := 0) hx hb dX7_sums_69 (by decide) ?_
        refine lv_istore (lv' := [(5, .int (0)), (3, .long (0)), (0, .ref (mm)), (1, .int (nI wi)), (2, .int (what))]) hx hb dX7_sums_70 hl (by decide) rfl (fun ls hl => ?_)
        exact L72 0 _ J2 0 c3 c17 c30 (by omega) ho hz hA2 rfl h_m3 h_193 _ _ _ hS (lv_sub hl [0, 1, 2, 3, 4] rfl)
      · refine lv_aload_n hx hb dX7_sums_33 rfl (lv_at hl 0 rfl) ?_
        refine lv_iload_n hx hb dX7_sums_34 rfl (lv_at hl 1 rfl) ?_
        refine lv_bipush (v := 6) hx hb dX7_sums_35 (by decide) ?_
        refine z_invV (As := [.int (nI wi), .int (6)]) (rest := []) (n := 2) ⟨hx, hb, hml, hown, hts⟩ (c1_X7_sums l D cs w s.heap.size mm ad J K th tb wk br yr wd wi bo rb pe me re cr ex en tx V P nb tn FF GF nd de so si ca bs n 6 hinj hM hW (by decide) h_m) gX7_sums_X7_sums rfl ⟨rfl, by decide +kernel, by decide +kernel, by decide +kernel⟩ ⟨Nat.le_of_ble_eq_true rfl, Nat.le_of_ble_eq_true rfl⟩ hK hE hS rfl h_m rfl hl.1 rfl (Nat.le_of_ble_eq_true rfl) dX7_sums_37 ⟨Nat.le_of_ble_eq_true rfl, Nat.le_of_ble_eq_true rfl⟩ (fun v9 u2 H locs hq hS => ?_)
        obtain ⟨rfl, J2, ho, hz⟩ := hq
        have hM2 := hM.w hinj hz ho
        have h_m3 : u2 mm = some (mo ad (th) (tb) (nI nd) (wk) (br) (yr) (wd)) := hz.mm hM h_m (by decide)
        refine W.eq (g2 := F0 m 40 ls [.long (zTotal bo V n (J 20 wi) (6))]) rfl ?_
        refine z_tl (y := zTot bo V n 6) (zTotal_x (by decide) (by decide) (by decide)) ?_
        refine lv_aload_n hx hb dX7_sums_40 rfl (lv_at hl 0 rfl) ?_
        refine lv_iload_n hx hb dX7_sums_41 rfl (lv_at hl 1 rfl) ?_
        refine lv_bipush (v := 7) hx hb dX7_sums_42 (by decide) ?_
        refine z_invV (As := [.int (nI wi), .int (7)]) (rest := [.long (zTot bo V n 6)]) (n := 2) ⟨hx, hb, hml, hown, hts⟩ (c1_X7_sums l D cs u2 H.size mm ad J2 K th tb wk br yr wd wi bo rb pe me re cr ex en tx V P nb tn FF GF nd de so si ca bs n 7 hinj hM2 (hW.out ho) (by decide) h_m3) gX7_sums_X7_sums rfl ⟨rfl, by decide +kernel, by decide +kernel, by decide +kernel⟩ ⟨Nat.le_of_ble_eq_true rfl, Nat.le_of_ble_eq_true rfl⟩ hK hE hS rfl h_m3 rfl hl.1 rfl (Nat.le_of_ble_eq_true rfl) dX7_sums_44 ⟨Nat.le_of_ble_eq_true rfl, Nat.le_of_ble_eq_true rfl⟩ (fun v9 u3 H locs hq hS => ?_)
        obtain ⟨rfl, J3, ho3, hz3⟩ := hq
        have hM3 := hM2.w hinj hz3 ho3
        have h_m4 : u3 mm = some (mo ad (th) (tb) (nI nd) (wk) (br) (yr) (wd)) := hz3.mm hM2 h_m3 (by decide)
        have h_204 : u3 (ad 20) = some (eJ cs (10) (J3 20)) := hM3 20 (by decide)
        refine W.eq (g2 := F0 m 47 ls [.long (zTotal bo V n (J2 20 wi) (7)), .long (zTot bo V n 6)]) rfl ?_
        refine z_tl (y := zTot bo V n 7) (zTotal_x (by decide) (by decide) (by decide)) ?_
        refine lv_lsub hx hb dX7_sums_47 ?_
        refine lv_aload_n hx hb dX7_sums_48 rfl (lv_at hl 0 rfl) ?_
        refine z_get (C := RX7) (T := TX7) (N := 45) (v := .ref (ad 20)) hx hb hts (by decide +kernel) hown hK hS h_m4 rfl 20 (by decide) (hts (.fieldLink RX7 63 "PayLedgerModel" "settled" "[J") (by decide +kernel)) rfl dX7_sums_49 ?_
        refine lv_iload_n hx hb dX7_sums_52 rfl (lv_at hl 1 rfl) ?_
        refine z_lald hx hb hK hS h_204 (vp_in_nI (by omega) (by decide)) dX7_sums_53 ?_
        refine z_tl (y := ((J3 20) (wi))) (congrArg _ (nI_clamp (by omega))) ?_
        refine z_tl (y := J 20 wi) (by rw [(ho.trans ho3) 20 (by decide)]) ?_
        refine lv_lsub hx hb dX7_sums_54 ?_
        exact z_lret hx hb hr hlocks hS (Nat.le_of_ble_eq_true rfl) (Nat.le_of_ble_eq_true rfl) dX7_sums_55 ⟨by rw [c30, zTotal_10], J3, ho.trans ho3, hz.trans hz3⟩
    · refine lv_aload_n hx hb dX7_sums_20 rfl (lv_at hl 0 rfl) ?_
      refine z_get (C := RX7) (T := TX7) (N := 45) (v := .ref (ad 20)) hx hb hts (by decide +kernel) hown hK hS h_m rfl 20 (by decide) (hts (.fieldLink RX7 63 "PayLedgerModel" "settled" "[J") (by decide +kernel)) rfl dX7_sums_21 ?_
      refine lv_iload_n hx hb dX7_sums_24 rfl (lv_at hl 1 rfl) ?_
      refine z_lald hx hb hK hS h_20 (vp_in_nI (by omega) (by decide)) dX7_sums_25 ?_
      refine z_tl (y := ((J 20) (wi))) (congrArg _ (nI_clamp (by omega))) ?_
      exact z_lret hx hb hr hlocks hS (Nat.le_of_ble_eq_true rfl) (Nat.le_of_ble_eq_true rfl) dX7_sums_26 ⟨by unfold zTotal; rw [if_neg c3, if_pos c17], J, mOut.refl, zMZ.refl hM (by decide)⟩
  · refine lv_aload_n hx hb dX7_sums_6 rfl (lv_at hl 0 rfl) ?_
    refine z_get (C := RX7) (T := TX7) (N := 45) (v := .ref (ad 19)) hx hb hts (by decide +kernel) hown hK hS h_m rfl 19 (by decide) (hts (.fieldLink RX7 60 "PayLedgerModel" "many" "[I") (by decide +kernel)) rfl dX7_sums_7 ?_
    refine lv_iload_n hx hb dX7_sums_10 rfl (lv_at hl 1 rfl) ?_
    refine z_iald hx hb hK hS h_19 (vp_in_nI (by omega) (by decide)) dX7_sums_11 ?_
    refine z_ti (y := ((K 19) (wi))) (congrArg _ (nI_clamp (by omega))) ?_
    refine z_ti (y := nI n) h19 ?_
    refine lv_i2l (v := ((nI n : Int32).toInt64)) hx hb dX7_sums_12 rfl ?_
    exact z_lret hx hb hr hlocks hS (Nat.le_of_ble_eq_true rfl) (Nat.le_of_ble_eq_true rfl) dX7_sums_13 ⟨by unfold zTotal; rw [if_pos c3], J, mOut.refl, zMZ.refl hM (by decide)⟩
set_option maxHeartbeats 4000000 in
set_option maxRecDepth 100000 in
theorem c_X7_dutyOf (l : Launch) (D : va_G) (cs : Nat → ClassId) (w : zw) (sz : Nat) (mm : Nat) (ad : Nat → Nat) (J : Nat → Nat → Int64) (K : Nat → Nat → Int32) (th tb wk br yr wd : Int32) (wi : Nat) (bo rb pe me : Nat → Int32) (re cr ex : Nat → Int64) (en : Nat → Int32) (tx : Nat → Nat) (V P : Nat → Nat → Int64) (nb : Nat) (tn : Nat → Nat) (FF : Nat → Nat → Int64) (GF : Nat → Nat → Int32) (nd : Nat) (de so : Nat → Int32) (si ca bs : Nat → Int64) (n : Nat) (t : Nat) (hinj : ∀ i j : Nat, i ≠ j → ad i ≠ ad j) (hM : zMA cs w ad J K) (hW : mWr J K wi bo rb pe me re cr ex en tx V P nb tn FF GF nd de so si ca bs n) (h12 : K 12 wi = nI t) (ht : t < nb) (h_m : w (mm) = some (mo ad (th) (tb) (nI nd) (wk) (br) (yr) (wd))) : zM l D cs yX7_dutyOf wsX7_dutyOf 8 0 0 w sz [.ref (mm), .int (nI wi)] (fun r w2 => r = some (.long (mDuty (FF t) (GF t) (tn t) (J 16 wi) (J 17 wi) (zTot bo V n 2))) ∧ ∃ J' : Nat → Nat → Int64, mOut J J' ∧ zMZ cs w w2 ad mSW J' K) := by
  refine z_met (cc := cX7_dutyOf) (maxL := 2) (ret := (some .long)) (by decide) rfl (Nat.le_of_ble_eq_true rfl) ?_
  intro p e s m below meth c hx hb hr hml hown hts hlocks hnm hsz hK hE hS ls hl
  have hl : lv_has ls 2 [(0, .ref (mm)), (1, .int (nI wi))] := hl
  have hw := hW.2.2.2.1
  have h_12 : w (ad 12) = some (eI cs (10) (K 12)) := hM 12 (by decide)
  refine lv_aload_n hx hb dX7_dutyOf_0 rfl (lv_at hl 0 rfl) ?_
  refine lv_aload_n hx hb dX7_dutyOf_1 rfl (lv_at hl 0 rfl) ?_
  refine z_get (C := RX7) (T := TX7) (N := 45) (v := .ref (ad 12)) hx hb hts (by decide +kernel) hown hK hS h_m rfl 12 (by decide) (hts (.fieldLink RX7 39 "PayLedgerModel" "hasTable" "[I") (by decide +kernel)) rfl dX7_dutyOf_2 ?_
  refine lv_iload_n hx hb dX7_dutyOf_5 rfl (lv_at hl 1 rfl) ?_
  refine z_iald hx hb hK hS h_12 (vp_in_nI (by omega) (by decide)) dX7_dutyOf_6 ?_
  refine z_ti (y := ((K 12) (wi))) (congrArg _ (nI_clamp (by omega))) ?_
  refine z_ti (y := nI t) h12 ?_
  refine lv_aload_n hx hb dX7_dutyOf_7 rfl (lv_at hl 0 rfl) ?_
  refine lv_iload_n hx hb dX7_dutyOf_8 rfl (lv_at hl 1 rfl) ?_
  refine lv_iconst (v := 2) hx hb dX7_dutyOf_9 (by decide) ?_
  refine z_invV (As := [.int (nI wi), .int (2)]) (rest := [.int (nI t), .ref (mm)]) (n := 2) ⟨hx, hb, hml, hown, hts⟩ (c_X7_sums l D cs w s.heap.size mm ad J K th tb wk br yr wd wi bo rb pe me re cr ex en tx V P nb tn FF GF nd de so si ca bs n 2 hinj hM hW h_m) gX7_dutyOf_X7_sums rfl ⟨rfl, by decide +kernel, by decide +kernel, by decide +kernel⟩ ⟨Nat.le_of_ble_eq_true rfl, Nat.le_of_ble_eq_true rfl⟩ hK hE hS rfl h_m rfl hl.1 rfl (Nat.le_of_ble_eq_true rfl) dX7_dutyOf_10 ⟨Nat.le_of_ble_eq_true rfl, Nat.le_of_ble_eq_true rfl⟩ (fun v9 u1 H locs hq hS => ?_)
  obtain ⟨rfl, J2, ho, hz⟩ := hq
  have hM2 := hM.w hinj hz ho
  have h_m3 : u1 mm = some (mo ad (th) (tb) (nI nd) (wk) (br) (yr) (wd)) := hz.mm hM h_m (by decide)
  have h_163 : u1 (ad 16) = some (eJ cs (10) (J2 16)) := hM2 16 (by decide)
  have h_173 : u1 (ad 17) = some (eJ cs (10) (J2 17)) := hM2 17 (by decide)
  refine W.eq (g2 := F0 m 13 ls [.long (zTotal bo V n (J 20 wi) (2)), .int (nI t), .ref (mm)]) rfl ?_
  refine z_tl (y := zTot bo V n 2) (zTotal_x (by decide) (by decide) (by decide)) ?_
  refine lv_aload_n hx hb dX7_dutyOf_13 rfl (lv_at hl 0 rfl) ?_
  refine z_get (C := RX7) (T := TX7) (N := 45) (v := .ref (ad 16)) hx hb hts (by decide +kernel) hown hK hS h_m3 rfl 16 (by decide) (hts (.fieldLink RX7 51 "PayLedgerModel" "hasRelief" "[J") (by decide +kernel)) rfl dX7_dutyOf_14 ?_
  refine lv_iload_n hx hb dX7_dutyOf_17 rfl (lv_at hl 1 rfl) ?_
  refine z_lald hx hb hK hS h_163 (vp_in_nI (by omega) (by decide)) dX7_dutyOf_18 ?_
  refine z_tl (y := ((J2 16) (wi))) (congrArg _ (nI_clamp (by omega))) ?_
  refine z_tl (y := J 16 wi) (by rw [ho 16 (by decide)]) ?_
  refine lv_lsub hx hb dX7_dutyOf_19 ?_
  refine z_rS (As := [.long ((zTot bo V n 2 - J 16 wi))]) (rest := [.int (nI t), .ref (mm)]) (n := 1) ⟨hx, hb, hml, hown, hts⟩ (c_X7_above l D cs u1 H.size (zTot bo V n 2 - J 16 wi)) gX7_dutyOf_X7_above rfl ⟨by decide +kernel, by decide +kernel, by decide +kernel⟩ ⟨Nat.le_of_ble_eq_true rfl, Nat.le_of_ble_eq_true rfl⟩ hK hE hS rfl hl.1 rfl (Nat.le_of_ble_eq_true rfl) dX7_dutyOf_20 ⟨Nat.le_of_ble_eq_true rfl, Nat.le_of_ble_eq_true rfl⟩ (fun H locs hS => ?_)
  refine z_rV (As := [.int (nI t), .long (zMax0 (zTot bo V n 2 - J 16 wi))]) (rest := []) (n := 2) ⟨hx, hb, hml, hown, hts⟩ (c_X7_taxed l D cs u1 H.size mm ad J2 K th tb (nI nd) wk br yr wd t (tn t) (FF t) (GF t) (zMax0 (zTot bo V n 2 - J 16 wi)) (by have := hW.1.1; omega) (hW.1.2 t ht).1 (hW.1.2 t ht).2.1 ((hW.out ho).1.2 t ht).2.2 h_m3 (hM2 1 (by decide)) (hM2 2 (by decide)) (hM2 3 (by decide))) gX7_dutyOf_X7_taxed rfl ⟨rfl, by decide +kernel, by decide +kernel, by decide +kernel⟩ ⟨Nat.le_of_ble_eq_true rfl, Nat.le_of_ble_eq_true rfl⟩ hK hE hS rfl h_m3 rfl hl.1 rfl (Nat.le_of_ble_eq_true rfl) dX7_dutyOf_23 ⟨Nat.le_of_ble_eq_true rfl, Nat.le_of_ble_eq_true rfl⟩ (fun H locs hS => ?_)
  refine lv_aload_n hx hb dX7_dutyOf_26 rfl (lv_at hl 0 rfl) ?_
  refine z_get (C := RX7) (T := TX7) (N := 45) (v := .ref (ad 17)) hx hb hts (by decide +kernel) hown hK hS h_m3 rfl 17 (by decide) (hts (.fieldLink RX7 54 "PayLedgerModel" "hasCredit" "[J") (by decide +kernel)) rfl dX7_dutyOf_27 ?_
  refine lv_iload_n hx hb dX7_dutyOf_30 rfl (lv_at hl 1 rfl) ?_
  refine z_lald hx hb hK hS h_173 (vp_in_nI (by omega) (by decide)) dX7_dutyOf_31 ?_
  refine z_tl (y := ((J2 17) (wi))) (congrArg _ (nI_clamp (by omega))) ?_
  refine z_tl (y := J 17 wi) (by rw [ho 17 (by decide)]) ?_
  refine lv_lsub hx hb dX7_dutyOf_32 ?_
  refine z_rS (As := [.long ((mTax (FF t) (GF t) (tn t) (zMax0 (zTot bo V n 2 - J 16 wi)) - J 17 wi))]) (rest := []) (n := 1) ⟨hx, hb, hml, hown, hts⟩ (c_X7_above l D cs u1 H.size (mTax (FF t) (GF t) (tn t) (zMax0 (zTot bo V n 2 - J 16 wi)) - J 17 wi)) gX7_dutyOf_X7_above rfl ⟨by decide +kernel, by decide +kernel, by decide +kernel⟩ ⟨Nat.le_of_ble_eq_true rfl, Nat.le_of_ble_eq_true rfl⟩ hK hE hS rfl hl.1 rfl (Nat.le_of_ble_eq_true rfl) dX7_dutyOf_33 ⟨Nat.le_of_ble_eq_true rfl, Nat.le_of_ble_eq_true rfl⟩ (fun H locs hS => ?_)
  exact z_lret hx hb hr hlocks hS (Nat.le_of_ble_eq_true rfl) (Nat.le_of_ble_eq_true rfl) dX7_dutyOf_36 ⟨rfl, J2, ho, hz⟩
