/-! ===== Pay(), Ahead, Worker: what reads ===== -/
set_option maxHeartbeats 4000000 in
set_option maxRecDepth 100000 in
theorem c_X2_init (l : Launch) (D : va_G) (cs : Nat → ClassId) (w : zw) (sz : Nat) (h0 : Nat)  (h_o : w (h0) = some (.inr (2, [.null, .null, .int (0), .int (0), .long (0), .long (0), .long (0), .long (0), .long (0), .long (0), .long (0), .long (0)]))) : zM l D cs yX2_init wsX2_init 1 2 15 w sz [.ref (h0)] (fun r w2 => r = none ∧ ∃ te pp : Nat, w te = none ∧ w pp = none ∧ te ≠ pp ∧ zEx w w2 [(h0, .inr (2, [.ref te, .ref pp, .int 0, .int 0, .long 0, .long 0, .long 0, .long 0, .long 0, .long 0, .long 0, .long 0])), (te, .inr (4, [.null, .int 1, .int 0, .long 0, .long 0, .long 0, .int 0])), (pp, eJ cs 8 (fun _ => 0))]) := by
  refine z_met (cc := cX2_init) (maxL := 1) (ret := none) (by decide) rfl (Nat.le_of_ble_eq_true rfl) ?_
  intro p e s m below meth c hx hb hr hml hown hts hlocks hnm hsz hK hE hS ls hl
  have hl : lv_has ls 1 [(0, .ref (h0))] := hl
  refine lv_aload_n hx hb dX2_init_0 rfl (lv_at hl 0 rfl) ?_
  refine W.objInit hx hb hown (hts (.methodLink RX2 3 objectInit) (by decide +kernel)) (hts (.instanceMethod objectInit) (by decide +kernel)) (hts (.code objectInit ⟨#[0xb1]⟩ 1 none) (by decide +kernel)) rfl (by rw [hml]; exact hl.1) rfl dX2_init_1 (Nat.le_of_ble_eq_true rfl) (Nat.le_of_ble_eq_true rfl) ?_
  refine W.eq (g2 := F0 m 4 ls []) rfl ?_
  refine lv_aload_n hx hb dX2_init_4 rfl (lv_at hl 0 rfl) ?_
  refine z_new (ci := 4) (fs := [.null, .int (0), .int (0), .long (0), .long (0), .long (0), .int (0)]) (C := RX4) (T := TX4) (N := 7) hx hb hts (by decide +kernel) tyX4 tyX4_ok hown (hts (.classLink RX2 9 RX4) (by decide +kernel)) (hts (.instantiable RX4 7) (by decide +kernel)) (hts (.initialized RX4) (by decide +kernel)) hK hS rfl (by decide +kernel) (Nat.le_of_ble_eq_true rfl) (Nat.le_of_ble_eq_true rfl) dX2_init_5 (fun te H h_nte hS => ?_)
  obtain ⟨w1, ew1⟩ : ∃ z : zw, z = va_up w (te) (some (.inr (4, [.null, .int (0), .int (0), .long (0), .long (0), .long (0), .int (0)]))) := ⟨_, rfl⟩
  have hS : zS (zA w sz) D w1 s.heap H [] := by rw [ew1]; exact hS
  have h1_te : w1 (te) = some (.inr (4, [.null, .int (0), .int (0), .long (0), .long (0), .long (0), .int (0)])) := by rw [ew1]; exact va_up_self _ _ _
  have h1_h0 : w1 (h0) = some (.inr (2, [.null, .null, .int (0), .int (0), .long (0), .long (0), .long (0), .long (0), .long (0), .long (0), .long (0), .long (0)])) := by rw [ew1]; exact (va_up_ne _ _ (fun q9 => by rw [q9] at h_o; rw [h_nte] at h_o; cases h_o)).trans h_o
  have hz_te : w (te) = none := by
    have q9 := h_nte
    exact q9
  refine lv_dup hx hb dX2_init_8 rfl ?_
  refine z_invIN (b := te) (As := []) (rest := [.ref (te), .ref (h0)]) (n := 0) ⟨hx, hb, hml, hown, hts⟩ (c_X4_init l D cs w1 H.size te h1_te) gX2_init_X4_init_n11 rfl (by decide +kernel) (hts (.initialized RX4) (by decide +kernel)) (hts (.instanceMethod yX4_init) (by decide +kernel)) rfl ⟨by decide +kernel, by decide +kernel, by decide +kernel⟩ ⟨Nat.le_of_ble_eq_true rfl, Nat.le_of_ble_eq_true rfl⟩ hK hE hS rfl hl.1 rfl (Nat.le_of_ble_eq_true rfl) dX2_init_9 ⟨Nat.le_of_ble_eq_true rfl, Nat.le_of_ble_eq_true rfl⟩ (fun v9 u2 H locs hq hS => ?_)
  obtain ⟨rfl, hx2⟩ := hq
  have h3_te : u2 (te) = some (.inr (4, [.null, .int (1), .int (0), .long (0), .long (0), .long (0), .int (0)])) := hx2.at 0 rfl
  have h3_h0 : u2 (h0) = some (.inr (2, [.null, .null, .int (0), .int (0), .long (0), .long (0), .long (0), .long (0), .long (0), .long (0), .long (0), .long (0)])) := hx2.old h1_h0 (zm1 (zne h1_h0 h1_te (by intro q9; first | cases q9 | simp at q9)) zm0)
  refine W.eq (g2 := F0 m 12 ls [.ref (te), .ref (h0)]) rfl ?_
  refine z_putF (C := RX2) (T := TX2) (N := 12) (v := .ref (te)) hx hb hts (by decide +kernel) tyX2 tyX2_ok nmX2 hown hK hS h3_h0 rfl 0 (by decide) (hts (.fieldLink RX2 12 "PayLedger$Pay" "terms" "LPayLedger$Terms;") (by decide +kernel)) rfl hnm rfl rfl rfl (Nat.le_of_ble_eq_true rfl) dX2_init_12 (fun H locs hS => ?_)
  obtain ⟨w4, ew4⟩ : ∃ z : zw, z = va_up u2 (h0) (some (.inr (2, [.ref (te), .null, .int (0), .int (0), .long (0), .long (0), .long (0), .long (0), .long (0), .long (0), .long (0), .long (0)]))) := ⟨_, rfl⟩
  have hS : zS (zA w sz) D w4 s.heap H locs := by rw [ew4]; exact hS
  have h4_h0 : w4 (h0) = some (.inr (2, [.ref (te), .null, .int (0), .int (0), .long (0), .long (0), .long (0), .long (0), .long (0), .long (0), .long (0), .long (0)])) := by rw [ew4]; exact va_up_self _ _ _
  have h4_te : w4 (te) = some (.inr (4, [.null, .int (1), .int (0), .long (0), .long (0), .long (0), .int (0)])) := by rw [ew4]; exact (va_up_ne _ _ (zne h3_te h3_h0 (by intro q9; first | cases q9 | simp at q9))).trans h3_te
  refine lv_aload_n hx hb dX2_init_15 rfl (lv_at hl 0 rfl) ?_
  refine lv_bipush (v := 8) hx hb dX2_init_16 (by decide) ?_
  refine z_newJ hx hb (hts (.arrayClass .long) (by decide +kernel)) hK hS 8 (by decide) (by decide) (by decide) (Nat.le_of_ble_eq_true rfl) (Nat.le_of_ble_eq_true rfl) dX2_init_18 (fun pp H h_npp hS => ?_)
  obtain ⟨w5, ew5⟩ : ∃ z : zw, z = va_up w4 (pp) (some (eJ cs (8) (fun _ => 0))) := ⟨_, rfl⟩
  have hS : zS (zA w sz) D w5 s.heap H locs := by rw [ew5]; exact hS
  have h5_pp : w5 (pp) = some (eJ cs (8) (fun _ => 0)) := by rw [ew5]; exact va_up_self _ _ _
  have h5_te : w5 (te) = some (.inr (4, [.null, .int (1), .int (0), .long (0), .long (0), .long (0), .int (0)])) := by rw [ew5]; exact (va_up_ne _ _ (fun q9 => by rw [q9] at h4_te; rw [h_npp] at h4_te; cases h4_te)).trans h4_te
  have h5_h0 : w5 (h0) = some (.inr (2, [.ref (te), .null, .int (0), .int (0), .long (0), .long (0), .long (0), .long (0), .long (0), .long (0), .long (0), .long (0)])) := by rw [ew5]; exact (va_up_ne _ _ (fun q9 => by rw [q9] at h4_h0; rw [h_npp] at h4_h0; cases h4_h0)).trans h4_h0
  have hz_pp : w (pp) = none := by
    have q9 := h_npp
    rw [ew4] at q9
    have q9 := (zup_none q9).2
    have q9 := (zEx.none hx2 q9).1
    rw [ew1] at q9
    have q9 := (zup_none q9).2
    exact q9
  refine z_putF (C := RX2) (T := TX2) (N := 12) (v := .ref (pp)) hx hb hts (by decide +kernel) tyX2 tyX2_ok nmX2 hown hK hS h5_h0 rfl 1 (by decide) (hts (.fieldLink RX2 18 "PayLedger$Pay" "parts" "[J") (by decide +kernel)) rfl hnm rfl rfl rfl (Nat.le_of_ble_eq_true rfl) dX2_init_20 (fun H locs hS => ?_)
  obtain ⟨w6, ew6⟩ : ∃ z : zw, z = va_up w5 (h0) (some (.inr (2, [.ref (te), .ref (pp), .int (0), .int (0), .long (0), .long (0), .long (0), .long (0), .long (0), .long (0), .long (0), .long (0)]))) := ⟨_, rfl⟩
  have hS : zS (zA w sz) D w6 s.heap H locs := by rw [ew6]; exact hS
  have h6_h0 : w6 (h0) = some (.inr (2, [.ref (te), .ref (pp), .int (0), .int (0), .long (0), .long (0), .long (0), .long (0), .long (0), .long (0), .long (0), .long (0)])) := by rw [ew6]; exact va_up_self _ _ _
  have h6_te : w6 (te) = some (.inr (4, [.null, .int (1), .int (0), .long (0), .long (0), .long (0), .int (0)])) := by rw [ew6]; exact (va_up_ne _ _ (zne h5_te h5_h0 (by intro q9; first | cases q9 | simp at q9))).trans h5_te
  have h6_pp : w6 (pp) = some (eJ cs (8) (fun _ => 0)) := by rw [ew6]; exact (va_up_ne _ _ (zne h5_pp h5_h0 (by intro q9; first | cases q9 | simp at q9))).trans h5_pp
  refine lv_aload_n hx hb dX2_init_23 rfl (lv_at hl 0 rfl) ?_
  refine lv_iconst (v := 0) hx hb dX2_init_24 (by decide) ?_
  refine z_put (C := RX2) (T := TX2) (N := 12) (v := .int (0)) hx hb hts (by decide +kernel) tyX2 tyX2_ok nmX2 hown hK hS h6_h0 rfl 2 (by decide) (hts (.fieldLink RX2 22 "PayLedger$Pay" "bonus" "Z") (by decide +kernel)) rfl (zb_narrow (Or.inl rfl)) (zb_fits (Or.inl rfl)) (Nat.le_of_ble_eq_true rfl) dX2_init_25 (fun H locs hS => ?_)
  obtain ⟨w7, ew7⟩ : ∃ z : zw, z = va_up w6 (h0) (some (.inr (2, [.ref (te), .ref (pp), .int (0), .int (0), .long (0), .long (0), .long (0), .long (0), .long (0), .long (0), .long (0), .long (0)]))) := ⟨_, rfl⟩
  have hS : zS (zA w sz) D w7 s.heap H locs := by rw [ew7]; exact hS
  have h7_h0 : w7 (h0) = some (.inr (2, [.ref (te), .ref (pp), .int (0), .int (0), .long (0), .long (0), .long (0), .long (0), .long (0), .long (0), .long (0), .long (0)])) := by rw [ew7]; exact va_up_self _ _ _
  have h7_te : w7 (te) = some (.inr (4, [.null, .int (1), .int (0), .long (0), .long (0), .long (0), .int (0)])) := by rw [ew7]; exact (va_up_ne _ _ (zne h6_te h6_h0 (by intro q9; first | cases q9 | simp at q9))).trans h6_te
  have h7_pp : w7 (pp) = some (eJ cs (8) (fun _ => 0)) := by rw [ew7]; exact (va_up_ne _ _ (zne h6_pp h6_h0 (by intro q9; first | cases q9 | simp at q9))).trans h6_pp
  refine lv_aload_n hx hb dX2_init_28 rfl (lv_at hl 0 rfl) ?_
  refine lv_iconst (v := 0) hx hb dX2_init_29 (by decide) ?_
  refine z_put (C := RX2) (T := TX2) (N := 12) (v := .int (0)) hx hb hts (by decide +kernel) tyX2 tyX2_ok nmX2 hown hK hS h7_h0 rfl 3 (by decide) (hts (.fieldLink RX2 26 "PayLedger$Pay" "bonusRate" "I") (by decide +kernel)) rfl rfl rfl (Nat.le_of_ble_eq_true rfl) dX2_init_30 (fun H locs hS => ?_)
  obtain ⟨w8, ew8⟩ : ∃ z : zw, z = va_up w7 (h0) (some (.inr (2, [.ref (te), .ref (pp), .int (0), .int (0), .long (0), .long (0), .long (0), .long (0), .long (0), .long (0), .long (0), .long (0)]))) := ⟨_, rfl⟩
  have hS : zS (zA w sz) D w8 s.heap H locs := by rw [ew8]; exact hS
  have h8_h0 : w8 (h0) = some (.inr (2, [.ref (te), .ref (pp), .int (0), .int (0), .long (0), .long (0), .long (0), .long (0), .long (0), .long (0), .long (0), .long (0)])) := by rw [ew8]; exact va_up_self _ _ _
  have h8_te : w8 (te) = some (.inr (4, [.null, .int (1), .int (0), .long (0), .long (0), .long (0), .int (0)])) := by rw [ew8]; exact (va_up_ne _ _ (zne h7_te h7_h0 (by intro q9; first | cases q9 | simp at q9))).trans h7_te
  have h8_pp : w8 (pp) = some (eJ cs (8) (fun _ => 0)) := by rw [ew8]; exact (va_up_ne _ _ (zne h7_pp h7_h0 (by intro q9; first | cases q9 | simp at q9))).trans h7_pp
  refine lv_aload_n hx hb dX2_init_33 rfl (lv_at hl 0 rfl) ?_
  refine lv_lconst (v := 0) hx hb dX2_init_34 (by decide) ?_
  refine z_put (C := RX2) (T := TX2) (N := 12) (v := .long (0)) hx hb hts (by decide +kernel) tyX2 tyX2_ok nmX2 hown hK hS h8_h0 rfl 4 (by decide) (hts (.fieldLink RX2 30 "PayLedger$Pay" "gross" "J") (by decide +kernel)) rfl rfl rfl (Nat.le_of_ble_eq_true rfl) dX2_init_35 (fun H locs hS => ?_)
  obtain ⟨w9, ew9⟩ : ∃ z : zw, z = va_up w8 (h0) (some (.inr (2, [.ref (te), .ref (pp), .int (0), .int (0), .long (0), .long (0), .long (0), .long (0), .long (0), .long (0), .long (0), .long (0)]))) := ⟨_, rfl⟩
  have hS : zS (zA w sz) D w9 s.heap H locs := by rw [ew9]; exact hS
  have h9_h0 : w9 (h0) = some (.inr (2, [.ref (te), .ref (pp), .int (0), .int (0), .long (0), .long (0), .long (0), .long (0), .long (0), .long (0), .long (0), .long (0)])) := by rw [ew9]; exact va_up_self _ _ _
  have h9_te : w9 (te) = some (.inr (4, [.null, .int (1), .int (0), .long (0), .long (0), .long (0), .int (0)])) := by rw [ew9]; exact (va_up_ne _ _ (zne h8_te h8_h0 (by intro q9; first | cases q9 | simp at q9))).trans h8_te
  have h9_pp : w9 (pp) = some (eJ cs (8) (fun _ => 0)) := by rw [ew9]; exact (va_up_ne _ _ (zne h8_pp h8_h0 (by intro q9; first | cases q9 | simp at q9))).trans h8_pp
  refine lv_aload_n hx hb dX2_init_38 rfl (lv_at hl 0 rfl) ?_
  refine lv_lconst (v := 0) hx hb dX2_init_39 (by decide) ?_
  refine z_put (C := RX2) (T := TX2) (N := 12) (v := .long (0)) hx hb hts (by decide +kernel) tyX2 tyX2_ok nmX2 hown hK hS h9_h0 rfl 5 (by decide) (hts (.fieldLink RX2 34 "PayLedger$Pay" "early" "J") (by decide +kernel)) rfl rfl rfl (Nat.le_of_ble_eq_true rfl) dX2_init_40 (fun H locs hS => ?_)
  obtain ⟨w10, ew10⟩ : ∃ z : zw, z = va_up w9 (h0) (some (.inr (2, [.ref (te), .ref (pp), .int (0), .int (0), .long (0), .long (0), .long (0), .long (0), .long (0), .long (0), .long (0), .long (0)]))) := ⟨_, rfl⟩
  have hS : zS (zA w sz) D w10 s.heap H locs := by rw [ew10]; exact hS
  have h10_h0 : w10 (h0) = some (.inr (2, [.ref (te), .ref (pp), .int (0), .int (0), .long (0), .long (0), .long (0), .long (0), .long (0), .long (0), .long (0), .long (0)])) := by rw [ew10]; exact va_up_self _ _ _
  have h10_te : w10 (te) = some (.inr (4, [.null, .int (1), .int (0), .long (0), .long (0), .long (0), .int (0)])) := by rw [ew10]; exact (va_up_ne _ _ (zne h9_te h9_h0 (by intro q9; first | cases q9 | simp at q9))).trans h9_te
  have h10_pp : w10 (pp) = some (eJ cs (8) (fun _ => 0)) := by rw [ew10]; exact (va_up_ne _ _ (zne h9_pp h9_h0 (by intro q9; first | cases q9 | simp at q9))).trans h9_pp
  refine lv_aload_n hx hb dX2_init_43 rfl (lv_at hl 0 rfl) ?_
  refine lv_lconst (v := 0) hx hb dX2_init_44 (by decide) ?_
  refine z_put (C := RX2) (T := TX2) (N := 12) (v := .long (0)) hx hb hts (by decide +kernel) tyX2 tyX2_ok nmX2 hown hK hS h10_h0 rfl 6 (by decide) (hts (.fieldLink RX2 37 "PayLedger$Pay" "income" "J") (by decide +kernel)) rfl rfl rfl (Nat.le_of_ble_eq_true rfl) dX2_init_45 (fun H locs hS => ?_)
  obtain ⟨w11, ew11⟩ : ∃ z : zw, z = va_up w10 (h0) (some (.inr (2, [.ref (te), .ref (pp), .int (0), .int (0), .long (0), .long (0), .long (0), .long (0), .long (0), .long (0), .long (0), .long (0)]))) := ⟨_, rfl⟩
  have hS : zS (zA w sz) D w11 s.heap H locs := by rw [ew11]; exact hS
  have h11_h0 : w11 (h0) = some (.inr (2, [.ref (te), .ref (pp), .int (0), .int (0), .long (0), .long (0), .long (0), .long (0), .long (0), .long (0), .long (0), .long (0)])) := by rw [ew11]; exact va_up_self _ _ _
  have h11_te : w11 (te) = some (.inr (4, [.null, .int (1), .int (0), .long (0), .long (0), .long (0), .int (0)])) := by rw [ew11]; exact (va_up_ne _ _ (zne h10_te h10_h0 (by intro q9; first | cases q9 | simp at q9))).trans h10_te
  have h11_pp : w11 (pp) = some (eJ cs (8) (fun _ => 0)) := by rw [ew11]; exact (va_up_ne _ _ (zne h10_pp h10_h0 (by intro q9; first | cases q9 | simp at q9))).trans h10_pp
  refine lv_aload_n hx hb dX2_init_48 rfl (lv_at hl 0 rfl) ?_
  refine lv_lconst (v := 0) hx hb dX2_init_49 (by decide) ?_
  refine z_put (C := RX2) (T := TX2) (N := 12) (v := .long (0)) hx hb hts (by decide +kernel) tyX2 tyX2_ok nmX2 hown hK hS h11_h0 rfl 7 (by decide) (hts (.fieldLink RX2 40 "PayLedger$Pay" "basic" "J") (by decide +kernel)) rfl rfl rfl (Nat.le_of_ble_eq_true rfl) dX2_init_50 (fun H locs hS => ?_)
  obtain ⟨w12, ew12⟩ : ∃ z : zw, z = va_up w11 (h0) (some (.inr (2, [.ref (te), .ref (pp), .int (0), .int (0), .long (0), .long (0), .long (0), .long (0), .long (0), .long (0), .long (0), .long (0)]))) := ⟨_, rfl⟩
  have hS : zS (zA w sz) D w12 s.heap H locs := by rw [ew12]; exact hS
  have h12_h0 : w12 (h0) = some (.inr (2, [.ref (te), .ref (pp), .int (0), .int (0), .long (0), .long (0), .long (0), .long (0), .long (0), .long (0), .long (0), .long (0)])) := by rw [ew12]; exact va_up_self _ _ _
  have h12_te : w12 (te) = some (.inr (4, [.null, .int (1), .int (0), .long (0), .long (0), .long (0), .int (0)])) := by rw [ew12]; exact (va_up_ne _ _ (zne h11_te h11_h0 (by intro q9; first | cases q9 | simp at q9))).trans h11_te
  have h12_pp : w12 (pp) = some (eJ cs (8) (fun _ => 0)) := by rw [ew12]; exact (va_up_ne _ _ (zne h11_pp h11_h0 (by intro q9; first | cases q9 | simp at q9))).trans h11_pp
  refine lv_aload_n hx hb dX2_init_53 rfl (lv_at hl 0 rfl) ?_
  refine lv_lconst (v := 0) hx hb dX2_init_54 (by decide) ?_
  refine z_put (C := RX2) (T := TX2) (N := 12) (v := .long (0)) hx hb hts (by decide +kernel) tyX2 tyX2_ok nmX2 hown hK hS h12_h0 rfl 8 (by decide) (hts (.fieldLink RX2 43 "PayLedger$Pay" "more" "J") (by decide +kernel)) rfl rfl rfl (Nat.le_of_ble_eq_true rfl) dX2_init_55 (fun H locs hS => ?_)
  obtain ⟨w13, ew13⟩ : ∃ z : zw, z = va_up w12 (h0) (some (.inr (2, [.ref (te), .ref (pp), .int (0), .int (0), .long (0), .long (0), .long (0), .long (0), .long (0), .long (0), .long (0), .long (0)]))) := ⟨_, rfl⟩
  have hS : zS (zA w sz) D w13 s.heap H locs := by rw [ew13]; exact hS
  have h13_h0 : w13 (h0) = some (.inr (2, [.ref (te), .ref (pp), .int (0), .int (0), .long (0), .long (0), .long (0), .long (0), .long (0), .long (0), .long (0), .long (0)])) := by rw [ew13]; exact va_up_self _ _ _
  have h13_te : w13 (te) = some (.inr (4, [.null, .int (1), .int (0), .long (0), .long (0), .long (0), .int (0)])) := by rw [ew13]; exact (va_up_ne _ _ (zne h12_te h12_h0 (by intro q9; first | cases q9 | simp at q9))).trans h12_te
  have h13_pp : w13 (pp) = some (eJ cs (8) (fun _ => 0)) := by rw [ew13]; exact (va_up_ne _ _ (zne h12_pp h12_h0 (by intro q9; first | cases q9 | simp at q9))).trans h12_pp
  refine lv_aload_n hx hb dX2_init_58 rfl (lv_at hl 0 rfl) ?_
  refine lv_lconst (v := 0) hx hb dX2_init_59 (by decide) ?_
  refine z_put (C := RX2) (T := TX2) (N := 12) (v := .long (0)) hx hb hts (by decide +kernel) tyX2 tyX2_ok nmX2 hown hK hS h13_h0 rfl 9 (by decide) (hts (.fieldLink RX2 46 "PayLedger$Pay" "late" "J") (by decide +kernel)) rfl rfl rfl (Nat.le_of_ble_eq_true rfl) dX2_init_60 (fun H locs hS => ?_)
  obtain ⟨w14, ew14⟩ : ∃ z : zw, z = va_up w13 (h0) (some (.inr (2, [.ref (te), .ref (pp), .int (0), .int (0), .long (0), .long (0), .long (0), .long (0), .long (0), .long (0), .long (0), .long (0)]))) := ⟨_, rfl⟩
  have hS : zS (zA w sz) D w14 s.heap H locs := by rw [ew14]; exact hS
  have h14_h0 : w14 (h0) = some (.inr (2, [.ref (te), .ref (pp), .int (0), .int (0), .long (0), .long (0), .long (0), .long (0), .long (0), .long (0), .long (0), .long (0)])) := by rw [ew14]; exact va_up_self _ _ _
  have h14_te : w14 (te) = some (.inr (4, [.null, .int (1), .int (0), .long (0), .long (0), .long (0), .int (0)])) := by rw [ew14]; exact (va_up_ne _ _ (zne h13_te h13_h0 (by intro q9; first | cases q9 | simp at q9))).trans h13_te
  have h14_pp : w14 (pp) = some (eJ cs (8) (fun _ => 0)) := by rw [ew14]; exact (va_up_ne _ _ (zne h13_pp h13_h0 (by intro q9; first | cases q9 | simp at q9))).trans h13_pp
  refine lv_aload_n hx hb dX2_init_63 rfl (lv_at hl 0 rfl) ?_
  refine lv_lconst (v := 0) hx hb dX2_init_64 (by decide) ?_
  refine z_put (C := RX2) (T := TX2) (N := 12) (v := .long (0)) hx hb hts (by decide +kernel) tyX2 tyX2_ok nmX2 hown hK hS h14_h0 rfl 10 (by decide) (hts (.fieldLink RX2 49 "PayLedger$Pay" "net" "J") (by decide +kernel)) rfl rfl rfl (Nat.le_of_ble_eq_true rfl) dX2_init_65 (fun H locs hS => ?_)
  obtain ⟨w15, ew15⟩ : ∃ z : zw, z = va_up w14 (h0) (some (.inr (2, [.ref (te), .ref (pp), .int (0), .int (0), .long (0), .long (0), .long (0), .long (0), .long (0), .long (0), .long (0), .long (0)]))) := ⟨_, rfl⟩
  have hS : zS (zA w sz) D w15 s.heap H locs := by rw [ew15]; exact hS
  have h15_h0 : w15 (h0) = some (.inr (2, [.ref (te), .ref (pp), .int (0), .int (0), .long (0), .long (0), .long (0), .long (0), .long (0), .long (0), .long (0), .long (0)])) := by rw [ew15]; exact va_up_self _ _ _
  have h15_te : w15 (te) = some (.inr (4, [.null, .int (1), .int (0), .long (0), .long (0), .long (0), .int (0)])) := by rw [ew15]; exact (va_up_ne _ _ (zne h14_te h14_h0 (by intro q9; first | cases q9 | simp at q9))).trans h14_te
  have h15_pp : w15 (pp) = some (eJ cs (8) (fun _ => 0)) := by rw [ew15]; exact (va_up_ne _ _ (zne h14_pp h14_h0 (by intro q9; first | cases q9 | simp at q9))).trans h14_pp
  refine lv_aload_n hx hb dX2_init_68 rfl (lv_at hl 0 rfl) ?_
  refine lv_lconst (v := 0) hx hb dX2_init_69 (by decide) ?_
  refine z_put (C := RX2) (T := TX2) (N := 12) (v := .long (0)) hx hb hts (by decide +kernel) tyX2 tyX2_ok nmX2 hown hK hS h15_h0 rfl 11 (by decide) (hts (.fieldLink RX2 52 "PayLedger$Pay" "paid" "J") (by decide +kernel)) rfl rfl rfl (Nat.le_of_ble_eq_true rfl) dX2_init_70 (fun H locs hS => ?_)
  obtain ⟨w16, ew16⟩ : ∃ z : zw, z = va_up w15 (h0) (some (.inr (2, [.ref (te), .ref (pp), .int (0), .int (0), .long (0), .long (0), .long (0), .long (0), .long (0), .long (0), .long (0), .long (0)]))) := ⟨_, rfl⟩
  have hS : zS (zA w sz) D w16 s.heap H locs := by rw [ew16]; exact hS
  have h16_h0 : w16 (h0) = some (.inr (2, [.ref (te), .ref (pp), .int (0), .int (0), .long (0), .long (0), .long (0), .long (0), .long (0), .long (0), .long (0), .long (0)])) := by rw [ew16]; exact va_up_self _ _ _
  have h16_te : w16 (te) = some (.inr (4, [.null, .int (1), .int (0), .long (0), .long (0), .long (0), .int (0)])) := by rw [ew16]; exact (va_up_ne _ _ (zne h15_te h15_h0 (by intro q9; first | cases q9 | simp at q9))).trans h15_te
  have h16_pp : w16 (pp) = some (eJ cs (8) (fun _ => 0)) := by rw [ew16]; exact (va_up_ne _ _ (zne h15_pp h15_h0 (by intro q9; first | cases q9 | simp at q9))).trans h15_pp
  have hex : zEx w w16 [(h0, (.inr (2, [.ref (te), .ref (pp), .int (0), .int (0), .long (0), .long (0), .long (0), .long (0), .long (0), .long (0), .long (0), .long (0)]))), (te, (.inr (4, [.null, .int (1), .int (0), .long (0), .long (0), .long (0), .int (0)]))), (pp, (eJ cs (8) (fun _ => 0)))] := ⟨(zm1 h16_h0 (zm1 h16_te (zm1 h16_pp zm0))), fun a9 h9 => by rw [ew16, va_up_ne _ _ (show a9 ≠ h0 from h9 (h0, (.inr (2, [.ref (te), .ref (pp), .int (0), .int (0), .long (0), .long (0), .long (0), .long (0), .long (0), .long (0), .long (0), .long (0)]))) (List.mem_of_getElem? (i := 0) rfl)), ew15, va_up_ne _ _ (show a9 ≠ h0 from h9 (h0, (.inr (2, [.ref (te), .ref (pp), .int (0), .int (0), .long (0), .long (0), .long (0), .long (0), .long (0), .long (0), .long (0), .long (0)]))) (List.mem_of_getElem? (i := 0) rfl)), ew14, va_up_ne _ _ (show a9 ≠ h0 from h9 (h0, (.inr (2, [.ref (te), .ref (pp), .int (0), .int (0), .long (0), .long (0), .long (0), .long (0), .long (0), .long (0), .long (0), .long (0)]))) (List.mem_of_getElem? (i := 0) rfl)), ew13, va_up_ne _ _ (show a9 ≠ h0 from h9 (h0, (.inr (2, [.ref (te), .ref (pp), .int (0), .int (0), .long (0), .long (0), .long (0), .long (0), .long (0), .long (0), .long (0), .long (0)]))) (List.mem_of_getElem? (i := 0) rfl)), ew12, va_up_ne _ _ (show a9 ≠ h0 from h9 (h0, (.inr (2, [.ref (te), .ref (pp), .int (0), .int (0), .long (0), .long (0), .long (0), .long (0), .long (0), .long (0), .long (0), .long (0)]))) (List.mem_of_getElem? (i := 0) rfl)), ew11, va_up_ne _ _ (show a9 ≠ h0 from h9 (h0, (.inr (2, [.ref (te), .ref (pp), .int (0), .int (0), .long (0), .long (0), .long (0), .long (0), .long (0), .long (0), .long (0), .long (0)]))) (List.mem_of_getElem? (i := 0) rfl)), ew10, va_up_ne _ _ (show a9 ≠ h0 from h9 (h0, (.inr (2, [.ref (te), .ref (pp), .int (0), .int (0), .long (0), .long (0), .long (0), .long (0), .long (0), .long (0), .long (0), .long (0)]))) (List.mem_of_getElem? (i := 0) rfl)), ew9, va_up_ne _ _ (show a9 ≠ h0 from h9 (h0, (.inr (2, [.ref (te), .ref (pp), .int (0), .int (0), .long (0), .long (0), .long (0), .long (0), .long (0), .long (0), .long (0), .long (0)]))) (List.mem_of_getElem? (i := 0) rfl)), ew8, va_up_ne _ _ (show a9 ≠ h0 from h9 (h0, (.inr (2, [.ref (te), .ref (pp), .int (0), .int (0), .long (0), .long (0), .long (0), .long (0), .long (0), .long (0), .long (0), .long (0)]))) (List.mem_of_getElem? (i := 0) rfl)), ew7, va_up_ne _ _ (show a9 ≠ h0 from h9 (h0, (.inr (2, [.ref (te), .ref (pp), .int (0), .int (0), .long (0), .long (0), .long (0), .long (0), .long (0), .long (0), .long (0), .long (0)]))) (List.mem_of_getElem? (i := 0) rfl)), ew6, va_up_ne _ _ (show a9 ≠ h0 from h9 (h0, (.inr (2, [.ref (te), .ref (pp), .int (0), .int (0), .long (0), .long (0), .long (0), .long (0), .long (0), .long (0), .long (0), .long (0)]))) (List.mem_of_getElem? (i := 0) rfl)), ew5, va_up_ne _ _ (show a9 ≠ pp from h9 (pp, (eJ cs (8) (fun _ => 0))) (List.mem_of_getElem? (i := 2) rfl)), ew4, va_up_ne _ _ (show a9 ≠ h0 from h9 (h0, (.inr (2, [.ref (te), .ref (pp), .int (0), .int (0), .long (0), .long (0), .long (0), .long (0), .long (0), .long (0), .long (0), .long (0)]))) (List.mem_of_getElem? (i := 0) rfl)), hx2.2 a9 (zm1 (show a9 ≠ te from h9 (te, (.inr (4, [.null, .int (1), .int (0), .long (0), .long (0), .long (0), .int (0)]))) (List.mem_of_getElem? (i := 1) rfl)) zm0), ew1, va_up_ne _ _ (show a9 ≠ te from h9 (te, (.inr (4, [.null, .int (1), .int (0), .long (0), .long (0), .long (0), .int (0)]))) (List.mem_of_getElem? (i := 1) rfl))]⟩
  exact z_vret hx hb hr hlocks hS (Nat.le_of_ble_eq_true rfl) (Nat.le_of_ble_eq_true rfl) dX2_init_73 ⟨rfl, te, pp, hz_te, hz_pp, zne h16_te h16_pp (by intro q9; cases q9), hex⟩
set_option maxHeartbeats 4000000 in
set_option maxRecDepth 100000 in
theorem c_X0_init (l : Launch) (D : va_G) (cs : Nat → ClassId) (w : zw) (sz : Nat) (h0 : Nat)  (h_o : w (h0) = some (.inr (0, [.null, .long (0), .int (0), .long (0), .long (0)]))) : zM l D cs yX0_init wsX0_init 0 1 8 w sz [.ref (h0)] (fun r w2 => r = none ∧ ∃ ap : Nat, w ap = none ∧ zEx w w2 [(h0, .inr (0, [.ref ap, .long 0, .int 0, .long 0, .long 0])), (ap, eJ cs 8 (fun _ => 0))]) := by
  refine z_met (cc := cX0_init) (maxL := 1) (ret := none) (by decide) rfl (Nat.le_of_ble_eq_true rfl) ?_
  intro p e s m below meth c hx hb hr hml hown hts hlocks hnm hsz hK hE hS ls hl
  have hl : lv_has ls 1 [(0, .ref (h0))] := hl
  refine lv_aload_n hx hb dX0_init_0 rfl (lv_at hl 0 rfl) ?_
  refine W.objInit hx hb hown (hts (.methodLink RX0 3 objectInit) (by decide +kernel)) (hts (.instanceMethod objectInit) (by decide +kernel)) (hts (.code objectInit ⟨#[0xb1]⟩ 1 none) (by decide +kernel)) rfl (by rw [hml]; exact hl.1) rfl dX0_init_1 (Nat.le_of_ble_eq_true rfl) (Nat.le_of_ble_eq_true rfl) ?_
  refine W.eq (g2 := F0 m 4 ls []) rfl ?_
  refine lv_aload_n hx hb dX0_init_4 rfl (lv_at hl 0 rfl) ?_
  refine lv_bipush (v := 8) hx hb dX0_init_5 (by decide) ?_
  refine z_newJ hx hb (hts (.arrayClass .long) (by decide +kernel)) hK hS 8 (by decide) (by decide) (by decide) (Nat.le_of_ble_eq_true rfl) (Nat.le_of_ble_eq_true rfl) dX0_init_7 (fun ap H h_nap hS => ?_)
  obtain ⟨w1, ew1⟩ : ∃ z : zw, z = va_up w (ap) (some (eJ cs (8) (fun _ => 0))) := ⟨_, rfl⟩
  have hS : zS (zA w sz) D w1 s.heap H [] := by rw [ew1]; exact hS
  have h1_ap : w1 (ap) = some (eJ cs (8) (fun _ => 0)) := by rw [ew1]; exact va_up_self _ _ _
  have h1_h0 : w1 (h0) = some (.inr (0, [.null, .long (0), .int (0), .long (0), .long (0)])) := by rw [ew1]; exact (va_up_ne _ _ (fun q9 => by rw [q9] at h_o; rw [h_nap] at h_o; cases h_o)).trans h_o
  have hz_ap : w (ap) = none := by
    have q9 := h_nap
    exact q9
  refine z_putF (C := RX0) (T := TX0) (N := 5) (v := .ref (ap)) hx hb hts (by decide +kernel) tyX0 tyX0_ok nmX0 hown hK hS h1_h0 rfl 0 (by decide) (hts (.fieldLink RX0 9 "PayLedger$Ahead" "parts" "[J") (by decide +kernel)) rfl hnm rfl rfl rfl (Nat.le_of_ble_eq_true rfl) dX0_init_9 (fun H locs hS => ?_)
  obtain ⟨w2, ew2⟩ : ∃ z : zw, z = va_up w1 (h0) (some (.inr (0, [.ref (ap), .long (0), .int (0), .long (0), .long (0)]))) := ⟨_, rfl⟩
  have hS : zS (zA w sz) D w2 s.heap H locs := by rw [ew2]; exact hS
  have h2_h0 : w2 (h0) = some (.inr (0, [.ref (ap), .long (0), .int (0), .long (0), .long (0)])) := by rw [ew2]; exact va_up_self _ _ _
  have h2_ap : w2 (ap) = some (eJ cs (8) (fun _ => 0)) := by rw [ew2]; exact (va_up_ne _ _ (zne h1_ap h1_h0 (by intro q9; first | cases q9 | simp at q9))).trans h1_ap
  refine lv_aload_n hx hb dX0_init_12 rfl (lv_at hl 0 rfl) ?_
  refine lv_lconst (v := 0) hx hb dX0_init_13 (by decide) ?_
  refine z_put (C := RX0) (T := TX0) (N := 5) (v := .long (0)) hx hb hts (by decide +kernel) tyX0 tyX0_ok nmX0 hown hK hS h2_h0 rfl 1 (by decide) (hts (.fieldLink RX0 15 "PayLedger$Ahead" "gross" "J") (by decide +kernel)) rfl rfl rfl (Nat.le_of_ble_eq_true rfl) dX0_init_14 (fun H locs hS => ?_)
  obtain ⟨w3, ew3⟩ : ∃ z : zw, z = va_up w2 (h0) (some (.inr (0, [.ref (ap), .long (0), .int (0), .long (0), .long (0)]))) := ⟨_, rfl⟩
  have hS : zS (zA w sz) D w3 s.heap H locs := by rw [ew3]; exact hS
  have h3_h0 : w3 (h0) = some (.inr (0, [.ref (ap), .long (0), .int (0), .long (0), .long (0)])) := by rw [ew3]; exact va_up_self _ _ _
  have h3_ap : w3 (ap) = some (eJ cs (8) (fun _ => 0)) := by rw [ew3]; exact (va_up_ne _ _ (zne h2_ap h2_h0 (by intro q9; first | cases q9 | simp at q9))).trans h2_ap
  refine lv_aload_n hx hb dX0_init_17 rfl (lv_at hl 0 rfl) ?_
  refine lv_iconst (v := 0) hx hb dX0_init_18 (by decide) ?_
  refine z_put (C := RX0) (T := TX0) (N := 5) (v := .int (0)) hx hb hts (by decide +kernel) tyX0 tyX0_ok nmX0 hown hK hS h3_h0 rfl 2 (by decide) (hts (.fieldLink RX0 19 "PayLedger$Ahead" "usual" "I") (by decide +kernel)) rfl rfl rfl (Nat.le_of_ble_eq_true rfl) dX0_init_19 (fun H locs hS => ?_)
  obtain ⟨w4, ew4⟩ : ∃ z : zw, z = va_up w3 (h0) (some (.inr (0, [.ref (ap), .long (0), .int (0), .long (0), .long (0)]))) := ⟨_, rfl⟩
  have hS : zS (zA w sz) D w4 s.heap H locs := by rw [ew4]; exact hS
  have h4_h0 : w4 (h0) = some (.inr (0, [.ref (ap), .long (0), .int (0), .long (0), .long (0)])) := by rw [ew4]; exact va_up_self _ _ _
  have h4_ap : w4 (ap) = some (eJ cs (8) (fun _ => 0)) := by rw [ew4]; exact (va_up_ne _ _ (zne h3_ap h3_h0 (by intro q9; first | cases q9 | simp at q9))).trans h3_ap
  refine lv_aload_n hx hb dX0_init_22 rfl (lv_at hl 0 rfl) ?_
  refine lv_lconst (v := 0) hx hb dX0_init_23 (by decide) ?_
  refine z_put (C := RX0) (T := TX0) (N := 5) (v := .long (0)) hx hb hts (by decide +kernel) tyX0 tyX0_ok nmX0 hown hK hS h4_h0 rfl 3 (by decide) (hts (.fieldLink RX0 23 "PayLedger$Ahead" "incomes" "J") (by decide +kernel)) rfl rfl rfl (Nat.le_of_ble_eq_true rfl) dX0_init_24 (fun H locs hS => ?_)
  obtain ⟨w5, ew5⟩ : ∃ z : zw, z = va_up w4 (h0) (some (.inr (0, [.ref (ap), .long (0), .int (0), .long (0), .long (0)]))) := ⟨_, rfl⟩
  have hS : zS (zA w sz) D w5 s.heap H locs := by rw [ew5]; exact hS
  have h5_h0 : w5 (h0) = some (.inr (0, [.ref (ap), .long (0), .int (0), .long (0), .long (0)])) := by rw [ew5]; exact va_up_self _ _ _
  have h5_ap : w5 (ap) = some (eJ cs (8) (fun _ => 0)) := by rw [ew5]; exact (va_up_ne _ _ (zne h4_ap h4_h0 (by intro q9; first | cases q9 | simp at q9))).trans h4_ap
  refine lv_aload_n hx hb dX0_init_27 rfl (lv_at hl 0 rfl) ?_
  refine lv_lconst (v := 0) hx hb dX0_init_28 (by decide) ?_
  refine z_put (C := RX0) (T := TX0) (N := 5) (v := .long (0)) hx hb hts (by decide +kernel) tyX0 tyX0_ok nmX0 hown hK hS h5_h0 rfl 4 (by decide) (hts (.fieldLink RX0 26 "PayLedger$Ahead" "basics" "J") (by decide +kernel)) rfl rfl rfl (Nat.le_of_ble_eq_true rfl) dX0_init_29 (fun H locs hS => ?_)
  obtain ⟨w6, ew6⟩ : ∃ z : zw, z = va_up w5 (h0) (some (.inr (0, [.ref (ap), .long (0), .int (0), .long (0), .long (0)]))) := ⟨_, rfl⟩
  have hS : zS (zA w sz) D w6 s.heap H locs := by rw [ew6]; exact hS
  have h6_h0 : w6 (h0) = some (.inr (0, [.ref (ap), .long (0), .int (0), .long (0), .long (0)])) := by rw [ew6]; exact va_up_self _ _ _
  have h6_ap : w6 (ap) = some (eJ cs (8) (fun _ => 0)) := by rw [ew6]; exact (va_up_ne _ _ (zne h5_ap h5_h0 (by intro q9; first | cases q9 | simp at q9))).trans h5_ap
  have hex : zEx w w6 [(h0, (.inr (0, [.ref (ap), .long (0), .int (0), .long (0), .long (0)]))), (ap, (eJ cs (8) (fun _ => 0)))] := ⟨(zm1 h6_h0 (zm1 h6_ap zm0)), fun a9 h9 => by rw [ew6, va_up_ne _ _ (show a9 ≠ h0 from h9 (h0, (.inr (0, [.ref (ap), .long (0), .int (0), .long (0), .long (0)]))) (List.mem_of_getElem? (i := 0) rfl)), ew5, va_up_ne _ _ (show a9 ≠ h0 from h9 (h0, (.inr (0, [.ref (ap), .long (0), .int (0), .long (0), .long (0)]))) (List.mem_of_getElem? (i := 0) rfl)), ew4, va_up_ne _ _ (show a9 ≠ h0 from h9 (h0, (.inr (0, [.ref (ap), .long (0), .int (0), .long (0), .long (0)]))) (List.mem_of_getElem? (i := 0) rfl)), ew3, va_up_ne _ _ (show a9 ≠ h0 from h9 (h0, (.inr (0, [.ref (ap), .long (0), .int (0), .long (0), .long (0)]))) (List.mem_of_getElem? (i := 0) rfl)), ew2, va_up_ne _ _ (show a9 ≠ h0 from h9 (h0, (.inr (0, [.ref (ap), .long (0), .int (0), .long (0), .long (0)]))) (List.mem_of_getElem? (i := 0) rfl)), ew1, va_up_ne _ _ (show a9 ≠ ap from h9 (ap, (eJ cs (8) (fun _ => 0))) (List.mem_of_getElem? (i := 1) rfl))]⟩
  exact z_vret hx hb hr hlocks hS (Nat.le_of_ble_eq_true rfl) (Nat.le_of_ble_eq_true rfl) dX0_init_32 ⟨rfl, ap, hz_ap, hex⟩
set_option maxHeartbeats 4000000 in
set_option maxRecDepth 100000 in
theorem c_X0_clear (l : Launch) (D : va_G) (cs : Nat → ClassId) (w : zw) (sz : Nat) (aa ap : Nat) (ag : Int64) (us : Int32) (ai ab : Int64) (AP : Nat → Int64)  (h_a : w (aa) = some (.inr (0, [.ref (ap), .long (ag), .int (us), .long (ai), .long (ab)]))) (h_ap : w (ap) = some (eJ cs (8) (AP))) : zM l D cs yX0_clear wsX0_clear 0 0 0 w sz [.ref (aa)] (fun r w2 => r = none ∧ zEx w w2 [(aa, .inr (0, [.ref ap, .long 0, .int 0, .long 0, .long 0])), (ap, eJ cs 8 (zClr AP 8))]) := by
  refine z_met (cc := cX0_clear) (maxL := 2) (ret := none) (by decide) rfl (Nat.le_of_ble_eq_true rfl) ?_
  intro p e s m below meth c hx hb hr hml hown hts hlocks hnm hsz hK hE hS ls hl
  have hl : lv_has ls 2 [(0, .ref (aa))] := hl
  have L2 : ∀ (i : Nat), ∀ (u : zw), (hi : i ≤ 8) → (h_a : u (aa) = some (.inr (0, [.ref (ap), .long (ag), .int (us), .long (ai), .long (ab)]))) → (h_ap : u (ap) = some (eJ cs (8) (zClr AP i))) → (hex0 : zEx w u [(ap, (eJ cs (8) (zClr AP i)))]) → ∀ (H : Heap) (locs : List Loc) (ls : Array Slot), zS (zA w sz) D u s.heap H locs → lv_has ls 2 [(1, .int (nI i)), (0, .ref (aa))] → W p l e (zR 0 0 0) s m [.ref (aa)].toArray below meth c H locs 0 0 (MQ below (zQ D w sz (fun r w2 => r = none ∧ zEx w w2 [(aa, .inr (0, [.ref ap, .long 0, .int 0, .long 0, .long 0])), (ap, eJ cs 8 (zClr AP 8))])) [.ref (aa)].toArray s 0 0 (zA w sz)) (F0 m 2 ls []) := by
    refine zloopU (P := fun i => ∀ (u : zw), (hi : i ≤ 8) → (h_a : u (aa) = some (.inr (0, [.ref (ap), .long (ag), .int (us), .long (ai), .long (ab)]))) → (h_ap : u (ap) = some (eJ cs (8) (zClr AP i))) → (hex0 : zEx w u [(ap, (eJ cs (8) (zClr AP i)))]) → ∀ (H : Heap) (locs : List Loc) (ls : Array Slot), zS (zA w sz) D u s.heap H locs → lv_has ls 2 [(1, .int (nI i)), (0, .ref (aa))] → W p l e (zR 0 0 0) s m [.ref (aa)].toArray below meth c H locs 0 0 (MQ below (zQ D w sz (fun r w2 => r = none ∧ zEx w w2 [(aa, .inr (0, [.ref ap, .long 0, .int 0, .long 0, .long 0])), (ap, eJ cs 8 (zClr AP 8))])) [.ref (aa)].toArray s 0 0 (zA w sz)) (F0 m 2 ls [])) 8 (fun i ih => ?_)
    intro u hi h_a h_ap hex0 H locs ls hS hl
    refine lv_iload_n hx hb dX0_clear_2 rfl (lv_at hl 0 rfl) ?_
    refine lv_aload_n hx hb dX0_clear_3 rfl (lv_at hl 1 rfl) ?_
    refine z_get (C := RX0) (T := TX0) (N := 5) (v := .ref (ap)) hx hb hts (by decide +kernel) hown hK hS h_a rfl 0 (by decide) (hts (.fieldLink RX0 9 "PayLedger$Ahead" "parts" "[J") (by decide +kernel)) rfl dX0_clear_4 ?_
    refine z_alen (t0 := 1) (v := 8) hx hb hK hS h_ap rfl rfl dX0_clear_7 ?_
    refine lv_icmp_ge (tgt := 24) hx hb dX0_clear_8 (by decide) (fun c8 => ?_) (fun c8 => ?_)
    · have hi8 : i = 8 := by rcases Nat.lt_or_ge i (8) with q | q; exact absurd c8 (nI_ge (b := 8) q (by omega)); omega
      refine lv_aload_n hx hb dX0_clear_24 rfl (lv_at hl 1 rfl) ?_
      refine lv_lconst (v := 0) hx hb dX0_clear_25 (by decide) ?_
      refine z_put (C := RX0) (T := TX0) (N := 5) (v := .long (0)) hx hb hts (by decide +kernel) tyX0 tyX0_ok nmX0 hown hK hS h_a rfl 1 (by decide) (hts (.fieldLink RX0 15 "PayLedger$Ahead" "gross" "J") (by decide +kernel)) rfl rfl rfl (Nat.le_of_ble_eq_true rfl) dX0_clear_26 (fun H locs hS => ?_)
      obtain ⟨w1, ew1⟩ : ∃ z : zw, z = va_up u (aa) (some (.inr (0, [.ref (ap), .long (0), .int (us), .long (ai), .long (ab)]))) := ⟨_, rfl⟩
      have hS : zS (zA w sz) D w1 s.heap H locs := by rw [ew1]; exact hS
      have h1_aa : w1 (aa) = some (.inr (0, [.ref (ap), .long (0), .int (us), .long (ai), .long (ab)])) := by rw [ew1]; exact va_up_self _ _ _
      have h1_ap : w1 (ap) = some (eJ cs (8) (zClr AP i)) := by rw [ew1]; exact (va_up_ne _ _ (zne h_ap h_a (by intro q9; first | cases q9 | simp at q9))).trans h_ap
      refine lv_aload_n hx hb dX0_clear_29 rfl (lv_at hl 1 rfl) ?_
      refine lv_iconst (v := 0) hx hb dX0_clear_30 (by decide) ?_
      refine z_put (C := RX0) (T := TX0) (N := 5) (v := .int (0)) hx hb hts (by decide +kernel) tyX0 tyX0_ok nmX0 hown hK hS h1_aa rfl 2 (by decide) (hts (.fieldLink RX0 19 "PayLedger$Ahead" "usual" "I") (by decide +kernel)) rfl rfl rfl (Nat.le_of_ble_eq_true rfl) dX0_clear_31 (fun H locs hS => ?_)
      obtain ⟨w2, ew2⟩ : ∃ z : zw, z = va_up w1 (aa) (some (.inr (0, [.ref (ap), .long (0), .int (0), .long (ai), .long (ab)]))) := ⟨_, rfl⟩
      have hS : zS (zA w sz) D w2 s.heap H locs := by rw [ew2]; exact hS
      have h2_aa : w2 (aa) = some (.inr (0, [.ref (ap), .long (0), .int (0), .long (ai), .long (ab)])) := by rw [ew2]; exact va_up_self _ _ _
      have h2_ap : w2 (ap) = some (eJ cs (8) (zClr AP i)) := by rw [ew2]; exact (va_up_ne _ _ (zne h1_ap h1_aa (by intro q9; first | cases q9 | simp at q9))).trans h1_ap
      refine lv_aload_n hx hb dX0_clear_34 rfl (lv_at hl 1 rfl) ?_
      refine lv_lconst (v := 0) hx hb dX0_clear_35 (by decide) ?_
      refine z_put (C := RX0) (T := TX0) (N := 5) (v := .long (0)) hx hb hts (by decide +kernel) tyX0 tyX0_ok nmX0 hown hK hS h2_aa rfl 3 (by decide) (hts (.fieldLink RX0 23 "PayLedger$Ahead" "incomes" "J") (by decide +kernel)) rfl rfl rfl (Nat.le_of_ble_eq_true rfl) dX0_clear_36 (fun H locs hS => ?_)
      obtain ⟨w3, ew3⟩ : ∃ z : zw, z = va_up w2 (aa) (some (.inr (0, [.ref (ap), .long (0), .int (0), .long (0), .long (ab)]))) := ⟨_, rfl⟩
      have hS : zS (zA w sz) D w3 s.heap H locs := by rw [ew3]; exact hS
      have h3_aa : w3 (aa) = some (.inr (0, [.ref (ap), .long (0), .int (0), .long (0), .long (ab)])) := by rw [ew3]; exact va_up_self _ _ _
      have h3_ap : w3 (ap) = some (eJ cs (8) (zClr AP i)) := by rw [ew3]; exact (va_up_ne _ _ (zne h2_ap h2_aa (by intro q9; first | cases q9 | simp at q9))).trans h2_ap
      refine lv_aload_n hx hb dX0_clear_39 rfl (lv_at hl 1 rfl) ?_
      refine lv_lconst (v := 0) hx hb dX0_clear_40 (by decide) ?_
      refine z_put (C := RX0) (T := TX0) (N := 5) (v := .long (0)) hx hb hts (by decide +kernel) tyX0 tyX0_ok nmX0 hown hK hS h3_aa rfl 4 (by decide) (hts (.fieldLink RX0 26 "PayLedger$Ahead" "basics" "J") (by decide +kernel)) rfl rfl rfl (Nat.le_of_ble_eq_true rfl) dX0_clear_41 (fun H locs hS => ?_)
      obtain ⟨w4, ew4⟩ : ∃ z : zw, z = va_up w3 (aa) (some (.inr (0, [.ref (ap), .long (0), .int (0), .long (0), .long (0)]))) := ⟨_, rfl⟩
      have hS : zS (zA w sz) D w4 s.heap H locs := by rw [ew4]; exact hS
      have h4_aa : w4 (aa) = some (.inr (0, [.ref (ap), .long (0), .int (0), .long (0), .long (0)])) := by rw [ew4]; exact va_up_self _ _ _
      have h4_ap : w4 (ap) = some (eJ cs (8) (zClr AP i)) := by rw [ew4]; exact (va_up_ne _ _ (zne h3_ap h3_aa (by intro q9; first | cases q9 | simp at q9))).trans h3_ap
      have hex : zEx w w4 [(aa, (.inr (0, [.ref (ap), .long (0), .int (0), .long (0), .long (0)]))), (ap, (eJ cs (8) (zClr AP i)))] := ⟨(zm1 h4_aa (zm1 h4_ap zm0)), fun a9 h9 => by rw [ew4, va_up_ne _ _ (show a9 ≠ aa from h9 (aa, (.inr (0, [.ref (ap), .long (0), .int (0), .long (0), .long (0)]))) (List.mem_of_getElem? (i := 0) rfl)), ew3, va_up_ne _ _ (show a9 ≠ aa from h9 (aa, (.inr (0, [.ref (ap), .long (0), .int (0), .long (0), .long (0)]))) (List.mem_of_getElem? (i := 0) rfl)), ew2, va_up_ne _ _ (show a9 ≠ aa from h9 (aa, (.inr (0, [.ref (ap), .long (0), .int (0), .long (0), .long (0)]))) (List.mem_of_getElem? (i := 0) rfl)), ew1, va_up_ne _ _ (show a9 ≠ aa from h9 (aa, (.inr (0, [.ref (ap), .long (0), .int (0), .long (0), .long (0)]))) (List.mem_of_getElem? (i := 0) rfl)), hex0.2 a9 (zm1 (show a9 ≠ ap from h9 (ap, (eJ cs (8) (zClr AP i))) (List.mem_of_getElem? (i := 1) rfl)) zm0)]⟩
      exact z_vret hx hb hr hlocks hS (Nat.le_of_ble_eq_true rfl) (Nat.le_of_ble_eq_true rfl) dX0_clear_44 ⟨rfl, by rw [hi8] at hex; exact hex⟩
    · have c8 : i < 8 := by rcases Nat.lt_or_ge i (8) with q | q; exact q; exact absurd (nI_le (a := 8) q (by omega)) c8
      refine lv_aload_n hx hb dX0_clear_11 rfl (lv_at hl 1 rfl) ?_
      refine z_get (C := RX0) (T := TX0) (N := 5) (v := .ref (ap)) hx hb hts (by decide +kernel) hown hK hS h_a rfl 0 (by decide) (hts (.fieldLink RX0 9 "PayLedger$Ahead" "parts" "[J") (by decide +kernel)) rfl dX0_clear_12 ?_
      refine lv_iload_n hx hb dX0_clear_15 rfl (lv_at hl 0 rfl) ?_
      refine lv_lconst (v := 0) hx hb dX0_clear_16 (by decide) ?_
      refine z_last hx hb hK hS h_ap (vp_in_nI c8 (by omega)) dX0_clear_17 (fun H locs hS => ?_)
      obtain ⟨w5, ew5⟩ : ∃ z : zw, z = va_up u (ap) (some (eJ cs (8) (vp_updL (zClr AP i) (nI i : Int32).toNatClampNeg (0)))) := ⟨_, rfl⟩
      have hS : zS (zA w sz) D w5 s.heap H locs := by rw [ew5]; exact hS
      have h5_ap : w5 (ap) = some (eJ cs (8) (vp_updL (zClr AP i) (nI i : Int32).toNatClampNeg (0))) := by rw [ew5]; exact va_up_self _ _ _
      have h5_aa : w5 (aa) = some (.inr (0, [.ref (ap), .long (ag), .int (us), .long (ai), .long (ab)])) := by rw [ew5]; exact (va_up_ne _ _ (zne h_a h_ap (by intro q9; first | cases q9 | simp at q9))).trans h_a
      rw [show (eJ cs (8) (vp_updL (zClr AP i) (nI i : Int32).toNatClampNeg (0))) = (eJ cs (8) (zClr AP (i + 1))) from (by rw [nI_clamp (by omega), zClr_s])] at h5_ap
      refine lv_iinc (v := nI (i + 1)) (lv' := [(1, .int (nI (i + 1))), (0, .ref (aa))]) hx hb dX0_clear_18 hl (k := 0) rfl (nI_1 _) (by decide) rfl (fun ls hl => ?_)
      refine lv_goto (tgt := 2) hx hb dX0_clear_21 (by decide) ?_
      have hex : zEx w w5 [(ap, (eJ cs (8) (zClr AP (i + 1))))] := ⟨(zm1 h5_ap zm0), fun a9 h9 => by rw [ew5, va_up_ne _ _ (show a9 ≠ ap from h9 (ap, (eJ cs (8) (zClr AP (i + 1)))) (List.mem_of_getElem? (i := 0) rfl)), hex0.2 a9 (zm1 (show a9 ≠ ap from h9 (ap, (eJ cs (8) (zClr AP (i + 1)))) (List.mem_of_getElem? (i := 0) rfl)) zm0)]⟩
      exact ih c8 w5 (by omega) h5_aa h5_ap hex _ _ _ hS (lv_sub hl [0, 1] rfl)
  refine lv_iconst (v := 0) hx hb dX0_clear_0 (by decide) ?_
  refine lv_istore_n (lv' := [(1, .int (0)), (0, .ref (aa))]) hx hb dX0_clear_1 rfl hl (by decide) rfl (fun ls hl => ?_)
  have h_ap0 : w (ap) = some (eJ cs 8 (zClr AP 0)) := by rw [zClr_0]; exact h_ap
  have hex : zEx w w [(ap, (eJ cs (8) (zClr AP 0)))] := ⟨(zm1 h_ap0 zm0), fun a9 h9 => rfl⟩
  exact L2 0 w (by omega) h_a h_ap0 hex _ _ _ hS (lv_sub hl [0, 1] rfl)
set_option maxHeartbeats 4000000 in
set_option maxRecDepth 100000 in
theorem c_X0_add (l : Launch) (D : va_G) (cs : Nat → ClassId) (w : zw) (sz : Nat) (aa ap : Nat) (ag : Int64) (us : Int32) (ai ab : Int64) (AP : Nat → Int64) (pq te pp : Nat) (bo br : Int32) (V PT : Nat → Int64) (hne : pp ≠ ap) (h_a : w (aa) = some (.inr (0, [.ref (ap), .long (ag), .int (us), .long (ai), .long (ab)]))) (h_ap : w (ap) = some (eJ cs (8) (AP))) (h_p : w (pq) = some (.inr (2, [.ref (te), .ref (pp), .int (bo), .int (br), .long (V 0), .long (V 1), .long (V 2), .long (V 3), .long (V 4), .long (V 5), .long (V 6), .long (V 7)]))) (h_pp : w (pp) = some (eJ cs (8) (PT))) : zM l D cs yX0_add wsX0_add 1 0 0 w sz [.ref (aa), .ref (pq)] (fun r w2 => r = none ∧ zEx w w2 [(aa, .inr (0, [.ref ap, .long (ag + V 0), .int (if bo = 0 then us + 1 else us), .long (if bo = 0 then ai + V 2 else ai), .long (if bo = 0 then ab + V 3 else ab)])), (ap, eJ cs 8 (zAdd AP PT 8))]) := by
  refine z_met (cc := cX0_add) (maxL := 3) (ret := none) (by decide) rfl (Nat.le_of_ble_eq_true rfl) ?_
  intro p e s m below meth c hx hb hr hml hown hts hlocks hnm hsz hK hE hS ls hl
  have hl : lv_has ls 3 [(0, .ref (aa)), (1, .ref (pq))] := hl
  have L2 : ∀ (i : Nat), ∀ (u : zw), (hi : i ≤ 8) → (h_a : u (aa) = some (.inr (0, [.ref (ap), .long (ag), .int (us), .long (ai), .long (ab)]))) → (h_ap : u (ap) = some (eJ cs (8) (zAdd AP PT i))) → (h_p : u (pq) = some (.inr (2, [.ref (te), .ref (pp), .int (bo), .int (br), .long (V 0), .long (V 1), .long (V 2), .long (V 3), .long (V 4), .long (V 5), .long (V 6), .long (V 7)]))) → (h_pp : u (pp) = some (eJ cs (8) (PT))) → (hex0 : zEx w u [(ap, (eJ cs (8) (zAdd AP PT i)))]) → ∀ (H : Heap) (locs : List Loc) (ls : Array Slot), zS (zA w sz) D u s.heap H locs → lv_has ls 3 [(2, .int (nI i)), (0, .ref (aa)), (1, .ref (pq))] → W p l e (zR 1 0 0) s m [.ref (aa), .ref (pq)].toArray below meth c H locs 0 0 (MQ below (zQ D w sz (fun r w2 => r = none ∧ zEx w w2 [(aa, .inr (0, [.ref ap, .long (ag + V 0), .int (if bo = 0 then us + 1 else us), .long (if bo = 0 then ai + V 2 else ai), .long (if bo = 0 then ab + V 3 else ab)])), (ap, eJ cs 8 (zAdd AP PT 8))])) [.ref (aa), .ref (pq)].toArray s 0 0 (zA w sz)) (F0 m 2 ls []) := by
    refine zloopU (P := fun i => ∀ (u : zw), (hi : i ≤ 8) → (h_a : u (aa) = some (.inr (0, [.ref (ap), .long (ag), .int (us), .long (ai), .long (ab)]))) → (h_ap : u (ap) = some (eJ cs (8) (zAdd AP PT i))) → (h_p : u (pq) = some (.inr (2, [.ref (te), .ref (pp), .int (bo), .int (br), .long (V 0), .long (V 1), .long (V 2), .long (V 3), .long (V 4), .long (V 5), .long (V 6), .long (V 7)]))) → (h_pp : u (pp) = some (eJ cs (8) (PT))) → (hex0 : zEx w u [(ap, (eJ cs (8) (zAdd AP PT i)))]) → ∀ (H : Heap) (locs : List Loc) (ls : Array Slot), zS (zA w sz) D u s.heap H locs → lv_has ls 3 [(2, .int (nI i)), (0, .ref (aa)), (1, .ref (pq))] → W p l e (zR 1 0 0) s m [.ref (aa), .ref (pq)].toArray below meth c H locs 0 0 (MQ below (zQ D w sz (fun r w2 => r = none ∧ zEx w w2 [(aa, .inr (0, [.ref ap, .long (ag + V 0), .int (if bo = 0 then us + 1 else us), .long (if bo = 0 then ai + V 2 else ai), .long (if bo = 0 then ab + V 3 else ab)])), (ap, eJ cs 8 (zAdd AP PT 8))])) [.ref (aa), .ref (pq)].toArray s 0 0 (zA w sz)) (F0 m 2 ls [])) 8 (fun i ih => ?_)
    intro u hi h_a h_ap h_p h_pp hex0 H locs ls hS hl
    refine lv_iload_n hx hb dX0_add_2 rfl (lv_at hl 0 rfl) ?_
    refine lv_aload_n hx hb dX0_add_3 rfl (lv_at hl 1 rfl) ?_
    refine z_get (C := RX0) (T := TX0) (N := 5) (v := .ref (ap)) hx hb hts (by decide +kernel) hown hK hS h_a rfl 0 (by decide) (hts (.fieldLink RX0 9 "PayLedger$Ahead" "parts" "[J") (by decide +kernel)) rfl dX0_add_4 ?_
    refine z_alen (t0 := 1) (v := 8) hx hb hK hS h_ap rfl rfl dX0_add_7 ?_
    refine lv_icmp_ge (tgt := 34) hx hb dX0_add_8 (by decide) (fun c8 => ?_) (fun c8 => ?_)
    · have hi8 : i = 8 := by rcases Nat.lt_or_ge i (8) with q | q; exact absurd c8 (nI_ge (b := 8) q (by omega)); omega
      refine lv_aload_n hx hb dX0_add_34 rfl (lv_at hl 1 rfl) ?_
      refine lv_dup hx hb dX0_add_35 rfl ?_
      refine z_get (C := RX0) (T := TX0) (N := 5) (v := .long (ag)) hx hb hts (by decide +kernel) hown hK hS h_a rfl 1 (by decide) (hts (.fieldLink RX0 15 "PayLedger$Ahead" "gross" "J") (by decide +kernel)) rfl dX0_add_36 ?_
      refine lv_aload_n hx hb dX0_add_39 rfl (lv_at hl 2 rfl) ?_
      refine z_get (C := RX2) (T := TX2) (N := 12) (v := .long (V 0)) hx hb hts (by decide +kernel) hown hK hS h_p rfl 4 (by decide) (hts (.fieldLink RX0 49 "PayLedger$Pay" "gross" "J") (by decide +kernel)) rfl dX0_add_40 ?_
      refine lv_ladd hx hb dX0_add_43 ?_
      refine z_put (C := RX0) (T := TX0) (N := 5) (v := .long ((ag + V 0))) hx hb hts (by decide +kernel) tyX0 tyX0_ok nmX0 hown hK hS h_a rfl 1 (by decide) (hts (.fieldLink RX0 15 "PayLedger$Ahead" "gross" "J") (by decide +kernel)) rfl rfl rfl (Nat.le_of_ble_eq_true rfl) dX0_add_44 (fun H locs hS => ?_)
      obtain ⟨w1, ew1⟩ : ∃ z : zw, z = va_up u (aa) (some (.inr (0, [.ref (ap), .long ((ag + V 0)), .int (us), .long (ai), .long (ab)]))) := ⟨_, rfl⟩
      have hS : zS (zA w sz) D w1 s.heap H locs := by rw [ew1]; exact hS
      have h1_aa : w1 (aa) = some (.inr (0, [.ref (ap), .long ((ag + V 0)), .int (us), .long (ai), .long (ab)])) := by rw [ew1]; exact va_up_self _ _ _
      have h1_ap : w1 (ap) = some (eJ cs (8) (zAdd AP PT i)) := by rw [ew1]; exact (va_up_ne _ _ (zne h_ap h_a (by intro q9; first | cases q9 | simp at q9))).trans h_ap
      have h1_pq : w1 (pq) = some (.inr (2, [.ref (te), .ref (pp), .int (bo), .int (br), .long (V 0), .long (V 1), .long (V 2), .long (V 3), .long (V 4), .long (V 5), .long (V 6), .long (V 7)])) := by rw [ew1]; exact (va_up_ne _ _ (zne h_p h_a (by intro q9; first | cases q9 | simp at q9))).trans h_p
      have h1_pp : w1 (pp) = some (eJ cs (8) (PT)) := by rw [ew1]; exact (va_up_ne _ _ (zne h_pp h_a (by intro q9; first | cases q9 | simp at q9))).trans h_pp
      refine lv_aload_n hx hb dX0_add_47 rfl (lv_at hl 2 rfl) ?_
      refine z_get (C := RX2) (T := TX2) (N := 12) (v := .int (bo)) hx hb hts (by decide +kernel) hown hK hS h1_pq rfl 2 (by decide) (hts (.fieldLink RX0 50 "PayLedger$Pay" "bonus" "Z") (by decide +kernel)) rfl dX0_add_48 ?_
      refine lv_if_ne (tgt := 90) hx hb dX0_add_51 (by decide) (fun c51 => ?_) (fun c51 => ?_)
      · have hex : zEx w w1 [(aa, (.inr (0, [.ref (ap), .long ((ag + V 0)), .int (us), .long (ai), .long (ab)]))), (ap, (eJ cs (8) (zAdd AP PT i)))] := ⟨(zm1 h1_aa (zm1 h1_ap zm0)), fun a9 h9 => by rw [ew1, va_up_ne _ _ (show a9 ≠ aa from h9 (aa, (.inr (0, [.ref (ap), .long ((ag + V 0)), .int (us), .long (ai), .long (ab)]))) (List.mem_of_getElem? (i := 0) rfl)), hex0.2 a9 (zm1 (show a9 ≠ ap from h9 (ap, (eJ cs (8) (zAdd AP PT i))) (List.mem_of_getElem? (i := 1) rfl)) zm0)]⟩
        exact z_vret hx hb hr hlocks hS (Nat.le_of_ble_eq_true rfl) (Nat.le_of_ble_eq_true rfl) dX0_add_90 ⟨rfl, by rw [hi8] at hex; simp only [if_neg c51]; exact hex⟩
      · refine lv_aload_n hx hb dX0_add_54 rfl (lv_at hl 1 rfl) ?_
        refine lv_dup hx hb dX0_add_55 rfl ?_
        refine z_get (C := RX0) (T := TX0) (N := 5) (v := .int (us)) hx hb hts (by decide +kernel) hown hK hS h1_aa rfl 2 (by decide) (hts (.fieldLink RX0 19 "PayLedger$Ahead" "usual" "I") (by decide +kernel)) rfl dX0_add_56 ?_
        refine lv_iconst (v := 1) hx hb dX0_add_59 (by decide) ?_
        refine lv_iadd hx hb dX0_add_60 ?_
        refine z_put (C := RX0) (T := TX0) (N := 5) (v := .int ((us + 1))) hx hb hts (by decide +kernel) tyX0 tyX0_ok nmX0 hown hK hS h1_aa rfl 2 (by decide) (hts (.fieldLink RX0 19 "PayLedger$Ahead" "usual" "I") (by decide +kernel)) rfl rfl rfl (Nat.le_of_ble_eq_true rfl) dX0_add_61 (fun H locs hS => ?_)
        obtain ⟨w2, ew2⟩ : ∃ z : zw, z = va_up w1 (aa) (some (.inr (0, [.ref (ap), .long ((ag + V 0)), .int ((us + 1)), .long (ai), .long (ab)]))) := ⟨_, rfl⟩
        have hS : zS (zA w sz) D w2 s.heap H locs := by rw [ew2]; exact hS
        have h2_aa : w2 (aa) = some (.inr (0, [.ref (ap), .long ((ag + V 0)), .int ((us + 1)), .long (ai), .long (ab)])) := by rw [ew2]; exact va_up_self _ _ _
        have h2_ap : w2 (ap) = some (eJ cs (8) (zAdd AP PT i)) := by rw [ew2]; exact (va_up_ne _ _ (zne h1_ap h1_aa (by intro q9; first | cases q9 | simp at q9))).trans h1_ap
        have h2_pq : w2 (pq) = some (.inr (2, [.ref (te), .ref (pp), .int (bo), .int (br), .long (V 0), .long (V 1), .long (V 2), .long (V 3), .long (V 4), .long (V 5), .long (V 6), .long (V 7)])) := by rw [ew2]; exact (va_up_ne _ _ (zne h1_pq h1_aa (by intro q9; first | cases q9 | simp at q9))).trans h1_pq
        have h2_pp : w2 (pp) = some (eJ cs (8) (PT)) := by rw [ew2]; exact (va_up_ne _ _ (zne h1_pp h1_aa (by intro q9; first | cases q9 | simp at q9))).trans h1_pp
        refine lv_aload_n hx hb dX0_add_64 rfl (lv_at hl 1 rfl) ?_
        refine lv_dup hx hb dX0_add_65 rfl ?_
        refine z_get (C := RX0) (T := TX0) (N := 5) (v := .long (ai)) hx hb hts (by decide +kernel) hown hK hS h2_aa rfl 3 (by decide) (hts (.fieldLink RX0 23 "PayLedger$Ahead" "incomes" "J") (by decide +kernel)) rfl dX0_add_66 ?_
        refine lv_aload_n hx hb dX0_add_69 rfl (lv_at hl 2 rfl) ?_
        refine z_get (C := RX2) (T := TX2) (N := 12) (v := .long (V 2)) hx hb hts (by decide +kernel) hown hK hS h2_pq rfl 6 (by decide) (hts (.fieldLink RX0 54 "PayLedger$Pay" "income" "J") (by decide +kernel)) rfl dX0_add_70 ?_
        refine lv_ladd hx hb dX0_add_73 ?_
        refine z_put (C := RX0) (T := TX0) (N := 5) (v := .long ((ai + V 2))) hx hb hts (by decide +kernel) tyX0 tyX0_ok nmX0 hown hK hS h2_aa rfl 3 (by decide) (hts (.fieldLink RX0 23 "PayLedger$Ahead" "incomes" "J") (by decide +kernel)) rfl rfl rfl (Nat.le_of_ble_eq_true rfl) dX0_add_74 (fun H locs hS => ?_)
        obtain ⟨w3, ew3⟩ : ∃ z : zw, z = va_up w2 (aa) (some (.inr (0, [.ref (ap), .long ((ag + V 0)), .int ((us + 1)), .long ((ai + V 2)), .long (ab)]))) := ⟨_, rfl⟩
        have hS : zS (zA w sz) D w3 s.heap H locs := by rw [ew3]; exact hS
        have h3_aa : w3 (aa) = some (.inr (0, [.ref (ap), .long ((ag + V 0)), .int ((us + 1)), .long ((ai + V 2)), .long (ab)])) := by rw [ew3]; exact va_up_self _ _ _
        have h3_ap : w3 (ap) = some (eJ cs (8) (zAdd AP PT i)) := by rw [ew3]; exact (va_up_ne _ _ (zne h2_ap h2_aa (by intro q9; first | cases q9 | simp at q9))).trans h2_ap
        have h3_pq : w3 (pq) = some (.inr (2, [.ref (te), .ref (pp), .int (bo), .int (br), .long (V 0), .long (V 1), .long (V 2), .long (V 3), .long (V 4), .long (V 5), .long (V 6), .long (V 7)])) := by rw [ew3]; exact (va_up_ne _ _ (zne h2_pq h2_aa (by intro q9; first | cases q9 | simp at q9))).trans h2_pq
        have h3_pp : w3 (pp) = some (eJ cs (8) (PT)) := by rw [ew3]; exact (va_up_ne _ _ (zne h2_pp h2_aa (by intro q9; first | cases q9 | simp at q9))).trans h2_pp
        refine lv_aload_n hx hb dX0_add_77 rfl (lv_at hl 1 rfl) ?_
        refine lv_dup hx hb dX0_add_78 rfl ?_
        refine z_get (C := RX0) (T := TX0) (N := 5) (v := .long (ab)) hx hb hts (by decide +kernel) hown hK hS h3_aa rfl 4 (by decide) (hts (.fieldLink RX0 26 "PayLedger$Ahead" "basics" "J") (by decide +kernel)) rfl dX0_add_79 ?_
        refine lv_aload_n hx hb dX0_add_82 rfl (lv_at hl 2 rfl) ?_
        refine z_get (C := RX2) (T := TX2) (N := 12) (v := .long (V 3)) hx hb hts (by decide +kernel) hown hK hS h3_pq rfl 7 (by decide) (hts (.fieldLink RX0 57 "PayLedger$Pay" "basic" "J") (by decide +kernel)) rfl dX0_add_83 ?_
        refine lv_ladd hx hb dX0_add_86 ?_
        refine z_put (C := RX0) (T := TX0) (N := 5) (v := .long ((ab + V 3))) hx hb hts (by decide +kernel) tyX0 tyX0_ok nmX0 hown hK hS h3_aa rfl 4 (by decide) (hts (.fieldLink RX0 26 "PayLedger$Ahead" "basics" "J") (by decide +kernel)) rfl rfl rfl (Nat.le_of_ble_eq_true rfl) dX0_add_87 (fun H locs hS => ?_)
        obtain ⟨w4, ew4⟩ : ∃ z : zw, z = va_up w3 (aa) (some (.inr (0, [.ref (ap), .long ((ag + V 0)), .int ((us + 1)), .long ((ai + V 2)), .long ((ab + V 3))]))) := ⟨_, rfl⟩
        have hS : zS (zA w sz) D w4 s.heap H locs := by rw [ew4]; exact hS
        have h4_aa : w4 (aa) = some (.inr (0, [.ref (ap), .long ((ag + V 0)), .int ((us + 1)), .long ((ai + V 2)), .long ((ab + V 3))])) := by rw [ew4]; exact va_up_self _ _ _
        have h4_ap : w4 (ap) = some (eJ cs (8) (zAdd AP PT i)) := by rw [ew4]; exact (va_up_ne _ _ (zne h3_ap h3_aa (by intro q9; first | cases q9 | simp at q9))).trans h3_ap
        have h4_pq : w4 (pq) = some (.inr (2, [.ref (te), .ref (pp), .int (bo), .int (br), .long (V 0), .long (V 1), .long (V 2), .long (V 3), .long (V 4), .long (V 5), .long (V 6), .long (V 7)])) := by rw [ew4]; exact (va_up_ne _ _ (zne h3_pq h3_aa (by intro q9; first | cases q9 | simp at q9))).trans h3_pq
        have h4_pp : w4 (pp) = some (eJ cs (8) (PT)) := by rw [ew4]; exact (va_up_ne _ _ (zne h3_pp h3_aa (by intro q9; first | cases q9 | simp at q9))).trans h3_pp
        have hex : zEx w w4 [(aa, (.inr (0, [.ref (ap), .long ((ag + V 0)), .int ((us + 1)), .long ((ai + V 2)), .long ((ab + V 3))]))), (ap, (eJ cs (8) (zAdd AP PT i)))] := ⟨(zm1 h4_aa (zm1 h4_ap zm0)), fun a9 h9 => by rw [ew4, va_up_ne _ _ (show a9 ≠ aa from h9 (aa, (.inr (0, [.ref (ap), .long ((ag + V 0)), .int ((us + 1)), .long ((ai + V 2)), .long ((ab + V 3))]))) (List.mem_of_getElem? (i := 0) rfl)), ew3, va_up_ne _ _ (show a9 ≠ aa from h9 (aa, (.inr (0, [.ref (ap), .long ((ag + V 0)), .int ((us + 1)), .long ((ai + V 2)), .long ((ab + V 3))]))) (List.mem_of_getElem? (i := 0) rfl)), ew2, va_up_ne _ _ (show a9 ≠ aa from h9 (aa, (.inr (0, [.ref (ap), .long ((ag + V 0)), .int ((us + 1)), .long ((ai + V 2)), .long ((ab + V 3))]))) (List.mem_of_getElem? (i := 0) rfl)), ew1, va_up_ne _ _ (show a9 ≠ aa from h9 (aa, (.inr (0, [.ref (ap), .long ((ag + V 0)), .int ((us + 1)), .long ((ai + V 2)), .long ((ab + V 3))]))) (List.mem_of_getElem? (i := 0) rfl)), hex0.2 a9 (zm1 (show a9 ≠ ap from h9 (ap, (eJ cs (8) (zAdd AP PT i))) (List.mem_of_getElem? (i := 1) rfl)) zm0)]⟩
        exact z_vret hx hb hr hlocks hS (Nat.le_of_ble_eq_true rfl) (Nat.le_of_ble_eq_true rfl) dX0_add_90 ⟨rfl, by rw [hi8] at hex; simp only [if_pos c51]; exact hex⟩
    · have c8 : i < 8 := by rcases Nat.lt_or_ge i (8) with q | q; exact q; exact absurd (nI_le (a := 8) q (by omega)) c8
      refine lv_aload_n hx hb dX0_add_11 rfl (lv_at hl 1 rfl) ?_
      refine z_get (C := RX0) (T := TX0) (N := 5) (v := .ref (ap)) hx hb hts (by decide +kernel) hown hK hS h_a rfl 0 (by decide) (hts (.fieldLink RX0 9 "PayLedger$Ahead" "parts" "[J") (by decide +kernel)) rfl dX0_add_12 ?_
      refine lv_iload_n hx hb dX0_add_15 rfl (lv_at hl 0 rfl) ?_
      refine lv_dup2_11 hx hb dX0_add_16 rfl rfl ?_
      refine z_lald hx hb hK hS h_ap (vp_in_nI c8 (by omega)) dX0_add_17 ?_
      refine z_tl (y := zAdd AP PT i i) (by rw [nI_clamp (by omega)]) ?_
      refine lv_aload_n hx hb dX0_add_18 rfl (lv_at hl 2 rfl) ?_
      refine z_get (C := RX2) (T := TX2) (N := 12) (v := .ref (pp)) hx hb hts (by decide +kernel) hown hK hS h_p rfl 1 (by decide) (hts (.fieldLink RX0 42 "PayLedger$Pay" "parts" "[J") (by decide +kernel)) rfl dX0_add_19 ?_
      refine lv_iload_n hx hb dX0_add_22 rfl (lv_at hl 0 rfl) ?_
      refine z_rSN (As := [.ref (pp), .int (nI i)]) (rest := [.long (zAdd AP PT i i), .int (nI i), .ref (ap)]) (n := 2) ⟨hx, hb, hml, hown, hts⟩ (c_X6_elementOf l D cs u H.size pp 8 i PT (by omega) c8 h_pp) gX0_add_X6_elementOf_n45 rfl (by decide +kernel) (hts (.initialized RX6) (by decide +kernel)) (hts (.static yX6_elementOf) (by decide +kernel)) ⟨by decide +kernel, by decide +kernel, by decide +kernel⟩ ⟨Nat.le_of_ble_eq_true rfl, Nat.le_of_ble_eq_true rfl⟩ hK hE hS rfl hl.1 rfl (Nat.le_of_ble_eq_true rfl) dX0_add_23 ⟨Nat.le_of_ble_eq_true rfl, Nat.le_of_ble_eq_true rfl⟩ (fun H locs hS => ?_)
      refine lv_ladd hx hb dX0_add_26 ?_
      refine z_last hx hb hK hS h_ap (vp_in_nI c8 (by omega)) dX0_add_27 (fun H locs hS => ?_)
      obtain ⟨w5, ew5⟩ : ∃ z : zw, z = va_up u (ap) (some (eJ cs (8) (vp_updL (zAdd AP PT i) (nI i : Int32).toNatClampNeg ((zAdd AP PT i i + PT i))))) := ⟨_, rfl⟩
      have hS : zS (zA w sz) D w5 s.heap H locs := by rw [ew5]; exact hS
      have h5_ap : w5 (ap) = some (eJ cs (8) (vp_updL (zAdd AP PT i) (nI i : Int32).toNatClampNeg ((zAdd AP PT i i + PT i)))) := by rw [ew5]; exact va_up_self _ _ _
      have h5_aa : w5 (aa) = some (.inr (0, [.ref (ap), .long (ag), .int (us), .long (ai), .long (ab)])) := by rw [ew5]; exact (va_up_ne _ _ (zne h_a h_ap (by intro q9; first | cases q9 | simp at q9))).trans h_a
      have h5_pq : w5 (pq) = some (.inr (2, [.ref (te), .ref (pp), .int (bo), .int (br), .long (V 0), .long (V 1), .long (V 2), .long (V 3), .long (V 4), .long (V 5), .long (V 6), .long (V 7)])) := by rw [ew5]; exact (va_up_ne _ _ (zne h_p h_ap (by intro q9; first | cases q9 | simp at q9))).trans h_p
      have h5_pp : w5 (pp) = some (eJ cs (8) (PT)) := by rw [ew5]; exact (va_up_ne _ _ hne).trans h_pp
      rw [show (eJ cs (8) (vp_updL (zAdd AP PT i) (nI i : Int32).toNatClampNeg ((zAdd AP PT i i + PT i)))) = (eJ cs (8) (zAdd AP PT (i + 1))) from (by rw [nI_clamp (by omega), zAdd_s])] at h5_ap
      refine lv_iinc (v := nI (i + 1)) (lv' := [(2, .int (nI (i + 1))), (0, .ref (aa)), (1, .ref (pq))]) hx hb dX0_add_28 hl (k := 0) rfl (nI_1 _) (by decide) rfl (fun ls hl => ?_)
      refine lv_goto (tgt := 2) hx hb dX0_add_31 (by decide) ?_
      have hex : zEx w w5 [(ap, (eJ cs (8) (zAdd AP PT (i + 1))))] := ⟨(zm1 h5_ap zm0), fun a9 h9 => by rw [ew5, va_up_ne _ _ (show a9 ≠ ap from h9 (ap, (eJ cs (8) (zAdd AP PT (i + 1)))) (List.mem_of_getElem? (i := 0) rfl)), hex0.2 a9 (zm1 (show a9 ≠ ap from h9 (ap, (eJ cs (8) (zAdd AP PT (i + 1)))) (List.mem_of_getElem? (i := 0) rfl)) zm0)]⟩
      exact ih c8 w5 (by omega) h5_aa h5_ap h5_pq h5_pp hex _ _ _ hS (lv_sub hl [0, 1, 2] rfl)
  refine lv_iconst (v := 0) hx hb dX0_add_0 (by decide) ?_
  refine lv_istore_n (lv' := [(2, .int (0)), (0, .ref (aa)), (1, .ref (pq))]) hx hb dX0_add_1 rfl hl (by decide) rfl (fun ls hl => ?_)
  have h_ap0 : w (ap) = some (eJ cs 8 (zAdd AP PT 0)) := by rw [zAdd_0]; exact h_ap
  have hex : zEx w w [(ap, (eJ cs (8) (zAdd AP PT 0)))] := ⟨(zm1 h_ap0 zm0), fun a9 h9 => rfl⟩
  exact L2 0 w (by omega) h_a h_ap0 h_p h_pp hex _ _ _ hS (lv_sub hl [0, 1, 2] rfl)
set_option maxHeartbeats 4000000 in
set_option maxRecDepth 100000 in
theorem c_X5_payAt (l : Launch) (D : va_G) (cs : Nat → ClassId) (w : zw) (sz : Nat) (wk wt pay sts n : Nat) (se : Int64) (PR : Nat → Option Nat) (k : Int32) (hn : n ≤ 60) (h_w : w (wk) = some (.inr (5, [.ref (wt), .ref (pay), .ref (sts), .int (nI n), .long (se)]))) (h_ps : w (pay) = some (eR cs 4 (60) (PR))) : zMr l D cs yX5_payAt wsX5_payAt 0 w sz [.ref (wk), .int (k)] (va_rf (zPayAt PR n k)) := by
  refine z_met (cc := cX5_payAt) (maxL := 2) (ret := (some (.object "PayLedger$Pay"))) (by decide) rfl (Nat.le_of_ble_eq_true rfl) ?_
  intro p e s m below meth c hx hb hr hml hown hts hlocks hnm hsz hK hE hS ls hl
  have hl : lv_has ls 2 [(0, .ref (wk)), (1, .int (k))] := hl
  refine lv_iload_n hx hb dX5_payAt_0 rfl (lv_at hl 1 rfl) ?_
  refine lv_if_lt (tgt := 21) hx hb dX5_payAt_1 (by decide) (fun c1 => ?_) (fun c1 => ?_)
  · refine lv_null hx hb dX5_payAt_21 ?_
    refine lv_goto (tgt := 31) hx hb dX5_payAt_22 (by decide) ?_
    exact z_aret hx hb hr hlocks (Or.inl rfl) hS (Nat.le_of_ble_eq_true rfl) (Nat.le_of_ble_eq_true rfl) dX5_payAt_31 ⟨by rw [zPayAt, if_neg (fun q9 => by have := q9.1; rw [Int32.le_iff_toInt_le] at this; rw [Int32.lt_iff_toInt_lt] at c1; omega)]; rfl, rfl⟩
  · refine lv_iload_n hx hb dX5_payAt_4 rfl (lv_at hl 1 rfl) ?_
    refine lv_aload_n hx hb dX5_payAt_5 rfl (lv_at hl 0 rfl) ?_
    refine z_get (C := RX5) (T := TX5) (N := 5) (v := .int (nI n)) hx hb hts (by decide +kernel) hown hK hS h_w rfl 3 (by decide) (hts (.fieldLink RX5 29 "PayLedger$Worker" "held" "I") (by decide +kernel)) rfl dX5_payAt_6 ?_
    refine lv_icmp_ge (tgt := 21) hx hb dX5_payAt_9 (by decide) (fun c9 => ?_) (fun c9 => ?_)
    · refine lv_null hx hb dX5_payAt_21 ?_
      refine lv_goto (tgt := 31) hx hb dX5_payAt_22 (by decide) ?_
      exact z_aret hx hb hr hlocks (Or.inl rfl) hS (Nat.le_of_ble_eq_true rfl) (Nat.le_of_ble_eq_true rfl) dX5_payAt_31 ⟨by rw [zPayAt, if_neg (fun q9 => by have := q9.2; rw [Int32.lt_iff_toInt_lt] at this; rw [Int32.le_iff_toInt_le] at c9; omega)]; rfl, rfl⟩
    · refine lv_iload_n hx hb dX5_payAt_12 rfl (lv_at hl 1 rfl) ?_
      refine lv_aload_n hx hb dX5_payAt_13 rfl (lv_at hl 0 rfl) ?_
      refine z_get (C := RX5) (T := TX5) (N := 5) (v := .ref (pay)) hx hb hts (by decide +kernel) hown hK hS h_w rfl 1 (by decide) (hts (.fieldLink RX5 20 "PayLedger$Worker" "pays" "[LPayLedger$Pay;") (by decide +kernel)) rfl dX5_payAt_14 ?_
      refine z_alen (t0 := 4) (v := 60) hx hb hK hS h_ps rfl rfl dX5_payAt_17 ?_
      refine lv_icmp_lt (tgt := 25) hx hb dX5_payAt_18 (by decide) (fun _ => ?_) (fun cq9 => absurd (zlt_of (N := 60) (zI32_nle c9) hn (by omega)) cq9)
      refine lv_aload_n hx hb dX5_payAt_25 rfl (lv_at hl 0 rfl) ?_
      refine z_get (C := RX5) (T := TX5) (N := 5) (v := .ref (pay)) hx hb hts (by decide +kernel) hown hK hS h_w rfl 1 (by decide) (hts (.fieldLink RX5 20 "PayLedger$Worker" "pays" "[LPayLedger$Pay;") (by decide +kernel)) rfl dX5_payAt_26 ?_
      refine lv_iload_n hx hb dX5_payAt_29 rfl (lv_at hl 1 rfl) ?_
      refine z_aaldv (v := va_rf (PR k.toNatClampNeg)) hx hb hK hS h_ps rfl (zin_of c1 (zI32_nle c9) hn (by omega)) rfl dX5_payAt_30 ?_
      exact z_aret hx hb hr hlocks (va_rf_or _) hS (Nat.le_of_ble_eq_true rfl) (Nat.le_of_ble_eq_true rfl) dX5_payAt_31 ⟨by rw [zPayAt, if_pos ⟨zI32_nlt c1, zI32_nle c9⟩], rfl⟩
set_option maxHeartbeats 4000000 in
set_option maxRecDepth 100000 in
theorem c_X5_totalLine (l : Launch) (D : va_G) (cs : Nat → ClassId) (w : zw) (sz : Nat) (wk wt pay sts n : Nat) (se : Int64) (PR : Nat → Option Nat) (PA TE PP : Nat → Nat) (bo br : Nat → Int32) (V PT : Nat → Nat → Int64) (what : Int32) (hn : n ≤ 60) (hPay : zPays cs w PR PA TE PP bo br V PT n) (h_w : w (wk) = some (.inr (5, [.ref (wt), .ref (pay), .ref (sts), .int (nI n), .long (se)]))) (h_ps : w (pay) = some (eR cs 4 (60) (PR))) : zMr l D cs yX5_totalLine wsX5_totalLine 1 w sz [.ref (wk), .int (what)] (.long (zTot bo V n what)) := by
  refine z_met (cc := cX5_totalLine) (maxL := 6) (ret := (some .long)) (by decide) rfl (Nat.le_of_ble_eq_true rfl) ?_
  intro p e s m below meth c hx hb hr hml hown hts hlocks hnm hsz hK hE hS ls hl
  have hl : lv_has ls 6 [(0, .ref (wk)), (1, .int (what))] := hl
  have L5 : ∀ (i : Nat), (hi : i ≤ n) → ∀ (H : Heap) (locs : List Loc) (ls : Array Slot), zS (zA w sz) D w s.heap H locs → lv_has ls 6 [(4, .int (nI i)), (2, .long (zTot bo V i what)), (0, .ref (wk)), (1, .int (what))] → W p l e (zR 1 0 0) s m [.ref (wk), .int (what)].toArray below meth c H locs 0 0 (MQ below (zQ D w sz (fun r w2 => r = some (.long (zTot bo V n what)) ∧ w2 = w)) [.ref (wk), .int (what)].toArray s 0 0 (zA w sz)) (F0 m 5 ls []) := by
    refine zloopU (P := fun i => (hi : i ≤ n) → ∀ (H : Heap) (locs : List Loc) (ls : Array Slot), zS (zA w sz) D w s.heap H locs → lv_has ls 6 [(4, .int (nI i)), (2, .long (zTot bo V i what)), (0, .ref (wk)), (1, .int (what))] → W p l e (zR 1 0 0) s m [.ref (wk), .int (what)].toArray below meth c H locs 0 0 (MQ below (zQ D w sz (fun r w2 => r = some (.long (zTot bo V n what)) ∧ w2 = w)) [.ref (wk), .int (what)].toArray s 0 0 (zA w sz)) (F0 m 5 ls [])) n (fun i ih => ?_)
    intro hi H locs ls hS hl
    refine lv_iload hx hb dX5_totalLine_5 (lv_at hl 0 rfl) ?_
    refine lv_aload_n hx hb dX5_totalLine_7 rfl (lv_at hl 2 rfl) ?_
    refine z_get (C := RX5) (T := TX5) (N := 5) (v := .int (nI n)) hx hb hts (by decide +kernel) hown hK hS h_w rfl 3 (by decide) (hts (.fieldLink RX5 29 "PayLedger$Worker" "held" "I") (by decide +kernel)) rfl dX5_totalLine_8 ?_
    refine lv_icmp_ge (tgt := 49) hx hb dX5_totalLine_11 (by decide) (fun c11 => ?_) (fun c11 => ?_)
    · have hin : i = n := by rcases Nat.lt_or_ge i n with q | q; exact absurd c11 (nI_ge q (by omega)); omega
      refine lv_lload_n hx hb dX5_totalLine_49 rfl (lv_at hl 1 rfl) ?_
      exact z_lret hx hb hr hlocks hS (Nat.le_of_ble_eq_true rfl) (Nat.le_of_ble_eq_true rfl) dX5_totalLine_50 ⟨by rw [hin], rfl⟩
    · have c11 : i < n := by rcases Nat.lt_or_ge i n with q | q; exact q; exact absurd (nI_le q (by omega)) c11
      refine lv_iload hx hb dX5_totalLine_14 (lv_at hl 0 rfl) ?_
      refine lv_bipush (v := 60) hx hb dX5_totalLine_16 (by decide) ?_
      refine lv_icmp_ge (tgt := 49) hx hb dX5_totalLine_18 (by decide) (fun cq9 => absurd cq9 (nI_ge (b := 60) (by omega) (by omega))) (fun _ => ?_)
      refine lv_aload_n hx hb dX5_totalLine_21 rfl (lv_at hl 2 rfl) ?_
      refine lv_iload hx hb dX5_totalLine_22 (lv_at hl 0 rfl) ?_
      refine z_rV (As := [.int (nI i)]) (rest := []) (n := 1) ⟨hx, hb, hml, hown, hts⟩ (c_X5_payAt l D cs w H.size wk wt pay sts n se PR (nI i) hn h_w h_ps) gX5_totalLine_X5_payAt rfl ⟨rfl, by decide +kernel, by decide +kernel, by decide +kernel⟩ ⟨Nat.le_of_ble_eq_true rfl, Nat.le_of_ble_eq_true rfl⟩ hK hE hS rfl h_w rfl hl.1 rfl (Nat.le_of_ble_eq_true rfl) dX5_totalLine_24 ⟨Nat.le_of_ble_eq_true rfl, Nat.le_of_ble_eq_true rfl⟩ (fun H locs hS => ?_)
      refine z_tv (y := .ref (PA i)) (by rw [zPayAt_in c11 (by omega), (hPay i c11).1]; rfl) ?_
      have h_pi := (hPay i c11).2.1
      refine lv_astore (lv' := [(5, .ref (PA i)), (4, .int (nI i)), (2, .long (zTot bo V i what)), (0, .ref (wk)), (1, .int (what))]) hx hb dX5_totalLine_27 hl (by decide) rfl (fun ls hl => ?_)
      refine lv_aload hx hb dX5_totalLine_29 (lv_at hl 0 rfl) ?_
      refine lv_ifnull hx hb dX5_totalLine_31 ?_
      refine lv_lload_n hx hb dX5_totalLine_34 rfl (lv_at hl 2 rfl) ?_
      refine lv_aload hx hb dX5_totalLine_35 (lv_at hl 0 rfl) ?_
      refine lv_iload_n hx hb dX5_totalLine_37 rfl (lv_at hl 4 rfl) ?_
      refine z_rV (As := [.int (what)]) (rest := [.long (zTot bo V i what)]) (n := 1) ⟨hx, hb, hml, hown, hts⟩ (c_X2_tell l D cs w H.size (PA i) (TE i) (PP i) (bo i) (br i) (V i 0) (V i 1) (V i 2) (V i 3) (V i 4) (V i 5) (V i 6) (V i 7) what h_pi) gX5_totalLine_X2_tell rfl ⟨rfl, by decide +kernel, by decide +kernel, by decide +kernel⟩ ⟨Nat.le_of_ble_eq_true rfl, Nat.le_of_ble_eq_true rfl⟩ hK hE hS rfl h_pi rfl hl.1 rfl (Nat.le_of_ble_eq_true rfl) dX5_totalLine_38 ⟨Nat.le_of_ble_eq_true rfl, Nat.le_of_ble_eq_true rfl⟩ (fun H locs hS => ?_)
      refine lv_ladd hx hb dX5_totalLine_41 ?_
      refine z_tl (y := zTot bo V (i + 1) what) rfl ?_
      refine lv_lstore_n (lv' := [(2, .long ((zTot bo V i what + zLine what (bo i) (V i)))), (5, .ref (PA i)), (4, .int (nI i)), (0, .ref (wk)), (1, .int (what))]) hx hb dX5_totalLine_42 rfl hl (by decide) rfl (fun ls hl => ?_)
      refine lv_iinc (v := nI (i + 1)) (lv' := [(4, .int (nI (i + 1))), (2, .long ((zTot bo V i what + zLine what (bo i) (V i)))), (5, .ref (PA i)), (0, .ref (wk)), (1, .int (what))]) hx hb dX5_totalLine_43 hl (k := 2) rfl (nI_1 _) (by decide) rfl (fun ls hl => ?_)
      refine lv_goto (tgt := 5) hx hb dX5_totalLine_46 (by decide) ?_
      exact ih c11 (by omega)  _ _ _ hS (lv_sub hl [0, 1, 3, 4] rfl)
  refine lv_lconst (v := 0) hx hb dX5_totalLine_0 (by decide) ?_
  refine lv_lstore_n (lv' := [(2, .long (0)), (0, .ref (wk)), (1, .int (what))]) hx hb dX5_totalLine_1 rfl hl (by decide) rfl (fun ls hl => ?_)
  refine lv_iconst (v := 0) hx hb dX5_totalLine_2 (by decide) ?_
  refine lv_istore (lv' := [(4, .int (0)), (2, .long (0)), (0, .ref (wk)), (1, .int (what))]) hx hb dX5_totalLine_3 hl (by decide) rfl (fun ls hl => ?_)
  exact L5 0 (by omega)  _ _ _ hS (lv_sub hl [0, 1, 2, 3] rfl)
set_option maxHeartbeats 4000000 in
set_option maxRecDepth 100000 in
theorem c_X5_totalPart (l : Launch) (D : va_G) (cs : Nat → ClassId) (w : zw) (sz : Nat) (wk wt pay sts n : Nat) (se : Int64) (PR : Nat → Option Nat) (PA TE PP : Nat → Nat) (bo br : Nat → Int32) (V PT : Nat → Nat → Int64) (k : Nat) (hn : n ≤ 60) (hk : k < 8) (hPay : zPays cs w PR PA TE PP bo br V PT n) (h_w : w (wk) = some (.inr (5, [.ref (wt), .ref (pay), .ref (sts), .int (nI n), .long (se)]))) (h_ps : w (pay) = some (eR cs 4 (60) (PR))) : zMr l D cs yX5_totalPart wsX5_totalPart 1 w sz [.ref (wk), .int (nI k)] (.long (zSum (fun i => PT i k) n)) := by
  refine z_met (cc := cX5_totalPart) (maxL := 6) (ret := (some .long)) (by decide) rfl (Nat.le_of_ble_eq_true rfl) ?_
  intro p e s m below meth c hx hb hr hml hown hts hlocks hnm hsz hK hE hS ls hl
  have hl : lv_has ls 6 [(0, .ref (wk)), (1, .int (nI k))] := hl
  have L5 : ∀ (i : Nat), (hi : i ≤ n) → ∀ (H : Heap) (locs : List Loc) (ls : Array Slot), zS (zA w sz) D w s.heap H locs → lv_has ls 6 [(4, .int (nI i)), (2, .long (zSum (fun i => PT i k) i)), (0, .ref (wk)), (1, .int (nI k))] → W p l e (zR 1 0 0) s m [.ref (wk), .int (nI k)].toArray below meth c H locs 0 0 (MQ below (zQ D w sz (fun r w2 => r = some (.long (zSum (fun i => PT i k) n)) ∧ w2 = w)) [.ref (wk), .int (nI k)].toArray s 0 0 (zA w sz)) (F0 m 5 ls []) := by
    refine zloopU (P := fun i => (hi : i ≤ n) → ∀ (H : Heap) (locs : List Loc) (ls : Array Slot), zS (zA w sz) D w s.heap H locs → lv_has ls 6 [(4, .int (nI i)), (2, .long (zSum (fun i => PT i k) i)), (0, .ref (wk)), (1, .int (nI k))] → W p l e (zR 1 0 0) s m [.ref (wk), .int (nI k)].toArray below meth c H locs 0 0 (MQ below (zQ D w sz (fun r w2 => r = some (.long (zSum (fun i => PT i k) n)) ∧ w2 = w)) [.ref (wk), .int (nI k)].toArray s 0 0 (zA w sz)) (F0 m 5 ls [])) n (fun i ih => ?_)
    intro hi H locs ls hS hl
    refine lv_iload hx hb dX5_totalPart_5 (lv_at hl 0 rfl) ?_
    refine lv_aload_n hx hb dX5_totalPart_7 rfl (lv_at hl 2 rfl) ?_
    refine z_get (C := RX5) (T := TX5) (N := 5) (v := .int (nI n)) hx hb hts (by decide +kernel) hown hK hS h_w rfl 3 (by decide) (hts (.fieldLink RX5 29 "PayLedger$Worker" "held" "I") (by decide +kernel)) rfl dX5_totalPart_8 ?_
    refine lv_icmp_ge (tgt := 52) hx hb dX5_totalPart_11 (by decide) (fun c11 => ?_) (fun c11 => ?_)
    · have hin : i = n := by rcases Nat.lt_or_ge i n with q | q; exact absurd c11 (nI_ge q (by omega)); omega
      refine lv_lload_n hx hb dX5_totalPart_52 rfl (lv_at hl 1 rfl) ?_
      exact z_lret hx hb hr hlocks hS (Nat.le_of_ble_eq_true rfl) (Nat.le_of_ble_eq_true rfl) dX5_totalPart_53 ⟨by rw [hin], rfl⟩
    · have c11 : i < n := by rcases Nat.lt_or_ge i n with q | q; exact q; exact absurd (nI_le q (by omega)) c11
      refine lv_iload hx hb dX5_totalPart_14 (lv_at hl 0 rfl) ?_
      refine lv_bipush (v := 60) hx hb dX5_totalPart_16 (by decide) ?_
      refine lv_icmp_ge (tgt := 52) hx hb dX5_totalPart_18 (by decide) (fun cq9 => absurd cq9 (nI_ge (b := 60) (by omega) (by omega))) (fun _ => ?_)
      refine lv_aload_n hx hb dX5_totalPart_21 rfl (lv_at hl 2 rfl) ?_
      refine lv_iload hx hb dX5_totalPart_22 (lv_at hl 0 rfl) ?_
      refine z_rV (As := [.int (nI i)]) (rest := []) (n := 1) ⟨hx, hb, hml, hown, hts⟩ (c_X5_payAt l D cs w H.size wk wt pay sts n se PR (nI i) hn h_w h_ps) gX5_totalPart_X5_payAt rfl ⟨rfl, by decide +kernel, by decide +kernel, by decide +kernel⟩ ⟨Nat.le_of_ble_eq_true rfl, Nat.le_of_ble_eq_true rfl⟩ hK hE hS rfl h_w rfl hl.1 rfl (Nat.le_of_ble_eq_true rfl) dX5_totalPart_24 ⟨Nat.le_of_ble_eq_true rfl, Nat.le_of_ble_eq_true rfl⟩ (fun H locs hS => ?_)
      refine z_tv (y := .ref (PA i)) (by rw [zPayAt_in c11 (by omega), (hPay i c11).1]; rfl) ?_
      have h_pi := (hPay i c11).2.1
      have h_ppi := (hPay i c11).2.2
      refine lv_astore (lv' := [(5, .ref (PA i)), (4, .int (nI i)), (2, .long (zSum (fun i => PT i k) i)), (0, .ref (wk)), (1, .int (nI k))]) hx hb dX5_totalPart_27 hl (by decide) rfl (fun ls hl => ?_)
      refine lv_aload hx hb dX5_totalPart_29 (lv_at hl 0 rfl) ?_
      refine lv_ifnull hx hb dX5_totalPart_31 ?_
      refine lv_lload_n hx hb dX5_totalPart_34 rfl (lv_at hl 2 rfl) ?_
      refine lv_aload hx hb dX5_totalPart_35 (lv_at hl 0 rfl) ?_
      refine z_get (C := RX2) (T := TX2) (N := 12) (v := .ref (PP i)) hx hb hts (by decide +kernel) hown hK hS h_pi rfl 1 (by decide) (hts (.fieldLink RX5 59 "PayLedger$Pay" "parts" "[J") (by decide +kernel)) rfl dX5_totalPart_37 ?_
      refine lv_iload_n hx hb dX5_totalPart_40 rfl (lv_at hl 4 rfl) ?_
      refine z_rSN (As := [.ref (PP i), .int (nI k)]) (rest := [.long (zSum (fun i => PT i k) i)]) (n := 2) ⟨hx, hb, hml, hown, hts⟩ (c_X6_elementOf l D cs w H.size (PP i) 8 k (PT i) (by omega) hk h_ppi) gX5_totalPart_X6_elementOf_n63 rfl (by decide +kernel) (hts (.initialized RX6) (by decide +kernel)) (hts (.static yX6_elementOf) (by decide +kernel)) ⟨by decide +kernel, by decide +kernel, by decide +kernel⟩ ⟨Nat.le_of_ble_eq_true rfl, Nat.le_of_ble_eq_true rfl⟩ hK hE hS rfl hl.1 rfl (Nat.le_of_ble_eq_true rfl) dX5_totalPart_41 ⟨Nat.le_of_ble_eq_true rfl, Nat.le_of_ble_eq_true rfl⟩ (fun H locs hS => ?_)
      refine lv_ladd hx hb dX5_totalPart_44 ?_
      refine z_tl (y := zSum (fun i => PT i k) (i + 1)) rfl ?_
      refine lv_lstore_n (lv' := [(2, .long ((zSum (fun i => PT i k) i + PT i k))), (5, .ref (PA i)), (4, .int (nI i)), (0, .ref (wk)), (1, .int (nI k))]) hx hb dX5_totalPart_45 rfl hl (by decide) rfl (fun ls hl => ?_)
      refine lv_iinc (v := nI (i + 1)) (lv' := [(4, .int (nI (i + 1))), (2, .long ((zSum (fun i => PT i k) i + PT i k))), (5, .ref (PA i)), (0, .ref (wk)), (1, .int (nI k))]) hx hb dX5_totalPart_46 hl (k := 2) rfl (nI_1 _) (by decide) rfl (fun ls hl => ?_)
      refine lv_goto (tgt := 5) hx hb dX5_totalPart_49 (by decide) ?_
      exact ih c11 (by omega)  _ _ _ hS (lv_sub hl [0, 1, 3, 4] rfl)
  refine lv_lconst (v := 0) hx hb dX5_totalPart_0 (by decide) ?_
  refine lv_lstore_n (lv' := [(2, .long (0)), (0, .ref (wk)), (1, .int (nI k))]) hx hb dX5_totalPart_1 rfl hl (by decide) rfl (fun ls hl => ?_)
  refine lv_iconst (v := 0) hx hb dX5_totalPart_2 (by decide) ?_
  refine lv_istore (lv' := [(4, .int (0)), (2, .long (0)), (0, .ref (wk)), (1, .int (nI k))]) hx hb dX5_totalPart_3 hl (by decide) rfl (fun ls hl => ?_)
  exact L5 0 (by omega)  _ _ _ hS (lv_sub hl [0, 1, 2, 3] rfl)
set_option maxHeartbeats 4000000 in
set_option maxRecDepth 100000 in
theorem c_X5_total (l : Launch) (D : va_G) (cs : Nat → ClassId) (w : zw) (sz : Nat) (wk wt pay sts n : Nat) (se : Int64) (PR : Nat → Option Nat) (PA TE PP : Nat → Nat) (bo br : Nat → Int32) (V PT : Nat → Nat → Int64) (what : Int32) (hn : n ≤ 60) (hPay : zPays cs w PR PA TE PP bo br V PT n) (h_w : w (wk) = some (.inr (5, [.ref (wt), .ref (pay), .ref (sts), .int (nI n), .long (se)]))) (h_ps : w (pay) = some (eR cs 4 (60) (PR))) : zMr l D cs yX5_total wsX5_total 2 w sz [.ref (wk), .int (what)] (.long (zTotal bo V n se what)) := by
  refine z_met (cc := cX5_total) (maxL := 2) (ret := (some .long)) (by decide) rfl (Nat.le_of_ble_eq_true rfl) ?_
  intro p e s m below meth c hx hb hr hml hown hts hlocks hnm hsz hK hE hS ls hl
  have hl : lv_has ls 2 [(0, .ref (wk)), (1, .int (what))] := hl
  refine lv_iload_n hx hb dX5_total_0 rfl (lv_at hl 1 rfl) ?_
  by_cases t1_8 : what = 8
  · refine lv_tableIn (off := 27) (tgt := 28) hx hb dX5_total_1 (by rw [t1_8]; decide) (by rw [t1_8]; decide) (by rw [t1_8]; rfl) (by decide) ?_
    refine lv_aload_n hx hb dX5_total_28 rfl (lv_at hl 0 rfl) ?_
    refine z_get (C := RX5) (T := TX5) (N := 5) (v := .int (nI n)) hx hb hts (by decide +kernel) hown hK hS h_w rfl 3 (by decide) (hts (.fieldLink RX5 29 "PayLedger$Worker" "held" "I") (by decide +kernel)) rfl dX5_total_29 ?_
    refine lv_i2l (v := ((nI n : Int32).toInt64)) hx hb dX5_total_32 rfl ?_
    exact z_lret hx hb hr hlocks hS (Nat.le_of_ble_eq_true rfl) (Nat.le_of_ble_eq_true rfl) dX5_total_33 ⟨by rw [zTotal, if_pos t1_8], rfl⟩
  by_cases t1_9 : what = 9
  · refine lv_tableIn (off := 33) (tgt := 34) hx hb dX5_total_1 (by rw [t1_9]; decide) (by rw [t1_9]; decide) (by rw [t1_9]; rfl) (by decide) ?_
    refine lv_aload_n hx hb dX5_total_34 rfl (lv_at hl 0 rfl) ?_
    refine z_get (C := RX5) (T := TX5) (N := 5) (v := .long (se)) hx hb hts (by decide +kernel) hown hK hS h_w rfl 4 (by decide) (hts (.fieldLink RX5 33 "PayLedger$Worker" "settled" "J") (by decide +kernel)) rfl dX5_total_35 ?_
    exact z_lret hx hb hr hlocks hS (Nat.le_of_ble_eq_true rfl) (Nat.le_of_ble_eq_true rfl) dX5_total_38 ⟨by rw [zTotal, if_neg (by rw [t1_9]; decide), if_pos t1_9], rfl⟩
  by_cases t1_10 : what = 10
  · refine lv_tableIn (off := 38) (tgt := 39) hx hb dX5_total_1 (by rw [t1_10]; decide) (by rw [t1_10]; decide) (by rw [t1_10]; rfl) (by decide) ?_
    refine lv_aload_n hx hb dX5_total_39 rfl (lv_at hl 0 rfl) ?_
    refine lv_bipush (v := 6) hx hb dX5_total_40 (by decide) ?_
    refine z_rV (As := [.int (6)]) (rest := []) (n := 1) ⟨hx, hb, hml, hown, hts⟩ (c_X5_totalLine l D cs w s.heap.size wk wt pay sts n se PR PA TE PP bo br V PT (6) hn hPay h_w h_ps) gX5_total_X5_totalLine rfl ⟨rfl, by decide +kernel, by decide +kernel, by decide +kernel⟩ ⟨Nat.le_of_ble_eq_true rfl, Nat.le_of_ble_eq_true rfl⟩ hK hE hS rfl h_w rfl hl.1 rfl (Nat.le_of_ble_eq_true rfl) dX5_total_42 ⟨Nat.le_of_ble_eq_true rfl, Nat.le_of_ble_eq_true rfl⟩ (fun H locs hS => ?_)
    refine lv_aload_n hx hb dX5_total_45 rfl (lv_at hl 0 rfl) ?_
    refine lv_bipush (v := 7) hx hb dX5_total_46 (by decide) ?_
    refine z_rV (As := [.int (7)]) (rest := [.long (zTot bo V n (6))]) (n := 1) ⟨hx, hb, hml, hown, hts⟩ (c_X5_totalLine l D cs w H.size wk wt pay sts n se PR PA TE PP bo br V PT (7) hn hPay h_w h_ps) gX5_total_X5_totalLine rfl ⟨rfl, by decide +kernel, by decide +kernel, by decide +kernel⟩ ⟨Nat.le_of_ble_eq_true rfl, Nat.le_of_ble_eq_true rfl⟩ hK hE hS rfl h_w rfl hl.1 rfl (Nat.le_of_ble_eq_true rfl) dX5_total_48 ⟨Nat.le_of_ble_eq_true rfl, Nat.le_of_ble_eq_true rfl⟩ (fun H locs hS => ?_)
    refine lv_lsub hx hb dX5_total_51 ?_
    refine lv_aload_n hx hb dX5_total_52 rfl (lv_at hl 0 rfl) ?_
    refine z_get (C := RX5) (T := TX5) (N := 5) (v := .long (se)) hx hb hts (by decide +kernel) hown hK hS h_w rfl 4 (by decide) (hts (.fieldLink RX5 33 "PayLedger$Worker" "settled" "J") (by decide +kernel)) rfl dX5_total_53 ?_
    refine lv_lsub hx hb dX5_total_56 ?_
    exact z_lret hx hb hr hlocks hS (Nat.le_of_ble_eq_true rfl) (Nat.le_of_ble_eq_true rfl) dX5_total_57 ⟨by rw [zTotal, if_neg t1_8, if_neg t1_9, if_pos t1_10], rfl⟩
  refine lv_tableOut (tgt := 58) hx hb dX5_total_1 (by have q8 := lv_neT (a := 8) t1_8 rfl; have q9 := lv_neT (a := 9) t1_9 rfl; have q10 := lv_neT (a := 10) t1_10 rfl; omega) (by decide) ?_
  refine lv_aload_n hx hb dX5_total_58 rfl (lv_at hl 0 rfl) ?_
  refine lv_iload_n hx hb dX5_total_59 rfl (lv_at hl 1 rfl) ?_
  refine z_rV (As := [.int (what)]) (rest := []) (n := 1) ⟨hx, hb, hml, hown, hts⟩ (c_X5_totalLine l D cs w s.heap.size wk wt pay sts n se PR PA TE PP bo br V PT (what) hn hPay h_w h_ps) gX5_total_X5_totalLine rfl ⟨rfl, by decide +kernel, by decide +kernel, by decide +kernel⟩ ⟨Nat.le_of_ble_eq_true rfl, Nat.le_of_ble_eq_true rfl⟩ hK hE hS rfl h_w rfl hl.1 rfl (Nat.le_of_ble_eq_true rfl) dX5_total_60 ⟨Nat.le_of_ble_eq_true rfl, Nat.le_of_ble_eq_true rfl⟩ (fun H locs hS => ?_)
  exact z_lret hx hb hr hlocks hS (Nat.le_of_ble_eq_true rfl) (Nat.le_of_ble_eq_true rfl) dX5_total_63 ⟨by rw [zTotal, if_neg t1_8, if_neg t1_9, if_neg t1_10], rfl⟩
set_option maxHeartbeats 4000000 in
set_option maxRecDepth 100000 in
theorem c_X5_beginYear (l : Launch) (D : va_G) (cs : Nat → ClassId) (w : zw) (sz : Nat) (wk wt pay sts n : Nat) (se : Int64) (PR : Nat → Option Nat)  (h_w : w (wk) = some (.inr (5, [.ref (wt), .ref (pay), .ref (sts), .int (nI n), .long (se)]))) (h_ps : w (pay) = some (eR cs 4 (60) (PR))) : zM l D cs yX5_beginYear wsX5_beginYear 0 0 0 w sz [.ref (wk)] (fun r w2 => r = none ∧ zEx w w2 [(wk, .inr (5, [.ref wt, .ref pay, .ref sts, .int 0, .long 0]))]) := by
  refine z_met (cc := cX5_beginYear) (maxL := 1) (ret := none) (by decide) rfl (Nat.le_of_ble_eq_true rfl) ?_
  intro p e s m below meth c hx hb hr hml hown hts hlocks hnm hsz hK hE hS ls hl
  have hl : lv_has ls 1 [(0, .ref (wk))] := hl
  refine lv_aload_n hx hb dX5_beginYear_0 rfl (lv_at hl 0 rfl) ?_
  refine lv_iconst (v := 0) hx hb dX5_beginYear_1 (by decide) ?_
  refine z_put (C := RX5) (T := TX5) (N := 5) (v := .int (0)) hx hb hts (by decide +kernel) tyX5 tyX5_ok nmX5 hown hK hS h_w rfl 3 (by decide) (hts (.fieldLink RX5 29 "PayLedger$Worker" "held" "I") (by decide +kernel)) rfl rfl rfl (Nat.le_of_ble_eq_true rfl) dX5_beginYear_2 (fun H locs hS => ?_)
  obtain ⟨w1, ew1⟩ : ∃ z : zw, z = va_up w (wk) (some (.inr (5, [.ref (wt), .ref (pay), .ref (sts), .int (0), .long (se)]))) := ⟨_, rfl⟩
  have hS : zS (zA w sz) D w1 s.heap H locs := by rw [ew1]; exact hS
  have h1_wk : w1 (wk) = some (.inr (5, [.ref (wt), .ref (pay), .ref (sts), .int (0), .long (se)])) := by rw [ew1]; exact va_up_self _ _ _
  have h1_pay : w1 (pay) = some (eR cs 4 (60) (PR)) := by rw [ew1]; exact (va_up_ne _ _ (zne h_ps h_w (by intro q9; first | cases q9 | simp at q9))).trans h_ps
  refine lv_aload_n hx hb dX5_beginYear_5 rfl (lv_at hl 0 rfl) ?_
  refine lv_lconst (v := 0) hx hb dX5_beginYear_6 (by decide) ?_
  refine z_put (C := RX5) (T := TX5) (N := 5) (v := .long (0)) hx hb hts (by decide +kernel) tyX5 tyX5_ok nmX5 hown hK hS h1_wk rfl 4 (by decide) (hts (.fieldLink RX5 33 "PayLedger$Worker" "settled" "J") (by decide +kernel)) rfl rfl rfl (Nat.le_of_ble_eq_true rfl) dX5_beginYear_7 (fun H locs hS => ?_)
  obtain ⟨w2, ew2⟩ : ∃ z : zw, z = va_up w1 (wk) (some (.inr (5, [.ref (wt), .ref (pay), .ref (sts), .int (0), .long (0)]))) := ⟨_, rfl⟩
  have hS : zS (zA w sz) D w2 s.heap H locs := by rw [ew2]; exact hS
  have h2_wk : w2 (wk) = some (.inr (5, [.ref (wt), .ref (pay), .ref (sts), .int (0), .long (0)])) := by rw [ew2]; exact va_up_self _ _ _
  have h2_pay : w2 (pay) = some (eR cs 4 (60) (PR)) := by rw [ew2]; exact (va_up_ne _ _ (zne h1_pay h1_wk (by intro q9; first | cases q9 | simp at q9))).trans h1_pay
  have hex : zEx w w2 [(wk, (.inr (5, [.ref (wt), .ref (pay), .ref (sts), .int (0), .long (0)])))] := ⟨(zm1 h2_wk zm0), fun a9 h9 => by rw [ew2, va_up_ne _ _ (show a9 ≠ wk from h9 (wk, (.inr (5, [.ref (wt), .ref (pay), .ref (sts), .int (0), .long (0)]))) (List.mem_of_getElem? (i := 0) rfl)), ew1, va_up_ne _ _ (show a9 ≠ wk from h9 (wk, (.inr (5, [.ref (wt), .ref (pay), .ref (sts), .int (0), .long (0)]))) (List.mem_of_getElem? (i := 0) rfl))]⟩
  exact z_vret hx hb hr hlocks hS (Nat.le_of_ble_eq_true rfl) (Nat.le_of_ble_eq_true rfl) dX5_beginYear_10 ⟨rfl, hex⟩
set_option maxHeartbeats 4000000 in
set_option maxRecDepth 100000 in
theorem c_X5_dutyOfYear (l : Launch) (D : va_G) (cs : Nat → ClassId) (w : zw) (sz : Nat) (wk wt pay sts n : Nat) (se : Int64) (PR : Nat → Option Nat) (PA TE PP : Nat → Nat) (bo br : Nat → Int32) (V PT : Nat → Nat → Int64) (t fl ra nt : Nat) (F : Nat → Int64) (G : Nat → Int32) (tk pe me : Int32) (re cr ex : Int64) (en : Int32) (hn : n ≤ 60) (hnt : nt ≤ 12) (hPay : zPays cs w PR PA TE PP bo br V PT n) (h_w : w (wk) = some (.inr (5, [.ref (wt), .ref (pay), .ref (sts), .int (nI n), .long (se)]))) (h_ps : w (pay) = some (eR cs 4 (60) (PR))) (h_te : w (wt) = some (.inr (4, [.ref (t), .int (pe), .int (me), .long (re), .long (cr), .long (ex), .int (en)]))) (h_t : w (t) = some (.inr (3, [.ref (fl), .ref (ra), .int (nI nt), .int (tk)]))) (h_fl : w (fl) = some (eJ cs (12) (F))) (h_ra : w (ra) = some (eI cs (12) (G))) : zMr l D cs yX5_dutyOfYear wsX5_dutyOfYear 3 w sz [.ref (wk)] (.long (zDuty F G nt re cr (zTot bo V n 2))) := by
  refine z_met (cc := cX5_dutyOfYear) (maxL := 1) (ret := (some .long)) (by decide) rfl (Nat.le_of_ble_eq_true rfl) ?_
  intro p e s m below meth c hx hb hr hml hown hts hlocks hnm hsz hK hE hS ls hl
  have hl : lv_has ls 1 [(0, .ref (wk))] := hl
  refine lv_aload_n hx hb dX5_dutyOfYear_0 rfl (lv_at hl 0 rfl) ?_
  refine z_get (C := RX5) (T := TX5) (N := 5) (v := .ref (wt)) hx hb hts (by decide +kernel) hown hK hS h_w rfl 0 (by decide) (hts (.fieldLink RX5 12 "PayLedger$Worker" "terms" "LPayLedger$Terms;") (by decide +kernel)) rfl dX5_dutyOfYear_1 ?_
  refine lv_aload_n hx hb dX5_dutyOfYear_4 rfl (lv_at hl 0 rfl) ?_
  refine lv_iconst (v := 2) hx hb dX5_dutyOfYear_5 (by decide) ?_
  refine z_rV (As := [.int (2)]) (rest := [.ref (wt)]) (n := 1) ⟨hx, hb, hml, hown, hts⟩ (c_X5_totalLine l D cs w s.heap.size wk wt pay sts n se PR PA TE PP bo br V PT (2) hn hPay h_w h_ps) gX5_dutyOfYear_X5_totalLine rfl ⟨rfl, by decide +kernel, by decide +kernel, by decide +kernel⟩ ⟨Nat.le_of_ble_eq_true rfl, Nat.le_of_ble_eq_true rfl⟩ hK hE hS rfl h_w rfl hl.1 rfl (Nat.le_of_ble_eq_true rfl) dX5_dutyOfYear_6 ⟨Nat.le_of_ble_eq_true rfl, Nat.le_of_ble_eq_true rfl⟩ (fun H locs hS => ?_)
  refine z_rV (As := [.long (zTot bo V n (2))]) (rest := []) (n := 1) ⟨hx, hb, hml, hown, hts⟩ (c_X4_dutyOf l D cs w H.size wt t fl ra nt F G tk pe me re cr ex en (zTot bo V n 2) hnt h_te h_t h_fl h_ra) gX5_dutyOfYear_X4_dutyOf rfl ⟨rfl, by decide +kernel, by decide +kernel, by decide +kernel⟩ ⟨Nat.le_of_ble_eq_true rfl, Nat.le_of_ble_eq_true rfl⟩ hK hE hS rfl h_te rfl hl.1 rfl (Nat.le_of_ble_eq_true rfl) dX5_dutyOfYear_9 ⟨Nat.le_of_ble_eq_true rfl, Nat.le_of_ble_eq_true rfl⟩ (fun H locs hS => ?_)
  exact z_lret hx hb hr hlocks hS (Nat.le_of_ble_eq_true rfl) (Nat.le_of_ble_eq_true rfl) dX5_dutyOfYear_12 ⟨rfl, rfl⟩
