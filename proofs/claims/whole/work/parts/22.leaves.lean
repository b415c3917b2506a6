/-! ===== Table, Terms, Deduction, Pay: the rest of their leaves ===== -/
set_option maxHeartbeats 4000000 in
set_option maxRecDepth 100000 in
theorem c_X3_init (l : Launch) (D : va_G) (cs : Nat → ClassId) (w : zw) (sz : Nat) (h0 : Nat)  (h_o : w (h0) = some (.inr (3, [.null, .null, .int (0), .int (0)]))) : zM l D cs yX3_init wsX3_init 0 2 24 w sz [.ref (h0)] (fun r w2 => r = none ∧ ∃ fl ra : Nat, w fl = none ∧ w ra = none ∧ fl ≠ ra ∧ zEx w w2 [(h0, .inr (3, [.ref fl, .ref ra, .int 0, .int 0])), (fl, eJ cs 12 (fun _ => 0)), (ra, eI cs 12 (fun _ => 0))]) := by
  refine z_met (cc := cX3_init) (maxL := 1) (ret := none) (by decide) rfl (Nat.le_of_ble_eq_true rfl) ?_
  intro p e s m below meth c hx hb hr hml hown hts hlocks hnm hsz hK hE hS ls hl
  have hl : lv_has ls 1 [(0, .ref (h0))] := hl
  refine lv_aload_n hx hb dX3_init_0 rfl (lv_at hl 0 rfl) ?_
  refine W.objInit hx hb hown (hts (.methodLink RX3 3 objectInit) (by decide +kernel)) (hts (.instanceMethod objectInit) (by decide +kernel)) (hts (.code objectInit ⟨#[0xb1]⟩ 1 none) (by decide +kernel)) rfl (by rw [hml]; exact hl.1) rfl dX3_init_1 (Nat.le_of_ble_eq_true rfl) (Nat.le_of_ble_eq_true rfl) ?_
  refine W.eq (g2 := F0 m 4 ls []) rfl ?_
  refine lv_aload_n hx hb dX3_init_4 rfl (lv_at hl 0 rfl) ?_
  refine lv_bipush (v := 12) hx hb dX3_init_5 (by decide) ?_
  refine z_newJ hx hb (hts (.arrayClass .long) (by decide +kernel)) hK hS 12 (by decide) (by decide) (by decide) (Nat.le_of_ble_eq_true rfl) (Nat.le_of_ble_eq_true rfl) dX3_init_7 (fun fl H h_nfl hS => ?_)
  obtain ⟨w1, ew1⟩ : ∃ z : zw, z = va_up w (fl) (some (eJ cs (12) (fun _ => 0))) := ⟨_, rfl⟩
  have hS : zS (zA w sz) D w1 s.heap H [] := by rw [ew1]; exact hS
  have h1_fl : w1 (fl) = some (eJ cs (12) (fun _ => 0)) := by rw [ew1]; exact va_up_self _ _ _
  have h1_h0 : w1 (h0) = some (.inr (3, [.null, .null, .int (0), .int (0)])) := by rw [ew1]; exact (va_up_ne _ _ (fun q9 => by rw [q9] at h_o; rw [h_nfl] at h_o; cases h_o)).trans h_o
  have hz_fl : w (fl) = none := by
    have q9 := h_nfl
    exact q9
  refine z_putF (C := RX3) (T := TX3) (N := 4) (v := .ref (fl)) hx hb hts (by decide +kernel) tyX3 tyX3_ok nmX3 hown hK hS h1_h0 rfl 0 (by decide) (hts (.fieldLink RX3 9 "PayLedger$Table" "floors" "[J") (by decide +kernel)) rfl hnm rfl rfl rfl (Nat.le_of_ble_eq_true rfl) dX3_init_9 (fun H locs hS => ?_)
  obtain ⟨w2, ew2⟩ : ∃ z : zw, z = va_up w1 (h0) (some (.inr (3, [.ref (fl), .null, .int (0), .int (0)]))) := ⟨_, rfl⟩
  have hS : zS (zA w sz) D w2 s.heap H locs := by rw [ew2]; exact hS
  have h2_h0 : w2 (h0) = some (.inr (3, [.ref (fl), .null, .int (0), .int (0)])) := by rw [ew2]; exact va_up_self _ _ _
  have h2_fl : w2 (fl) = some (eJ cs (12) (fun _ => 0)) := by rw [ew2]; exact (va_up_ne _ _ (zne h1_fl h1_h0 (by intro q9; first | cases q9 | simp at q9))).trans h1_fl
  refine lv_aload_n hx hb dX3_init_12 rfl (lv_at hl 0 rfl) ?_
  refine lv_bipush (v := 12) hx hb dX3_init_13 (by decide) ?_
  refine z_newI hx hb (hts (.arrayClass .int) (by decide +kernel)) hK hS 12 (by decide) (by decide) (by decide) (Nat.le_of_ble_eq_true rfl) (Nat.le_of_ble_eq_true rfl) dX3_init_15 (fun ra H h_nra hS => ?_)
  obtain ⟨w3, ew3⟩ : ∃ z : zw, z = va_up w2 (ra) (some (eI cs (12) (fun _ => 0))) := ⟨_, rfl⟩
  have hS : zS (zA w sz) D w3 s.heap H locs := by rw [ew3]; exact hS
  have h3_ra : w3 (ra) = some (eI cs (12) (fun _ => 0)) := by rw [ew3]; exact va_up_self _ _ _
  have h3_fl : w3 (fl) = some (eJ cs (12) (fun _ => 0)) := by rw [ew3]; exact (va_up_ne _ _ (fun q9 => by rw [q9] at h2_fl; rw [h_nra] at h2_fl; cases h2_fl)).trans h2_fl
  have h3_h0 : w3 (h0) = some (.inr (3, [.ref (fl), .null, .int (0), .int (0)])) := by rw [ew3]; exact (va_up_ne _ _ (fun q9 => by rw [q9] at h2_h0; rw [h_nra] at h2_h0; cases h2_h0)).trans h2_h0
  have hz_ra : w (ra) = none := by
    have q9 := h_nra
    rw [ew2] at q9
    have q9 := (zup_none q9).2
    rw [ew1] at q9
    have q9 := (zup_none q9).2
    exact q9
  refine z_putF (C := RX3) (T := TX3) (N := 4) (v := .ref (ra)) hx hb hts (by decide +kernel) tyX3 tyX3_ok nmX3 hown hK hS h3_h0 rfl 1 (by decide) (hts (.fieldLink RX3 15 "PayLedger$Table" "rates" "[I") (by decide +kernel)) rfl hnm rfl rfl rfl (Nat.le_of_ble_eq_true rfl) dX3_init_17 (fun H locs hS => ?_)
  obtain ⟨w4, ew4⟩ : ∃ z : zw, z = va_up w3 (h0) (some (.inr (3, [.ref (fl), .ref (ra), .int (0), .int (0)]))) := ⟨_, rfl⟩
  have hS : zS (zA w sz) D w4 s.heap H locs := by rw [ew4]; exact hS
  have h4_h0 : w4 (h0) = some (.inr (3, [.ref (fl), .ref (ra), .int (0), .int (0)])) := by rw [ew4]; exact va_up_self _ _ _
  have h4_fl : w4 (fl) = some (eJ cs (12) (fun _ => 0)) := by rw [ew4]; exact (va_up_ne _ _ (zne h3_fl h3_h0 (by intro q9; first | cases q9 | simp at q9))).trans h3_fl
  have h4_ra : w4 (ra) = some (eI cs (12) (fun _ => 0)) := by rw [ew4]; exact (va_up_ne _ _ (zne h3_ra h3_h0 (by intro q9; first | cases q9 | simp at q9))).trans h3_ra
  refine lv_aload_n hx hb dX3_init_20 rfl (lv_at hl 0 rfl) ?_
  refine lv_iconst (v := 0) hx hb dX3_init_21 (by decide) ?_
  refine z_put (C := RX3) (T := TX3) (N := 4) (v := .int (0)) hx hb hts (by decide +kernel) tyX3 tyX3_ok nmX3 hown hK hS h4_h0 rfl 2 (by decide) (hts (.fieldLink RX3 19 "PayLedger$Table" "stages" "I") (by decide +kernel)) rfl rfl rfl (Nat.le_of_ble_eq_true rfl) dX3_init_22 (fun H locs hS => ?_)
  obtain ⟨w5, ew5⟩ : ∃ z : zw, z = va_up w4 (h0) (some (.inr (3, [.ref (fl), .ref (ra), .int (0), .int (0)]))) := ⟨_, rfl⟩
  have hS : zS (zA w sz) D w5 s.heap H locs := by rw [ew5]; exact hS
  have h5_h0 : w5 (h0) = some (.inr (3, [.ref (fl), .ref (ra), .int (0), .int (0)])) := by rw [ew5]; exact va_up_self _ _ _
  have h5_fl : w5 (fl) = some (eJ cs (12) (fun _ => 0)) := by rw [ew5]; exact (va_up_ne _ _ (zne h4_fl h4_h0 (by intro q9; first | cases q9 | simp at q9))).trans h4_fl
  have h5_ra : w5 (ra) = some (eI cs (12) (fun _ => 0)) := by rw [ew5]; exact (va_up_ne _ _ (zne h4_ra h4_h0 (by intro q9; first | cases q9 | simp at q9))).trans h4_ra
  refine lv_aload_n hx hb dX3_init_25 rfl (lv_at hl 0 rfl) ?_
  refine lv_iconst (v := 0) hx hb dX3_init_26 (by decide) ?_
  refine z_put (C := RX3) (T := TX3) (N := 4) (v := .int (0)) hx hb hts (by decide +kernel) tyX3 tyX3_ok nmX3 hown hK hS h5_h0 rfl 3 (by decide) (hts (.fieldLink RX3 23 "PayLedger$Table" "taken" "Z") (by decide +kernel)) rfl (zb_narrow (Or.inl rfl)) (zb_fits (Or.inl rfl)) (Nat.le_of_ble_eq_true rfl) dX3_init_27 (fun H locs hS => ?_)
  obtain ⟨w6, ew6⟩ : ∃ z : zw, z = va_up w5 (h0) (some (.inr (3, [.ref (fl), .ref (ra), .int (0), .int (0)]))) := ⟨_, rfl⟩
  have hS : zS (zA w sz) D w6 s.heap H locs := by rw [ew6]; exact hS
  have h6_h0 : w6 (h0) = some (.inr (3, [.ref (fl), .ref (ra), .int (0), .int (0)])) := by rw [ew6]; exact va_up_self _ _ _
  have h6_fl : w6 (fl) = some (eJ cs (12) (fun _ => 0)) := by rw [ew6]; exact (va_up_ne _ _ (zne h5_fl h5_h0 (by intro q9; first | cases q9 | simp at q9))).trans h5_fl
  have h6_ra : w6 (ra) = some (eI cs (12) (fun _ => 0)) := by rw [ew6]; exact (va_up_ne _ _ (zne h5_ra h5_h0 (by intro q9; first | cases q9 | simp at q9))).trans h5_ra
  have hex : zEx w w6 [(h0, (.inr (3, [.ref (fl), .ref (ra), .int (0), .int (0)]))), (fl, (eJ cs (12) (fun _ => 0))), (ra, (eI cs (12) (fun _ => 0)))] := ⟨(zm1 h6_h0 (zm1 h6_fl (zm1 h6_ra zm0))), fun a9 h9 => by rw [ew6, va_up_ne _ _ (show a9 ≠ h0 from h9 (h0, (.inr (3, [.ref (fl), .ref (ra), .int (0), .int (0)]))) (List.mem_of_getElem? (i := 0) rfl)), ew5, va_up_ne _ _ (show a9 ≠ h0 from h9 (h0, (.inr (3, [.ref (fl), .ref (ra), .int (0), .int (0)]))) (List.mem_of_getElem? (i := 0) rfl)), ew4, va_up_ne _ _ (show a9 ≠ h0 from h9 (h0, (.inr (3, [.ref (fl), .ref (ra), .int (0), .int (0)]))) (List.mem_of_getElem? (i := 0) rfl)), ew3, va_up_ne _ _ (show a9 ≠ ra from h9 (ra, (eI cs (12) (fun _ => 0))) (List.mem_of_getElem? (i := 2) rfl)), ew2, va_up_ne _ _ (show a9 ≠ h0 from h9 (h0, (.inr (3, [.ref (fl), .ref (ra), .int (0), .int (0)]))) (List.mem_of_getElem? (i := 0) rfl)), ew1, va_up_ne _ _ (show a9 ≠ fl from h9 (fl, (eJ cs (12) (fun _ => 0))) (List.mem_of_getElem? (i := 1) rfl))]⟩
  exact z_vret hx hb hr hlocks hS (Nat.le_of_ble_eq_true rfl) (Nat.le_of_ble_eq_true rfl) dX3_init_30 ⟨rfl, fl, ra, hz_fl, hz_ra, zne h6_fl h6_ra (by intro q9; simp at q9), hex⟩
set_option maxHeartbeats 4000000 in
set_option maxRecDepth 100000 in
theorem c_X3_append (l : Launch) (D : va_G) (cs : Nat → ClassId) (w : zw) (sz : Nat) (h0 fl ra n : Nat) (F : Nat → Int64) (G : Nat → Int32) (tk : Int32) (floor : Int64) (rate : Int32) (hn : n < 12) (h_t : w (h0) = some (.inr (3, [.ref (fl), .ref (ra), .int (nI n), .int (tk)]))) (h_fl : w (fl) = some (eJ cs (12) (F))) (h_ra : w (ra) = some (eI cs (12) (G))) : zM l D cs yX3_append wsX3_append 0 0 0 w sz [.ref (h0), .long (floor), .int (rate)] (fun r w2 => r = none ∧ zEx w w2 [(h0, .inr (3, [.ref fl, .ref ra, .int (nI (n + 1)), .int tk])), (fl, eJ cs 12 (vp_updL F n floor)), (ra, eI cs 12 (upd G n rate))]) := by
  refine z_met (cc := cX3_append) (maxL := 4) (ret := none) (by decide) rfl (Nat.le_of_ble_eq_true rfl) ?_
  intro p e s m below meth c hx hb hr hml hown hts hlocks hnm hsz hK hE hS ls hl
  have hl : lv_has ls 4 [(0, .ref (h0)), (1, .long (floor)), (3, .int (rate))] := hl
  refine lv_aload_n hx hb dX3_append_0 rfl (lv_at hl 0 rfl) ?_
  refine z_get (C := RX3) (T := TX3) (N := 4) (v := .int (nI n)) hx hb hts (by decide +kernel) hown hK hS h_t rfl 2 (by decide) (hts (.fieldLink RX3 19 "PayLedger$Table" "stages" "I") (by decide +kernel)) rfl dX3_append_1 ?_
  refine lv_if_lt (tgt := 31) hx hb dX3_append_4 (by decide) (fun cq9 => absurd cq9 (nI_pos (by omega))) (fun _ => ?_)
  refine lv_aload_n hx hb dX3_append_7 rfl (lv_at hl 0 rfl) ?_
  refine z_get (C := RX3) (T := TX3) (N := 4) (v := .int (nI n)) hx hb hts (by decide +kernel) hown hK hS h_t rfl 2 (by decide) (hts (.fieldLink RX3 19 "PayLedger$Table" "stages" "I") (by decide +kernel)) rfl dX3_append_8 ?_
  refine lv_aload_n hx hb dX3_append_11 rfl (lv_at hl 0 rfl) ?_
  refine z_get (C := RX3) (T := TX3) (N := 4) (v := .ref (fl)) hx hb hts (by decide +kernel) hown hK hS h_t rfl 0 (by decide) (hts (.fieldLink RX3 9 "PayLedger$Table" "floors" "[J") (by decide +kernel)) rfl dX3_append_12 ?_
  refine z_alen (t0 := 1) (v := 12) hx hb hK hS h_fl rfl rfl dX3_append_15 ?_
  refine lv_icmp_ge (tgt := 31) hx hb dX3_append_16 (by decide) (fun cq9 => absurd cq9 (nI_ge (b := 12) (by omega) (by omega))) (fun _ => ?_)
  refine lv_aload_n hx hb dX3_append_19 rfl (lv_at hl 0 rfl) ?_
  refine z_get (C := RX3) (T := TX3) (N := 4) (v := .int (nI n)) hx hb hts (by decide +kernel) hown hK hS h_t rfl 2 (by decide) (hts (.fieldLink RX3 19 "PayLedger$Table" "stages" "I") (by decide +kernel)) rfl dX3_append_20 ?_
  refine lv_aload_n hx hb dX3_append_23 rfl (lv_at hl 0 rfl) ?_
  refine z_get (C := RX3) (T := TX3) (N := 4) (v := .ref (ra)) hx hb hts (by decide +kernel) hown hK hS h_t rfl 1 (by decide) (hts (.fieldLink RX3 15 "PayLedger$Table" "rates" "[I") (by decide +kernel)) rfl dX3_append_24 ?_
  refine z_alen (t0 := 0) (v := 12) hx hb hK hS h_ra rfl rfl dX3_append_27 ?_
  refine lv_icmp_lt (tgt := 32) hx hb dX3_append_28 (by decide) (fun _ => ?_) (fun cq9 => absurd (nI_lt (b := 12) (by omega) (by omega)) cq9)
  refine lv_aload_n hx hb dX3_append_32 rfl (lv_at hl 0 rfl) ?_
  refine z_get (C := RX3) (T := TX3) (N := 4) (v := .ref (fl)) hx hb hts (by decide +kernel) hown hK hS h_t rfl 0 (by decide) (hts (.fieldLink RX3 9 "PayLedger$Table" "floors" "[J") (by decide +kernel)) rfl dX3_append_33 ?_
  refine lv_aload_n hx hb dX3_append_36 rfl (lv_at hl 0 rfl) ?_
  refine z_get (C := RX3) (T := TX3) (N := 4) (v := .int (nI n)) hx hb hts (by decide +kernel) hown hK hS h_t rfl 2 (by decide) (hts (.fieldLink RX3 19 "PayLedger$Table" "stages" "I") (by decide +kernel)) rfl dX3_append_37 ?_
  refine lv_lload_n hx hb dX3_append_40 rfl (lv_at hl 1 rfl) ?_
  refine z_last hx hb hK hS h_fl (vp_in_nI (by omega) (by omega)) dX3_append_41 (fun H locs hS => ?_)
  obtain ⟨w1, ew1⟩ : ∃ z : zw, z = va_up w (fl) (some (eJ cs (12) (vp_updL (F) (nI n : Int32).toNatClampNeg (floor)))) := ⟨_, rfl⟩
  have hS : zS (zA w sz) D w1 s.heap H locs := by rw [ew1]; exact hS
  have h1_fl : w1 (fl) = some (eJ cs (12) (vp_updL (F) (nI n : Int32).toNatClampNeg (floor))) := by rw [ew1]; exact va_up_self _ _ _
  have h1_h0 : w1 (h0) = some (.inr (3, [.ref (fl), .ref (ra), .int (nI n), .int (tk)])) := by rw [ew1]; exact (va_up_ne _ _ (zne h_t h_fl (by intro q9; first | cases q9 | simp at q9))).trans h_t
  have h1_ra : w1 (ra) = some (eI cs (12) (G)) := by rw [ew1]; exact (va_up_ne _ _ (zne h_ra h_fl (by intro q9; first | cases q9 | simp at q9))).trans h_ra
  rw [show (eJ cs (12) (vp_updL (F) (nI n : Int32).toNatClampNeg (floor))) = (eJ cs (12) (vp_updL F n floor)) from (by rw [nI_clamp (by omega)])] at h1_fl
  refine lv_aload_n hx hb dX3_append_42 rfl (lv_at hl 0 rfl) ?_
  refine z_get (C := RX3) (T := TX3) (N := 4) (v := .ref (ra)) hx hb hts (by decide +kernel) hown hK hS h1_h0 rfl 1 (by decide) (hts (.fieldLink RX3 15 "PayLedger$Table" "rates" "[I") (by decide +kernel)) rfl dX3_append_43 ?_
  refine lv_aload_n hx hb dX3_append_46 rfl (lv_at hl 0 rfl) ?_
  refine z_get (C := RX3) (T := TX3) (N := 4) (v := .int (nI n)) hx hb hts (by decide +kernel) hown hK hS h1_h0 rfl 2 (by decide) (hts (.fieldLink RX3 19 "PayLedger$Table" "stages" "I") (by decide +kernel)) rfl dX3_append_47 ?_
  refine lv_iload_n hx hb dX3_append_50 rfl (lv_at hl 2 rfl) ?_
  refine z_iast hx hb hK hS h1_ra (vp_in_nI (by omega) (by omega)) dX3_append_51 (fun H locs hS => ?_)
  obtain ⟨w2, ew2⟩ : ∃ z : zw, z = va_up w1 (ra) (some (eI cs (12) (upd (G) (nI n : Int32).toNatClampNeg (rate)))) := ⟨_, rfl⟩
  have hS : zS (zA w sz) D w2 s.heap H locs := by rw [ew2]; exact hS
  have h2_ra : w2 (ra) = some (eI cs (12) (upd (G) (nI n : Int32).toNatClampNeg (rate))) := by rw [ew2]; exact va_up_self _ _ _
  have h2_h0 : w2 (h0) = some (.inr (3, [.ref (fl), .ref (ra), .int (nI n), .int (tk)])) := by rw [ew2]; exact (va_up_ne _ _ (zne h1_h0 h1_ra (by intro q9; first | cases q9 | simp at q9))).trans h1_h0
  have h2_fl : w2 (fl) = some (eJ cs (12) (vp_updL F n floor)) := by rw [ew2]; exact (va_up_ne _ _ (zne h1_fl h1_ra (by intro q9; first | cases q9 | simp at q9))).trans h1_fl
  rw [show (eI cs (12) (upd (G) (nI n : Int32).toNatClampNeg (rate))) = (eI cs (12) (upd G n rate)) from (by rw [nI_clamp (by omega)])] at h2_ra
  refine lv_aload_n hx hb dX3_append_52 rfl (lv_at hl 0 rfl) ?_
  refine lv_dup hx hb dX3_append_53 rfl ?_
  refine z_get (C := RX3) (T := TX3) (N := 4) (v := .int (nI n)) hx hb hts (by decide +kernel) hown hK hS h2_h0 rfl 2 (by decide) (hts (.fieldLink RX3 19 "PayLedger$Table" "stages" "I") (by decide +kernel)) rfl dX3_append_54 ?_
  refine lv_iconst (v := 1) hx hb dX3_append_57 (by decide) ?_
  refine lv_iadd hx hb dX3_append_58 ?_
  refine z_ti (y := nI (n + 1)) (nI_1 n) ?_
  refine z_put (C := RX3) (T := TX3) (N := 4) (v := .int (nI (n + 1))) hx hb hts (by decide +kernel) tyX3 tyX3_ok nmX3 hown hK hS h2_h0 rfl 2 (by decide) (hts (.fieldLink RX3 19 "PayLedger$Table" "stages" "I") (by decide +kernel)) rfl rfl rfl (Nat.le_of_ble_eq_true rfl) dX3_append_59 (fun H locs hS => ?_)
  obtain ⟨w3, ew3⟩ : ∃ z : zw, z = va_up w2 (h0) (some (.inr (3, [.ref (fl), .ref (ra), .int (nI (n + 1)), .int (tk)]))) := ⟨_, rfl⟩
  have hS : zS (zA w sz) D w3 s.heap H locs := by rw [ew3]; exact hS
  have h3_h0 : w3 (h0) = some (.inr (3, [.ref (fl), .ref (ra), .int (nI (n + 1)), .int (tk)])) := by rw [ew3]; exact va_up_self _ _ _
  have h3_fl : w3 (fl) = some (eJ cs (12) (vp_updL F n floor)) := by rw [ew3]; exact (va_up_ne _ _ (zne h2_fl h2_h0 (by intro q9; first | cases q9 | simp at q9))).trans h2_fl
  have h3_ra : w3 (ra) = some (eI cs (12) (upd G n rate)) := by rw [ew3]; exact (va_up_ne _ _ (zne h2_ra h2_h0 (by intro q9; first | cases q9 | simp at q9))).trans h2_ra
  have hex : zEx w w3 [(h0, (.inr (3, [.ref (fl), .ref (ra), .int (nI (n + 1)), .int (tk)]))), (fl, (eJ cs (12) (vp_updL F n floor))), (ra, (eI cs (12) (upd G n rate)))] := ⟨(zm1 h3_h0 (zm1 h3_fl (zm1 h3_ra zm0))), fun a9 h9 => by rw [ew3, va_up_ne _ _ (show a9 ≠ h0 from h9 (h0, (.inr (3, [.ref (fl), .ref (ra), .int (nI (n + 1)), .int (tk)]))) (List.mem_of_getElem? (i := 0) rfl)), ew2, va_up_ne _ _ (show a9 ≠ ra from h9 (ra, (eI cs (12) (upd G n rate))) (List.mem_of_getElem? (i := 2) rfl)), ew1, va_up_ne _ _ (show a9 ≠ fl from h9 (fl, (eJ cs (12) (vp_updL F n floor))) (List.mem_of_getElem? (i := 1) rfl))]⟩
  exact z_vret hx hb hr hlocks hS (Nat.le_of_ble_eq_true rfl) (Nat.le_of_ble_eq_true rfl) dX3_append_62 ⟨rfl, hex⟩
set_option maxHeartbeats 4000000 in
set_option maxRecDepth 100000 in
theorem c_X4_init (l : Launch) (D : va_G) (cs : Nat → ClassId) (w : zw) (sz : Nat) (h0 : Nat)  (h_o : w (h0) = some (.inr (4, [.null, .int (0), .int (0), .long (0), .long (0), .long (0), .int (0)]))) : zM l D cs yX4_init wsX4_init 0 0 0 w sz [.ref (h0)] (fun r w2 => r = none ∧ zEx w w2 [(h0, .inr (4, [.null, .int 1, .int 0, .long 0, .long 0, .long 0, .int 0]))]) := by
  refine z_met (cc := cX4_init) (maxL := 1) (ret := none) (by decide) rfl (Nat.le_of_ble_eq_true rfl) ?_
  intro p e s m below meth c hx hb hr hml hown hts hlocks hnm hsz hK hE hS ls hl
  have hl : lv_has ls 1 [(0, .ref (h0))] := hl
  refine lv_aload_n hx hb dX4_init_0 rfl (lv_at hl 0 rfl) ?_
  refine W.objInit hx hb hown (hts (.methodLink RX4 3 objectInit) (by decide +kernel)) (hts (.instanceMethod objectInit) (by decide +kernel)) (hts (.code objectInit ⟨#[0xb1]⟩ 1 none) (by decide +kernel)) rfl (by rw [hml]; exact hl.1) rfl dX4_init_1 (Nat.le_of_ble_eq_true rfl) (Nat.le_of_ble_eq_true rfl) ?_
  refine W.eq (g2 := F0 m 4 ls []) rfl ?_
  refine lv_aload_n hx hb dX4_init_4 rfl (lv_at hl 0 rfl) ?_
  refine lv_null hx hb dX4_init_5 ?_
  refine z_put (C := RX4) (T := TX4) (N := 7) (v := .null) hx hb hts (by decide +kernel) tyX4 tyX4_ok nmX4 hown hK hS h_o rfl 0 (by decide) (hts (.fieldLink RX4 9 "PayLedger$Terms" "table" "LPayLedger$Table;") (by decide +kernel)) rfl rfl rfl (Nat.le_of_ble_eq_true rfl) dX4_init_6 (fun H locs hS => ?_)
  obtain ⟨w1, ew1⟩ : ∃ z : zw, z = va_up w (h0) (some (.inr (4, [.null, .int (0), .int (0), .long (0), .long (0), .long (0), .int (0)]))) := ⟨_, rfl⟩
  have hS : zS (zA w sz) D w1 s.heap H locs := by rw [ew1]; exact hS
  have h1_h0 : w1 (h0) = some (.inr (4, [.null, .int (0), .int (0), .long (0), .long (0), .long (0), .int (0)])) := by rw [ew1]; exact va_up_self _ _ _
  refine lv_aload_n hx hb dX4_init_9 rfl (lv_at hl 0 rfl) ?_
  refine lv_iconst (v := 1) hx hb dX4_init_10 (by decide) ?_
  refine z_put (C := RX4) (T := TX4) (N := 7) (v := .int (1)) hx hb hts (by decide +kernel) tyX4 tyX4_ok nmX4 hown hK hS h1_h0 rfl 1 (by decide) (hts (.fieldLink RX4 15 "PayLedger$Terms" "periods" "I") (by decide +kernel)) rfl rfl rfl (Nat.le_of_ble_eq_true rfl) dX4_init_11 (fun H locs hS => ?_)
  obtain ⟨w2, ew2⟩ : ∃ z : zw, z = va_up w1 (h0) (some (.inr (4, [.null, .int (1), .int (0), .long (0), .long (0), .long (0), .int (0)]))) := ⟨_, rfl⟩
  have hS : zS (zA w sz) D w2 s.heap H locs := by rw [ew2]; exact hS
  have h2_h0 : w2 (h0) = some (.inr (4, [.null, .int (1), .int (0), .long (0), .long (0), .long (0), .int (0)])) := by rw [ew2]; exact va_up_self _ _ _
  refine lv_aload_n hx hb dX4_init_14 rfl (lv_at hl 0 rfl) ?_
  refine lv_iconst (v := 0) hx hb dX4_init_15 (by decide) ?_
  refine z_put (C := RX4) (T := TX4) (N := 7) (v := .int (0)) hx hb hts (by decide +kernel) tyX4 tyX4_ok nmX4 hown hK hS h2_h0 rfl 2 (by decide) (hts (.fieldLink RX4 19 "PayLedger$Terms" "method" "I") (by decide +kernel)) rfl rfl rfl (Nat.le_of_ble_eq_true rfl) dX4_init_16 (fun H locs hS => ?_)
  obtain ⟨w3, ew3⟩ : ∃ z : zw, z = va_up w2 (h0) (some (.inr (4, [.null, .int (1), .int (0), .long (0), .long (0), .long (0), .int (0)]))) := ⟨_, rfl⟩
  have hS : zS (zA w sz) D w3 s.heap H locs := by rw [ew3]; exact hS
  have h3_h0 : w3 (h0) = some (.inr (4, [.null, .int (1), .int (0), .long (0), .long (0), .long (0), .int (0)])) := by rw [ew3]; exact va_up_self _ _ _
  refine lv_aload_n hx hb dX4_init_19 rfl (lv_at hl 0 rfl) ?_
  refine lv_lconst (v := 0) hx hb dX4_init_20 (by decide) ?_
  refine z_put (C := RX4) (T := TX4) (N := 7) (v := .long (0)) hx hb hts (by decide +kernel) tyX4 tyX4_ok nmX4 hown hK hS h3_h0 rfl 3 (by decide) (hts (.fieldLink RX4 22 "PayLedger$Terms" "relief" "J") (by decide +kernel)) rfl rfl rfl (Nat.le_of_ble_eq_true rfl) dX4_init_21 (fun H locs hS => ?_)
  obtain ⟨w4, ew4⟩ : ∃ z : zw, z = va_up w3 (h0) (some (.inr (4, [.null, .int (1), .int (0), .long (0), .long (0), .long (0), .int (0)]))) := ⟨_, rfl⟩
  have hS : zS (zA w sz) D w4 s.heap H locs := by rw [ew4]; exact hS
  have h4_h0 : w4 (h0) = some (.inr (4, [.null, .int (1), .int (0), .long (0), .long (0), .long (0), .int (0)])) := by rw [ew4]; exact va_up_self _ _ _
  refine lv_aload_n hx hb dX4_init_24 rfl (lv_at hl 0 rfl) ?_
  refine lv_lconst (v := 0) hx hb dX4_init_25 (by decide) ?_
  refine z_put (C := RX4) (T := TX4) (N := 7) (v := .long (0)) hx hb hts (by decide +kernel) tyX4 tyX4_ok nmX4 hown hK hS h4_h0 rfl 4 (by decide) (hts (.fieldLink RX4 26 "PayLedger$Terms" "credit" "J") (by decide +kernel)) rfl rfl rfl (Nat.le_of_ble_eq_true rfl) dX4_init_26 (fun H locs hS => ?_)
  obtain ⟨w5, ew5⟩ : ∃ z : zw, z = va_up w4 (h0) (some (.inr (4, [.null, .int (1), .int (0), .long (0), .long (0), .long (0), .int (0)]))) := ⟨_, rfl⟩
  have hS : zS (zA w sz) D w5 s.heap H locs := by rw [ew5]; exact hS
  have h5_h0 : w5 (h0) = some (.inr (4, [.null, .int (1), .int (0), .long (0), .long (0), .long (0), .int (0)])) := by rw [ew5]; exact va_up_self _ _ _
  refine lv_aload_n hx hb dX4_init_29 rfl (lv_at hl 0 rfl) ?_
  refine lv_lconst (v := 0) hx hb dX4_init_30 (by decide) ?_
  refine z_put (C := RX4) (T := TX4) (N := 7) (v := .long (0)) hx hb hts (by decide +kernel) tyX4 tyX4_ok nmX4 hown hK hS h5_h0 rfl 5 (by decide) (hts (.fieldLink RX4 29 "PayLedger$Terms" "extra" "J") (by decide +kernel)) rfl rfl rfl (Nat.le_of_ble_eq_true rfl) dX4_init_31 (fun H locs hS => ?_)
  obtain ⟨w6, ew6⟩ : ∃ z : zw, z = va_up w5 (h0) (some (.inr (4, [.null, .int (1), .int (0), .long (0), .long (0), .long (0), .int (0)]))) := ⟨_, rfl⟩
  have hS : zS (zA w sz) D w6 s.heap H locs := by rw [ew6]; exact hS
  have h6_h0 : w6 (h0) = some (.inr (4, [.null, .int (1), .int (0), .long (0), .long (0), .long (0), .int (0)])) := by rw [ew6]; exact va_up_self _ _ _
  refine lv_aload_n hx hb dX4_init_34 rfl (lv_at hl 0 rfl) ?_
  refine lv_iconst (v := 0) hx hb dX4_init_35 (by decide) ?_
  refine z_put (C := RX4) (T := TX4) (N := 7) (v := .int (0)) hx hb hts (by decide +kernel) tyX4 tyX4_ok nmX4 hown hK hS h6_h0 rfl 6 (by decide) (hts (.fieldLink RX4 32 "PayLedger$Terms" "enrolled" "I") (by decide +kernel)) rfl rfl rfl (Nat.le_of_ble_eq_true rfl) dX4_init_36 (fun H locs hS => ?_)
  obtain ⟨w7, ew7⟩ : ∃ z : zw, z = va_up w6 (h0) (some (.inr (4, [.null, .int (1), .int (0), .long (0), .long (0), .long (0), .int (0)]))) := ⟨_, rfl⟩
  have hS : zS (zA w sz) D w7 s.heap H locs := by rw [ew7]; exact hS
  have h7_h0 : w7 (h0) = some (.inr (4, [.null, .int (1), .int (0), .long (0), .long (0), .long (0), .int (0)])) := by rw [ew7]; exact va_up_self _ _ _
  have hex : zEx w w7 [(h0, (.inr (4, [.null, .int (1), .int (0), .long (0), .long (0), .long (0), .int (0)])))] := ⟨(zm1 h7_h0 zm0), fun a9 h9 => by rw [ew7, va_up_ne _ _ (show a9 ≠ h0 from h9 (h0, (.inr (4, [.null, .int (1), .int (0), .long (0), .long (0), .long (0), .int (0)]))) (List.mem_of_getElem? (i := 0) rfl)), ew6, va_up_ne _ _ (show a9 ≠ h0 from h9 (h0, (.inr (4, [.null, .int (1), .int (0), .long (0), .long (0), .long (0), .int (0)]))) (List.mem_of_getElem? (i := 0) rfl)), ew5, va_up_ne _ _ (show a9 ≠ h0 from h9 (h0, (.inr (4, [.null, .int (1), .int (0), .long (0), .long (0), .long (0), .int (0)]))) (List.mem_of_getElem? (i := 0) rfl)), ew4, va_up_ne _ _ (show a9 ≠ h0 from h9 (h0, (.inr (4, [.null, .int (1), .int (0), .long (0), .long (0), .long (0), .int (0)]))) (List.mem_of_getElem? (i := 0) rfl)), ew3, va_up_ne _ _ (show a9 ≠ h0 from h9 (h0, (.inr (4, [.null, .int (1), .int (0), .long (0), .long (0), .long (0), .int (0)]))) (List.mem_of_getElem? (i := 0) rfl)), ew2, va_up_ne _ _ (show a9 ≠ h0 from h9 (h0, (.inr (4, [.null, .int (1), .int (0), .long (0), .long (0), .long (0), .int (0)]))) (List.mem_of_getElem? (i := 0) rfl)), ew1, va_up_ne _ _ (show a9 ≠ h0 from h9 (h0, (.inr (4, [.null, .int (1), .int (0), .long (0), .long (0), .long (0), .int (0)]))) (List.mem_of_getElem? (i := 0) rfl))]⟩
  exact z_vret hx hb hr hlocks hS (Nat.le_of_ble_eq_true rfl) (Nat.le_of_ble_eq_true rfl) dX4_init_39 ⟨rfl, hex⟩
set_option maxHeartbeats 4000000 in
set_option maxRecDepth 100000 in
theorem c_X4_copy (l : Launch) (D : va_G) (cs : Nat → ClassId) (w : zw) (sz : Nat) (h0 h1 t : Nat) (tb : Option Nat) (pe me : Int32) (re cr ex : Int64) (en : Int32) (pe1 me1 : Int32) (re1 cr1 ex1 : Int64) (en1 : Int32) (hne : h1 ≠ h0) (h_o : w (h0) = some (.inr (4, [va_rf (tb), .int (pe), .int (me), .long (re), .long (cr), .long (ex), .int (en)]))) (h_q : w (h1) = some (.inr (4, [.ref (t), .int (pe1), .int (me1), .long (re1), .long (cr1), .long (ex1), .int (en1)]))) : zM l D cs yX4_copy wsX4_copy 0 0 0 w sz [.ref (h0), .ref (h1)] (fun r w2 => r = none ∧ zEx w w2 [(h0, .inr (4, [.ref t, .int pe1, .int me1, .long re1, .long cr1, .long ex1, .int en1]))]) := by
  refine z_met (cc := cX4_copy) (maxL := 2) (ret := none) (by decide) rfl (Nat.le_of_ble_eq_true rfl) ?_
  intro p e s m below meth c hx hb hr hml hown hts hlocks hnm hsz hK hE hS ls hl
  have hl : lv_has ls 2 [(0, .ref (h0)), (1, .ref (h1))] := hl
  refine lv_aload_n hx hb dX4_copy_0 rfl (lv_at hl 0 rfl) ?_
  refine lv_aload_n hx hb dX4_copy_1 rfl (lv_at hl 1 rfl) ?_
  refine z_get (C := RX4) (T := TX4) (N := 7) (v := .ref (t)) hx hb hts (by decide +kernel) hown hK hS h_q rfl 0 (by decide) (hts (.fieldLink RX4 9 "PayLedger$Terms" "table" "LPayLedger$Table;") (by decide +kernel)) rfl dX4_copy_2 ?_
  refine z_put (C := RX4) (T := TX4) (N := 7) (v := .ref (t)) hx hb hts (by decide +kernel) tyX4 tyX4_ok nmX4 hown hK hS h_o rfl 0 (by decide) (hts (.fieldLink RX4 9 "PayLedger$Terms" "table" "LPayLedger$Table;") (by decide +kernel)) rfl rfl rfl (Nat.le_of_ble_eq_true rfl) dX4_copy_5 (fun H locs hS => ?_)
  obtain ⟨w1, ew1⟩ : ∃ z : zw, z = va_up w (h0) (some (.inr (4, [.ref (t), .int (pe), .int (me), .long (re), .long (cr), .long (ex), .int (en)]))) := ⟨_, rfl⟩
  have hS : zS (zA w sz) D w1 s.heap H locs := by rw [ew1]; exact hS
  have h1_h0 : w1 (h0) = some (.inr (4, [.ref (t), .int (pe), .int (me), .long (re), .long (cr), .long (ex), .int (en)])) := by rw [ew1]; exact va_up_self _ _ _
  have h1_h1 : w1 (h1) = some (.inr (4, [.ref (t), .int (pe1), .int (me1), .long (re1), .long (cr1), .long (ex1), .int (en1)])) := by rw [ew1]; exact (va_up_ne _ _ hne).trans h_q
  refine lv_aload_n hx hb dX4_copy_8 rfl (lv_at hl 0 rfl) ?_
  refine lv_aload_n hx hb dX4_copy_9 rfl (lv_at hl 1 rfl) ?_
  refine z_get (C := RX4) (T := TX4) (N := 7) (v := .int (pe1)) hx hb hts (by decide +kernel) hown hK hS h1_h1 rfl 1 (by decide) (hts (.fieldLink RX4 15 "PayLedger$Terms" "periods" "I") (by decide +kernel)) rfl dX4_copy_10 ?_
  refine z_put (C := RX4) (T := TX4) (N := 7) (v := .int (pe1)) hx hb hts (by decide +kernel) tyX4 tyX4_ok nmX4 hown hK hS h1_h0 rfl 1 (by decide) (hts (.fieldLink RX4 15 "PayLedger$Terms" "periods" "I") (by decide +kernel)) rfl rfl rfl (Nat.le_of_ble_eq_true rfl) dX4_copy_13 (fun H locs hS => ?_)
  obtain ⟨w2, ew2⟩ : ∃ z : zw, z = va_up w1 (h0) (some (.inr (4, [.ref (t), .int (pe1), .int (me), .long (re), .long (cr), .long (ex), .int (en)]))) := ⟨_, rfl⟩
  have hS : zS (zA w sz) D w2 s.heap H locs := by rw [ew2]; exact hS
  have h2_h0 : w2 (h0) = some (.inr (4, [.ref (t), .int (pe1), .int (me), .long (re), .long (cr), .long (ex), .int (en)])) := by rw [ew2]; exact va_up_self _ _ _
  have h2_h1 : w2 (h1) = some (.inr (4, [.ref (t), .int (pe1), .int (me1), .long (re1), .long (cr1), .long (ex1), .int (en1)])) := by rw [ew2]; exact (va_up_ne _ _ hne).trans h1_h1
  refine lv_aload_n hx hb dX4_copy_16 rfl (lv_at hl 0 rfl) ?_
  refine lv_aload_n hx hb dX4_copy_17 rfl (lv_at hl 1 rfl) ?_
  refine z_get (C := RX4) (T := TX4) (N := 7) (v := .int (me1)) hx hb hts (by decide +kernel) hown hK hS h2_h1 rfl 2 (by decide) (hts (.fieldLink RX4 19 "PayLedger$Terms" "method" "I") (by decide +kernel)) rfl dX4_copy_18 ?_
  refine z_put (C := RX4) (T := TX4) (N := 7) (v := .int (me1)) hx hb hts (by decide +kernel) tyX4 tyX4_ok nmX4 hown hK hS h2_h0 rfl 2 (by decide) (hts (.fieldLink RX4 19 "PayLedger$Terms" "method" "I") (by decide +kernel)) rfl rfl rfl (Nat.le_of_ble_eq_true rfl) dX4_copy_21 (fun H locs hS => ?_)
  obtain ⟨w3, ew3⟩ : ∃ z : zw, z = va_up w2 (h0) (some (.inr (4, [.ref (t), .int (pe1), .int (me1), .long (re), .long (cr), .long (ex), .int (en)]))) := ⟨_, rfl⟩
  have hS : zS (zA w sz) D w3 s.heap H locs := by rw [ew3]; exact hS
  have h3_h0 : w3 (h0) = some (.inr (4, [.ref (t), .int (pe1), .int (me1), .long (re), .long (cr), .long (ex), .int (en)])) := by rw [ew3]; exact va_up_self _ _ _
  have h3_h1 : w3 (h1) = some (.inr (4, [.ref (t), .int (pe1), .int (me1), .long (re1), .long (cr1), .long (ex1), .int (en1)])) := by rw [ew3]; exact (va_up_ne _ _ hne).trans h2_h1
  refine lv_aload_n hx hb dX4_copy_24 rfl (lv_at hl 0 rfl) ?_
  refine lv_aload_n hx hb dX4_copy_25 rfl (lv_at hl 1 rfl) ?_
  refine z_get (C := RX4) (T := TX4) (N := 7) (v := .long (re1)) hx hb hts (by decide +kernel) hown hK hS h3_h1 rfl 3 (by decide) (hts (.fieldLink RX4 22 "PayLedger$Terms" "relief" "J") (by decide +kernel)) rfl dX4_copy_26 ?_
  refine z_put (C := RX4) (T := TX4) (N := 7) (v := .long (re1)) hx hb hts (by decide +kernel) tyX4 tyX4_ok nmX4 hown hK hS h3_h0 rfl 3 (by decide) (hts (.fieldLink RX4 22 "PayLedger$Terms" "relief" "J") (by decide +kernel)) rfl rfl rfl (Nat.le_of_ble_eq_true rfl) dX4_copy_29 (fun H locs hS => ?_)
  obtain ⟨w4, ew4⟩ : ∃ z : zw, z = va_up w3 (h0) (some (.inr (4, [.ref (t), .int (pe1), .int (me1), .long (re1), .long (cr), .long (ex), .int (en)]))) := ⟨_, rfl⟩
  have hS : zS (zA w sz) D w4 s.heap H locs := by rw [ew4]; exact hS
  have h4_h0 : w4 (h0) = some (.inr (4, [.ref (t), .int (pe1), .int (me1), .long (re1), .long (cr), .long (ex), .int (en)])) := by rw [ew4]; exact va_up_self _ _ _
  have h4_h1 : w4 (h1) = some (.inr (4, [.ref (t), .int (pe1), .int (me1), .long (re1), .long (cr1), .long (ex1), .int (en1)])) := by rw [ew4]; exact (va_up_ne _ _ hne).trans h3_h1
  refine lv_aload_n hx hb dX4_copy_32 rfl (lv_at hl 0 rfl) ?_
  refine lv_aload_n hx hb dX4_copy_33 rfl (lv_at hl 1 rfl) ?_
  refine z_get (C := RX4) (T := TX4) (N := 7) (v := .long (cr1)) hx hb hts (by decide +kernel) hown hK hS h4_h1 rfl 4 (by decide) (hts (.fieldLink RX4 26 "PayLedger$Terms" "credit" "J") (by decide +kernel)) rfl dX4_copy_34 ?_
  refine z_put (C := RX4) (T := TX4) (N := 7) (v := .long (cr1)) hx hb hts (by decide +kernel) tyX4 tyX4_ok nmX4 hown hK hS h4_h0 rfl 4 (by decide) (hts (.fieldLink RX4 26 "PayLedger$Terms" "credit" "J") (by decide +kernel)) rfl rfl rfl (Nat.le_of_ble_eq_true rfl) dX4_copy_37 (fun H locs hS => ?_)
  obtain ⟨w5, ew5⟩ : ∃ z : zw, z = va_up w4 (h0) (some (.inr (4, [.ref (t), .int (pe1), .int (me1), .long (re1), .long (cr1), .long (ex), .int (en)]))) := ⟨_, rfl⟩
  have hS : zS (zA w sz) D w5 s.heap H locs := by rw [ew5]; exact hS
  have h5_h0 : w5 (h0) = some (.inr (4, [.ref (t), .int (pe1), .int (me1), .long (re1), .long (cr1), .long (ex), .int (en)])) := by rw [ew5]; exact va_up_self _ _ _
  have h5_h1 : w5 (h1) = some (.inr (4, [.ref (t), .int (pe1), .int (me1), .long (re1), .long (cr1), .long (ex1), .int (en1)])) := by rw [ew5]; exact (va_up_ne _ _ hne).trans h4_h1
  refine lv_aload_n hx hb dX4_copy_40 rfl (lv_at hl 0 rfl) ?_
  refine lv_aload_n hx hb dX4_copy_41 rfl (lv_at hl 1 rfl) ?_
  refine z_get (C := RX4) (T := TX4) (N := 7) (v := .long (ex1)) hx hb hts (by decide +kernel) hown hK hS h5_h1 rfl 5 (by decide) (hts (.fieldLink RX4 29 "PayLedger$Terms" "extra" "J") (by decide +kernel)) rfl dX4_copy_42 ?_
  refine z_put (C := RX4) (T := TX4) (N := 7) (v := .long (ex1)) hx hb hts (by decide +kernel) tyX4 tyX4_ok nmX4 hown hK hS h5_h0 rfl 5 (by decide) (hts (.fieldLink RX4 29 "PayLedger$Terms" "extra" "J") (by decide +kernel)) rfl rfl rfl (Nat.le_of_ble_eq_true rfl) dX4_copy_45 (fun H locs hS => ?_)
  obtain ⟨w6, ew6⟩ : ∃ z : zw, z = va_up w5 (h0) (some (.inr (4, [.ref (t), .int (pe1), .int (me1), .long (re1), .long (cr1), .long (ex1), .int (en)]))) := ⟨_, rfl⟩
  have hS : zS (zA w sz) D w6 s.heap H locs := by rw [ew6]; exact hS
  have h6_h0 : w6 (h0) = some (.inr (4, [.ref (t), .int (pe1), .int (me1), .long (re1), .long (cr1), .long (ex1), .int (en)])) := by rw [ew6]; exact va_up_self _ _ _
  have h6_h1 : w6 (h1) = some (.inr (4, [.ref (t), .int (pe1), .int (me1), .long (re1), .long (cr1), .long (ex1), .int (en1)])) := by rw [ew6]; exact (va_up_ne _ _ hne).trans h5_h1
  refine lv_aload_n hx hb dX4_copy_48 rfl (lv_at hl 0 rfl) ?_
  refine lv_aload_n hx hb dX4_copy_49 rfl (lv_at hl 1 rfl) ?_
  refine z_get (C := RX4) (T := TX4) (N := 7) (v := .int (en1)) hx hb hts (by decide +kernel) hown hK hS h6_h1 rfl 6 (by decide) (hts (.fieldLink RX4 32 "PayLedger$Terms" "enrolled" "I") (by decide +kernel)) rfl dX4_copy_50 ?_
  refine z_put (C := RX4) (T := TX4) (N := 7) (v := .int (en1)) hx hb hts (by decide +kernel) tyX4 tyX4_ok nmX4 hown hK hS h6_h0 rfl 6 (by decide) (hts (.fieldLink RX4 32 "PayLedger$Terms" "enrolled" "I") (by decide +kernel)) rfl rfl rfl (Nat.le_of_ble_eq_true rfl) dX4_copy_53 (fun H locs hS => ?_)
  obtain ⟨w7, ew7⟩ : ∃ z : zw, z = va_up w6 (h0) (some (.inr (4, [.ref (t), .int (pe1), .int (me1), .long (re1), .long (cr1), .long (ex1), .int (en1)]))) := ⟨_, rfl⟩
  have hS : zS (zA w sz) D w7 s.heap H locs := by rw [ew7]; exact hS
  have h7_h0 : w7 (h0) = some (.inr (4, [.ref (t), .int (pe1), .int (me1), .long (re1), .long (cr1), .long (ex1), .int (en1)])) := by rw [ew7]; exact va_up_self _ _ _
  have h7_h1 : w7 (h1) = some (.inr (4, [.ref (t), .int (pe1), .int (me1), .long (re1), .long (cr1), .long (ex1), .int (en1)])) := by rw [ew7]; exact (va_up_ne _ _ hne).trans h6_h1
  have hex : zEx w w7 [(h0, (.inr (4, [.ref (t), .int (pe1), .int (me1), .long (re1), .long (cr1), .long (ex1), .int (en1)])))] := ⟨(zm1 h7_h0 zm0), fun a9 h9 => by rw [ew7, va_up_ne _ _ (show a9 ≠ h0 from h9 (h0, (.inr (4, [.ref (t), .int (pe1), .int (me1), .long (re1), .long (cr1), .long (ex1), .int (en1)]))) (List.mem_of_getElem? (i := 0) rfl)), ew6, va_up_ne _ _ (show a9 ≠ h0 from h9 (h0, (.inr (4, [.ref (t), .int (pe1), .int (me1), .long (re1), .long (cr1), .long (ex1), .int (en1)]))) (List.mem_of_getElem? (i := 0) rfl)), ew5, va_up_ne _ _ (show a9 ≠ h0 from h9 (h0, (.inr (4, [.ref (t), .int (pe1), .int (me1), .long (re1), .long (cr1), .long (ex1), .int (en1)]))) (List.mem_of_getElem? (i := 0) rfl)), ew4, va_up_ne _ _ (show a9 ≠ h0 from h9 (h0, (.inr (4, [.ref (t), .int (pe1), .int (me1), .long (re1), .long (cr1), .long (ex1), .int (en1)]))) (List.mem_of_getElem? (i := 0) rfl)), ew3, va_up_ne _ _ (show a9 ≠ h0 from h9 (h0, (.inr (4, [.ref (t), .int (pe1), .int (me1), .long (re1), .long (cr1), .long (ex1), .int (en1)]))) (List.mem_of_getElem? (i := 0) rfl)), ew2, va_up_ne _ _ (show a9 ≠ h0 from h9 (h0, (.inr (4, [.ref (t), .int (pe1), .int (me1), .long (re1), .long (cr1), .long (ex1), .int (en1)]))) (List.mem_of_getElem? (i := 0) rfl)), ew1, va_up_ne _ _ (show a9 ≠ h0 from h9 (h0, (.inr (4, [.ref (t), .int (pe1), .int (me1), .long (re1), .long (cr1), .long (ex1), .int (en1)]))) (List.mem_of_getElem? (i := 0) rfl))]⟩
  exact z_vret hx hb hr hlocks hS (Nat.le_of_ble_eq_true rfl) (Nat.le_of_ble_eq_true rfl) dX4_copy_56 ⟨rfl, hex⟩
set_option maxHeartbeats 4000000 in
set_option maxRecDepth 100000 in
theorem c_X4_put (l : Launch) (D : va_G) (cs : Nat → ClassId) (w : zw) (sz : Nat) (h0 : Nat) (tb : Option Nat) (pe me : Int32) (re cr ex : Int64) (en : Int32) (what : Int32) (v : Int64)  (h_o : w (h0) = some (.inr (4, [va_rf (tb), .int (pe), .int (me), .long (re), .long (cr), .long (ex), .int (en)]))) : zM l D cs yX4_put wsX4_put 0 0 0 w sz [.ref (h0), .int (what), .long (v)] (fun r w2 => r = none ∧ zEx w w2 [(h0, .inr (4, zPutT (va_rf tb) pe me re cr ex en what v))]) := by
  refine z_met (cc := cX4_put) (maxL := 4) (ret := none) (by decide) rfl (Nat.le_of_ble_eq_true rfl) ?_
  intro p e s m below meth c hx hb hr hml hown hts hlocks hnm hsz hK hE hS ls hl
  have hl : lv_has ls 4 [(0, .ref (h0)), (1, .int (what)), (2, .long (v))] := hl
  refine lv_iload_n hx hb dX4_put_0 rfl (lv_at hl 1 rfl) ?_
  by_cases t1_0 : what = 0
  · refine lv_tableIn (off := 39) (tgt := 40) hx hb dX4_put_1 (by rw [t1_0]; decide) (by rw [t1_0]; decide) (by rw [t1_0]; rfl) (by decide) ?_
    refine lv_aload_n hx hb dX4_put_40 rfl (lv_at hl 0 rfl) ?_
    refine lv_lload_n hx hb dX4_put_41 rfl (lv_at hl 2 rfl) ?_
    refine lv_l2i (v := ((v : Int64).toInt32)) hx hb dX4_put_42 rfl ?_
    refine z_put (C := RX4) (T := TX4) (N := 7) (v := .int (((v : Int64).toInt32))) hx hb hts (by decide +kernel) tyX4 tyX4_ok nmX4 hown hK hS h_o rfl 2 (by decide) (hts (.fieldLink RX4 19 "PayLedger$Terms" "method" "I") (by decide +kernel)) rfl rfl rfl (Nat.le_of_ble_eq_true rfl) dX4_put_43 (fun H locs hS => ?_)
    obtain ⟨w1, ew1⟩ : ∃ z : zw, z = va_up w (h0) (some (.inr (4, [va_rf (tb), .int (pe), .int (((v : Int64).toInt32)), .long (re), .long (cr), .long (ex), .int (en)]))) := ⟨_, rfl⟩
    have hS : zS (zA w sz) D w1 s.heap H locs := by rw [ew1]; exact hS
    have h1_h0 : w1 (h0) = some (.inr (4, [va_rf (tb), .int (pe), .int (((v : Int64).toInt32)), .long (re), .long (cr), .long (ex), .int (en)])) := by rw [ew1]; exact va_up_self _ _ _
    refine lv_goto (tgt := 82) hx hb dX4_put_46 (by decide) ?_
    have hex : zEx w w1 [(h0, (.inr (4, [va_rf (tb), .int (pe), .int (((v : Int64).toInt32)), .long (re), .long (cr), .long (ex), .int (en)])))] := ⟨(zm1 h1_h0 zm0), fun a9 h9 => by rw [ew1, va_up_ne _ _ (show a9 ≠ h0 from h9 (h0, (.inr (4, [va_rf (tb), .int (pe), .int (((v : Int64).toInt32)), .long (re), .long (cr), .long (ex), .int (en)]))) (List.mem_of_getElem? (i := 0) rfl))]⟩
    exact z_vret hx hb hr hlocks hS (Nat.le_of_ble_eq_true rfl) (Nat.le_of_ble_eq_true rfl) dX4_put_82 ⟨rfl, by rw [show zPutT (va_rf tb) pe me re cr ex en what v = [va_rf tb, .int pe, .int v.toInt32, .long re, .long cr, .long ex, .int en] from (by simp only [zPutT, t1_0]; rfl)]; exact hex⟩
  by_cases t1_1 : what = 1
  · refine lv_tableIn (off := 48) (tgt := 49) hx hb dX4_put_1 (by rw [t1_1]; decide) (by rw [t1_1]; decide) (by rw [t1_1]; rfl) (by decide) ?_
    refine lv_aload_n hx hb dX4_put_49 rfl (lv_at hl 0 rfl) ?_
    refine lv_lload_n hx hb dX4_put_50 rfl (lv_at hl 2 rfl) ?_
    refine z_put (C := RX4) (T := TX4) (N := 7) (v := .long (v)) hx hb hts (by decide +kernel) tyX4 tyX4_ok nmX4 hown hK hS h_o rfl 3 (by decide) (hts (.fieldLink RX4 22 "PayLedger$Terms" "relief" "J") (by decide +kernel)) rfl rfl rfl (Nat.le_of_ble_eq_true rfl) dX4_put_51 (fun H locs hS => ?_)
    obtain ⟨w2, ew2⟩ : ∃ z : zw, z = va_up w (h0) (some (.inr (4, [va_rf (tb), .int (pe), .int (me), .long (v), .long (cr), .long (ex), .int (en)]))) := ⟨_, rfl⟩
    have hS : zS (zA w sz) D w2 s.heap H locs := by rw [ew2]; exact hS
    have h2_h0 : w2 (h0) = some (.inr (4, [va_rf (tb), .int (pe), .int (me), .long (v), .long (cr), .long (ex), .int (en)])) := by rw [ew2]; exact va_up_self _ _ _
    refine lv_goto (tgt := 82) hx hb dX4_put_54 (by decide) ?_
    have hex : zEx w w2 [(h0, (.inr (4, [va_rf (tb), .int (pe), .int (me), .long (v), .long (cr), .long (ex), .int (en)])))] := ⟨(zm1 h2_h0 zm0), fun a9 h9 => by rw [ew2, va_up_ne _ _ (show a9 ≠ h0 from h9 (h0, (.inr (4, [va_rf (tb), .int (pe), .int (me), .long (v), .long (cr), .long (ex), .int (en)]))) (List.mem_of_getElem? (i := 0) rfl))]⟩
    exact z_vret hx hb hr hlocks hS (Nat.le_of_ble_eq_true rfl) (Nat.le_of_ble_eq_true rfl) dX4_put_82 ⟨rfl, by rw [show zPutT (va_rf tb) pe me re cr ex en what v = [va_rf tb, .int pe, .int me, .long v, .long cr, .long ex, .int en] from (by simp only [zPutT, t1_1]; rfl)]; exact hex⟩
  by_cases t1_2 : what = 2
  · refine lv_tableIn (off := 56) (tgt := 57) hx hb dX4_put_1 (by rw [t1_2]; decide) (by rw [t1_2]; decide) (by rw [t1_2]; rfl) (by decide) ?_
    refine lv_aload_n hx hb dX4_put_57 rfl (lv_at hl 0 rfl) ?_
    refine lv_lload_n hx hb dX4_put_58 rfl (lv_at hl 2 rfl) ?_
    refine z_put (C := RX4) (T := TX4) (N := 7) (v := .long (v)) hx hb hts (by decide +kernel) tyX4 tyX4_ok nmX4 hown hK hS h_o rfl 4 (by decide) (hts (.fieldLink RX4 26 "PayLedger$Terms" "credit" "J") (by decide +kernel)) rfl rfl rfl (Nat.le_of_ble_eq_true rfl) dX4_put_59 (fun H locs hS => ?_)
    obtain ⟨w3, ew3⟩ : ∃ z : zw, z = va_up w (h0) (some (.inr (4, [va_rf (tb), .int (pe), .int (me), .long (re), .long (v), .long (ex), .int (en)]))) := ⟨_, rfl⟩
    have hS : zS (zA w sz) D w3 s.heap H locs := by rw [ew3]; exact hS
    have h3_h0 : w3 (h0) = some (.inr (4, [va_rf (tb), .int (pe), .int (me), .long (re), .long (v), .long (ex), .int (en)])) := by rw [ew3]; exact va_up_self _ _ _
    refine lv_goto (tgt := 82) hx hb dX4_put_62 (by decide) ?_
    have hex : zEx w w3 [(h0, (.inr (4, [va_rf (tb), .int (pe), .int (me), .long (re), .long (v), .long (ex), .int (en)])))] := ⟨(zm1 h3_h0 zm0), fun a9 h9 => by rw [ew3, va_up_ne _ _ (show a9 ≠ h0 from h9 (h0, (.inr (4, [va_rf (tb), .int (pe), .int (me), .long (re), .long (v), .long (ex), .int (en)]))) (List.mem_of_getElem? (i := 0) rfl))]⟩
    exact z_vret hx hb hr hlocks hS (Nat.le_of_ble_eq_true rfl) (Nat.le_of_ble_eq_true rfl) dX4_put_82 ⟨rfl, by rw [show zPutT (va_rf tb) pe me re cr ex en what v = [va_rf tb, .int pe, .int me, .long re, .long v, .long ex, .int en] from (by simp only [zPutT, t1_2]; rfl)]; exact hex⟩
  by_cases t1_3 : what = 3
  · refine lv_tableIn (off := 64) (tgt := 65) hx hb dX4_put_1 (by rw [t1_3]; decide) (by rw [t1_3]; decide) (by rw [t1_3]; rfl) (by decide) ?_
    refine lv_aload_n hx hb dX4_put_65 rfl (lv_at hl 0 rfl) ?_
    refine lv_lload_n hx hb dX4_put_66 rfl (lv_at hl 2 rfl) ?_
    refine z_put (C := RX4) (T := TX4) (N := 7) (v := .long (v)) hx hb hts (by decide +kernel) tyX4 tyX4_ok nmX4 hown hK hS h_o rfl 5 (by decide) (hts (.fieldLink RX4 29 "PayLedger$Terms" "extra" "J") (by decide +kernel)) rfl rfl rfl (Nat.le_of_ble_eq_true rfl) dX4_put_67 (fun H locs hS => ?_)
    obtain ⟨w4, ew4⟩ : ∃ z : zw, z = va_up w (h0) (some (.inr (4, [va_rf (tb), .int (pe), .int (me), .long (re), .long (cr), .long (v), .int (en)]))) := ⟨_, rfl⟩
    have hS : zS (zA w sz) D w4 s.heap H locs := by rw [ew4]; exact hS
    have h4_h0 : w4 (h0) = some (.inr (4, [va_rf (tb), .int (pe), .int (me), .long (re), .long (cr), .long (v), .int (en)])) := by rw [ew4]; exact va_up_self _ _ _
    refine lv_goto (tgt := 82) hx hb dX4_put_70 (by decide) ?_
    have hex : zEx w w4 [(h0, (.inr (4, [va_rf (tb), .int (pe), .int (me), .long (re), .long (cr), .long (v), .int (en)])))] := ⟨(zm1 h4_h0 zm0), fun a9 h9 => by rw [ew4, va_up_ne _ _ (show a9 ≠ h0 from h9 (h0, (.inr (4, [va_rf (tb), .int (pe), .int (me), .long (re), .long (cr), .long (v), .int (en)]))) (List.mem_of_getElem? (i := 0) rfl))]⟩
    exact z_vret hx hb hr hlocks hS (Nat.le_of_ble_eq_true rfl) (Nat.le_of_ble_eq_true rfl) dX4_put_82 ⟨rfl, by rw [show zPutT (va_rf tb) pe me re cr ex en what v = [va_rf tb, .int pe, .int me, .long re, .long cr, .long v, .int en] from (by simp only [zPutT, t1_3]; rfl)]; exact hex⟩
  by_cases t1_4 : what = 4
  · refine lv_tableIn (off := 81) (tgt := 82) hx hb dX4_put_1 (by rw [t1_4]; decide) (by rw [t1_4]; decide) (by rw [t1_4]; rfl) (by decide) ?_
    have hex : zEx w w [(h0, (.inr (4, [va_rf (tb), .int (pe), .int (me), .long (re), .long (cr), .long (ex), .int (en)])))] := ⟨(zm1 h_o zm0), fun a9 h9 => rfl⟩
    exact z_vret hx hb hr hlocks hS (Nat.le_of_ble_eq_true rfl) (Nat.le_of_ble_eq_true rfl) dX4_put_82 ⟨rfl, by rw [show zPutT (va_rf tb) pe me re cr ex en what v = [va_rf tb, .int pe, .int me, .long re, .long cr, .long ex, .int en] from (by simp only [zPutT, t1_4]; rfl)]; exact hex⟩
  by_cases t1_5 : what = 5
  · refine lv_tableIn (off := 72) (tgt := 73) hx hb dX4_put_1 (by rw [t1_5]; decide) (by rw [t1_5]; decide) (by rw [t1_5]; rfl) (by decide) ?_
    refine lv_aload_n hx hb dX4_put_73 rfl (lv_at hl 0 rfl) ?_
    refine lv_lload_n hx hb dX4_put_74 rfl (lv_at hl 2 rfl) ?_
    refine lv_l2i (v := ((v : Int64).toInt32)) hx hb dX4_put_75 rfl ?_
    refine z_put (C := RX4) (T := TX4) (N := 7) (v := .int (((v : Int64).toInt32))) hx hb hts (by decide +kernel) tyX4 tyX4_ok nmX4 hown hK hS h_o rfl 1 (by decide) (hts (.fieldLink RX4 15 "PayLedger$Terms" "periods" "I") (by decide +kernel)) rfl rfl rfl (Nat.le_of_ble_eq_true rfl) dX4_put_76 (fun H locs hS => ?_)
    obtain ⟨w5, ew5⟩ : ∃ z : zw, z = va_up w (h0) (some (.inr (4, [va_rf (tb), .int (((v : Int64).toInt32)), .int (me), .long (re), .long (cr), .long (ex), .int (en)]))) := ⟨_, rfl⟩
    have hS : zS (zA w sz) D w5 s.heap H locs := by rw [ew5]; exact hS
    have h5_h0 : w5 (h0) = some (.inr (4, [va_rf (tb), .int (((v : Int64).toInt32)), .int (me), .long (re), .long (cr), .long (ex), .int (en)])) := by rw [ew5]; exact va_up_self _ _ _
    refine lv_goto (tgt := 82) hx hb dX4_put_79 (by decide) ?_
    have hex : zEx w w5 [(h0, (.inr (4, [va_rf (tb), .int (((v : Int64).toInt32)), .int (me), .long (re), .long (cr), .long (ex), .int (en)])))] := ⟨(zm1 h5_h0 zm0), fun a9 h9 => by rw [ew5, va_up_ne _ _ (show a9 ≠ h0 from h9 (h0, (.inr (4, [va_rf (tb), .int (((v : Int64).toInt32)), .int (me), .long (re), .long (cr), .long (ex), .int (en)]))) (List.mem_of_getElem? (i := 0) rfl))]⟩
    exact z_vret hx hb hr hlocks hS (Nat.le_of_ble_eq_true rfl) (Nat.le_of_ble_eq_true rfl) dX4_put_82 ⟨rfl, by rw [show zPutT (va_rf tb) pe me re cr ex en what v = [va_rf tb, .int v.toInt32, .int me, .long re, .long cr, .long ex, .int en] from (by simp only [zPutT, t1_5]; rfl)]; exact hex⟩
  refine lv_tableOut (tgt := 82) hx hb dX4_put_1 (by have q0 := lv_neT (a := 0) t1_0 rfl; have q1 := lv_neT (a := 1) t1_1 rfl; have q2 := lv_neT (a := 2) t1_2 rfl; have q3 := lv_neT (a := 3) t1_3 rfl; have q4 := lv_neT (a := 4) t1_4 rfl; have q5 := lv_neT (a := 5) t1_5 rfl; omega) (by decide) ?_
  have hex : zEx w w [(h0, (.inr (4, [va_rf (tb), .int (pe), .int (me), .long (re), .long (cr), .long (ex), .int (en)])))] := ⟨(zm1 h_o zm0), fun a9 h9 => rfl⟩
  exact z_vret hx hb hr hlocks hS (Nat.le_of_ble_eq_true rfl) (Nat.le_of_ble_eq_true rfl) dX4_put_82 ⟨rfl, by rw [show zPutT (va_rf tb) pe me re cr ex en what v = [va_rf tb, .int pe, .int me, .long re, .long cr, .long ex, .int en] from (by simp only [zPutT, t1_0, t1_1, t1_2, t1_3, t1_5, if_false])]; exact hex⟩
set_option maxHeartbeats 4000000 in
set_option maxRecDepth 100000 in
theorem c_X4_has (l : Launch) (D : va_G) (cs : Nat → ClassId) (w : zw) (sz : Nat) (h0 : Nat) (tb : Option Nat) (pe me : Int32) (re cr ex : Int64) (en : Int32) (k : Int32)  (h_o : w (h0) = some (.inr (4, [va_rf (tb), .int (pe), .int (me), .long (re), .long (cr), .long (ex), .int (en)]))) : zMr l D cs yX4_has wsX4_has 0 w sz [.ref (h0), .int (k)] (.int (zHas en k)) := by
  refine z_met (cc := cX4_has) (maxL := 2) (ret := (some .boolean)) (by decide) rfl (Nat.le_of_ble_eq_true rfl) ?_
  intro p e s m below meth c hx hb hr hml hown hts hlocks hnm hsz hK hE hS ls hl
  have hl : lv_has ls 2 [(0, .ref (h0)), (1, .int (k))] := hl
  refine lv_aload_n hx hb dX4_has_0 rfl (lv_at hl 0 rfl) ?_
  refine z_get (C := RX4) (T := TX4) (N := 7) (v := .int (en)) hx hb hts (by decide +kernel) hown hK hS h_o rfl 6 (by decide) (hts (.fieldLink RX4 32 "PayLedger$Terms" "enrolled" "I") (by decide +kernel)) rfl dX4_has_1 ?_
  refine lv_iload_n hx hb dX4_has_4 rfl (lv_at hl 1 rfl) ?_
  refine lv_ishr hx hb dX4_has_5 ?_
  refine lv_iconst (v := 1) hx hb dX4_has_6 (by decide) ?_
  refine lv_iand hx hb dX4_has_7 ?_
  refine lv_if_eq (tgt := 15) hx hb dX4_has_8 (by decide) (fun c8 => ?_) (fun c8 => ?_)
  · refine lv_iconst (v := 0) hx hb dX4_has_15 (by decide) ?_
    exact z_zret hx hb hr hlocks (zb_narrow (Or.inl rfl)) hS (Nat.le_of_ble_eq_true rfl) (Nat.le_of_ble_eq_true rfl) dX4_has_16 ⟨by rw [zHas, zB_f (fun q9 => q9 c8)], rfl⟩
  · refine lv_iconst (v := 1) hx hb dX4_has_11 (by decide) ?_
    refine lv_goto (tgt := 16) hx hb dX4_has_12 (by decide) ?_
    exact z_zret hx hb hr hlocks (zb_narrow (Or.inr rfl)) hS (Nat.le_of_ble_eq_true rfl) (Nat.le_of_ble_eq_true rfl) dX4_has_16 ⟨by rw [zHas, zB_t c8], rfl⟩
set_option maxHeartbeats 4000000 in
set_option maxRecDepth 100000 in
theorem c_X4_turn (l : Launch) (D : va_G) (cs : Nat → ClassId) (w : zw) (sz : Nat) (h0 : Nat) (tb : Option Nat) (pe me : Int32) (re cr ex : Int64) (en : Int32) (k : Int32)  (h_o : w (h0) = some (.inr (4, [va_rf (tb), .int (pe), .int (me), .long (re), .long (cr), .long (ex), .int (en)]))) : zM l D cs yX4_turn wsX4_turn 0 0 0 w sz [.ref (h0), .int (k)] (fun r w2 => r = none ∧ zEx w w2 [(h0, .inr (4, [va_rf tb, .int pe, .int me, .long re, .long cr, .long ex, .int (en ^^^ (1 <<< (k &&& 31)))]))]) := by
  refine z_met (cc := cX4_turn) (maxL := 2) (ret := none) (by decide) rfl (Nat.le_of_ble_eq_true rfl) ?_
  intro p e s m below meth c hx hb hr hml hown hts hlocks hnm hsz hK hE hS ls hl
  have hl : lv_has ls 2 [(0, .ref (h0)), (1, .int (k))] := hl
  refine lv_aload_n hx hb dX4_turn_0 rfl (lv_at hl 0 rfl) ?_
  refine lv_dup hx hb dX4_turn_1 rfl ?_
  refine z_get (C := RX4) (T := TX4) (N := 7) (v := .int (en)) hx hb hts (by decide +kernel) hown hK hS h_o rfl 6 (by decide) (hts (.fieldLink RX4 32 "PayLedger$Terms" "enrolled" "I") (by decide +kernel)) rfl dX4_turn_2 ?_
  refine lv_iconst (v := 1) hx hb dX4_turn_5 (by decide) ?_
  refine lv_iload_n hx hb dX4_turn_6 rfl (lv_at hl 1 rfl) ?_
  refine lv_ishl hx hb dX4_turn_7 ?_
  refine lv_ixor hx hb dX4_turn_8 ?_
  refine z_put (C := RX4) (T := TX4) (N := 7) (v := .int ((en ^^^ (1 <<< (k &&& 31))))) hx hb hts (by decide +kernel) tyX4 tyX4_ok nmX4 hown hK hS h_o rfl 6 (by decide) (hts (.fieldLink RX4 32 "PayLedger$Terms" "enrolled" "I") (by decide +kernel)) rfl rfl rfl (Nat.le_of_ble_eq_true rfl) dX4_turn_9 (fun H locs hS => ?_)
  obtain ⟨w1, ew1⟩ : ∃ z : zw, z = va_up w (h0) (some (.inr (4, [va_rf (tb), .int (pe), .int (me), .long (re), .long (cr), .long (ex), .int ((en ^^^ (1 <<< (k &&& 31))))]))) := ⟨_, rfl⟩
  have hS : zS (zA w sz) D w1 s.heap H locs := by rw [ew1]; exact hS
  have h1_h0 : w1 (h0) = some (.inr (4, [va_rf (tb), .int (pe), .int (me), .long (re), .long (cr), .long (ex), .int ((en ^^^ (1 <<< (k &&& 31))))])) := by rw [ew1]; exact va_up_self _ _ _
  have hex : zEx w w1 [(h0, (.inr (4, [va_rf (tb), .int (pe), .int (me), .long (re), .long (cr), .long (ex), .int ((en ^^^ (1 <<< (k &&& 31))))])))] := ⟨(zm1 h1_h0 zm0), fun a9 h9 => by rw [ew1, va_up_ne _ _ (show a9 ≠ h0 from h9 (h0, (.inr (4, [va_rf (tb), .int (pe), .int (me), .long (re), .long (cr), .long (ex), .int ((en ^^^ (1 <<< (k &&& 31))))]))) (List.mem_of_getElem? (i := 0) rfl))]⟩
  exact z_vret hx hb hr hlocks hS (Nat.le_of_ble_eq_true rfl) (Nat.le_of_ble_eq_true rfl) dX4_turn_12 ⟨rfl, hex⟩
set_option maxHeartbeats 4000000 in
set_option maxRecDepth 100000 in
theorem c_X4_dutyOf (l : Launch) (D : va_G) (cs : Nat → ClassId) (w : zw) (sz : Nat) (h0 t fl ra n : Nat) (F : Nat → Int64) (G : Nat → Int32) (tk : Int32) (pe me : Int32) (re cr ex : Int64) (en : Int32) (yearly : Int64) (hn : n ≤ 12) (h_o : w (h0) = some (.inr (4, [.ref (t), .int (pe), .int (me), .long (re), .long (cr), .long (ex), .int (en)]))) (h_t : w (t) = some (.inr (3, [.ref (fl), .ref (ra), .int (nI n), .int (tk)]))) (h_fl : w (fl) = some (eJ cs (12) (F))) (h_ra : w (ra) = some (eI cs (12) (G))) : zMr l D cs yX4_dutyOf wsX4_dutyOf 2 w sz [.ref (h0), .long (yearly)] (.long (zDuty F G n re cr yearly)) := by
  refine z_met (cc := cX4_dutyOf) (maxL := 7) (ret := (some .long)) (by decide) rfl (Nat.le_of_ble_eq_true rfl) ?_
  intro p e s m below meth c hx hb hr hml hown hts hlocks hnm hsz hK hE hS ls hl
  have hl : lv_has ls 7 [(0, .ref (h0)), (1, .long (yearly))] := hl
  refine lv_lconst (v := 0) hx hb dX4_dutyOf_0 (by decide) ?_
  refine lv_lload_n hx hb dX4_dutyOf_1 rfl (lv_at hl 1 rfl) ?_
  refine lv_aload_n hx hb dX4_dutyOf_2 rfl (lv_at hl 0 rfl) ?_
  refine z_get (C := RX4) (T := TX4) (N := 7) (v := .long (re)) hx hb hts (by decide +kernel) hown hK hS h_o rfl 3 (by decide) (hts (.fieldLink RX4 22 "PayLedger$Terms" "relief" "J") (by decide +kernel)) rfl dX4_dutyOf_3 ?_
  refine lv_lsub hx hb dX4_dutyOf_6 ?_
  refine va_mmax_long hx hb (by rw [hml]; exact hl.1.symm) hown (hts (.methodLink RX4 35 Lib.MathLoose.max_long.x) (by decide +kernel)) (hts (.static Lib.MathLoose.max_long.x) (by decide +kernel)) (hts (.initialized "java/lang/Math") (by decide +kernel)) (hts (.code Lib.MathLoose.max_long.x Lib.MathLoose.max_long.code 4 (some .long)) (by decide +kernel)) (Nat.le_of_ble_eq_true rfl) (Nat.le_of_ble_eq_true rfl) (Nat.le_of_ble_eq_true rfl) (Nat.le_of_ble_eq_true rfl) dX4_dutyOf_7 ?_
  refine z_tl (y := zMax0 (yearly - re)) rfl ?_
  refine lv_lstore_n (lv' := [(3, .long (zMax0 (yearly - re))), (0, .ref (h0)), (1, .long (yearly))]) hx hb dX4_dutyOf_10 rfl hl (by decide) rfl (fun ls hl => ?_)
  refine lv_aload_n hx hb dX4_dutyOf_11 rfl (lv_at hl 1 rfl) ?_
  refine z_get (C := RX4) (T := TX4) (N := 7) (v := .ref (t)) hx hb hts (by decide +kernel) hown hK hS h_o rfl 0 (by decide) (hts (.fieldLink RX4 9 "PayLedger$Terms" "table" "LPayLedger$Table;") (by decide +kernel)) rfl dX4_dutyOf_12 ?_
  refine lv_ifnonnull (tgt := 22) hx hb dX4_dutyOf_15 (by decide) ?_
  refine lv_aload_n hx hb dX4_dutyOf_22 rfl (lv_at hl 1 rfl) ?_
  refine z_get (C := RX4) (T := TX4) (N := 7) (v := .ref (t)) hx hb hts (by decide +kernel) hown hK hS h_o rfl 0 (by decide) (hts (.fieldLink RX4 9 "PayLedger$Terms" "table" "LPayLedger$Table;") (by decide +kernel)) rfl dX4_dutyOf_23 ?_
  refine lv_lload_n hx hb dX4_dutyOf_26 rfl (lv_at hl 0 rfl) ?_
  refine z_rV (As := [.long (zMax0 (yearly - re))]) (rest := []) (n := 1) ⟨hx, hb, hml, hown, hts⟩ (c_X3_taxOf l D cs w s.heap.size t fl ra n F G tk (zMax0 (yearly - re)) hn h_t h_fl h_ra) gX4_dutyOf_X3_taxOf rfl ⟨rfl, by decide +kernel, by decide +kernel, by decide +kernel⟩ ⟨Nat.le_of_ble_eq_true rfl, Nat.le_of_ble_eq_true rfl⟩ hK hE hS rfl h_t rfl hl.1 rfl (Nat.le_of_ble_eq_true rfl) dX4_dutyOf_27 ⟨Nat.le_of_ble_eq_true rfl, Nat.le_of_ble_eq_true rfl⟩ (fun H locs hS => ?_)
  refine lv_lstore (lv' := [(5, .long (zTax F G n (zMax0 (yearly - re)))), (3, .long (zMax0 (yearly - re))), (0, .ref (h0)), (1, .long (yearly))]) hx hb dX4_dutyOf_30 hl (by decide) rfl (fun ls hl => ?_)
  refine lv_lconst (v := 0) hx hb dX4_dutyOf_32 (by decide) ?_
  refine lv_lload hx hb dX4_dutyOf_33 (lv_at hl 0 rfl) ?_
  refine lv_aload_n hx hb dX4_dutyOf_35 rfl (lv_at hl 2 rfl) ?_
  refine z_get (C := RX4) (T := TX4) (N := 7) (v := .long (cr)) hx hb hts (by decide +kernel) hown hK hS h_o rfl 4 (by decide) (hts (.fieldLink RX4 26 "PayLedger$Terms" "credit" "J") (by decide +kernel)) rfl dX4_dutyOf_36 ?_
  refine lv_lsub hx hb dX4_dutyOf_39 ?_
  refine va_mmax_long hx hb (by rw [hml]; exact hl.1.symm) hown (hts (.methodLink RX4 35 Lib.MathLoose.max_long.x) (by decide +kernel)) (hts (.static Lib.MathLoose.max_long.x) (by decide +kernel)) (hts (.initialized "java/lang/Math") (by decide +kernel)) (hts (.code Lib.MathLoose.max_long.x Lib.MathLoose.max_long.code 4 (some .long)) (by decide +kernel)) (Nat.le_of_ble_eq_true rfl) (Nat.le_of_ble_eq_true rfl) (Nat.le_of_ble_eq_true rfl) (Nat.le_of_ble_eq_true rfl) dX4_dutyOf_40 ?_
  refine z_tl (y := zMax0 (zTax F G n (zMax0 (yearly - re)) - cr)) rfl ?_
  exact z_lret hx hb hr hlocks hS (Nat.le_of_ble_eq_true rfl) (Nat.le_of_ble_eq_true rfl) dX4_dutyOf_43 ⟨rfl, rfl⟩
set_option maxHeartbeats 4000000 in
set_option maxRecDepth 100000 in
theorem c_X1_init (l : Launch) (D : va_G) (cs : Nat → ClassId) (w : zw) (sz : Nat) (h0 : Nat) (dea so : Int32) (si ca bs : Int64) (hdea : dea = 0 ∨ dea = 1) (h_o : w (h0) = some (.inr (1, [.int (0), .int (0), .long (0), .long (0), .long (0)]))) : zM l D cs yX1_init wsX1_init 0 0 0 w sz [.ref (h0), .int (dea), .int (so), .long (si), .long (ca), .long (bs)] (fun r w2 => r = none ∧ zEx w w2 [(h0, .inr (1, [.int dea, .int so, .long si, .long ca, .long bs]))]) := by
  refine z_met (cc := cX1_init) (maxL := 9) (ret := none) (by decide) rfl (Nat.le_of_ble_eq_true rfl) ?_
  intro p e s m below meth c hx hb hr hml hown hts hlocks hnm hsz hK hE hS ls hl
  have hl : lv_has ls 9 [(0, .ref (h0)), (1, .int (dea)), (2, .int (so)), (3, .long (si)), (5, .long (ca)), (7, .long (bs))] := hl
  refine lv_aload_n hx hb dX1_init_0 rfl (lv_at hl 0 rfl) ?_
  refine W.objInit hx hb hown (hts (.methodLink RX1 3 objectInit) (by decide +kernel)) (hts (.instanceMethod objectInit) (by decide +kernel)) (hts (.code objectInit ⟨#[0xb1]⟩ 1 none) (by decide +kernel)) rfl (by rw [hml]; exact hl.1) rfl dX1_init_1 (Nat.le_of_ble_eq_true rfl) (Nat.le_of_ble_eq_true rfl) ?_
  refine W.eq (g2 := F0 m 4 ls []) rfl ?_
  refine lv_aload_n hx hb dX1_init_4 rfl (lv_at hl 0 rfl) ?_
  refine lv_iload_n hx hb dX1_init_5 rfl (lv_at hl 1 rfl) ?_
  refine z_putF (C := RX1) (T := TX1) (N := 5) (v := .int (dea)) hx hb hts (by decide +kernel) tyX1 tyX1_ok nmX1 hown hK hS h_o rfl 0 (by decide) (hts (.fieldLink RX1 9 "PayLedger$Deduction" "early" "Z") (by decide +kernel)) rfl hnm rfl (zb_narrow hdea) (zb_fits hdea) (Nat.le_of_ble_eq_true rfl) dX1_init_6 (fun H locs hS => ?_)
  obtain ⟨w1, ew1⟩ : ∃ z : zw, z = va_up w (h0) (some (.inr (1, [.int (dea), .int (0), .long (0), .long (0), .long (0)]))) := ⟨_, rfl⟩
  have hS : zS (zA w sz) D w1 s.heap H locs := by rw [ew1]; exact hS
  have h1_h0 : w1 (h0) = some (.inr (1, [.int (dea), .int (0), .long (0), .long (0), .long (0)])) := by rw [ew1]; exact va_up_self _ _ _
  refine lv_aload_n hx hb dX1_init_9 rfl (lv_at hl 0 rfl) ?_
  refine lv_iload_n hx hb dX1_init_10 rfl (lv_at hl 2 rfl) ?_
  refine z_putF (C := RX1) (T := TX1) (N := 5) (v := .int (so)) hx hb hts (by decide +kernel) tyX1 tyX1_ok nmX1 hown hK hS h1_h0 rfl 1 (by decide) (hts (.fieldLink RX1 15 "PayLedger$Deduction" "sort" "I") (by decide +kernel)) rfl hnm rfl rfl rfl (Nat.le_of_ble_eq_true rfl) dX1_init_11 (fun H locs hS => ?_)
  obtain ⟨w2, ew2⟩ : ∃ z : zw, z = va_up w1 (h0) (some (.inr (1, [.int (dea), .int (so), .long (0), .long (0), .long (0)]))) := ⟨_, rfl⟩
  have hS : zS (zA w sz) D w2 s.heap H locs := by rw [ew2]; exact hS
  have h2_h0 : w2 (h0) = some (.inr (1, [.int (dea), .int (so), .long (0), .long (0), .long (0)])) := by rw [ew2]; exact va_up_self _ _ _
  refine lv_aload_n hx hb dX1_init_14 rfl (lv_at hl 0 rfl) ?_
  refine lv_lload_n hx hb dX1_init_15 rfl (lv_at hl 3 rfl) ?_
  refine z_putF (C := RX1) (T := TX1) (N := 5) (v := .long (si)) hx hb hts (by decide +kernel) tyX1 tyX1_ok nmX1 hown hK hS h2_h0 rfl 2 (by decide) (hts (.fieldLink RX1 19 "PayLedger$Deduction" "size" "J") (by decide +kernel)) rfl hnm rfl rfl rfl (Nat.le_of_ble_eq_true rfl) dX1_init_16 (fun H locs hS => ?_)
  obtain ⟨w3, ew3⟩ : ∃ z : zw, z = va_up w2 (h0) (some (.inr (1, [.int (dea), .int (so), .long (si), .long (0), .long (0)]))) := ⟨_, rfl⟩
  have hS : zS (zA w sz) D w3 s.heap H locs := by rw [ew3]; exact hS
  have h3_h0 : w3 (h0) = some (.inr (1, [.int (dea), .int (so), .long (si), .long (0), .long (0)])) := by rw [ew3]; exact va_up_self _ _ _
  refine lv_aload_n hx hb dX1_init_19 rfl (lv_at hl 0 rfl) ?_
  refine lv_lload hx hb dX1_init_20 (lv_at hl 4 rfl) ?_
  refine z_putF (C := RX1) (T := TX1) (N := 5) (v := .long (ca)) hx hb hts (by decide +kernel) tyX1 tyX1_ok nmX1 hown hK hS h3_h0 rfl 3 (by decide) (hts (.fieldLink RX1 23 "PayLedger$Deduction" "cap" "J") (by decide +kernel)) rfl hnm rfl rfl rfl (Nat.le_of_ble_eq_true rfl) dX1_init_22 (fun H locs hS => ?_)
  obtain ⟨w4, ew4⟩ : ∃ z : zw, z = va_up w3 (h0) (some (.inr (1, [.int (dea), .int (so), .long (si), .long (ca), .long (0)]))) := ⟨_, rfl⟩
  have hS : zS (zA w sz) D w4 s.heap H locs := by rw [ew4]; exact hS
  have h4_h0 : w4 (h0) = some (.inr (1, [.int (dea), .int (so), .long (si), .long (ca), .long (0)])) := by rw [ew4]; exact va_up_self _ _ _
  refine lv_aload_n hx hb dX1_init_25 rfl (lv_at hl 0 rfl) ?_
  refine lv_lload hx hb dX1_init_26 (lv_at hl 5 rfl) ?_
  refine z_putF (C := RX1) (T := TX1) (N := 5) (v := .long (bs)) hx hb hts (by decide +kernel) tyX1 tyX1_ok nmX1 hown hK hS h4_h0 rfl 4 (by decide) (hts (.fieldLink RX1 26 "PayLedger$Deduction" "base" "J") (by decide +kernel)) rfl hnm rfl rfl rfl (Nat.le_of_ble_eq_true rfl) dX1_init_28 (fun H locs hS => ?_)
  obtain ⟨w5, ew5⟩ : ∃ z : zw, z = va_up w4 (h0) (some (.inr (1, [.int (dea), .int (so), .long (si), .long (ca), .long (bs)]))) := ⟨_, rfl⟩
  have hS : zS (zA w sz) D w5 s.heap H locs := by rw [ew5]; exact hS
  have h5_h0 : w5 (h0) = some (.inr (1, [.int (dea), .int (so), .long (si), .long (ca), .long (bs)])) := by rw [ew5]; exact va_up_self _ _ _
  have hex : zEx w w5 [(h0, (.inr (1, [.int (dea), .int (so), .long (si), .long (ca), .long (bs)])))] := ⟨(zm1 h5_h0 zm0), fun a9 h9 => by rw [ew5, va_up_ne _ _ (show a9 ≠ h0 from h9 (h0, (.inr (1, [.int (dea), .int (so), .long (si), .long (ca), .long (bs)]))) (List.mem_of_getElem? (i := 0) rfl)), ew4, va_up_ne _ _ (show a9 ≠ h0 from h9 (h0, (.inr (1, [.int (dea), .int (so), .long (si), .long (ca), .long (bs)]))) (List.mem_of_getElem? (i := 0) rfl)), ew3, va_up_ne _ _ (show a9 ≠ h0 from h9 (h0, (.inr (1, [.int (dea), .int (so), .long (si), .long (ca), .long (bs)]))) (List.mem_of_getElem? (i := 0) rfl)), ew2, va_up_ne _ _ (show a9 ≠ h0 from h9 (h0, (.inr (1, [.int (dea), .int (so), .long (si), .long (ca), .long (bs)]))) (List.mem_of_getElem? (i := 0) rfl)), ew1, va_up_ne _ _ (show a9 ≠ h0 from h9 (h0, (.inr (1, [.int (dea), .int (so), .long (si), .long (ca), .long (bs)]))) (List.mem_of_getElem? (i := 0) rfl))]⟩
  exact z_vret hx hb hr hlocks hS (Nat.le_of_ble_eq_true rfl) (Nat.le_of_ble_eq_true rfl) dX1_init_31 ⟨rfl, hex⟩
set_option maxHeartbeats 4000000 in
set_option maxRecDepth 100000 in
theorem c_X1_withoutCap (l : Launch) (D : va_G) (cs : Nat → ClassId) (w : zw) (sz : Nat) (dd pq : Nat) (dea so : Int32) (si ca bs : Int64) (te pp : Nat) (bo br : Int32) (gr ea inc ba mo la ne pa : Int64) (ah : Int64)  (h_d : w (dd) = some (.inr (1, [.int (dea), .int (so), .long (si), .long (ca), .long (bs)]))) (h_p : w (pq) = some (.inr (2, [.ref (te), .ref (pp), .int (bo), .int (br), .long (gr), .long (ea), .long (inc), .long (ba), .long (mo), .long (la), .long (ne), .long (pa)]))) : zMr l D cs yX1_withoutCap wsX1_withoutCap 1 w sz [.ref (dd), .ref (pq), .long (ah)] (.long (zWant so si bs bo gr ah)) := by
  refine z_met (cc := cX1_withoutCap) (maxL := 6) (ret := (some .long)) (by decide) rfl (Nat.le_of_ble_eq_true rfl) ?_
  intro p e s m below meth c hx hb hr hml hown hts hlocks hnm hsz hK hE hS ls hl
  have hl : lv_has ls 6 [(0, .ref (dd)), (1, .ref (pq)), (2, .long (ah))] := hl
  refine lv_aload_n hx hb dX1_withoutCap_0 rfl (lv_at hl 0 rfl) ?_
  refine z_get (C := RX1) (T := TX1) (N := 5) (v := .int (so)) hx hb hts (by decide +kernel) hown hK hS h_d rfl 1 (by decide) (hts (.fieldLink RX1 15 "PayLedger$Deduction" "sort" "I") (by decide +kernel)) rfl dX1_withoutCap_1 ?_
  by_cases t4_0 : so = 0
  · refine lv_lookup (off := 28) (tgt := 32) hx hb dX1_withoutCap_4 (by decide) (by rw [t4_0]; decide) (by decide) ?_
    refine lv_aload_n hx hb dX1_withoutCap_32 rfl (lv_at hl 1 rfl) ?_
    refine z_get (C := RX2) (T := TX2) (N := 12) (v := .int (bo)) hx hb hts (by decide +kernel) hown hK hS h_p rfl 2 (by decide) (hts (.fieldLink RX1 54 "PayLedger$Pay" "bonus" "Z") (by decide +kernel)) rfl dX1_withoutCap_33 ?_
    refine lv_if_eq (tgt := 43) hx hb dX1_withoutCap_36 (by decide) (fun c36 => ?_) (fun c36 => ?_)
    · refine lv_aload_n hx hb dX1_withoutCap_43 rfl (lv_at hl 0 rfl) ?_
      refine z_get (C := RX1) (T := TX1) (N := 5) (v := .long (si)) hx hb hts (by decide +kernel) hown hK hS h_d rfl 2 (by decide) (hts (.fieldLink RX1 19 "PayLedger$Deduction" "size" "J") (by decide +kernel)) rfl dX1_withoutCap_44 ?_
      exact z_lret hx hb hr hlocks hS (Nat.le_of_ble_eq_true rfl) (Nat.le_of_ble_eq_true rfl) dX1_withoutCap_47 ⟨by rw [zWant, if_pos t4_0, if_pos c36], rfl⟩
    · refine lv_lconst (v := 0) hx hb dX1_withoutCap_39 (by decide) ?_
      refine lv_goto (tgt := 47) hx hb dX1_withoutCap_40 (by decide) ?_
      exact z_lret hx hb hr hlocks hS (Nat.le_of_ble_eq_true rfl) (Nat.le_of_ble_eq_true rfl) dX1_withoutCap_47 ⟨by rw [zWant, if_pos t4_0, if_neg c36], rfl⟩
  by_cases t4_1 : so = 1
  · refine lv_lookup (off := 44) (tgt := 48) hx hb dX1_withoutCap_4 (by decide) (by rw [t4_1]; decide) (by decide) ?_
    refine lv_aload_n hx hb dX1_withoutCap_48 rfl (lv_at hl 1 rfl) ?_
    refine z_get (C := RX2) (T := TX2) (N := 12) (v := .long (gr)) hx hb hts (by decide +kernel) hown hK hS h_p rfl 4 (by decide) (hts (.fieldLink RX1 59 "PayLedger$Pay" "gross" "J") (by decide +kernel)) rfl dX1_withoutCap_49 ?_
    refine lv_aload_n hx hb dX1_withoutCap_52 rfl (lv_at hl 0 rfl) ?_
    refine z_get (C := RX1) (T := TX1) (N := 5) (v := .long (si)) hx hb hts (by decide +kernel) hown hK hS h_d rfl 2 (by decide) (hts (.fieldLink RX1 19 "PayLedger$Deduction" "size" "J") (by decide +kernel)) rfl dX1_withoutCap_53 ?_
    refine lv_lmul hx hb dX1_withoutCap_56 ?_
    refine lv_ldc2 (v := 1000000) hx hb hown (hts (.constantLong RX1 60 (1000000)) (by decide +kernel)) dX1_withoutCap_57 ?_
    refine z_rSN (As := [.long ((gr * si)), .long (1000000)]) (rest := []) (n := 2) ⟨hx, hb, hml, hown, hts⟩ (c_X6_round l D cs w s.heap.size (gr * si) 1000000) gX1_withoutCap_X6_round_n62 rfl (by decide +kernel) (hts (.initialized RX6) (by decide +kernel)) (hts (.static yX6_round) (by decide +kernel)) ⟨by decide +kernel, by decide +kernel, by decide +kernel⟩ ⟨Nat.le_of_ble_eq_true rfl, Nat.le_of_ble_eq_true rfl⟩ hK hE hS rfl hl.1 rfl (Nat.le_of_ble_eq_true rfl) dX1_withoutCap_60 ⟨Nat.le_of_ble_eq_true rfl, Nat.le_of_ble_eq_true rfl⟩ (fun H locs hS => ?_)
    exact z_lret hx hb hr hlocks hS (Nat.le_of_ble_eq_true rfl) (Nat.le_of_ble_eq_true rfl) dX1_withoutCap_63 ⟨by rw [zWant, if_neg t4_0, if_pos t4_1], rfl⟩
  refine lv_lookup (off := 60) (tgt := 64) hx hb dX1_withoutCap_4 (by decide) (((lv_osw t4_0 rfl).trans (lv_osw t4_1 rfl)).trans rfl) (by decide) ?_
  refine lv_aload_n hx hb dX1_withoutCap_64 rfl (lv_at hl 0 rfl) ?_
  refine z_get (C := RX1) (T := TX1) (N := 5) (v := .long (bs)) hx hb hts (by decide +kernel) hown hK hS h_d rfl 4 (by decide) (hts (.fieldLink RX1 26 "PayLedger$Deduction" "base" "J") (by decide +kernel)) rfl dX1_withoutCap_65 ?_
  refine lv_lload_n hx hb dX1_withoutCap_68 rfl (lv_at hl 2 rfl) ?_
  refine lv_aload_n hx hb dX1_withoutCap_69 rfl (lv_at hl 1 rfl) ?_
  refine z_get (C := RX2) (T := TX2) (N := 12) (v := .long (gr)) hx hb hts (by decide +kernel) hown hK hS h_p rfl 4 (by decide) (hts (.fieldLink RX1 59 "PayLedger$Pay" "gross" "J") (by decide +kernel)) rfl dX1_withoutCap_70 ?_
  refine lv_ladd hx hb dX1_withoutCap_73 ?_
  refine va_mmin_long hx hb (by rw [hml]; exact hl.1.symm) hown (hts (.methodLink RX1 48 Lib.MathLoose.min_long.x) (by decide +kernel)) (hts (.static Lib.MathLoose.min_long.x) (by decide +kernel)) (hts (.initialized "java/lang/Math") (by decide +kernel)) (hts (.code Lib.MathLoose.min_long.x Lib.MathLoose.min_long.code 4 (some .long)) (by decide +kernel)) (Nat.le_of_ble_eq_true rfl) (Nat.le_of_ble_eq_true rfl) (Nat.le_of_ble_eq_true rfl) (Nat.le_of_ble_eq_true rfl) dX1_withoutCap_74 ?_
  refine z_tl (y := zMin bs (ah + gr)) rfl ?_
  refine lv_aload_n hx hb dX1_withoutCap_77 rfl (lv_at hl 0 rfl) ?_
  refine z_get (C := RX1) (T := TX1) (N := 5) (v := .long (bs)) hx hb hts (by decide +kernel) hown hK hS h_d rfl 4 (by decide) (hts (.fieldLink RX1 26 "PayLedger$Deduction" "base" "J") (by decide +kernel)) rfl dX1_withoutCap_78 ?_
  refine lv_lload_n hx hb dX1_withoutCap_81 rfl (lv_at hl 2 rfl) ?_
  refine va_mmin_long hx hb (by rw [hml]; exact hl.1.symm) hown (hts (.methodLink RX1 48 Lib.MathLoose.min_long.x) (by decide +kernel)) (hts (.static Lib.MathLoose.min_long.x) (by decide +kernel)) (hts (.initialized "java/lang/Math") (by decide +kernel)) (hts (.code Lib.MathLoose.min_long.x Lib.MathLoose.min_long.code 4 (some .long)) (by decide +kernel)) (Nat.le_of_ble_eq_true rfl) (Nat.le_of_ble_eq_true rfl) (Nat.le_of_ble_eq_true rfl) (Nat.le_of_ble_eq_true rfl) dX1_withoutCap_82 ?_
  refine z_tl (y := zMin bs ah) rfl ?_
  refine lv_lsub hx hb dX1_withoutCap_85 ?_
  refine lv_lstore (lv' := [(4, .long ((zMin bs (ah + gr) - zMin bs ah))), (0, .ref (dd)), (1, .ref (pq)), (2, .long (ah))]) hx hb dX1_withoutCap_86 hl (by decide) rfl (fun ls hl => ?_)
  refine lv_lload hx hb dX1_withoutCap_88 (lv_at hl 0 rfl) ?_
  refine lv_aload_n hx hb dX1_withoutCap_90 rfl (lv_at hl 1 rfl) ?_
  refine z_get (C := RX1) (T := TX1) (N := 5) (v := .long (si)) hx hb hts (by decide +kernel) hown hK hS h_d rfl 2 (by decide) (hts (.fieldLink RX1 19 "PayLedger$Deduction" "size" "J") (by decide +kernel)) rfl dX1_withoutCap_91 ?_
  refine lv_lmul hx hb dX1_withoutCap_94 ?_
  refine lv_ldc2 (v := 1000000) hx hb hown (hts (.constantLong RX1 60 (1000000)) (by decide +kernel)) dX1_withoutCap_95 ?_
  refine z_rSN (As := [.long (((zMin bs (ah + gr) - zMin bs ah) * si)), .long (1000000)]) (rest := []) (n := 2) ⟨hx, hb, hml, hown, hts⟩ (c_X6_round l D cs w s.heap.size ((zMin bs (ah + gr) - zMin bs ah) * si) 1000000) gX1_withoutCap_X6_round_n62 rfl (by decide +kernel) (hts (.initialized RX6) (by decide +kernel)) (hts (.static yX6_round) (by decide +kernel)) ⟨by decide +kernel, by decide +kernel, by decide +kernel⟩ ⟨Nat.le_of_ble_eq_true rfl, Nat.le_of_ble_eq_true rfl⟩ hK hE hS rfl hl.1 rfl (Nat.le_of_ble_eq_true rfl) dX1_withoutCap_98 ⟨Nat.le_of_ble_eq_true rfl, Nat.le_of_ble_eq_true rfl⟩ (fun H locs hS => ?_)
  exact z_lret hx hb hr hlocks hS (Nat.le_of_ble_eq_true rfl) (Nat.le_of_ble_eq_true rfl) dX1_withoutCap_101 ⟨by rw [zWant, if_neg t4_0, if_neg t4_1], rfl⟩
set_option maxHeartbeats 4000000 in
set_option maxRecDepth 100000 in
theorem c_X1_dueOf (l : Launch) (D : va_G) (cs : Nat → ClassId) (w : zw) (sz : Nat) (dd pq : Nat) (dea so : Int32) (si ca bs : Int64) (te pp : Nat) (bo br : Int32) (gr ea inc ba mo la ne pa : Int64) (aa ap : Nat) (ag : Int64) (us : Int32) (ai ab : Int64) (AP : Nat → Int64) (k : Nat) (hk : k < 8) (h_d : w (dd) = some (.inr (1, [.int (dea), .int (so), .long (si), .long (ca), .long (bs)]))) (h_p : w (pq) = some (.inr (2, [.ref (te), .ref (pp), .int (bo), .int (br), .long (gr), .long (ea), .long (inc), .long (ba), .long (mo), .long (la), .long (ne), .long (pa)]))) (h_a : w (aa) = some (.inr (0, [.ref (ap), .long (ag), .int (us), .long (ai), .long (ab)]))) (h_ap : w (ap) = some (eJ cs (8) (AP))) : zMr l D cs yX1_dueOf wsX1_dueOf 2 w sz [.ref (dd), .ref (pq), .ref (aa), .int (nI k)] (.long (zDue so si ca bs bo gr ag (AP k))) := by
  refine z_met (cc := cX1_dueOf) (maxL := 6) (ret := (some .long)) (by decide) rfl (Nat.le_of_ble_eq_true rfl) ?_
  intro p e s m below meth c hx hb hr hml hown hts hlocks hnm hsz hK hE hS ls hl
  have hl : lv_has ls 6 [(0, .ref (dd)), (1, .ref (pq)), (2, .ref (aa)), (3, .int (nI k))] := hl
  refine lv_aload_n hx hb dX1_dueOf_0 rfl (lv_at hl 0 rfl) ?_
  refine lv_aload_n hx hb dX1_dueOf_1 rfl (lv_at hl 1 rfl) ?_
  refine lv_aload_n hx hb dX1_dueOf_2 rfl (lv_at hl 2 rfl) ?_
  refine z_get (C := RX0) (T := TX0) (N := 5) (v := .long (ag)) hx hb hts (by decide +kernel) hown hK hS h_a rfl 1 (by decide) (hts (.fieldLink RX1 29 "PayLedger$Ahead" "gross" "J") (by decide +kernel)) rfl dX1_dueOf_3 ?_
  refine z_rV (As := [.ref (pq), .long (ag)]) (rest := []) (n := 2) ⟨hx, hb, hml, hown, hts⟩ (c_X1_withoutCap l D cs w s.heap.size dd pq dea so si ca bs te pp bo br gr ea inc ba mo la ne pa ag h_d h_p) gX1_dueOf_X1_withoutCap rfl ⟨rfl, by decide +kernel, by decide +kernel, by decide +kernel⟩ ⟨Nat.le_of_ble_eq_true rfl, Nat.le_of_ble_eq_true rfl⟩ hK hE hS rfl h_d rfl hl.1 rfl (Nat.le_of_ble_eq_true rfl) dX1_dueOf_6 ⟨Nat.le_of_ble_eq_true rfl, Nat.le_of_ble_eq_true rfl⟩ (fun H locs hS => ?_)
  refine lv_lstore (lv' := [(4, .long (zWant so si bs bo gr ag)), (0, .ref (dd)), (1, .ref (pq)), (2, .ref (aa)), (3, .int (nI k))]) hx hb dX1_dueOf_9 hl (by decide) rfl (fun ls hl => ?_)
  refine lv_aload_n hx hb dX1_dueOf_11 rfl (lv_at hl 1 rfl) ?_
  refine z_get (C := RX1) (T := TX1) (N := 5) (v := .long (ca)) hx hb hts (by decide +kernel) hown hK hS h_d rfl 3 (by decide) (hts (.fieldLink RX1 23 "PayLedger$Deduction" "cap" "J") (by decide +kernel)) rfl dX1_dueOf_12 ?_
  refine lv_ldc2 (v := -1) hx hb hown (hts (.constantLong RX1 38 (-1)) (by decide +kernel)) dX1_dueOf_15 ?_
  refine z_lif_ne (tgt := 27) hx hb dX1_dueOf_18 dX1_dueOf_19 (by decide) (fun c18 => ?_) (fun c18 => ?_)
  · refine lv_lload hx hb dX1_dueOf_27 (lv_at hl 0 rfl) ?_
    refine lv_aload_n hx hb dX1_dueOf_29 rfl (lv_at hl 1 rfl) ?_
    refine z_get (C := RX1) (T := TX1) (N := 5) (v := .long (ca)) hx hb hts (by decide +kernel) hown hK hS h_d rfl 3 (by decide) (hts (.fieldLink RX1 23 "PayLedger$Deduction" "cap" "J") (by decide +kernel)) rfl dX1_dueOf_30 ?_
    refine lv_aload_n hx hb dX1_dueOf_33 rfl (lv_at hl 3 rfl) ?_
    refine z_get (C := RX0) (T := TX0) (N := 5) (v := .ref (ap)) hx hb hts (by decide +kernel) hown hK hS h_a rfl 0 (by decide) (hts (.fieldLink RX1 40 "PayLedger$Ahead" "parts" "[J") (by decide +kernel)) rfl dX1_dueOf_34 ?_
    refine lv_iload_n hx hb dX1_dueOf_37 rfl (lv_at hl 4 rfl) ?_
    refine z_rSN (As := [.ref (ap), .int (nI k)]) (rest := [.long (ca), .long (zWant so si bs bo gr ag)]) (n := 2) ⟨hx, hb, hml, hown, hts⟩ (c_X6_elementOf l D cs w H.size ap 8 k AP (by omega) hk h_ap) gX1_dueOf_X6_elementOf_n44 rfl (by decide +kernel) (hts (.initialized RX6) (by decide +kernel)) (hts (.static yX6_elementOf) (by decide +kernel)) ⟨by decide +kernel, by decide +kernel, by decide +kernel⟩ ⟨Nat.le_of_ble_eq_true rfl, Nat.le_of_ble_eq_true rfl⟩ hK hE hS rfl hl.1 rfl (Nat.le_of_ble_eq_true rfl) dX1_dueOf_38 ⟨Nat.le_of_ble_eq_true rfl, Nat.le_of_ble_eq_true rfl⟩ (fun H locs hS => ?_)
    refine lv_lsub hx hb dX1_dueOf_41 ?_
    refine va_mmin_long hx hb (by rw [hml]; exact hl.1.symm) hown (hts (.methodLink RX1 48 Lib.MathLoose.min_long.x) (by decide +kernel)) (hts (.static Lib.MathLoose.min_long.x) (by decide +kernel)) (hts (.initialized "java/lang/Math") (by decide +kernel)) (hts (.code Lib.MathLoose.min_long.x Lib.MathLoose.min_long.code 4 (some .long)) (by decide +kernel)) (Nat.le_of_ble_eq_true rfl) (Nat.le_of_ble_eq_true rfl) (Nat.le_of_ble_eq_true rfl) (Nat.le_of_ble_eq_true rfl) dX1_dueOf_42 ?_
    refine z_tl (y := zMin (zWant so si bs bo gr ag) (ca - AP k)) rfl ?_
    exact z_lret hx hb hr hlocks hS (Nat.le_of_ble_eq_true rfl) (Nat.le_of_ble_eq_true rfl) dX1_dueOf_45 ⟨by rw [zDue, if_neg c18], rfl⟩
  · refine lv_lload hx hb dX1_dueOf_22 (lv_at hl 0 rfl) ?_
    refine lv_goto (tgt := 45) hx hb dX1_dueOf_24 (by decide) ?_
    exact z_lret hx hb hr hlocks hS (Nat.le_of_ble_eq_true rfl) (Nat.le_of_ble_eq_true rfl) dX1_dueOf_45 ⟨by rw [zDue, if_pos c18], rfl⟩
set_option maxHeartbeats 4000000 in
set_option maxRecDepth 100000 in
theorem c_X2_tell (l : Launch) (D : va_G) (cs : Nat → ClassId) (w : zw) (sz : Nat) (pq : Nat) (te pp : Nat) (bo br : Int32) (gr ea inc ba mo la ne pa : Int64) (what : Int32)  (h_p : w (pq) = some (.inr (2, [.ref (te), .ref (pp), .int (bo), .int (br), .long (gr), .long (ea), .long (inc), .long (ba), .long (mo), .long (la), .long (ne), .long (pa)]))) : zMr l D cs yX2_tell wsX2_tell 0 w sz [.ref (pq), .int (what)] (.long (zTell what bo gr ea inc ba mo la ne pa)) := by
  refine z_met (cc := cX2_tell) (maxL := 2) (ret := (some .long)) (by decide) rfl (Nat.le_of_ble_eq_true rfl) ?_
  intro p e s m below meth c hx hb hr hml hown hts hlocks hnm hsz hK hE hS ls hl
  have hl : lv_has ls 2 [(0, .ref (pq)), (1, .int (what))] := hl
  refine lv_iload_n hx hb dX2_tell_0 rfl (lv_at hl 1 rfl) ?_
  by_cases t1_0 : what = 0
  · refine lv_tableIn (off := 47) (tgt := 48) hx hb dX2_tell_1 (by rw [t1_0]; decide) (by rw [t1_0]; decide) (by rw [t1_0]; rfl) (by decide) ?_
    refine lv_aload_n hx hb dX2_tell_48 rfl (lv_at hl 0 rfl) ?_
    refine z_get (C := RX2) (T := TX2) (N := 12) (v := .long (gr)) hx hb hts (by decide +kernel) hown hK hS h_p rfl 4 (by decide) (hts (.fieldLink RX2 30 "PayLedger$Pay" "gross" "J") (by decide +kernel)) rfl dX2_tell_49 ?_
    exact z_lret hx hb hr hlocks hS (Nat.le_of_ble_eq_true rfl) (Nat.le_of_ble_eq_true rfl) dX2_tell_52 ⟨by simp only [zTell, t1_0]; rfl, rfl⟩
  by_cases t1_1 : what = 1
  · refine lv_tableIn (off := 52) (tgt := 53) hx hb dX2_tell_1 (by rw [t1_1]; decide) (by rw [t1_1]; decide) (by rw [t1_1]; rfl) (by decide) ?_
    refine lv_aload_n hx hb dX2_tell_53 rfl (lv_at hl 0 rfl) ?_
    refine z_get (C := RX2) (T := TX2) (N := 12) (v := .long (ea)) hx hb hts (by decide +kernel) hown hK hS h_p rfl 5 (by decide) (hts (.fieldLink RX2 34 "PayLedger$Pay" "early" "J") (by decide +kernel)) rfl dX2_tell_54 ?_
    exact z_lret hx hb hr hlocks hS (Nat.le_of_ble_eq_true rfl) (Nat.le_of_ble_eq_true rfl) dX2_tell_57 ⟨by simp only [zTell, t1_1]; rfl, rfl⟩
  by_cases t1_2 : what = 2
  · refine lv_tableIn (off := 57) (tgt := 58) hx hb dX2_tell_1 (by rw [t1_2]; decide) (by rw [t1_2]; decide) (by rw [t1_2]; rfl) (by decide) ?_
    refine lv_aload_n hx hb dX2_tell_58 rfl (lv_at hl 0 rfl) ?_
    refine z_get (C := RX2) (T := TX2) (N := 12) (v := .long (inc)) hx hb hts (by decide +kernel) hown hK hS h_p rfl 6 (by decide) (hts (.fieldLink RX2 37 "PayLedger$Pay" "income" "J") (by decide +kernel)) rfl dX2_tell_59 ?_
    exact z_lret hx hb hr hlocks hS (Nat.le_of_ble_eq_true rfl) (Nat.le_of_ble_eq_true rfl) dX2_tell_62 ⟨by simp only [zTell, t1_2]; rfl, rfl⟩
  by_cases t1_3 : what = 3
  · refine lv_tableIn (off := 62) (tgt := 63) hx hb dX2_tell_1 (by rw [t1_3]; decide) (by rw [t1_3]; decide) (by rw [t1_3]; rfl) (by decide) ?_
    refine lv_aload_n hx hb dX2_tell_63 rfl (lv_at hl 0 rfl) ?_
    refine z_get (C := RX2) (T := TX2) (N := 12) (v := .long (ba)) hx hb hts (by decide +kernel) hown hK hS h_p rfl 7 (by decide) (hts (.fieldLink RX2 40 "PayLedger$Pay" "basic" "J") (by decide +kernel)) rfl dX2_tell_64 ?_
    exact z_lret hx hb hr hlocks hS (Nat.le_of_ble_eq_true rfl) (Nat.le_of_ble_eq_true rfl) dX2_tell_67 ⟨by simp only [zTell, t1_3]; rfl, rfl⟩
  by_cases t1_4 : what = 4
  · refine lv_tableIn (off := 67) (tgt := 68) hx hb dX2_tell_1 (by rw [t1_4]; decide) (by rw [t1_4]; decide) (by rw [t1_4]; rfl) (by decide) ?_
    refine lv_aload_n hx hb dX2_tell_68 rfl (lv_at hl 0 rfl) ?_
    refine z_get (C := RX2) (T := TX2) (N := 12) (v := .long (mo)) hx hb hts (by decide +kernel) hown hK hS h_p rfl 8 (by decide) (hts (.fieldLink RX2 43 "PayLedger$Pay" "more" "J") (by decide +kernel)) rfl dX2_tell_69 ?_
    exact z_lret hx hb hr hlocks hS (Nat.le_of_ble_eq_true rfl) (Nat.le_of_ble_eq_true rfl) dX2_tell_72 ⟨by simp only [zTell, t1_4]; rfl, rfl⟩
  by_cases t1_5 : what = 5
  · refine lv_tableIn (off := 72) (tgt := 73) hx hb dX2_tell_1 (by rw [t1_5]; decide) (by rw [t1_5]; decide) (by rw [t1_5]; rfl) (by decide) ?_
    refine lv_aload_n hx hb dX2_tell_73 rfl (lv_at hl 0 rfl) ?_
    refine z_get (C := RX2) (T := TX2) (N := 12) (v := .long (la)) hx hb hts (by decide +kernel) hown hK hS h_p rfl 9 (by decide) (hts (.fieldLink RX2 46 "PayLedger$Pay" "late" "J") (by decide +kernel)) rfl dX2_tell_74 ?_
    exact z_lret hx hb hr hlocks hS (Nat.le_of_ble_eq_true rfl) (Nat.le_of_ble_eq_true rfl) dX2_tell_77 ⟨by simp only [zTell, t1_5]; rfl, rfl⟩
  by_cases t1_6 : what = 6
  · refine lv_tableIn (off := 77) (tgt := 78) hx hb dX2_tell_1 (by rw [t1_6]; decide) (by rw [t1_6]; decide) (by rw [t1_6]; rfl) (by decide) ?_
    refine lv_aload_n hx hb dX2_tell_78 rfl (lv_at hl 0 rfl) ?_
    refine z_get (C := RX2) (T := TX2) (N := 12) (v := .long (ne)) hx hb hts (by decide +kernel) hown hK hS h_p rfl 10 (by decide) (hts (.fieldLink RX2 49 "PayLedger$Pay" "net" "J") (by decide +kernel)) rfl dX2_tell_79 ?_
    exact z_lret hx hb hr hlocks hS (Nat.le_of_ble_eq_true rfl) (Nat.le_of_ble_eq_true rfl) dX2_tell_82 ⟨by simp only [zTell, t1_6]; rfl, rfl⟩
  by_cases t1_7 : what = 7
  · refine lv_tableIn (off := 82) (tgt := 83) hx hb dX2_tell_1 (by rw [t1_7]; decide) (by rw [t1_7]; decide) (by rw [t1_7]; rfl) (by decide) ?_
    refine lv_aload_n hx hb dX2_tell_83 rfl (lv_at hl 0 rfl) ?_
    refine z_get (C := RX2) (T := TX2) (N := 12) (v := .long (pa)) hx hb hts (by decide +kernel) hown hK hS h_p rfl 11 (by decide) (hts (.fieldLink RX2 52 "PayLedger$Pay" "paid" "J") (by decide +kernel)) rfl dX2_tell_84 ?_
    exact z_lret hx hb hr hlocks hS (Nat.le_of_ble_eq_true rfl) (Nat.le_of_ble_eq_true rfl) dX2_tell_87 ⟨by simp only [zTell, t1_7]; rfl, rfl⟩
  refine lv_tableOut (tgt := 88) hx hb dX2_tell_1 (by have q0 := lv_neT (a := 0) t1_0 rfl; have q1 := lv_neT (a := 1) t1_1 rfl; have q2 := lv_neT (a := 2) t1_2 rfl; have q3 := lv_neT (a := 3) t1_3 rfl; have q4 := lv_neT (a := 4) t1_4 rfl; have q5 := lv_neT (a := 5) t1_5 rfl; have q6 := lv_neT (a := 6) t1_6 rfl; have q7 := lv_neT (a := 7) t1_7 rfl; omega) (by decide) ?_
  refine lv_aload_n hx hb dX2_tell_88 rfl (lv_at hl 0 rfl) ?_
  refine z_get (C := RX2) (T := TX2) (N := 12) (v := .int (bo)) hx hb hts (by decide +kernel) hown hK hS h_p rfl 2 (by decide) (hts (.fieldLink RX2 22 "PayLedger$Pay" "bonus" "Z") (by decide +kernel)) rfl dX2_tell_89 ?_
  refine lv_if_eq (tgt := 99) hx hb dX2_tell_92 (by decide) (fun c92 => ?_) (fun c92 => ?_)
  · refine lv_lconst (v := 0) hx hb dX2_tell_99 (by decide) ?_
    exact z_lret hx hb hr hlocks hS (Nat.le_of_ble_eq_true rfl) (Nat.le_of_ble_eq_true rfl) dX2_tell_100 ⟨by rw [zTell, if_neg t1_0, if_neg t1_1, if_neg t1_2, if_neg t1_3, if_neg t1_4, if_neg t1_5, if_neg t1_6, if_neg t1_7, if_pos c92], rfl⟩
  · refine lv_lconst (v := 1) hx hb dX2_tell_95 (by decide) ?_
    refine lv_goto (tgt := 100) hx hb dX2_tell_96 (by decide) ?_
    exact z_lret hx hb hr hlocks hS (Nat.le_of_ble_eq_true rfl) (Nat.le_of_ble_eq_true rfl) dX2_tell_100 ⟨by rw [zTell, if_neg t1_0, if_neg t1_1, if_neg t1_2, if_neg t1_3, if_neg t1_4, if_neg t1_5, if_neg t1_6, if_neg t1_7, if_neg c92], rfl⟩
