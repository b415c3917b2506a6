/-! ===== Worker: its rows, statements and constructor ===== -/
/-- the first i places by T, the others as f has them -/
def zFill (T f : Nat → Int64) (i : Nat) : Nat → Int64 := fun k => if k < i then T k else f k
theorem zFill_0 (T f : Nat → Int64) : zFill T f 0 = f := by
  funext k
  simp [zFill]
theorem zFill_s (T f : Nat → Int64) (i : Nat) : vp_updL (zFill T f i) i (T i) = zFill T f (i + 1) := by
  funext k
  unfold vp_updL zFill
  by_cases h1 : k = i
  · simp [h1]
  · by_cases h2 : k < i
    · simp [h1, h2, Nat.lt_succ_of_lt h2]
    · simp [h1, h2, show ¬ k < i + 1 by omega]
/-- Worker.state: the lines of a statement -/
def zStm (bo : Nat → Int32) (V : Nat → Nat → Int64) (n : Nat) (se duty : Int64) (f : Nat → Int64) : Nat → Int64 := vp_updL (vp_updL (zFill (fun k => zTotal bo V n se (nI k)) f 9) 9 duty) 10 (zTotal bo V n se 3 + zTotal bo V n se 4 - duty)
set_option maxHeartbeats 4000000 in
set_option maxRecDepth 100000 in
theorem c_X5_nextRow_full (l : Launch) (D : va_G) (cs : Nat → ClassId) (w : zw) (sz : Nat) (wk wt pay sts n : Nat) (se : Int64) (PR : Nat → Option Nat) (hn : n = 60) (h_w : w (wk) = some (.inr (5, [.ref (wt), .ref (pay), .ref (sts), .int (nI n), .long (se)]))) (h_ps : w (pay) = some (eR cs 4 (60) (PR))) : zM l D cs yX5_nextRow wsX5_nextRow 2 3 27 w sz [.ref (wk)] (fun r w2 => r = some .null ∧ w2 = w) := by
  refine z_met (cc := cX5_nextRow) (maxL := 1) (ret := (some (.object "PayLedger$Pay"))) (by decide) rfl (Nat.le_of_ble_eq_true rfl) ?_
  intro p e s m below meth c hx hb hr hml hown hts hlocks hnm hsz hK hE hS ls hl
  have hl : lv_has ls 1 [(0, .ref (wk))] := hl
  refine lv_aload_n hx hb dX5_nextRow_0 rfl (lv_at hl 0 rfl) ?_
  refine z_get (C := RX5) (T := TX5) (N := 5) (v := .int (nI n)) hx hb hts (by decide +kernel) hown hK hS h_w rfl 3 (by decide) (hts (.fieldLink RX5 29 "PayLedger$Worker" "held" "I") (by decide +kernel)) rfl dX5_nextRow_1 ?_
  refine lv_if_lt (tgt := 19) hx hb dX5_nextRow_4 (by decide) (fun cq9 => absurd cq9 (nI_pos (by omega))) (fun _ => ?_)
  refine lv_aload_n hx hb dX5_nextRow_7 rfl (lv_at hl 0 rfl) ?_
  refine z_get (C := RX5) (T := TX5) (N := 5) (v := .int (nI n)) hx hb hts (by decide +kernel) hown hK hS h_w rfl 3 (by decide) (hts (.fieldLink RX5 29 "PayLedger$Worker" "held" "I") (by decide +kernel)) rfl dX5_nextRow_8 ?_
  refine lv_aload_n hx hb dX5_nextRow_11 rfl (lv_at hl 0 rfl) ?_
  refine z_get (C := RX5) (T := TX5) (N := 5) (v := .ref (pay)) hx hb hts (by decide +kernel) hown hK hS h_w rfl 1 (by decide) (hts (.fieldLink RX5 20 "PayLedger$Worker" "pays" "[LPayLedger$Pay;") (by decide +kernel)) rfl dX5_nextRow_12 ?_
  refine z_alen (t0 := 4) (v := 60) hx hb hK hS h_ps rfl rfl dX5_nextRow_15 ?_
  refine lv_icmp_lt (tgt := 21) hx hb dX5_nextRow_16 (by decide) (fun cq9 => absurd cq9 (nI_nlt (b := 60) (by omega) (by omega))) (fun _ => ?_)
  refine lv_null hx hb dX5_nextRow_19 ?_
  exact z_aret hx hb hr hlocks (Or.inl rfl) hS (Nat.le_of_ble_eq_true rfl) (Nat.le_of_ble_eq_true rfl) dX5_nextRow_20 ⟨rfl, rfl⟩
set_option maxHeartbeats 4000000 in
set_option maxRecDepth 100000 in
theorem c_X5_nextRow_old (l : Launch) (D : va_G) (cs : Nat → ClassId) (w : zw) (sz : Nat) (wk wt pay sts n : Nat) (se : Int64) (PR : Nat → Option Nat) (pa : Nat) (hn : n < 60) (hpr : PR n = some pa) (h_w : w (wk) = some (.inr (5, [.ref (wt), .ref (pay), .ref (sts), .int (nI n), .long (se)]))) (h_ps : w (pay) = some (eR cs 4 (60) (PR))) : zM l D cs yX5_nextRow wsX5_nextRow 2 3 27 w sz [.ref (wk)] (fun r w2 => r = some (.ref pa) ∧ w2 = w) := by
  refine z_met (cc := cX5_nextRow) (maxL := 1) (ret := (some (.object "PayLedger$Pay"))) (by decide) rfl (Nat.le_of_ble_eq_true rfl) ?_
  intro p e s m below meth c hx hb hr hml hown hts hlocks hnm hsz hK hE hS ls hl
  have hl : lv_has ls 1 [(0, .ref (wk))] := hl
  refine lv_aload_n hx hb dX5_nextRow_0 rfl (lv_at hl 0 rfl) ?_
  refine z_get (C := RX5) (T := TX5) (N := 5) (v := .int (nI n)) hx hb hts (by decide +kernel) hown hK hS h_w rfl 3 (by decide) (hts (.fieldLink RX5 29 "PayLedger$Worker" "held" "I") (by decide +kernel)) rfl dX5_nextRow_1 ?_
  refine lv_if_lt (tgt := 19) hx hb dX5_nextRow_4 (by decide) (fun cq9 => absurd cq9 (nI_pos (by omega))) (fun _ => ?_)
  refine lv_aload_n hx hb dX5_nextRow_7 rfl (lv_at hl 0 rfl) ?_
  refine z_get (C := RX5) (T := TX5) (N := 5) (v := .int (nI n)) hx hb hts (by decide +kernel) hown hK hS h_w rfl 3 (by decide) (hts (.fieldLink RX5 29 "PayLedger$Worker" "held" "I") (by decide +kernel)) rfl dX5_nextRow_8 ?_
  refine lv_aload_n hx hb dX5_nextRow_11 rfl (lv_at hl 0 rfl) ?_
  refine z_get (C := RX5) (T := TX5) (N := 5) (v := .ref (pay)) hx hb hts (by decide +kernel) hown hK hS h_w rfl 1 (by decide) (hts (.fieldLink RX5 20 "PayLedger$Worker" "pays" "[LPayLedger$Pay;") (by decide +kernel)) rfl dX5_nextRow_12 ?_
  refine z_alen (t0 := 4) (v := 60) hx hb hK hS h_ps rfl rfl dX5_nextRow_15 ?_
  refine lv_icmp_lt (tgt := 21) hx hb dX5_nextRow_16 (by decide) (fun _ => ?_) (fun cq9 => absurd (nI_lt (b := 60) hn (by omega)) cq9)
  refine lv_aload_n hx hb dX5_nextRow_21 rfl (lv_at hl 0 rfl) ?_
  refine z_get (C := RX5) (T := TX5) (N := 5) (v := .ref (pay)) hx hb hts (by decide +kernel) hown hK hS h_w rfl 1 (by decide) (hts (.fieldLink RX5 20 "PayLedger$Worker" "pays" "[LPayLedger$Pay;") (by decide +kernel)) rfl dX5_nextRow_22 ?_
  refine lv_aload_n hx hb dX5_nextRow_25 rfl (lv_at hl 0 rfl) ?_
  refine z_get (C := RX5) (T := TX5) (N := 5) (v := .int (nI n)) hx hb hts (by decide +kernel) hown hK hS h_w rfl 3 (by decide) (hts (.fieldLink RX5 29 "PayLedger$Worker" "held" "I") (by decide +kernel)) rfl dX5_nextRow_26 ?_
  refine z_aaldv (v := .ref (pa)) hx hb hK hS h_ps rfl (vp_in_nI hn (by omega)) (by rw [nI_clamp (by omega), hpr]; rfl) dX5_nextRow_29 ?_
  refine lv_ifnonnull (tgt := 49) hx hb dX5_nextRow_30 (by decide) ?_
  refine lv_aload_n hx hb dX5_nextRow_49 rfl (lv_at hl 0 rfl) ?_
  refine z_get (C := RX5) (T := TX5) (N := 5) (v := .ref (pay)) hx hb hts (by decide +kernel) hown hK hS h_w rfl 1 (by decide) (hts (.fieldLink RX5 20 "PayLedger$Worker" "pays" "[LPayLedger$Pay;") (by decide +kernel)) rfl dX5_nextRow_50 ?_
  refine lv_aload_n hx hb dX5_nextRow_53 rfl (lv_at hl 0 rfl) ?_
  refine z_get (C := RX5) (T := TX5) (N := 5) (v := .int (nI n)) hx hb hts (by decide +kernel) hown hK hS h_w rfl 3 (by decide) (hts (.fieldLink RX5 29 "PayLedger$Worker" "held" "I") (by decide +kernel)) rfl dX5_nextRow_54 ?_
  refine z_aaldv (v := .ref (pa)) hx hb hK hS h_ps rfl (vp_in_nI hn (by omega)) (by rw [nI_clamp (by omega), hpr]; rfl) dX5_nextRow_57 ?_
  exact z_aret hx hb hr hlocks (Or.inr ⟨_, rfl⟩) hS (Nat.le_of_ble_eq_true rfl) (Nat.le_of_ble_eq_true rfl) dX5_nextRow_58 ⟨rfl, rfl⟩
set_option maxHeartbeats 4000000 in
set_option maxRecDepth 100000 in
theorem c_X5_nextRow_new (l : Launch) (D : va_G) (cs : Nat → ClassId) (w : zw) (sz : Nat) (wk wt pay sts n : Nat) (se : Int64) (PR : Nat → Option Nat) (hn : n < 60) (hpr : PR n = none) (h_w : w (wk) = some (.inr (5, [.ref (wt), .ref (pay), .ref (sts), .int (nI n), .long (se)]))) (h_ps : w (pay) = some (eR cs 4 (60) (PR))) : zM l D cs yX5_nextRow wsX5_nextRow 2 3 27 w sz [.ref (wk)] (fun r w2 => ∃ pa te pp : Nat, r = some (.ref pa) ∧ w pa = none ∧ w te = none ∧ w pp = none ∧ te ≠ pp ∧ zEx w w2 [(pay, eR cs 4 60 (va_up PR n (some pa))), (pa, .inr (2, [.ref te, .ref pp, .int 0, .int 0, .long 0, .long 0, .long 0, .long 0, .long 0, .long 0, .long 0, .long 0])), (te, .inr (4, [.null, .int 1, .int 0, .long 0, .long 0, .long 0, .int 0])), (pp, eJ cs 8 (fun _ => 0))]) := by
  refine z_met (cc := cX5_nextRow) (maxL := 1) (ret := (some (.object "PayLedger$Pay"))) (by decide) rfl (Nat.le_of_ble_eq_true rfl) ?_
  intro p e s m below meth c hx hb hr hml hown hts hlocks hnm hsz hK hE hS ls hl
  have hl : lv_has ls 1 [(0, .ref (wk))] := hl
  refine lv_aload_n hx hb dX5_nextRow_0 rfl (lv_at hl 0 rfl) ?_
  refine z_get (C := RX5) (T := TX5) (N := 5) (v := .int (nI n)) hx hb hts (by decide +kernel) hown hK hS h_w rfl 3 (by decide) (hts (.fieldLink RX5 29 "PayLedger$Worker" "held" "I") (by decide +kernel)) rfl dX5_nextRow_1 ?_
  refine lv_if_lt (tgt := 19) hx hb dX5_nextRow_4 (by decide) (fun cq9 => absurd cq9 (nI_pos (by omega))) (fun _ => ?_)
  refine lv_aload_n hx hb dX5_nextRow_7 rfl (lv_at hl 0 rfl) ?_
  refine z_get (C := RX5) (T := TX5) (N := 5) (v := .int (nI n)) hx hb hts (by decide +kernel) hown hK hS h_w rfl 3 (by decide) (hts (.fieldLink RX5 29 "PayLedger$Worker" "held" "I") (by decide +kernel)) rfl dX5_nextRow_8 ?_
  refine lv_aload_n hx hb dX5_nextRow_11 rfl (lv_at hl 0 rfl) ?_
  refine z_get (C := RX5) (T := TX5) (N := 5) (v := .ref (pay)) hx hb hts (by decide +kernel) hown hK hS h_w rfl 1 (by decide) (hts (.fieldLink RX5 20 "PayLedger$Worker" "pays" "[LPayLedger$Pay;") (by decide +kernel)) rfl dX5_nextRow_12 ?_
  refine z_alen (t0 := 4) (v := 60) hx hb hK hS h_ps rfl rfl dX5_nextRow_15 ?_
  refine lv_icmp_lt (tgt := 21) hx hb dX5_nextRow_16 (by decide) (fun _ => ?_) (fun cq9 => absurd (nI_lt (b := 60) hn (by omega)) cq9)
  refine lv_aload_n hx hb dX5_nextRow_21 rfl (lv_at hl 0 rfl) ?_
  refine z_get (C := RX5) (T := TX5) (N := 5) (v := .ref (pay)) hx hb hts (by decide +kernel) hown hK hS h_w rfl 1 (by decide) (hts (.fieldLink RX5 20 "PayLedger$Worker" "pays" "[LPayLedger$Pay;") (by decide +kernel)) rfl dX5_nextRow_22 ?_
  refine lv_aload_n hx hb dX5_nextRow_25 rfl (lv_at hl 0 rfl) ?_
  refine z_get (C := RX5) (T := TX5) (N := 5) (v := .int (nI n)) hx hb hts (by decide +kernel) hown hK hS h_w rfl 3 (by decide) (hts (.fieldLink RX5 29 "PayLedger$Worker" "held" "I") (by decide +kernel)) rfl dX5_nextRow_26 ?_
  refine z_aaldv (v := .null) hx hb hK hS h_ps rfl (vp_in_nI hn (by omega)) (by rw [nI_clamp (by omega), hpr]; rfl) dX5_nextRow_29 ?_
  refine lv_ifnonnullN hx hb dX5_nextRow_30 ?_
  refine lv_aload_n hx hb dX5_nextRow_33 rfl (lv_at hl 0 rfl) ?_
  refine z_get (C := RX5) (T := TX5) (N := 5) (v := .ref (pay)) hx hb hts (by decide +kernel) hown hK hS h_w rfl 1 (by decide) (hts (.fieldLink RX5 20 "PayLedger$Worker" "pays" "[LPayLedger$Pay;") (by decide +kernel)) rfl dX5_nextRow_34 ?_
  refine lv_aload_n hx hb dX5_nextRow_37 rfl (lv_at hl 0 rfl) ?_
  refine z_get (C := RX5) (T := TX5) (N := 5) (v := .int (nI n)) hx hb hts (by decide +kernel) hown hK hS h_w rfl 3 (by decide) (hts (.fieldLink RX5 29 "PayLedger$Worker" "held" "I") (by decide +kernel)) rfl dX5_nextRow_38 ?_
  refine z_new (ci := 2) (fs := [.null, .null, .int (0), .int (0), .long (0), .long (0), .long (0), .long (0), .long (0), .long (0), .long (0), .long (0)]) (C := RX2) (T := TX2) (N := 12) hx hb hts (by decide +kernel) tyX2 tyX2_ok hown (hts (.classLink RX5 18 RX2) (by decide +kernel)) (hts (.instantiable RX2 12) (by decide +kernel)) (hts (.initialized RX2) (by decide +kernel)) hK hS rfl (by decide +kernel) (Nat.le_of_ble_eq_true rfl) (Nat.le_of_ble_eq_true rfl) dX5_nextRow_41 (fun pa H h_npa hS => ?_)
  obtain ⟨w1, ew1⟩ : ∃ z : zw, z = va_up w (pa) (some (.inr (2, [.null, .null, .int (0), .int (0), .long (0), .long (0), .long (0), .long (0), .long (0), .long (0), .long (0), .long (0)]))) := ⟨_, rfl⟩
  have hS : zS (zA w sz) D w1 s.heap H [] := by rw [ew1]; exact hS
  have h1_pa : w1 (pa) = some (.inr (2, [.null, .null, .int (0), .int (0), .long (0), .long (0), .long (0), .long (0), .long (0), .long (0), .long (0), .long (0)])) := by rw [ew1]; exact va_up_self _ _ _
  have h1_wk : w1 (wk) = some (.inr (5, [.ref (wt), .ref (pay), .ref (sts), .int (nI n), .long (se)])) := by rw [ew1]; exact (va_up_ne _ _ (fun q9 => by rw [q9] at h_w; rw [h_npa] at h_w; cases h_w)).trans h_w
  have h1_pay : w1 (pay) = some (eR cs 4 (60) (PR)) := by rw [ew1]; exact (va_up_ne _ _ (fun q9 => by rw [q9] at h_ps; rw [h_npa] at h_ps; cases h_ps)).trans h_ps
  have hz_pa : w (pa) = none := by
    have q9 := h_npa
    exact q9
  refine lv_dup hx hb dX5_nextRow_44 rfl ?_
  refine z_invIN (b := pa) (As := []) (rest := [.ref (pa), .int (nI n), .ref (pay)]) (n := 0) ⟨hx, hb, hml, hown, hts⟩ (c_X2_init l D cs w1 H.size pa h1_pa) gX5_nextRow_X2_init_n47 rfl (by decide +kernel) (hts (.initialized RX2) (by decide +kernel)) (hts (.instanceMethod yX2_init) (by decide +kernel)) rfl ⟨by decide +kernel, by decide +kernel, by decide +kernel⟩ ⟨Nat.le_of_ble_eq_true rfl, Nat.le_of_ble_eq_true rfl⟩ hK hE hS rfl hl.1 rfl (Nat.le_of_ble_eq_true rfl) dX5_nextRow_45 ⟨Nat.le_of_ble_eq_true rfl, Nat.le_of_ble_eq_true rfl⟩ (fun v9 u2 H locs hq hS => ?_)
  obtain ⟨rfl, te, pp, hte, hpp, htp, hx2⟩ := hq
  have h3_pa : u2 (pa) = some (.inr (2, [.ref (te), .ref (pp), .int (0), .int (0), .long (0), .long (0), .long (0), .long (0), .long (0), .long (0), .long (0), .long (0)])) := hx2.at 0 rfl
  have h3_te : u2 (te) = some (.inr (4, [.null, .int (1), .int (0), .long (0), .long (0), .long (0), .int (0)])) := hx2.at 1 rfl
  have h3_pp : u2 (pp) = some (eJ cs (8) (fun _ => 0)) := hx2.at 2 rfl
  have h3_wk : u2 (wk) = some (.inr (5, [.ref (wt), .ref (pay), .ref (sts), .int (nI n), .long (se)])) := hx2.old h1_wk (zm1 (zne h1_wk h1_pa (by intro q9; first | cases q9 | simp at q9)) (zm1 (znone_ne hte h1_wk) (zm1 (znone_ne hpp h1_wk) zm0)))
  have h3_pay : u2 (pay) = some (eR cs 4 (60) (PR)) := hx2.old h1_pay (zm1 (zne h1_pay h1_pa (by intro q9; first | cases q9 | simp at q9)) (zm1 (znone_ne hte h1_pay) (zm1 (znone_ne hpp h1_pay) zm0)))
  refine W.eq (g2 := F0 m 48 ls [.ref (pa), .int (nI n), .ref (pay)]) rfl ?_
  refine z_aast hx hb hK hS h3_pay rfl h3_pa rfl (vp_in_nI hn (by omega)) dX5_nextRow_48 (fun H locs hS => ?_)
  obtain ⟨w4, ew4⟩ : ∃ z : zw, z = va_up u2 (pay) (some (eR cs 4 (60) (va_up (PR) (nI n : Int32).toNatClampNeg (some (pa))))) := ⟨_, rfl⟩
  have hS : zS (zA w sz) D w4 s.heap H locs := by rw [ew4]; exact hS
  have h4_pay : w4 (pay) = some (eR cs 4 (60) (va_up (PR) (nI n : Int32).toNatClampNeg (some (pa)))) := by rw [ew4]; exact va_up_self _ _ _
  have h4_pa : w4 (pa) = some (.inr (2, [.ref (te), .ref (pp), .int (0), .int (0), .long (0), .long (0), .long (0), .long (0), .long (0), .long (0), .long (0), .long (0)])) := by rw [ew4]; exact (va_up_ne _ _ (zne h3_pa h3_pay (by intro q9; first | cases q9 | simp at q9))).trans h3_pa
  have h4_te : w4 (te) = some (.inr (4, [.null, .int (1), .int (0), .long (0), .long (0), .long (0), .int (0)])) := by rw [ew4]; exact (va_up_ne _ _ (zne h3_te h3_pay (by intro q9; first | cases q9 | simp at q9))).trans h3_te
  have h4_pp : w4 (pp) = some (eJ cs (8) (fun _ => 0)) := by rw [ew4]; exact (va_up_ne _ _ (zne h3_pp h3_pay (by intro q9; first | cases q9 | simp at q9))).trans h3_pp
  have h4_wk : w4 (wk) = some (.inr (5, [.ref (wt), .ref (pay), .ref (sts), .int (nI n), .long (se)])) := by rw [ew4]; exact (va_up_ne _ _ (zne h3_wk h3_pay (by intro q9; first | cases q9 | simp at q9))).trans h3_wk
  rw [show (eR cs 4 (60) (va_up (PR) (nI n : Int32).toNatClampNeg (some (pa)))) = (eR cs 4 (60) (va_up PR n (some pa))) from (by rw [nI_clamp (by omega)])] at h4_pay
  refine lv_aload_n hx hb dX5_nextRow_49 rfl (lv_at hl 0 rfl) ?_
  refine z_get (C := RX5) (T := TX5) (N := 5) (v := .ref (pay)) hx hb hts (by decide +kernel) hown hK hS h4_wk rfl 1 (by decide) (hts (.fieldLink RX5 20 "PayLedger$Worker" "pays" "[LPayLedger$Pay;") (by decide +kernel)) rfl dX5_nextRow_50 ?_
  refine lv_aload_n hx hb dX5_nextRow_53 rfl (lv_at hl 0 rfl) ?_
  refine z_get (C := RX5) (T := TX5) (N := 5) (v := .int (nI n)) hx hb hts (by decide +kernel) hown hK hS h4_wk rfl 3 (by decide) (hts (.fieldLink RX5 29 "PayLedger$Worker" "held" "I") (by decide +kernel)) rfl dX5_nextRow_54 ?_
  refine z_aaldv (v := .ref (pa)) hx hb hK hS h4_pay rfl (vp_in_nI hn (by omega)) (by rw [nI_clamp (by omega), va_up_self]; rfl) dX5_nextRow_57 ?_
  have hz1 : w te = none := by rw [ew1] at hte; exact (zup_none hte).2
  have hz2 : w pp = none := by rw [ew1] at hpp; exact (zup_none hpp).2
  have hex : zEx w w4 [(pay, (eR cs 4 (60) (va_up PR n (some pa)))), (pa, (.inr (2, [.ref (te), .ref (pp), .int (0), .int (0), .long (0), .long (0), .long (0), .long (0), .long (0), .long (0), .long (0), .long (0)]))), (te, (.inr (4, [.null, .int (1), .int (0), .long (0), .long (0), .long (0), .int (0)]))), (pp, (eJ cs (8) (fun _ => 0)))] := ⟨(zm1 h4_pay (zm1 h4_pa (zm1 h4_te (zm1 h4_pp zm0)))), fun a9 h9 => by rw [ew4, va_up_ne _ _ (show a9 ≠ pay from h9 (pay, (eR cs 4 (60) (va_up PR n (some pa)))) (List.mem_of_getElem? (i := 0) rfl)), hx2.2 a9 (zm1 (show a9 ≠ pa from h9 (pa, (.inr (2, [.ref (te), .ref (pp), .int (0), .int (0), .long (0), .long (0), .long (0), .long (0), .long (0), .long (0), .long (0), .long (0)]))) (List.mem_of_getElem? (i := 1) rfl)) (zm1 (show a9 ≠ te from h9 (te, (.inr (4, [.null, .int (1), .int (0), .long (0), .long (0), .long (0), .int (0)]))) (List.mem_of_getElem? (i := 2) rfl)) (zm1 (show a9 ≠ pp from h9 (pp, (eJ cs (8) (fun _ => 0))) (List.mem_of_getElem? (i := 3) rfl)) zm0))), ew1, va_up_ne _ _ (show a9 ≠ pa from h9 (pa, (.inr (2, [.ref (te), .ref (pp), .int (0), .int (0), .long (0), .long (0), .long (0), .long (0), .long (0), .long (0), .long (0), .long (0)]))) (List.mem_of_getElem? (i := 1) rfl))]⟩
  exact z_aret hx hb hr hlocks (Or.inr ⟨_, rfl⟩) hS (Nat.le_of_ble_eq_true rfl) (Nat.le_of_ble_eq_true rfl) dX5_nextRow_58 ⟨pa, te, pp, rfl, hz_pa, hz1, hz2, htp, hex⟩
set_option maxHeartbeats 4000000 in
set_option maxRecDepth 100000 in
theorem c_X5_state (l : Launch) (D : va_G) (cs : Nat → ClassId) (w : zw) (sz : Nat) (wk wt pay sts n : Nat) (se : Int64) (PR : Nat → Option Nat) (PA TE PP : Nat → Nat) (bo br : Nat → Int32) (V PT : Nat → Nat → Int64) (SR : Nat → Option Nat) (y sa : Nat) (SV : Nat → Int64) (t fl ra nt : Nat) (F : Nat → Int64) (G : Nat → Int32) (tk pe me : Int32) (re cr ex : Int64) (en : Int32) (hn : n ≤ 60) (hnt : nt ≤ 12) (hy : y < 6) (hsr : SR y = some sa) (hPay : zPays cs w PR PA TE PP bo br V PT n) (h_w : w (wk) = some (.inr (5, [.ref (wt), .ref (pay), .ref (sts), .int (nI n), .long (se)]))) (h_ps : w (pay) = some (eR cs 4 (60) (PR))) (h_ss : w (sts) = some (eR cs 7 (6) (SR))) (h_sa : w (sa) = some (eJ cs (11) (SV))) (h_te : w (wt) = some (.inr (4, [.ref (t), .int (pe), .int (me), .long (re), .long (cr), .long (ex), .int (en)]))) (h_t : w (t) = some (.inr (3, [.ref (fl), .ref (ra), .int (nI nt), .int (tk)]))) (h_fl : w (fl) = some (eJ cs (12) (F))) (h_ra : w (ra) = some (eI cs (12) (G))) : zM l D cs yX5_state wsX5_state 4 0 0 w sz [.ref (wk), .int (nI y)] (fun r w2 => r = none ∧ zEx w w2 [(sa, eJ cs 11 (zStm bo V n se (zDuty F G nt re cr (zTot bo V n 2)) SV))]) := by
  refine z_met (cc := cX5_state) (maxL := 4) (ret := none) (by decide) rfl (Nat.le_of_ble_eq_true rfl) ?_
  intro p e s m below meth c hx hb hr hml hown hts hlocks hnm hsz hK hE hS ls hl
  have hl : lv_has ls 4 [(0, .ref (wk)), (1, .int (nI y))] := hl
  have h_sa0 := h_sa
  have hfs : fl ≠ sa := zne h_fl h_sa (by intro q9; simp at q9)
  have L35 : ∀ (i : Nat), ∀ (u : zw), (hi : i ≤ 9) → (h_w : u (wk) = some (.inr (5, [.ref (wt), .ref (pay), .ref (sts), .int (nI n), .long (se)]))) → (h_ps : u (pay) = some (eR cs 4 (60) (PR))) → (h_ss : u (sts) = some (eR cs 7 (6) (SR))) → (h_sa : u (sa) = some (eJ cs (11) (zFill (fun k => zTotal bo V n se (nI k)) SV i))) → (h_te : u (wt) = some (.inr (4, [.ref (t), .int (pe), .int (me), .long (re), .long (cr), .long (ex), .int (en)]))) → (h_t : u (t) = some (.inr (3, [.ref (fl), .ref (ra), .int (nI nt), .int (tk)]))) → (h_fl : u (fl) = some (eJ cs (12) (F))) → (h_ra : u (ra) = some (eI cs (12) (G))) → (hex0 : zEx w u [(sa, (eJ cs (11) (zFill (fun k => zTotal bo V n se (nI k)) SV i)))]) → ∀ (H : Heap) (locs : List Loc) (ls : Array Slot), zS (zA w sz) D u s.heap H locs → lv_has ls 4 [(3, .int (nI i)), (2, .ref (sa)), (0, .ref (wk)), (1, .int (nI y))] → W p l e (zR 4 0 0) s m [.ref (wk), .int (nI y)].toArray below meth c H locs 0 0 (MQ below (zQ D w sz (fun r w2 => r = none ∧ zEx w w2 [(sa, eJ cs 11 (zStm bo V n se (zDuty F G nt re cr (zTot bo V n 2)) SV))])) [.ref (wk), .int (nI y)].toArray s 0 0 (zA w sz)) (F0 m 35 ls []) := by
    refine zloopU (P := fun i => ∀ (u : zw), (hi : i ≤ 9) → (h_w : u (wk) = some (.inr (5, [.ref (wt), .ref (pay), .ref (sts), .int (nI n), .long (se)]))) → (h_ps : u (pay) = some (eR cs 4 (60) (PR))) → (h_ss : u (sts) = some (eR cs 7 (6) (SR))) → (h_sa : u (sa) = some (eJ cs (11) (zFill (fun k => zTotal bo V n se (nI k)) SV i))) → (h_te : u (wt) = some (.inr (4, [.ref (t), .int (pe), .int (me), .long (re), .long (cr), .long (ex), .int (en)]))) → (h_t : u (t) = some (.inr (3, [.ref (fl), .ref (ra), .int (nI nt), .int (tk)]))) → (h_fl : u (fl) = some (eJ cs (12) (F))) → (h_ra : u (ra) = some (eI cs (12) (G))) → (hex0 : zEx w u [(sa, (eJ cs (11) (zFill (fun k => zTotal bo V n se (nI k)) SV i)))]) → ∀ (H : Heap) (locs : List Loc) (ls : Array Slot), zS (zA w sz) D u s.heap H locs → lv_has ls 4 [(3, .int (nI i)), (2, .ref (sa)), (0, .ref (wk)), (1, .int (nI y))] → W p l e (zR 4 0 0) s m [.ref (wk), .int (nI y)].toArray below meth c H locs 0 0 (MQ below (zQ D w sz (fun r w2 => r = none ∧ zEx w w2 [(sa, eJ cs 11 (zStm bo V n se (zDuty F G nt re cr (zTot bo V n 2)) SV))])) [.ref (wk), .int (nI y)].toArray s 0 0 (zA w sz)) (F0 m 35 ls [])) 9 (fun i ih => ?_)
    intro u hi h_w h_ps h_ss h_sa h_te h_t h_fl h_ra hex0 H locs ls hS hl
    have hPu : zPays cs u PR PA TE PP bo br V PT n := hPay.ex hex0 (fun j hj => ⟨zm1 (zne (hPay j hj).2.1 h_sa0 (by intro q9; cases q9)) zm0, zm1 (zne (hPay j hj).2.2 h_sa0 (by intro q9; simp at q9)) zm0⟩)
    refine lv_iload_n hx hb dX5_state_35 rfl (lv_at hl 0 rfl) ?_
    refine lv_bipush (v := 8) hx hb dX5_state_36 (by decide) ?_
    refine lv_icmp_gt (tgt := 55) hx hb dX5_state_38 (by decide) (fun c38 => ?_) (fun c38 => ?_)
    · have hi9 : i = 9 := by rcases Nat.lt_or_ge i 9 with q | q; exact absurd c38 (nI_nlt (a := 8) (b := i) (by omega) (by omega)); omega
      refine lv_aload_n hx hb dX5_state_55 rfl (lv_at hl 1 rfl) ?_
      refine lv_bipush (v := 9) hx hb dX5_state_56 (by decide) ?_
      refine lv_aload_n hx hb dX5_state_58 rfl (lv_at hl 2 rfl) ?_
      refine z_rV (As := []) (rest := [.int (9), .ref (sa)]) (n := 0) ⟨hx, hb, hml, hown, hts⟩ (c_X5_dutyOfYear l D cs u H.size wk wt pay sts n se PR PA TE PP bo br V PT t fl ra nt F G tk pe me re cr ex en hn hnt hPu h_w h_ps h_te h_t h_fl h_ra) gX5_state_X5_dutyOfYear rfl ⟨rfl, by decide +kernel, by decide +kernel, by decide +kernel⟩ ⟨Nat.le_of_ble_eq_true rfl, Nat.le_of_ble_eq_true rfl⟩ hK hE hS rfl h_w rfl hl.1 rfl (Nat.le_of_ble_eq_true rfl) dX5_state_59 ⟨Nat.le_of_ble_eq_true rfl, Nat.le_of_ble_eq_true rfl⟩ (fun H locs hS => ?_)
      refine z_last hx hb hK hS h_sa (vp_in_nI (n := 9) (by omega) (by omega)) dX5_state_62 (fun H locs hS => ?_)
      obtain ⟨w1, ew1⟩ : ∃ z : zw, z = va_up u (sa) (some (eJ cs (11) (vp_updL (zFill (fun k => zTotal bo V n se (nI k)) SV i) (9 : Int32).toNatClampNeg (zDuty F G nt re cr (zTot bo V n 2))))) := ⟨_, rfl⟩
      have hS : zS (zA w sz) D w1 s.heap H locs := by rw [ew1]; exact hS
      have h1_sa : w1 (sa) = some (eJ cs (11) (vp_updL (zFill (fun k => zTotal bo V n se (nI k)) SV i) (9 : Int32).toNatClampNeg (zDuty F G nt re cr (zTot bo V n 2)))) := by rw [ew1]; exact va_up_self _ _ _
      have h1_wk : w1 (wk) = some (.inr (5, [.ref (wt), .ref (pay), .ref (sts), .int (nI n), .long (se)])) := by rw [ew1]; exact (va_up_ne _ _ (zne h_w h_sa (by intro q9; first | cases q9 | simp at q9))).trans h_w
      have h1_pay : w1 (pay) = some (eR cs 4 (60) (PR)) := by rw [ew1]; exact (va_up_ne _ _ (zne h_ps h_sa (by intro q9; first | cases q9 | simp at q9))).trans h_ps
      have h1_sts : w1 (sts) = some (eR cs 7 (6) (SR)) := by rw [ew1]; exact (va_up_ne _ _ (zne h_ss h_sa (by intro q9; first | cases q9 | simp at q9))).trans h_ss
      have h1_wt : w1 (wt) = some (.inr (4, [.ref (t), .int (pe), .int (me), .long (re), .long (cr), .long (ex), .int (en)])) := by rw [ew1]; exact (va_up_ne _ _ (zne h_te h_sa (by intro q9; first | cases q9 | simp at q9))).trans h_te
      have h1_t : w1 (t) = some (.inr (3, [.ref (fl), .ref (ra), .int (nI nt), .int (tk)])) := by rw [ew1]; exact (va_up_ne _ _ (zne h_t h_sa (by intro q9; first | cases q9 | simp at q9))).trans h_t
      have h1_fl : w1 (fl) = some (eJ cs (12) (F)) := by rw [ew1]; exact (va_up_ne _ _ hfs).trans h_fl
      have h1_ra : w1 (ra) = some (eI cs (12) (G)) := by rw [ew1]; exact (va_up_ne _ _ (zne h_ra h_sa (by intro q9; first | cases q9 | simp at q9))).trans h_ra
      rw [show (eJ cs (11) (vp_updL (zFill (fun k => zTotal bo V n se (nI k)) SV i) (9 : Int32).toNatClampNeg (zDuty F G nt re cr (zTot bo V n 2)))) = (eJ cs (11) (vp_updL (zFill (fun k => zTotal bo V n se (nI k)) SV 9) 9 (zDuty F G nt re cr (zTot bo V n 2)))) from (by rw [hi9]; rfl)] at h1_sa
      refine lv_aload_n hx hb dX5_state_63 rfl (lv_at hl 1 rfl) ?_
      refine lv_bipush (v := 10) hx hb dX5_state_64 (by decide) ?_
      refine lv_aload_n hx hb dX5_state_66 rfl (lv_at hl 1 rfl) ?_
      refine lv_iconst (v := 3) hx hb dX5_state_67 (by decide) ?_
      refine z_lald hx hb hK hS h1_sa (vp_in_nI (n := 3) (by omega) (by omega)) dX5_state_68 ?_
      refine z_tl (y := zTotal bo V n se 3) rfl ?_
      refine lv_aload_n hx hb dX5_state_69 rfl (lv_at hl 1 rfl) ?_
      refine lv_iconst (v := 4) hx hb dX5_state_70 (by decide) ?_
      refine z_lald hx hb hK hS h1_sa (vp_in_nI (n := 4) (by omega) (by omega)) dX5_state_71 ?_
      refine z_tl (y := zTotal bo V n se 4) rfl ?_
      refine lv_ladd hx hb dX5_state_72 ?_
      refine lv_aload_n hx hb dX5_state_73 rfl (lv_at hl 1 rfl) ?_
      refine lv_bipush (v := 9) hx hb dX5_state_74 (by decide) ?_
      refine z_lald hx hb hK hS h1_sa (vp_in_nI (n := 9) (by omega) (by omega)) dX5_state_76 ?_
      refine z_tl (y := zDuty F G nt re cr (zTot bo V n 2)) rfl ?_
      refine lv_lsub hx hb dX5_state_77 ?_
      refine z_last hx hb hK hS h1_sa (vp_in_nI (n := 10) (by omega) (by omega)) dX5_state_78 (fun H locs hS => ?_)
      obtain ⟨w2, ew2⟩ : ∃ z : zw, z = va_up w1 (sa) (some (eJ cs (11) (vp_updL (vp_updL (zFill (fun k => zTotal bo V n se (nI k)) SV 9) 9 (zDuty F G nt re cr (zTot bo V n 2))) (10 : Int32).toNatClampNeg (((zTotal bo V n se 3 + zTotal bo V n se 4) - zDuty F G nt re cr (zTot bo V n 2)))))) := ⟨_, rfl⟩
      have hS : zS (zA w sz) D w2 s.heap H locs := by rw [ew2]; exact hS
      have h2_sa : w2 (sa) = some (eJ cs (11) (vp_updL (vp_updL (zFill (fun k => zTotal bo V n se (nI k)) SV 9) 9 (zDuty F G nt re cr (zTot bo V n 2))) (10 : Int32).toNatClampNeg (((zTotal bo V n se 3 + zTotal bo V n se 4) - zDuty F G nt re cr (zTot bo V n 2))))) := by rw [ew2]; exact va_up_self _ _ _
      have h2_wk : w2 (wk) = some (.inr (5, [.ref (wt), .ref (pay), .ref (sts), .int (nI n), .long (se)])) := by rw [ew2]; exact (va_up_ne _ _ (zne h1_wk h1_sa (by intro q9; first | cases q9 | simp at q9))).trans h1_wk
      have h2_pay : w2 (pay) = some (eR cs 4 (60) (PR)) := by rw [ew2]; exact (va_up_ne _ _ (zne h1_pay h1_sa (by intro q9; first | cases q9 | simp at q9))).trans h1_pay
      have h2_sts : w2 (sts) = some (eR cs 7 (6) (SR)) := by rw [ew2]; exact (va_up_ne _ _ (zne h1_sts h1_sa (by intro q9; first | cases q9 | simp at q9))).trans h1_sts
      have h2_wt : w2 (wt) = some (.inr (4, [.ref (t), .int (pe), .int (me), .long (re), .long (cr), .long (ex), .int (en)])) := by rw [ew2]; exact (va_up_ne _ _ (zne h1_wt h1_sa (by intro q9; first | cases q9 | simp at q9))).trans h1_wt
      have h2_t : w2 (t) = some (.inr (3, [.ref (fl), .ref (ra), .int (nI nt), .int (tk)])) := by rw [ew2]; exact (va_up_ne _ _ (zne h1_t h1_sa (by intro q9; first | cases q9 | simp at q9))).trans h1_t
      have h2_fl : w2 (fl) = some (eJ cs (12) (F)) := by rw [ew2]; exact (va_up_ne _ _ hfs).trans h1_fl
      have h2_ra : w2 (ra) = some (eI cs (12) (G)) := by rw [ew2]; exact (va_up_ne _ _ (zne h1_ra h1_sa (by intro q9; first | cases q9 | simp at q9))).trans h1_ra
      rw [show (eJ cs (11) (vp_updL (vp_updL (zFill (fun k => zTotal bo V n se (nI k)) SV 9) 9 (zDuty F G nt re cr (zTot bo V n 2))) (10 : Int32).toNatClampNeg (((zTotal bo V n se 3 + zTotal bo V n se 4) - zDuty F G nt re cr (zTot bo V n 2))))) = (eJ cs (11) (zStm bo V n se (zDuty F G nt re cr (zTot bo V n 2)) SV)) from rfl] at h2_sa
      have hex : zEx w w2 [(sa, (eJ cs (11) (zStm bo V n se (zDuty F G nt re cr (zTot bo V n 2)) SV)))] := ⟨(zm1 h2_sa zm0), fun a9 h9 => by rw [ew2, va_up_ne _ _ (show a9 ≠ sa from h9 (sa, (eJ cs (11) (zStm bo V n se (zDuty F G nt re cr (zTot bo V n 2)) SV))) (List.mem_of_getElem? (i := 0) rfl)), ew1, va_up_ne _ _ (show a9 ≠ sa from h9 (sa, (eJ cs (11) (zStm bo V n se (zDuty F G nt re cr (zTot bo V n 2)) SV))) (List.mem_of_getElem? (i := 0) rfl)), hex0.2 a9 (zm1 (show a9 ≠ sa from h9 (sa, (eJ cs (11) (zStm bo V n se (zDuty F G nt re cr (zTot bo V n 2)) SV))) (List.mem_of_getElem? (i := 0) rfl)) zm0)]⟩
      exact z_vret hx hb hr hlocks hS (Nat.le_of_ble_eq_true rfl) (Nat.le_of_ble_eq_true rfl) dX5_state_79 ⟨rfl, hex⟩
    · have c38 : i < 9 := by rcases Nat.lt_or_ge i 9 with q | q; exact q; exact absurd (nI_lt (a := 8) (b := i) (by omega) (by omega)) c38
      refine lv_aload_n hx hb dX5_state_41 rfl (lv_at hl 1 rfl) ?_
      refine lv_iload_n hx hb dX5_state_42 rfl (lv_at hl 0 rfl) ?_
      refine lv_aload_n hx hb dX5_state_43 rfl (lv_at hl 2 rfl) ?_
      refine lv_iload_n hx hb dX5_state_44 rfl (lv_at hl 0 rfl) ?_
      refine z_rV (As := [.int (nI i)]) (rest := [.int (nI i), .ref (sa)]) (n := 1) ⟨hx, hb, hml, hown, hts⟩ (c_X5_total l D cs u H.size wk wt pay sts n se PR PA TE PP bo br V PT (nI i) hn hPu h_w h_ps) gX5_state_X5_total rfl ⟨rfl, by decide +kernel, by decide +kernel, by decide +kernel⟩ ⟨Nat.le_of_ble_eq_true rfl, Nat.le_of_ble_eq_true rfl⟩ hK hE hS rfl h_w rfl hl.1 rfl (Nat.le_of_ble_eq_true rfl) dX5_state_45 ⟨Nat.le_of_ble_eq_true rfl, Nat.le_of_ble_eq_true rfl⟩ (fun H locs hS => ?_)
      refine z_last hx hb hK hS h_sa (vp_in_nI (by omega) (by omega)) dX5_state_48 (fun H locs hS => ?_)
      obtain ⟨w3, ew3⟩ : ∃ z : zw, z = va_up u (sa) (some (eJ cs (11) (vp_updL (zFill (fun k => zTotal bo V n se (nI k)) SV i) (nI i : Int32).toNatClampNeg (zTotal bo V n se (nI i))))) := ⟨_, rfl⟩
      have hS : zS (zA w sz) D w3 s.heap H locs := by rw [ew3]; exact hS
      have h3_sa : w3 (sa) = some (eJ cs (11) (vp_updL (zFill (fun k => zTotal bo V n se (nI k)) SV i) (nI i : Int32).toNatClampNeg (zTotal bo V n se (nI i)))) := by rw [ew3]; exact va_up_self _ _ _
      have h3_wk : w3 (wk) = some (.inr (5, [.ref (wt), .ref (pay), .ref (sts), .int (nI n), .long (se)])) := by rw [ew3]; exact (va_up_ne _ _ (zne h_w h_sa (by intro q9; first | cases q9 | simp at q9))).trans h_w
      have h3_pay : w3 (pay) = some (eR cs 4 (60) (PR)) := by rw [ew3]; exact (va_up_ne _ _ (zne h_ps h_sa (by intro q9; first | cases q9 | simp at q9))).trans h_ps
      have h3_sts : w3 (sts) = some (eR cs 7 (6) (SR)) := by rw [ew3]; exact (va_up_ne _ _ (zne h_ss h_sa (by intro q9; first | cases q9 | simp at q9))).trans h_ss
      have h3_wt : w3 (wt) = some (.inr (4, [.ref (t), .int (pe), .int (me), .long (re), .long (cr), .long (ex), .int (en)])) := by rw [ew3]; exact (va_up_ne _ _ (zne h_te h_sa (by intro q9; first | cases q9 | simp at q9))).trans h_te
      have h3_t : w3 (t) = some (.inr (3, [.ref (fl), .ref (ra), .int (nI nt), .int (tk)])) := by rw [ew3]; exact (va_up_ne _ _ (zne h_t h_sa (by intro q9; first | cases q9 | simp at q9))).trans h_t
      have h3_fl : w3 (fl) = some (eJ cs (12) (F)) := by rw [ew3]; exact (va_up_ne _ _ hfs).trans h_fl
      have h3_ra : w3 (ra) = some (eI cs (12) (G)) := by rw [ew3]; exact (va_up_ne _ _ (zne h_ra h_sa (by intro q9; first | cases q9 | simp at q9))).trans h_ra
      rw [show (eJ cs (11) (vp_updL (zFill (fun k => zTotal bo V n se (nI k)) SV i) (nI i : Int32).toNatClampNeg (zTotal bo V n se (nI i)))) = (eJ cs (11) (zFill (fun k => zTotal bo V n se (nI k)) SV (i + 1))) from (by rw [nI_clamp (by omega)]; exact congrArg (fun z => eJ cs 11 z) (zFill_s (fun k => zTotal bo V n se (nI k)) SV i))] at h3_sa
      refine lv_iinc (v := nI (i + 1)) (lv' := [(3, .int (nI (i + 1))), (2, .ref (sa)), (0, .ref (wk)), (1, .int (nI y))]) hx hb dX5_state_49 hl (k := 0) rfl (nI_1 _) (by decide) rfl (fun ls hl => ?_)
      refine lv_goto (tgt := 35) hx hb dX5_state_52 (by decide) ?_
      have hex : zEx w w3 [(sa, (eJ cs (11) (zFill (fun k => zTotal bo V n se (nI k)) SV (i + 1))))] := ⟨(zm1 h3_sa zm0), fun a9 h9 => by rw [ew3, va_up_ne _ _ (show a9 ≠ sa from h9 (sa, (eJ cs (11) (zFill (fun k => zTotal bo V n se (nI k)) SV (i + 1)))) (List.mem_of_getElem? (i := 0) rfl)), hex0.2 a9 (zm1 (show a9 ≠ sa from h9 (sa, (eJ cs (11) (zFill (fun k => zTotal bo V n se (nI k)) SV (i + 1)))) (List.mem_of_getElem? (i := 0) rfl)) zm0)]⟩
      exact ih c38 w3 (by omega) h3_wk h3_pay h3_sts h3_sa h3_wt h3_t h3_fl h3_ra hex _ _ _ hS (lv_sub hl [0, 1, 2, 3] rfl)
  refine lv_iload_n hx hb dX5_state_0 rfl (lv_at hl 1 rfl) ?_
  refine lv_if_lt (tgt := 13) hx hb dX5_state_1 (by decide) (fun cq9 => absurd cq9 (nI_pos (by omega))) (fun _ => ?_)
  refine lv_iload_n hx hb dX5_state_4 rfl (lv_at hl 1 rfl) ?_
  refine lv_aload_n hx hb dX5_state_5 rfl (lv_at hl 0 rfl) ?_
  refine z_get (C := RX5) (T := TX5) (N := 5) (v := .ref (sts)) hx hb hts (by decide +kernel) hown hK hS h_w rfl 2 (by decide) (hts (.fieldLink RX5 26 "PayLedger$Worker" "statements" "[[J") (by decide +kernel)) rfl dX5_state_6 ?_
  refine z_alen (t0 := 7) (v := 6) hx hb hK hS h_ss rfl rfl dX5_state_9 ?_
  refine lv_icmp_lt (tgt := 14) hx hb dX5_state_10 (by decide) (fun _ => ?_) (fun cq9 => absurd (nI_lt (b := 6) hy (by omega)) cq9)
  refine lv_aload_n hx hb dX5_state_14 rfl (lv_at hl 0 rfl) ?_
  refine z_get (C := RX5) (T := TX5) (N := 5) (v := .ref (sts)) hx hb hts (by decide +kernel) hown hK hS h_w rfl 2 (by decide) (hts (.fieldLink RX5 26 "PayLedger$Worker" "statements" "[[J") (by decide +kernel)) rfl dX5_state_15 ?_
  refine lv_iload_n hx hb dX5_state_18 rfl (lv_at hl 1 rfl) ?_
  refine z_aaldg (v := .ref (sa)) hx hb hK hS h_ss rfl rfl (vp_in_nI hy (by omega)) (by rw [nI_clamp (by omega), hsr]; rfl) dX5_state_19 ?_
  refine lv_astore_n (lv' := [(2, .ref (sa)), (0, .ref (wk)), (1, .int (nI y))]) hx hb dX5_state_20 rfl hl (by decide) rfl (fun ls hl => ?_)
  refine lv_aload_n hx hb dX5_state_21 rfl (lv_at hl 0 rfl) ?_
  refine lv_ifnull hx hb dX5_state_22 ?_
  refine lv_aload_n hx hb dX5_state_25 rfl (lv_at hl 0 rfl) ?_
  refine z_alen (t0 := 1) (v := 11) hx hb hK hS h_sa rfl rfl dX5_state_26 ?_
  refine lv_bipush (v := 11) hx hb dX5_state_27 (by decide) ?_
  refine lv_icmp_ge (tgt := 33) hx hb dX5_state_29 (by decide) (fun _ => ?_) (fun cq9 => absurd (by decide) cq9)
  refine lv_iconst (v := 0) hx hb dX5_state_33 (by decide) ?_
  refine lv_istore_n (lv' := [(3, .int (0)), (2, .ref (sa)), (0, .ref (wk)), (1, .int (nI y))]) hx hb dX5_state_34 rfl hl (by decide) rfl (fun ls hl => ?_)
  have h_sa1 : w (sa) = some (eJ cs 11 (zFill (fun k => zTotal bo V n se (nI k)) SV 0)) := by rw [zFill_0]; exact h_sa
  have hex : zEx w w [(sa, (eJ cs (11) (zFill (fun k => zTotal bo V n se (nI k)) SV 0)))] := ⟨(zm1 h_sa1 zm0), fun a9 h9 => rfl⟩
  exact L35 0 w (by omega) h_w h_ps h_ss h_sa1 h_te h_t h_fl h_ra hex _ _ _ hS (lv_sub hl [0, 1, 2, 3] rfl)
set_option maxHeartbeats 4000000 in
set_option maxRecDepth 100000 in
theorem c_X5_init (l : Launch) (D : va_G) (cs : Nat → ClassId) (w : zw) (sz : Nat) (wk t : Nat) (per met : Int32)  (h_o : w (wk) = some (.inr (5, [.null, .null, .null, .int (0), .long (0)]))) : zM l D cs yX5_init wsX5_init 1 9 200 w sz [.ref (wk), .ref (t), .int (per), .int (met)] (fun r w2 => r = none ∧ ∃ (te ps ss : Nat) (rr : Nat → Nat), w te = none ∧ w ps = none ∧ w ss = none ∧ (∀ i : Nat, i < 6 → w (rr i) = none) ∧ (∀ i j : Nat, i < 6 → j < 6 → rr i = rr j → i = j) ∧ w2 wk = some (.inr (5, [.ref te, .ref ps, .ref ss, .int 0, .long 0])) ∧ w2 te = some (.inr (4, [.ref t, .int per, .int met, .long 0, .long 0, .long 0, .int 0])) ∧ w2 ps = some (eR cs 4 60 (fun _ => none)) ∧ w2 ss = some (eR cs 7 6 (fun i => if i < 6 then some (rr i) else none)) ∧ (∀ i : Nat, i < 6 → w2 (rr i) = some (eJ cs 11 (fun _ => 0))) ∧ ∀ a : Nat, a ≠ wk → a ≠ te → a ≠ ps → a ≠ ss → (∀ i : Nat, i < 6 → a ≠ rr i) → w2 a = w a) := by
  refine z_met (cc := cX5_init) (maxL := 4) (ret := none) (by decide) rfl (Nat.le_of_ble_eq_true rfl) ?_
  intro p e s m below meth c hx hb hr hml hown hts hlocks hnm hsz hK hE hS ls hl
  have hl : lv_has ls 4 [(0, .ref (wk)), (1, .ref (t)), (2, .int (per)), (3, .int (met))] := hl
  refine lv_aload_n hx hb dX5_init_0 rfl (lv_at hl 0 rfl) ?_
  refine W.objInit hx hb hown (hts (.methodLink RX5 3 objectInit) (by decide +kernel)) (hts (.instanceMethod objectInit) (by decide +kernel)) (hts (.code objectInit ⟨#[0xb1]⟩ 1 none) (by decide +kernel)) rfl (by rw [hml]; exact hl.1) rfl dX5_init_1 (Nat.le_of_ble_eq_true rfl) (Nat.le_of_ble_eq_true rfl) ?_
  refine W.eq (g2 := F0 m 4 ls []) rfl ?_
  refine lv_aload_n hx hb dX5_init_4 rfl (lv_at hl 0 rfl) ?_
  refine z_new (ci := 4) (fs := [.null, .int (0), .int (0), .long (0), .long (0), .long (0), .int (0)]) (C := RX4) (T := TX4) (N := 7) hx hb hts (by decide +kernel) tyX4 tyX4_ok hown (hts (.classLink RX5 9 RX4) (by decide +kernel)) (hts (.instantiable RX4 7) (by decide +kernel)) (hts (.initialized RX4) (by decide +kernel)) hK hS rfl (by decide +kernel) (Nat.le_of_ble_eq_true rfl) (Nat.le_of_ble_eq_true rfl) dX5_init_5 (fun te H h_nte hS => ?_)
  obtain ⟨w1, ew1⟩ : ∃ z : zw, z = va_up w (te) (some (.inr (4, [.null, .int (0), .int (0), .long (0), .long (0), .long (0), .int (0)]))) := ⟨_, rfl⟩
  have hS : zS (zA w sz) D w1 s.heap H [] := by rw [ew1]; exact hS
  have h1_te : w1 (te) = some (.inr (4, [.null, .int (0), .int (0), .long (0), .long (0), .long (0), .int (0)])) := by rw [ew1]; exact va_up_self _ _ _
  have h1_wk : w1 (wk) = some (.inr (5, [.null, .null, .null, .int (0), .long (0)])) := by rw [ew1]; exact (va_up_ne _ _ (fun q9 => by rw [q9] at h_o; rw [h_nte] at h_o; cases h_o)).trans h_o
  have hz_te : w (te) = none := by
    have q9 := h_nte
    exact q9
  refine lv_dup hx hb dX5_init_8 rfl ?_
  refine z_invIN (b := te) (As := []) (rest := [.ref (te), .ref (wk)]) (n := 0) ⟨hx, hb, hml, hown, hts⟩ (c_X4_init l D cs w1 H.size te h1_te) gX5_init_X4_init_n11 rfl (by decide +kernel) (hts (.initialized RX4) (by decide +kernel)) (hts (.instanceMethod yX4_init) (by decide +kernel)) rfl ⟨by decide +kernel, by decide +kernel, by decide +kernel⟩ ⟨Nat.le_of_ble_eq_true rfl, Nat.le_of_ble_eq_true rfl⟩ hK hE hS rfl hl.1 rfl (Nat.le_of_ble_eq_true rfl) dX5_init_9 ⟨Nat.le_of_ble_eq_true rfl, Nat.le_of_ble_eq_true rfl⟩ (fun v9 u2 H locs hq hS => ?_)
  obtain ⟨rfl, hx2⟩ := hq
  have h3_te : u2 (te) = some (.inr (4, [.null, .int (1), .int (0), .long (0), .long (0), .long (0), .int (0)])) := hx2.at 0 rfl
  have h3_wk : u2 (wk) = some (.inr (5, [.null, .null, .null, .int (0), .long (0)])) := hx2.old h1_wk (zm1 (zne h1_wk h1_te (by intro q9; first | cases q9 | simp at q9)) zm0)
  refine W.eq (g2 := F0 m 12 ls [.ref (te), .ref (wk)]) rfl ?_
  refine z_putF (C := RX5) (T := TX5) (N := 5) (v := .ref (te)) hx hb hts (by decide +kernel) tyX5 tyX5_ok nmX5 hown hK hS h3_wk rfl 0 (by decide) (hts (.fieldLink RX5 12 "PayLedger$Worker" "terms" "LPayLedger$Terms;") (by decide +kernel)) rfl hnm rfl rfl rfl (Nat.le_of_ble_eq_true rfl) dX5_init_12 (fun H locs hS => ?_)
  obtain ⟨w4, ew4⟩ : ∃ z : zw, z = va_up u2 (wk) (some (.inr (5, [.ref (te), .null, .null, .int (0), .long (0)]))) := ⟨_, rfl⟩
  have hS : zS (zA w sz) D w4 s.heap H locs := by rw [ew4]; exact hS
  have h4_wk : w4 (wk) = some (.inr (5, [.ref (te), .null, .null, .int (0), .long (0)])) := by rw [ew4]; exact va_up_self _ _ _
  have h4_te : w4 (te) = some (.inr (4, [.null, .int (1), .int (0), .long (0), .long (0), .long (0), .int (0)])) := by rw [ew4]; exact (va_up_ne _ _ (zne h3_te h3_wk (by intro q9; first | cases q9 | simp at q9))).trans h3_te
  refine lv_aload_n hx hb dX5_init_15 rfl (lv_at hl 0 rfl) ?_
  refine lv_bipush (v := 60) hx hb dX5_init_16 (by decide) ?_
  refine z_newR (C := RX2) (t0 := 4) hx hb hown (hts (.classLink RX5 18 RX2) (by decide +kernel)) (hE.2.2.2.2.2.1 RX2 (by decide +kernel)) rfl hK hS 60 (by decide) (by decide) (by decide) (Nat.le_of_ble_eq_true rfl) (Nat.le_of_ble_eq_true rfl) dX5_init_18 (fun ps H h_nps hS => ?_)
  obtain ⟨w5, ew5⟩ : ∃ z : zw, z = va_up w4 (ps) (some (eR cs 4 (60) (fun _ => none))) := ⟨_, rfl⟩
  have hS : zS (zA w sz) D w5 s.heap H locs := by rw [ew5]; exact hS
  have h5_ps : w5 (ps) = some (eR cs 4 (60) (fun _ => none)) := by rw [ew5]; exact va_up_self _ _ _
  have h5_te : w5 (te) = some (.inr (4, [.null, .int (1), .int (0), .long (0), .long (0), .long (0), .int (0)])) := by rw [ew5]; exact (va_up_ne _ _ (fun q9 => by rw [q9] at h4_te; rw [h_nps] at h4_te; cases h4_te)).trans h4_te
  have h5_wk : w5 (wk) = some (.inr (5, [.ref (te), .null, .null, .int (0), .long (0)])) := by rw [ew5]; exact (va_up_ne _ _ (fun q9 => by rw [q9] at h4_wk; rw [h_nps] at h4_wk; cases h4_wk)).trans h4_wk
  have hz_ps : w (ps) = none := by
    have q9 := h_nps
    rw [ew4] at q9
    have q9 := (zup_none q9).2
    have q9 := (zEx.none hx2 q9).1
    rw [ew1] at q9
    have q9 := (zup_none q9).2
    exact q9
  refine z_putF (C := RX5) (T := TX5) (N := 5) (v := .ref (ps)) hx hb hts (by decide +kernel) tyX5 tyX5_ok nmX5 hown hK hS h5_wk rfl 1 (by decide) (hts (.fieldLink RX5 20 "PayLedger$Worker" "pays" "[LPayLedger$Pay;") (by decide +kernel)) rfl hnm rfl rfl rfl (Nat.le_of_ble_eq_true rfl) dX5_init_21 (fun H locs hS => ?_)
  obtain ⟨w6, ew6⟩ : ∃ z : zw, z = va_up w5 (wk) (some (.inr (5, [.ref (te), .ref (ps), .null, .int (0), .long (0)]))) := ⟨_, rfl⟩
  have hS : zS (zA w sz) D w6 s.heap H locs := by rw [ew6]; exact hS
  have h6_wk : w6 (wk) = some (.inr (5, [.ref (te), .ref (ps), .null, .int (0), .long (0)])) := by rw [ew6]; exact va_up_self _ _ _
  have h6_te : w6 (te) = some (.inr (4, [.null, .int (1), .int (0), .long (0), .long (0), .long (0), .int (0)])) := by rw [ew6]; exact (va_up_ne _ _ (zne h5_te h5_wk (by intro q9; first | cases q9 | simp at q9))).trans h5_te
  have h6_ps : w6 (ps) = some (eR cs 4 (60) (fun _ => none)) := by rw [ew6]; exact (va_up_ne _ _ (zne h5_ps h5_wk (by intro q9; first | cases q9 | simp at q9))).trans h5_ps
  refine lv_aload_n hx hb dX5_init_24 rfl (lv_at hl 0 rfl) ?_
  refine lv_bipush (v := 6) hx hb dX5_init_25 (by decide) ?_
  refine lv_bipush (v := 11) hx hb dX5_init_27 (by decide) ?_
  refine z_mna hx hb hown (hts (.classLink RX5 24 "[[J") (by decide +kernel)) hE.2.2.2.2.2.2.1 (hts (.arrayClass .long) (by decide +kernel)) hK hS 6 11 (by decide) (by decide) (by decide) (by decide) (by decide) (by decide) (by decide) (Nat.le_of_ble_eq_true rfl) (Nat.le_of_ble_eq_true rfl) dX5_init_29 (fun ss rr g7 H hg1 hg2 hg3 hg4 hg5 hg6 hS => ?_)
  have h7_te : g7 (te) = some (.inr (4, [.null, .int (1), .int (0), .long (0), .long (0), .long (0), .int (0)])) := (hg6 (te) (znone_ne hg1 h6_te) (fun i9 hi9 => znone_ne (hg2 i9 hi9) h6_te)).trans h6_te
  have h7_ps : g7 (ps) = some (eR cs 4 (60) (fun _ => none)) := (hg6 (ps) (znone_ne hg1 h6_ps) (fun i9 hi9 => znone_ne (hg2 i9 hi9) h6_ps)).trans h6_ps
  have h7_wk : g7 (wk) = some (.inr (5, [.ref (te), .ref (ps), .null, .int (0), .long (0)])) := (hg6 (wk) (znone_ne hg1 h6_wk) (fun i9 hi9 => znone_ne (hg2 i9 hi9) h6_wk)).trans h6_wk
  refine z_putF (C := RX5) (T := TX5) (N := 5) (v := .ref (ss)) hx hb hts (by decide +kernel) tyX5 tyX5_ok nmX5 hown hK hS h7_wk rfl 2 (by decide) (hts (.fieldLink RX5 26 "PayLedger$Worker" "statements" "[[J") (by decide +kernel)) rfl hnm rfl rfl rfl (Nat.le_of_ble_eq_true rfl) dX5_init_33 (fun H locs hS => ?_)
  obtain ⟨w8, ew8⟩ : ∃ z : zw, z = va_up g7 (wk) (some (.inr (5, [.ref (te), .ref (ps), .ref (ss), .int (0), .long (0)]))) := ⟨_, rfl⟩
  have hS : zS (zA w sz) D w8 s.heap H locs := by rw [ew8]; exact hS
  have h8_wk : w8 (wk) = some (.inr (5, [.ref (te), .ref (ps), .ref (ss), .int (0), .long (0)])) := by rw [ew8]; exact va_up_self _ _ _
  have h8_te : w8 (te) = some (.inr (4, [.null, .int (1), .int (0), .long (0), .long (0), .long (0), .int (0)])) := by rw [ew8]; exact (va_up_ne _ _ (zne h7_te h7_wk (by intro q9; first | cases q9 | simp at q9))).trans h7_te
  have h8_ps : w8 (ps) = some (eR cs 4 (60) (fun _ => none)) := by rw [ew8]; exact (va_up_ne _ _ (zne h7_ps h7_wk (by intro q9; first | cases q9 | simp at q9))).trans h7_ps
  have h8_ss : w8 (ss) = some (eR cs 7 (6) (fun i => if i < 6 then some (rr i) else none)) := by rw [ew8]; exact (va_up_ne _ _ (zne hg4 h7_wk (by intro q9; first | cases q9 | simp at q9))).trans hg4
  refine lv_aload_n hx hb dX5_init_36 rfl (lv_at hl 0 rfl) ?_
  refine lv_iconst (v := 0) hx hb dX5_init_37 (by decide) ?_
  refine z_put (C := RX5) (T := TX5) (N := 5) (v := .int (0)) hx hb hts (by decide +kernel) tyX5 tyX5_ok nmX5 hown hK hS h8_wk rfl 3 (by decide) (hts (.fieldLink RX5 29 "PayLedger$Worker" "held" "I") (by decide +kernel)) rfl rfl rfl (Nat.le_of_ble_eq_true rfl) dX5_init_38 (fun H locs hS => ?_)
  obtain ⟨w9, ew9⟩ : ∃ z : zw, z = va_up w8 (wk) (some (.inr (5, [.ref (te), .ref (ps), .ref (ss), .int (0), .long (0)]))) := ⟨_, rfl⟩
  have hS : zS (zA w sz) D w9 s.heap H locs := by rw [ew9]; exact hS
  have h9_wk : w9 (wk) = some (.inr (5, [.ref (te), .ref (ps), .ref (ss), .int (0), .long (0)])) := by rw [ew9]; exact va_up_self _ _ _
  have h9_te : w9 (te) = some (.inr (4, [.null, .int (1), .int (0), .long (0), .long (0), .long (0), .int (0)])) := by rw [ew9]; exact (va_up_ne _ _ (zne h8_te h8_wk (by intro q9; first | cases q9 | simp at q9))).trans h8_te
  have h9_ps : w9 (ps) = some (eR cs 4 (60) (fun _ => none)) := by rw [ew9]; exact (va_up_ne _ _ (zne h8_ps h8_wk (by intro q9; first | cases q9 | simp at q9))).trans h8_ps
  have h9_ss : w9 (ss) = some (eR cs 7 (6) (fun i => if i < 6 then some (rr i) else none)) := by rw [ew9]; exact (va_up_ne _ _ (zne h8_ss h8_wk (by intro q9; first | cases q9 | simp at q9))).trans h8_ss
  refine lv_aload_n hx hb dX5_init_41 rfl (lv_at hl 0 rfl) ?_
  refine lv_lconst (v := 0) hx hb dX5_init_42 (by decide) ?_
  refine z_put (C := RX5) (T := TX5) (N := 5) (v := .long (0)) hx hb hts (by decide +kernel) tyX5 tyX5_ok nmX5 hown hK hS h9_wk rfl 4 (by decide) (hts (.fieldLink RX5 33 "PayLedger$Worker" "settled" "J") (by decide +kernel)) rfl rfl rfl (Nat.le_of_ble_eq_true rfl) dX5_init_43 (fun H locs hS => ?_)
  obtain ⟨w10, ew10⟩ : ∃ z : zw, z = va_up w9 (wk) (some (.inr (5, [.ref (te), .ref (ps), .ref (ss), .int (0), .long (0)]))) := ⟨_, rfl⟩
  have hS : zS (zA w sz) D w10 s.heap H locs := by rw [ew10]; exact hS
  have h10_wk : w10 (wk) = some (.inr (5, [.ref (te), .ref (ps), .ref (ss), .int (0), .long (0)])) := by rw [ew10]; exact va_up_self _ _ _
  have h10_te : w10 (te) = some (.inr (4, [.null, .int (1), .int (0), .long (0), .long (0), .long (0), .int (0)])) := by rw [ew10]; exact (va_up_ne _ _ (zne h9_te h9_wk (by intro q9; first | cases q9 | simp at q9))).trans h9_te
  have h10_ps : w10 (ps) = some (eR cs 4 (60) (fun _ => none)) := by rw [ew10]; exact (va_up_ne _ _ (zne h9_ps h9_wk (by intro q9; first | cases q9 | simp at q9))).trans h9_ps
  have h10_ss : w10 (ss) = some (eR cs 7 (6) (fun i => if i < 6 then some (rr i) else none)) := by rw [ew10]; exact (va_up_ne _ _ (zne h9_ss h9_wk (by intro q9; first | cases q9 | simp at q9))).trans h9_ss
  refine lv_aload_n hx hb dX5_init_46 rfl (lv_at hl 0 rfl) ?_
  refine z_get (C := RX5) (T := TX5) (N := 5) (v := .ref (te)) hx hb hts (by decide +kernel) hown hK hS h10_wk rfl 0 (by decide) (hts (.fieldLink RX5 12 "PayLedger$Worker" "terms" "LPayLedger$Terms;") (by decide +kernel)) rfl dX5_init_47 ?_
  refine lv_aload_n hx hb dX5_init_50 rfl (lv_at hl 1 rfl) ?_
  refine z_put (C := RX4) (T := TX4) (N := 7) (v := .ref (t)) hx hb hts (by decide +kernel) tyX4 tyX4_ok nmX4 hown hK hS h10_te rfl 0 (by decide) (hts (.fieldLink RX5 37 "PayLedger$Terms" "table" "LPayLedger$Table;") (by decide +kernel)) rfl rfl rfl (Nat.le_of_ble_eq_true rfl) dX5_init_51 (fun H locs hS => ?_)
  obtain ⟨w11, ew11⟩ : ∃ z : zw, z = va_up w10 (te) (some (.inr (4, [.ref (t), .int (1), .int (0), .long (0), .long (0), .long (0), .int (0)]))) := ⟨_, rfl⟩
  have hS : zS (zA w sz) D w11 s.heap H locs := by rw [ew11]; exact hS
  have h11_te : w11 (te) = some (.inr (4, [.ref (t), .int (1), .int (0), .long (0), .long (0), .long (0), .int (0)])) := by rw [ew11]; exact va_up_self _ _ _
  have h11_ps : w11 (ps) = some (eR cs 4 (60) (fun _ => none)) := by rw [ew11]; exact (va_up_ne _ _ (zne h10_ps h10_te (by intro q9; first | cases q9 | simp at q9))).trans h10_ps
  have h11_ss : w11 (ss) = some (eR cs 7 (6) (fun i => if i < 6 then some (rr i) else none)) := by rw [ew11]; exact (va_up_ne _ _ (zne h10_ss h10_te (by intro q9; first | cases q9 | simp at q9))).trans h10_ss
  have h11_wk : w11 (wk) = some (.inr (5, [.ref (te), .ref (ps), .ref (ss), .int (0), .long (0)])) := by rw [ew11]; exact (va_up_ne _ _ (zne h10_wk h10_te (by intro q9; first | cases q9 | simp at q9))).trans h10_wk
  refine lv_aload_n hx hb dX5_init_54 rfl (lv_at hl 0 rfl) ?_
  refine z_get (C := RX5) (T := TX5) (N := 5) (v := .ref (te)) hx hb hts (by decide +kernel) hown hK hS h11_wk rfl 0 (by decide) (hts (.fieldLink RX5 12 "PayLedger$Worker" "terms" "LPayLedger$Terms;") (by decide +kernel)) rfl dX5_init_55 ?_
  refine lv_iload_n hx hb dX5_init_58 rfl (lv_at hl 2 rfl) ?_
  refine z_put (C := RX4) (T := TX4) (N := 7) (v := .int (per)) hx hb hts (by decide +kernel) tyX4 tyX4_ok nmX4 hown hK hS h11_te rfl 1 (by decide) (hts (.fieldLink RX5 41 "PayLedger$Terms" "periods" "I") (by decide +kernel)) rfl rfl rfl (Nat.le_of_ble_eq_true rfl) dX5_init_59 (fun H locs hS => ?_)
  obtain ⟨w12, ew12⟩ : ∃ z : zw, z = va_up w11 (te) (some (.inr (4, [.ref (t), .int (per), .int (0), .long (0), .long (0), .long (0), .int (0)]))) := ⟨_, rfl⟩
  have hS : zS (zA w sz) D w12 s.heap H locs := by rw [ew12]; exact hS
  have h12_te : w12 (te) = some (.inr (4, [.ref (t), .int (per), .int (0), .long (0), .long (0), .long (0), .int (0)])) := by rw [ew12]; exact va_up_self _ _ _
  have h12_ps : w12 (ps) = some (eR cs 4 (60) (fun _ => none)) := by rw [ew12]; exact (va_up_ne _ _ (zne h11_ps h11_te (by intro q9; first | cases q9 | simp at q9))).trans h11_ps
  have h12_ss : w12 (ss) = some (eR cs 7 (6) (fun i => if i < 6 then some (rr i) else none)) := by rw [ew12]; exact (va_up_ne _ _ (zne h11_ss h11_te (by intro q9; first | cases q9 | simp at q9))).trans h11_ss
  have h12_wk : w12 (wk) = some (.inr (5, [.ref (te), .ref (ps), .ref (ss), .int (0), .long (0)])) := by rw [ew12]; exact (va_up_ne _ _ (zne h11_wk h11_te (by intro q9; first | cases q9 | simp at q9))).trans h11_wk
  refine lv_aload_n hx hb dX5_init_62 rfl (lv_at hl 0 rfl) ?_
  refine z_get (C := RX5) (T := TX5) (N := 5) (v := .ref (te)) hx hb hts (by decide +kernel) hown hK hS h12_wk rfl 0 (by decide) (hts (.fieldLink RX5 12 "PayLedger$Worker" "terms" "LPayLedger$Terms;") (by decide +kernel)) rfl dX5_init_63 ?_
  refine lv_iload_n hx hb dX5_init_66 rfl (lv_at hl 3 rfl) ?_
  refine z_put (C := RX4) (T := TX4) (N := 7) (v := .int (met)) hx hb hts (by decide +kernel) tyX4 tyX4_ok nmX4 hown hK hS h12_te rfl 2 (by decide) (hts (.fieldLink RX5 44 "PayLedger$Terms" "method" "I") (by decide +kernel)) rfl rfl rfl (Nat.le_of_ble_eq_true rfl) dX5_init_67 (fun H locs hS => ?_)
  obtain ⟨w13, ew13⟩ : ∃ z : zw, z = va_up w12 (te) (some (.inr (4, [.ref (t), .int (per), .int (met), .long (0), .long (0), .long (0), .int (0)]))) := ⟨_, rfl⟩
  have hS : zS (zA w sz) D w13 s.heap H locs := by rw [ew13]; exact hS
  have h13_te : w13 (te) = some (.inr (4, [.ref (t), .int (per), .int (met), .long (0), .long (0), .long (0), .int (0)])) := by rw [ew13]; exact va_up_self _ _ _
  have h13_ps : w13 (ps) = some (eR cs 4 (60) (fun _ => none)) := by rw [ew13]; exact (va_up_ne _ _ (zne h12_ps h12_te (by intro q9; first | cases q9 | simp at q9))).trans h12_ps
  have h13_ss : w13 (ss) = some (eR cs 7 (6) (fun i => if i < 6 then some (rr i) else none)) := by rw [ew13]; exact (va_up_ne _ _ (zne h12_ss h12_te (by intro q9; first | cases q9 | simp at q9))).trans h12_ss
  have h13_wk : w13 (wk) = some (.inr (5, [.ref (te), .ref (ps), .ref (ss), .int (0), .long (0)])) := by rw [ew13]; exact (va_up_ne _ _ (zne h12_wk h12_te (by intro q9; first | cases q9 | simp at q9))).trans h12_wk
  have hrr : ∀ i : Nat, i < 6 → w13 (rr i) = some (eJ cs 11 (fun _ => 0)) := by
    intro i hi
    have q1 : rr i ≠ wk := zne (hg5 i hi) h7_wk (by intro q9; cases q9)
    have q2 : rr i ≠ te := zne (hg5 i hi) h7_te (by intro q9; cases q9)
    rw [ew13, va_up_ne _ _ (q2), ew12, va_up_ne _ _ (q2), ew11, va_up_ne _ _ (q2), ew10, va_up_ne _ _ (q1), ew9, va_up_ne _ _ (q1), ew8, va_up_ne _ _ (q1)]
    exact hg5 i hi
  have hfr : ∀ a : Nat, a ≠ wk → a ≠ te → a ≠ ps → a ≠ ss → (∀ i : Nat, i < 6 → a ≠ rr i) → w13 a = w a := by
    intro a a1 a2 a3 a4 a5
    rw [ew13, va_up_ne _ _ (a2), ew12, va_up_ne _ _ (a2), ew11, va_up_ne _ _ (a2), ew10, va_up_ne _ _ (a1), ew9, va_up_ne _ _ (a1), ew8, va_up_ne _ _ (a1), hg6 a a4 a5, ew6, va_up_ne _ _ (a1), ew5, va_up_ne _ _ (a3), ew4, va_up_ne _ _ (a1), hx2.2 a (zm1 a2 zm0), ew1, va_up_ne _ _ (a2)]
  have hzss : w ss = none := by
    have q9 := hg1
    rw [ew6] at q9
    have q9 := (zup_none q9).2
    rw [ew5] at q9
    have q9 := (zup_none q9).2
    rw [ew4] at q9
    have q9 := (zup_none q9).2
    have q9 := (zEx.none hx2 q9).1
    rw [ew1] at q9
    have q9 := (zup_none q9).2
    exact q9
  have hzrr : ∀ i : Nat, i < 6 → w (rr i) = none := by
    intro i hi
    have q9 := hg2 i hi
    rw [ew6] at q9
    have q9 := (zup_none q9).2
    rw [ew5] at q9
    have q9 := (zup_none q9).2
    rw [ew4] at q9
    have q9 := (zup_none q9).2
    have q9 := (zEx.none hx2 q9).1
    rw [ew1] at q9
    have q9 := (zup_none q9).2
    exact q9
  exact z_vret hx hb hr hlocks hS (Nat.le_of_ble_eq_true rfl) (Nat.le_of_ble_eq_true rfl) dX5_init_70 ⟨rfl, te, ps, ss, rr, hz_te, hz_ps, hzss, hzrr, hg3, h13_wk, h13_te, h13_ps, h13_ss, hrr, hfr⟩
