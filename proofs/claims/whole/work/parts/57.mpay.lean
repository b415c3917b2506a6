/-! ===== the model: pay, ask ===== -/
set_option maxHeartbeats 8000000 in
set_option maxRecDepth 100000 in
theorem c_X7_lays (l : Launch) (D : va_G) (cs : Nat → ClassId) (w : zw) (sz : Nat) (mm : Nat) (ad : Nat → Nat) (J : Nat → Nat → Int64) (K : Nat → Nat → Int32) (th tb wk yr wd : Int32) (wi : Nat) (bo rb pe me : Nat → Int32) (re cr ex : Nat → Int64) (en : Nat → Int32) (tx : Nat → Nat) (V P : Nat → Nat → Int64) (nb : Nat) (tn : Nat → Nat) (FF : Nat → Nat → Int64) (GF : Nat → Nat → Int32) (nd : Nat) (de so : Nat → Int32) (si ca bs : Nat → Int64) (n : Nat) (hinj : ∀ i j : Nat, i ≠ j → ad i ≠ ad j) (hM : zMA cs w ad J K) (hTb : mTb J K nb tn FF GF) (hDd : mDd J K nd de so si ca bs) (hP : mPy J K wi (n) bo rb pe me re cr ex en tx V nb) (hw : wi < 10) (hn : n < 60) (h19 : K 19 wi = nI n) (hb01 : bo n = 0 ∨ bo n = 1) (h12 : K 12 wi = nI (tx n)) (h13 : K 13 wi = pe n) (h14 : K 14 wi = me n) (h15 : K 15 wi = en n) (h16 : J 16 wi = re n) (h17 : J 17 wi = cr n) (h18 : J 18 wi = ex n) (htx : tx n < nb) (hpn : (pe n).toInt64 ≠ 0) (hWk : ∀ k : Nat, k < n + 1 → mWkd nd de so si ca bs bo rb pe me re cr ex en tx tn FF GF V P k) (h_m : w (mm) = some (mo ad (th) (tb) (nI nd) (wk) (rb n) (yr) (wd))) : zM l D cs yX7_lays wsX7_lays 6 0 0 w sz [.ref (mm), .int (nI wi), .long (V n 0), .int (bo n)] (fun r w2 => r = some (.long (V n 6)) ∧ ∃ J' : Nat → Nat → Int64, mOut (va_up (va_up (va_up (va_up J 25 (vp_updL (J 25) (60 * wi + n) (V n 0))) 32 (vp_updL (J 32) (60 * wi + n) (re n))) 33 (vp_updL (J 33) (60 * wi + n) (cr n))) 34 (vp_updL (J 34) (60 * wi + n) (ex n))) J' ∧ zMQ cs w w2 ad mm (mo ad (th) (tb) (nI nd) (wk) (rb n) (yr) (wd)) J' (va_up (va_up (va_up (va_up (va_up (va_up K 26 (upd (K 26) (60 * wi + n) (bo n))) 27 (upd (K 27) (60 * wi + n) (nI (tx n)))) 28 (upd (K 28) (60 * wi + n) (pe n))) 29 (upd (K 29) (60 * wi + n) (me n))) 30 (upd (K 30) (60 * wi + n) (en n))) 31 (upd (K 31) (60 * wi + n) (rb n)))) := by
  refine z_met (cc := cX7_lays) (maxL := 6) (ret := (some .long)) (by decide) rfl (Nat.le_of_ble_eq_true rfl) ?_
  intro p e s m below meth c hx hb hr hml hown hts hlocks hnm hsz hK hE hS ls hl
  have hl : lv_has ls 6 [(0, .ref (mm)), (1, .int (nI wi)), (2, .long (V n 0)), (4, .int (bo n))] := hl
  have h_12 : w (ad 12) = some (eI cs (10) (K 12)) := hM 12 (by decide)
  have h_13 : w (ad 13) = some (eI cs (10) (K 13)) := hM 13 (by decide)
  have h_14 : w (ad 14) = some (eI cs (10) (K 14)) := hM 14 (by decide)
  have h_15 : w (ad 15) = some (eI cs (10) (K 15)) := hM 15 (by decide)
  have h_16 : w (ad 16) = some (eJ cs (10) (J 16)) := hM 16 (by decide)
  have h_17 : w (ad 17) = some (eJ cs (10) (J 17)) := hM 17 (by decide)
  have h_18 : w (ad 18) = some (eJ cs (10) (J 18)) := hM 18 (by decide)
  have h_19 : w (ad 19) = some (eI cs (10) (K 19)) := hM 19 (by decide)
  have h_25 : w (ad 25) = some (eJ cs (600) (J 25)) := hM 25 (by decide)
  have h_26 : w (ad 26) = some (eZ cs (600) (K 26)) := hM 26 (by decide)
  have h_27 : w (ad 27) = some (eI cs (600) (K 27)) := hM 27 (by decide)
  have h_28 : w (ad 28) = some (eI cs (600) (K 28)) := hM 28 (by decide)
  have h_29 : w (ad 29) = some (eI cs (600) (K 29)) := hM 29 (by decide)
  have h_30 : w (ad 30) = some (eI cs (600) (K 30)) := hM 30 (by decide)
  have h_31 : w (ad 31) = some (eI cs (600) (K 31)) := hM 31 (by decide)
  have h_32 : w (ad 32) = some (eJ cs (600) (J 32)) := hM 32 (by decide)
  have h_33 : w (ad 33) = some (eJ cs (600) (J 33)) := hM 33 (by decide)
  have h_34 : w (ad 34) = some (eJ cs (600) (J 34)) := hM 34 (by decide)
  refine lv_bipush (v := 60) hx hb dX7_lays_0 (by decide) ?_
  refine lv_iload_n hx hb dX7_lays_2 rfl (lv_at hl 1 rfl) ?_
  refine lv_imul hx hb dX7_lays_3 ?_
  refine z_ti (y := nI (60 * wi)) (zI_mul (60) (wi)) ?_
  refine lv_aload_n hx hb dX7_lays_4 rfl (lv_at hl 0 rfl) ?_
  refine z_get (C := RX7) (T := TX7) (N := 45) (v := .ref (ad 19)) hx hb hts (by decide +kernel) hown hK hS h_m rfl 19 (by decide) (hts (.fieldLink RX7 60 "PayLedgerModel" "many" "[I") (by decide +kernel)) rfl dX7_lays_5 ?_
  refine lv_iload_n hx hb dX7_lays_8 rfl (lv_at hl 1 rfl) ?_
  refine z_iald hx hb hK hS h_19 (vp_in_nI (by omega) (by decide)) dX7_lays_9 ?_
  refine z_ti (y := ((K 19) (wi))) (congrArg _ (nI_clamp (by omega))) ?_
  refine z_ti (y := nI n) h19 ?_
  refine lv_iadd hx hb dX7_lays_10 ?_
  refine z_ti (y := nI ((60 * wi) + n)) (nI_add ((60 * wi)) (n)) ?_
  refine lv_istore (lv' := [(5, .int (nI ((60 * wi) + n))), (0, .ref (mm)), (1, .int (nI wi)), (2, .long (V n 0)), (4, .int (bo n))]) hx hb dX7_lays_11 hl (by decide) rfl (fun ls hl => ?_)
  refine lv_aload_n hx hb dX7_lays_13 rfl (lv_at hl 1 rfl) ?_
  refine z_get (C := RX7) (T := TX7) (N := 45) (v := .ref (ad 25)) hx hb hts (by decide +kernel) hown hK hS h_m rfl 25 (by decide) (hts (.fieldLink RX7 66 "PayLedgerModel" "gross" "[J") (by decide +kernel)) rfl dX7_lays_14 ?_
  refine lv_iload hx hb dX7_lays_17 (lv_at hl 0 rfl) ?_
  refine lv_lload_n hx hb dX7_lays_19 rfl (lv_at hl 3 rfl) ?_
  refine z_last hx hb hK hS h_25 (vp_in_nI (by omega) (by decide)) dX7_lays_20 (fun H locs hS => ?_)
  obtain ⟨w1, ew1⟩ : ∃ z : zw, z = va_up w (ad 25) (some (eJ cs (600) (vp_updL (J 25) (nI ((60 * wi) + n) : Int32).toNatClampNeg (V n 0)))) := ⟨_, rfl⟩
  have hS : zS (zA w sz) D w1 s.heap H locs := by rw [ew1]; exact hS
  have h1_ad25 : w1 (ad 25) = some (eJ cs (600) (vp_updL (J 25) (nI ((60 * wi) + n) : Int32).toNatClampNeg (V n 0))) := by rw [ew1]; exact va_up_self _ _ _
  have h1_mm : w1 (mm) = some (mo ad (th) (tb) (nI nd) (wk) (rb n) (yr) (wd)) := by rw [ew1]; exact (va_up_ne _ _ (zne h_m h_25 (by intro q9; first | cases q9 | simp at q9))).trans h_m
  have h1_ad12 : w1 (ad 12) = some (eI cs (10) (K 12)) := by rw [ew1]; exact (va_up_ne _ _ (hinj 12 25 (by decide))).trans h_12
  have h1_ad13 : w1 (ad 13) = some (eI cs (10) (K 13)) := by rw [ew1]; exact (va_up_ne _ _ (hinj 13 25 (by decide))).trans h_13
  have h1_ad14 : w1 (ad 14) = some (eI cs (10) (K 14)) := by rw [ew1]; exact (va_up_ne _ _ (hinj 14 25 (by decide))).trans h_14
  have h1_ad15 : w1 (ad 15) = some (eI cs (10) (K 15)) := by rw [ew1]; exact (va_up_ne _ _ (hinj 15 25 (by decide))).trans h_15
  have h1_ad16 : w1 (ad 16) = some (eJ cs (10) (J 16)) := by rw [ew1]; exact (va_up_ne _ _ (hinj 16 25 (by decide))).trans h_16
  have h1_ad17 : w1 (ad 17) = some (eJ cs (10) (J 17)) := by rw [ew1]; exact (va_up_ne _ _ (hinj 17 25 (by decide))).trans h_17
  have h1_ad18 : w1 (ad 18) = some (eJ cs (10) (J 18)) := by rw [ew1]; exact (va_up_ne _ _ (hinj 18 25 (by decide))).trans h_18
  have h1_ad19 : w1 (ad 19) = some (eI cs (10) (K 19)) := by rw [ew1]; exact (va_up_ne _ _ (hinj 19 25 (by decide))).trans h_19
  have h1_ad26 : w1 (ad 26) = some (eZ cs (600) (K 26)) := by rw [ew1]; exact (va_up_ne _ _ (hinj 26 25 (by decide))).trans h_26
  have h1_ad27 : w1 (ad 27) = some (eI cs (600) (K 27)) := by rw [ew1]; exact (va_up_ne _ _ (hinj 27 25 (by decide))).trans h_27
  have h1_ad28 : w1 (ad 28) = some (eI cs (600) (K 28)) := by rw [ew1]; exact (va_up_ne _ _ (hinj 28 25 (by decide))).trans h_28
  have h1_ad29 : w1 (ad 29) = some (eI cs (600) (K 29)) := by rw [ew1]; exact (va_up_ne _ _ (hinj 29 25 (by decide))).trans h_29
  have h1_ad30 : w1 (ad 30) = some (eI cs (600) (K 30)) := by rw [ew1]; exact (va_up_ne _ _ (hinj 30 25 (by decide))).trans h_30
  have h1_ad31 : w1 (ad 31) = some (eI cs (600) (K 31)) := by rw [ew1]; exact (va_up_ne _ _ (hinj 31 25 (by decide))).trans h_31
  have h1_ad32 : w1 (ad 32) = some (eJ cs (600) (J 32)) := by rw [ew1]; exact (va_up_ne _ _ (hinj 32 25 (by decide))).trans h_32
  have h1_ad33 : w1 (ad 33) = some (eJ cs (600) (J 33)) := by rw [ew1]; exact (va_up_ne _ _ (hinj 33 25 (by decide))).trans h_33
  have h1_ad34 : w1 (ad 34) = some (eJ cs (600) (J 34)) := by rw [ew1]; exact (va_up_ne _ _ (hinj 34 25 (by decide))).trans h_34
  have h1_ad25 : w1 (ad 25) = some (eJ cs (600) (vp_updL (J 25) (((60 * wi) + n)) (V n 0))) := by rw [nI_clamp (by omega)] at h1_ad25; exact h1_ad25
  refine lv_aload_n hx hb dX7_lays_21 rfl (lv_at hl 1 rfl) ?_
  refine z_get (C := RX7) (T := TX7) (N := 45) (v := .ref (ad 26)) hx hb hts (by decide +kernel) hown hK hS h1_mm rfl 26 (by decide) (hts (.fieldLink RX7 69 "PayLedgerModel" "isBonus" "[Z") (by decide +kernel)) rfl dX7_lays_22 ?_
  refine lv_iload hx hb dX7_lays_25 (lv_at hl 0 rfl) ?_
  refine lv_iload hx hb dX7_lays_27 (lv_at hl 4 rfl) ?_
  refine z_zast hx hb hK hS h1_ad26 (vp_in_nI (by omega) (by decide)) dX7_lays_29 (fun H locs hS => ?_)
  obtain ⟨w2, ew2⟩ : ∃ z : zw, z = va_up w1 (ad 26) (some (eZ cs (600) (upd (K 26) (nI ((60 * wi) + n) : Int32).toNatClampNeg ((vp_nar .boolean (bo n)))))) := ⟨_, rfl⟩
  have hS : zS (zA w sz) D w2 s.heap H locs := by rw [ew2]; exact hS
  have h2_ad26 : w2 (ad 26) = some (eZ cs (600) (upd (K 26) (nI ((60 * wi) + n) : Int32).toNatClampNeg ((vp_nar .boolean (bo n))))) := by rw [ew2]; exact va_up_self _ _ _
  have h2_mm : w2 (mm) = some (mo ad (th) (tb) (nI nd) (wk) (rb n) (yr) (wd)) := by rw [ew2]; exact (va_up_ne _ _ (zne h1_mm h1_ad26 (by intro q9; first | cases q9 | simp at q9))).trans h1_mm
  have h2_ad12 : w2 (ad 12) = some (eI cs (10) (K 12)) := by rw [ew2]; exact (va_up_ne _ _ (hinj 12 26 (by decide))).trans h1_ad12
  have h2_ad13 : w2 (ad 13) = some (eI cs (10) (K 13)) := by rw [ew2]; exact (va_up_ne _ _ (hinj 13 26 (by decide))).trans h1_ad13
  have h2_ad14 : w2 (ad 14) = some (eI cs (10) (K 14)) := by rw [ew2]; exact (va_up_ne _ _ (hinj 14 26 (by decide))).trans h1_ad14
  have h2_ad15 : w2 (ad 15) = some (eI cs (10) (K 15)) := by rw [ew2]; exact (va_up_ne _ _ (hinj 15 26 (by decide))).trans h1_ad15
  have h2_ad16 : w2 (ad 16) = some (eJ cs (10) (J 16)) := by rw [ew2]; exact (va_up_ne _ _ (hinj 16 26 (by decide))).trans h1_ad16
  have h2_ad17 : w2 (ad 17) = some (eJ cs (10) (J 17)) := by rw [ew2]; exact (va_up_ne _ _ (hinj 17 26 (by decide))).trans h1_ad17
  have h2_ad18 : w2 (ad 18) = some (eJ cs (10) (J 18)) := by rw [ew2]; exact (va_up_ne _ _ (hinj 18 26 (by decide))).trans h1_ad18
  have h2_ad19 : w2 (ad 19) = some (eI cs (10) (K 19)) := by rw [ew2]; exact (va_up_ne _ _ (hinj 19 26 (by decide))).trans h1_ad19
  have h2_ad27 : w2 (ad 27) = some (eI cs (600) (K 27)) := by rw [ew2]; exact (va_up_ne _ _ (hinj 27 26 (by decide))).trans h1_ad27
  have h2_ad28 : w2 (ad 28) = some (eI cs (600) (K 28)) := by rw [ew2]; exact (va_up_ne _ _ (hinj 28 26 (by decide))).trans h1_ad28
  have h2_ad29 : w2 (ad 29) = some (eI cs (600) (K 29)) := by rw [ew2]; exact (va_up_ne _ _ (hinj 29 26 (by decide))).trans h1_ad29
  have h2_ad30 : w2 (ad 30) = some (eI cs (600) (K 30)) := by rw [ew2]; exact (va_up_ne _ _ (hinj 30 26 (by decide))).trans h1_ad30
  have h2_ad31 : w2 (ad 31) = some (eI cs (600) (K 31)) := by rw [ew2]; exact (va_up_ne _ _ (hinj 31 26 (by decide))).trans h1_ad31
  have h2_ad32 : w2 (ad 32) = some (eJ cs (600) (J 32)) := by rw [ew2]; exact (va_up_ne _ _ (hinj 32 26 (by decide))).trans h1_ad32
  have h2_ad33 : w2 (ad 33) = some (eJ cs (600) (J 33)) := by rw [ew2]; exact (va_up_ne _ _ (hinj 33 26 (by decide))).trans h1_ad33
  have h2_ad34 : w2 (ad 34) = some (eJ cs (600) (J 34)) := by rw [ew2]; exact (va_up_ne _ _ (hinj 34 26 (by decide))).trans h1_ad34
  have h2_ad25 : w2 (ad 25) = some (eJ cs (600) (vp_updL (J 25) (((60 * wi) + n)) (V n 0))) := by rw [ew2]; exact (va_up_ne _ _ (hinj 25 26 (by decide))).trans h1_ad25
  have h2_ad26 : w2 (ad 26) = some (eZ cs (600) (upd (K 26) (((60 * wi) + n)) ((vp_nar .boolean (bo n))))) := by rw [nI_clamp (by omega)] at h2_ad26; exact h2_ad26
  rw [show (eZ cs (600) (upd (K 26) (((60 * wi) + n)) ((vp_nar .boolean (bo n))))) = (eZ cs (600) (upd (K 26) (60 * wi + n) (bo n))) from (by rw [show vp_nar .boolean (bo n) = bo n from by rcases hb01 with q | q <;> rw [q] <;> rfl])] at h2_ad26
  refine lv_aload_n hx hb dX7_lays_30 rfl (lv_at hl 1 rfl) ?_
  refine z_get (C := RX7) (T := TX7) (N := 45) (v := .ref (ad 27)) hx hb hts (by decide +kernel) hown hK hS h2_mm rfl 27 (by decide) (hts (.fieldLink RX7 72 "PayLedgerModel" "withTable" "[I") (by decide +kernel)) rfl dX7_lays_31 ?_
  refine lv_iload hx hb dX7_lays_34 (lv_at hl 0 rfl) ?_
  refine lv_aload_n hx hb dX7_lays_36 rfl (lv_at hl 1 rfl) ?_
  refine z_get (C := RX7) (T := TX7) (N := 45) (v := .ref (ad 12)) hx hb hts (by decide +kernel) hown hK hS h2_mm rfl 12 (by decide) (hts (.fieldLink RX7 39 "PayLedgerModel" "hasTable" "[I") (by decide +kernel)) rfl dX7_lays_37 ?_
  refine lv_iload_n hx hb dX7_lays_40 rfl (lv_at hl 2 rfl) ?_
  refine z_iald hx hb hK hS h2_ad12 (vp_in_nI (by omega) (by decide)) dX7_lays_41 ?_
  refine z_ti (y := ((K 12) (wi))) (congrArg _ (nI_clamp (by omega))) ?_
  refine z_ti (y := nI (tx n)) h12 ?_
  refine z_iast hx hb hK hS h2_ad27 (vp_in_nI (by omega) (by decide)) dX7_lays_42 (fun H locs hS => ?_)
  obtain ⟨w3, ew3⟩ : ∃ z : zw, z = va_up w2 (ad 27) (some (eI cs (600) (upd (K 27) (nI ((60 * wi) + n) : Int32).toNatClampNeg (nI (tx n))))) := ⟨_, rfl⟩
  have hS : zS (zA w sz) D w3 s.heap H locs := by rw [ew3]; exact hS
  have h3_ad27 : w3 (ad 27) = some (eI cs (600) (upd (K 27) (nI ((60 * wi) + n) : Int32).toNatClampNeg (nI (tx n)))) := by rw [ew3]; exact va_up_self _ _ _
  have h3_mm : w3 (mm) = some (mo ad (th) (tb) (nI nd) (wk) (rb n) (yr) (wd)) := by rw [ew3]; exact (va_up_ne _ _ (zne h2_mm h2_ad27 (by intro q9; first | cases q9 | simp at q9))).trans h2_mm
  have h3_ad12 : w3 (ad 12) = some (eI cs (10) (K 12)) := by rw [ew3]; exact (va_up_ne _ _ (hinj 12 27 (by decide))).trans h2_ad12
  have h3_ad13 : w3 (ad 13) = some (eI cs (10) (K 13)) := by rw [ew3]; exact (va_up_ne _ _ (hinj 13 27 (by decide))).trans h2_ad13
  have h3_ad14 : w3 (ad 14) = some (eI cs (10) (K 14)) := by rw [ew3]; exact (va_up_ne _ _ (hinj 14 27 (by decide))).trans h2_ad14
  have h3_ad15 : w3 (ad 15) = some (eI cs (10) (K 15)) := by rw [ew3]; exact (va_up_ne _ _ (hinj 15 27 (by decide))).trans h2_ad15
  have h3_ad16 : w3 (ad 16) = some (eJ cs (10) (J 16)) := by rw [ew3]; exact (va_up_ne _ _ (hinj 16 27 (by decide))).trans h2_ad16
  have h3_ad17 : w3 (ad 17) = some (eJ cs (10) (J 17)) := by rw [ew3]; exact (va_up_ne _ _ (hinj 17 27 (by decide))).trans h2_ad17
  have h3_ad18 : w3 (ad 18) = some (eJ cs (10) (J 18)) := by rw [ew3]; exact (va_up_ne _ _ (hinj 18 27 (by decide))).trans h2_ad18
  have h3_ad19 : w3 (ad 19) = some (eI cs (10) (K 19)) := by rw [ew3]; exact (va_up_ne _ _ (hinj 19 27 (by decide))).trans h2_ad19
  have h3_ad28 : w3 (ad 28) = some (eI cs (600) (K 28)) := by rw [ew3]; exact (va_up_ne _ _ (hinj 28 27 (by decide))).trans h2_ad28
  have h3_ad29 : w3 (ad 29) = some (eI cs (600) (K 29)) := by rw [ew3]; exact (va_up_ne _ _ (hinj 29 27 (by decide))).trans h2_ad29
  have h3_ad30 : w3 (ad 30) = some (eI cs (600) (K 30)) := by rw [ew3]; exact (va_up_ne _ _ (hinj 30 27 (by decide))).trans h2_ad30
  have h3_ad31 : w3 (ad 31) = some (eI cs (600) (K 31)) := by rw [ew3]; exact (va_up_ne _ _ (hinj 31 27 (by decide))).trans h2_ad31
  have h3_ad32 : w3 (ad 32) = some (eJ cs (600) (J 32)) := by rw [ew3]; exact (va_up_ne _ _ (hinj 32 27 (by decide))).trans h2_ad32
  have h3_ad33 : w3 (ad 33) = some (eJ cs (600) (J 33)) := by rw [ew3]; exact (va_up_ne _ _ (hinj 33 27 (by decide))).trans h2_ad33
  have h3_ad34 : w3 (ad 34) = some (eJ cs (600) (J 34)) := by rw [ew3]; exact (va_up_ne _ _ (hinj 34 27 (by decide))).trans h2_ad34
  have h3_ad25 : w3 (ad 25) = some (eJ cs (600) (vp_updL (J 25) (((60 * wi) + n)) (V n 0))) := by rw [ew3]; exact (va_up_ne _ _ (hinj 25 27 (by decide))).trans h2_ad25
  have h3_ad26 : w3 (ad 26) = some (eZ cs (600) (upd (K 26) (60 * wi + n) (bo n))) := by rw [ew3]; exact (va_up_ne _ _ (hinj 26 27 (by decide))).trans h2_ad26
  have h3_ad27 : w3 (ad 27) = some (eI cs (600) (upd (K 27) (((60 * wi) + n)) (nI (tx n)))) := by rw [nI_clamp (by omega)] at h3_ad27; exact h3_ad27
  refine lv_aload_n hx hb dX7_lays_43 rfl (lv_at hl 1 rfl) ?_
  refine z_get (C := RX7) (T := TX7) (N := 45) (v := .ref (ad 28)) hx hb hts (by decide +kernel) hown hK hS h3_mm rfl 28 (by decide) (hts (.fieldLink RX7 75 "PayLedgerModel" "withPeriods" "[I") (by decide +kernel)) rfl dX7_lays_44 ?_
  refine lv_iload hx hb dX7_lays_47 (lv_at hl 0 rfl) ?_
  refine lv_aload_n hx hb dX7_lays_49 rfl (lv_at hl 1 rfl) ?_
  refine z_get (C := RX7) (T := TX7) (N := 45) (v := .ref (ad 13)) hx hb hts (by decide +kernel) hown hK hS h3_mm rfl 13 (by decide) (hts (.fieldLink RX7 42 "PayLedgerModel" "hasPeriods" "[I") (by decide +kernel)) rfl dX7_lays_50 ?_
  refine lv_iload_n hx hb dX7_lays_53 rfl (lv_at hl 2 rfl) ?_
  refine z_iald hx hb hK hS h3_ad13 (vp_in_nI (by omega) (by decide)) dX7_lays_54 ?_
  refine z_ti (y := ((K 13) (wi))) (congrArg _ (nI_clamp (by omega))) ?_
  refine z_ti (y := pe n) h13 ?_
  refine z_iast hx hb hK hS h3_ad28 (vp_in_nI (by omega) (by decide)) dX7_lays_55 (fun H locs hS => ?_)
  obtain ⟨w4, ew4⟩ : ∃ z : zw, z = va_up w3 (ad 28) (some (eI cs (600) (upd (K 28) (nI ((60 * wi) + n) : Int32).toNatClampNeg (pe n)))) := ⟨_, rfl⟩
  have hS : zS (zA w sz) D w4 s.heap H locs := by rw [ew4]; exact hS
  have h4_ad28 : w4 (ad 28) = some (eI cs (600) (upd (K 28) (nI ((60 * wi) + n) : Int32).toNatClampNeg (pe n))) := by rw [ew4]; exact va_up_self _ _ _
  have h4_mm : w4 (mm) = some (mo ad (th) (tb) (nI nd) (wk) (rb n) (yr) (wd)) := by rw [ew4]; exact (va_up_ne _ _ (zne h3_mm h3_ad28 (by intro q9; first | cases q9 | simp at q9))).trans h3_mm
  have h4_ad12 : w4 (ad 12) = some (eI cs (10) (K 12)) := by rw [ew4]; exact (va_up_ne _ _ (hinj 12 28 (by decide))).trans h3_ad12
  have h4_ad13 : w4 (ad 13) = some (eI cs (10) (K 13)) := by rw [ew4]; exact (va_up_ne _ _ (hinj 13 28 (by decide))).trans h3_ad13
  have h4_ad14 : w4 (ad 14) = some (eI cs (10) (K 14)) := by rw [ew4]; exact (va_up_ne _ _ (hinj 14 28 (by decide))).trans h3_ad14
  have h4_ad15 : w4 (ad 15) = some (eI cs (10) (K 15)) := by rw [ew4]; exact (va_up_ne _ _ (hinj 15 28 (by decide))).trans h3_ad15
  have h4_ad16 : w4 (ad 16) = some (eJ cs (10) (J 16)) := by rw [ew4]; exact (va_up_ne _ _ (hinj 16 28 (by decide))).trans h3_ad16
  have h4_ad17 : w4 (ad 17) = some (eJ cs (10) (J 17)) := by rw [ew4]; exact (va_up_ne _ _ (hinj 17 28 (by decide))).trans h3_ad17
  have h4_ad18 : w4 (ad 18) = some (eJ cs (10) (J 18)) := by rw [ew4]; exact (va_up_ne _ _ (hinj 18 28 (by decide))).trans h3_ad18
  have h4_ad19 : w4 (ad 19) = some (eI cs (10) (K 19)) := by rw [ew4]; exact (va_up_ne _ _ (hinj 19 28 (by decide))).trans h3_ad19
  have h4_ad29 : w4 (ad 29) = some (eI cs (600) (K 29)) := by rw [ew4]; exact (va_up_ne _ _ (hinj 29 28 (by decide))).trans h3_ad29
  have h4_ad30 : w4 (ad 30) = some (eI cs (600) (K 30)) := by rw [ew4]; exact (va_up_ne _ _ (hinj 30 28 (by decide))).trans h3_ad30
  have h4_ad31 : w4 (ad 31) = some (eI cs (600) (K 31)) := by rw [ew4]; exact (va_up_ne _ _ (hinj 31 28 (by decide))).trans h3_ad31
  have h4_ad32 : w4 (ad 32) = some (eJ cs (600) (J 32)) := by rw [ew4]; exact (va_up_ne _ _ (hinj 32 28 (by decide))).trans h3_ad32
  have h4_ad33 : w4 (ad 33) = some (eJ cs (600) (J 33)) := by rw [ew4]; exact (va_up_ne _ _ (hinj 33 28 (by decide))).trans h3_ad33
  have h4_ad34 : w4 (ad 34) = some (eJ cs (600) (J 34)) := by rw [ew4]; exact (va_up_ne _ _ (hinj 34 28 (by decide))).trans h3_ad34
  have h4_ad25 : w4 (ad 25) = some (eJ cs (600) (vp_updL (J 25) (((60 * wi) + n)) (V n 0))) := by rw [ew4]; exact (va_up_ne _ _ (hinj 25 28 (by decide))).trans h3_ad25
  have h4_ad26 : w4 (ad 26) = some (eZ cs (600) (upd (K 26) (60 * wi + n) (bo n))) := by rw [ew4]; exact (va_up_ne _ _ (hinj 26 28 (by decide))).trans h3_ad26
  have h4_ad27 : w4 (ad 27) = some (eI cs (600) (upd (K 27) (((60 * wi) + n)) (nI (tx n)))) := by rw [ew4]; exact (va_up_ne _ _ (hinj 27 28 (by decide))).trans h3_ad27
  have h4_ad28 : w4 (ad 28) = some (eI cs (600) (upd (K 28) (((60 * wi) + n)) (pe n))) := by rw [nI_clamp (by omega)] at h4_ad28; exact h4_ad28
  refine lv_aload_n hx hb dX7_lays_56 rfl (lv_at hl 1 rfl) ?_
  refine z_get (C := RX7) (T := TX7) (N := 45) (v := .ref (ad 29)) hx hb hts (by decide +kernel) hown hK hS h4_mm rfl 29 (by decide) (hts (.fieldLink RX7 78 "PayLedgerModel" "withMethod" "[I") (by decide +kernel)) rfl dX7_lays_57 ?_
  refine lv_iload hx hb dX7_lays_60 (lv_at hl 0 rfl) ?_
  refine lv_aload_n hx hb dX7_lays_62 rfl (lv_at hl 1 rfl) ?_
  refine z_get (C := RX7) (T := TX7) (N := 45) (v := .ref (ad 14)) hx hb hts (by decide +kernel) hown hK hS h4_mm rfl 14 (by decide) (hts (.fieldLink RX7 45 "PayLedgerModel" "hasMethod" "[I") (by decide +kernel)) rfl dX7_lays_63 ?_
  refine lv_iload_n hx hb dX7_lays_66 rfl (lv_at hl 2 rfl) ?_
  refine z_iald hx hb hK hS h4_ad14 (vp_in_nI (by omega) (by decide)) dX7_lays_67 ?_
  refine z_ti (y := ((K 14) (wi))) (congrArg _ (nI_clamp (by omega))) ?_
  refine z_ti (y := me n) h14 ?_
  refine z_iast hx hb hK hS h4_ad29 (vp_in_nI (by omega) (by decide)) dX7_lays_68 (fun H locs hS => ?_)
  obtain ⟨w5, ew5⟩ : ∃ z : zw, z = va_up w4 (ad 29) (some (eI cs (600) (upd (K 29) (nI ((60 * wi) + n) : Int32).toNatClampNeg (me n)))) := ⟨_, rfl⟩
  have hS : zS (zA w sz) D w5 s.heap H locs := by rw [ew5]; exact hS
  have h5_ad29 : w5 (ad 29) = some (eI cs (600) (upd (K 29) (nI ((60 * wi) + n) : Int32).toNatClampNeg (me n))) := by rw [ew5]; exact va_up_self _ _ _
  have h5_mm : w5 (mm) = some (mo ad (th) (tb) (nI nd) (wk) (rb n) (yr) (wd)) := by rw [ew5]; exact (va_up_ne _ _ (zne h4_mm h4_ad29 (by intro q9; first | cases q9 | simp at q9))).trans h4_mm
  have h5_ad12 : w5 (ad 12) = some (eI cs (10) (K 12)) := by rw [ew5]; exact (va_up_ne _ _ (hinj 12 29 (by decide))).trans h4_ad12
  have h5_ad13 : w5 (ad 13) = some (eI cs (10) (K 13)) := by rw [ew5]; exact (va_up_ne _ _ (hinj 13 29 (by decide))).trans h4_ad13
  have h5_ad14 : w5 (ad 14) = some (eI cs (10) (K 14)) := by rw [ew5]; exact (va_up_ne _ _ (hinj 14 29 (by decide))).trans h4_ad14
  have h5_ad15 : w5 (ad 15) = some (eI cs (10) (K 15)) := by rw [ew5]; exact (va_up_ne _ _ (hinj 15 29 (by decide))).trans h4_ad15
  have h5_ad16 : w5 (ad 16) = some (eJ cs (10) (J 16)) := by rw [ew5]; exact (va_up_ne _ _ (hinj 16 29 (by decide))).trans h4_ad16
  have h5_ad17 : w5 (ad 17) = some (eJ cs (10) (J 17)) := by rw [ew5]; exact (va_up_ne _ _ (hinj 17 29 (by decide))).trans h4_ad17
  have h5_ad18 : w5 (ad 18) = some (eJ cs (10) (J 18)) := by rw [ew5]; exact (va_up_ne _ _ (hinj 18 29 (by decide))).trans h4_ad18
  have h5_ad19 : w5 (ad 19) = some (eI cs (10) (K 19)) := by rw [ew5]; exact (va_up_ne _ _ (hinj 19 29 (by decide))).trans h4_ad19
  have h5_ad30 : w5 (ad 30) = some (eI cs (600) (K 30)) := by rw [ew5]; exact (va_up_ne _ _ (hinj 30 29 (by decide))).trans h4_ad30
  have h5_ad31 : w5 (ad 31) = some (eI cs (600) (K 31)) := by rw [ew5]; exact (va_up_ne _ _ (hinj 31 29 (by decide))).trans h4_ad31
  have h5_ad32 : w5 (ad 32) = some (eJ cs (600) (J 32)) := by rw [ew5]; exact (va_up_ne _ _ (hinj 32 29 (by decide))).trans h4_ad32
  have h5_ad33 : w5 (ad 33) = some (eJ cs (600) (J 33)) := by rw [ew5]; exact (va_up_ne _ _ (hinj 33 29 (by decide))).trans h4_ad33
  have h5_ad34 : w5 (ad 34) = some (eJ cs (600) (J 34)) := by rw [ew5]; exact (va_up_ne _ _ (hinj 34 29 (by decide))).trans h4_ad34
  have h5_ad25 : w5 (ad 25) = some (eJ cs (600) (vp_updL (J 25) (((60 * wi) + n)) (V n 0))) := by rw [ew5]; exact (va_up_ne _ _ (hinj 25 29 (by decide))).trans h4_ad25
  have h5_ad26 : w5 (ad 26) = some (eZ cs (600) (upd (K 26) (60 * wi + n) (bo n))) := by rw [ew5]; exact (va_up_ne _ _ (hinj 26 29 (by decide))).trans h4_ad26
  have h5_ad27 : w5 (ad 27) = some (eI cs (600) (upd (K 27) (((60 * wi) + n)) (nI (tx n)))) := by rw [ew5]; exact (va_up_ne _ _ (hinj 27 29 (by decide))).trans h4_ad27
  have h5_ad28 : w5 (ad 28) = some (eI cs (600) (upd (K 28) (((60 * wi) + n)) (pe n))) := by rw [ew5]; exact (va_up_ne _ _ (hinj 28 29 (by decide))).trans h4_ad28
  have h5_ad29 : w5 (ad 29) = some (eI cs (600) (upd (K 29) (((60 * wi) + n)) (me n))) := by rw [nI_clamp (by omega)] at h5_ad29; exact h5_ad29
  refine lv_aload_n hx hb dX7_lays_69 rfl (lv_at hl 1 rfl) ?_
  refine z_get (C := RX7) (T := TX7) (N := 45) (v := .ref (ad 30)) hx hb hts (by decide +kernel) hown hK hS h5_mm rfl 30 (by decide) (hts (.fieldLink RX7 81 "PayLedgerModel" "withBits" "[I") (by decide +kernel)) rfl dX7_lays_70 ?_
  refine lv_iload hx hb dX7_lays_73 (lv_at hl 0 rfl) ?_
  refine lv_aload_n hx hb dX7_lays_75 rfl (lv_at hl 1 rfl) ?_
  refine z_get (C := RX7) (T := TX7) (N := 45) (v := .ref (ad 15)) hx hb hts (by decide +kernel) hown hK hS h5_mm rfl 15 (by decide) (hts (.fieldLink RX7 48 "PayLedgerModel" "hasBits" "[I") (by decide +kernel)) rfl dX7_lays_76 ?_
  refine lv_iload_n hx hb dX7_lays_79 rfl (lv_at hl 2 rfl) ?_
  refine z_iald hx hb hK hS h5_ad15 (vp_in_nI (by omega) (by decide)) dX7_lays_80 ?_
  refine z_ti (y := ((K 15) (wi))) (congrArg _ (nI_clamp (by omega))) ?_
  refine z_ti (y := en n) h15 ?_
  refine z_iast hx hb hK hS h5_ad30 (vp_in_nI (by omega) (by decide)) dX7_lays_81 (fun H locs hS => ?_)
  obtain ⟨w6, ew6⟩ : ∃ z : zw, z = va_up w5 (ad 30) (some (eI cs (600) (upd (K 30) (nI ((60 * wi) + n) : Int32).toNatClampNeg (en n)))) := ⟨_, rfl⟩
  have hS : zS (zA w sz) D w6 s.heap H locs := by rw [ew6]; exact hS
  have h6_ad30 : w6 (ad 30) = some (eI cs (600) (upd (K 30) (nI ((60 * wi) + n) : Int32).toNatClampNeg (en n))) := by rw [ew6]; exact va_up_self _ _ _
  have h6_mm : w6 (mm) = some (mo ad (th) (tb) (nI nd) (wk) (rb n) (yr) (wd)) := by rw [ew6]; exact (va_up_ne _ _ (zne h5_mm h5_ad30 (by intro q9; first | cases q9 | simp at q9))).trans h5_mm
  have h6_ad12 : w6 (ad 12) = some (eI cs (10) (K 12)) := by rw [ew6]; exact (va_up_ne _ _ (hinj 12 30 (by decide))).trans h5_ad12
  have h6_ad13 : w6 (ad 13) = some (eI cs (10) (K 13)) := by rw [ew6]; exact (va_up_ne _ _ (hinj 13 30 (by decide))).trans h5_ad13
  have h6_ad14 : w6 (ad 14) = some (eI cs (10) (K 14)) := by rw [ew6]; exact (va_up_ne _ _ (hinj 14 30 (by decide))).trans h5_ad14
  have h6_ad15 : w6 (ad 15) = some (eI cs (10) (K 15)) := by rw [ew6]; exact (va_up_ne _ _ (hinj 15 30 (by decide))).trans h5_ad15
  have h6_ad16 : w6 (ad 16) = some (eJ cs (10) (J 16)) := by rw [ew6]; exact (va_up_ne _ _ (hinj 16 30 (by decide))).trans h5_ad16
  have h6_ad17 : w6 (ad 17) = some (eJ cs (10) (J 17)) := by rw [ew6]; exact (va_up_ne _ _ (hinj 17 30 (by decide))).trans h5_ad17
  have h6_ad18 : w6 (ad 18) = some (eJ cs (10) (J 18)) := by rw [ew6]; exact (va_up_ne _ _ (hinj 18 30 (by decide))).trans h5_ad18
  have h6_ad19 : w6 (ad 19) = some (eI cs (10) (K 19)) := by rw [ew6]; exact (va_up_ne _ _ (hinj 19 30 (by decide))).trans h5_ad19
  have h6_ad31 : w6 (ad 31) = some (eI cs (600) (K 31)) := by rw [ew6]; exact (va_up_ne _ _ (hinj 31 30 (by decide))).trans h5_ad31
  have h6_ad32 : w6 (ad 32) = some (eJ cs (600) (J 32)) := by rw [ew6]; exact (va_up_ne _ _ (hinj 32 30 (by decide))).trans h5_ad32
  have h6_ad33 : w6 (ad 33) = some (eJ cs (600) (J 33)) := by rw [ew6]; exact (va_up_ne _ _ (hinj 33 30 (by decide))).trans h5_ad33
  have h6_ad34 : w6 (ad 34) = some (eJ cs (600) (J 34)) := by rw [ew6]; exact (va_up_ne _ _ (hinj 34 30 (by decide))).trans h5_ad34
  have h6_ad25 : w6 (ad 25) = some (eJ cs (600) (vp_updL (J 25) (((60 * wi) + n)) (V n 0))) := by rw [ew6]; exact (va_up_ne _ _ (hinj 25 30 (by decide))).trans h5_ad25
  have h6_ad26 : w6 (ad 26) = some (eZ cs (600) (upd (K 26) (60 * wi + n) (bo n))) := by rw [ew6]; exact (va_up_ne _ _ (hinj 26 30 (by decide))).trans h5_ad26
  have h6_ad27 : w6 (ad 27) = some (eI cs (600) (upd (K 27) (((60 * wi) + n)) (nI (tx n)))) := by rw [ew6]; exact (va_up_ne _ _ (hinj 27 30 (by decide))).trans h5_ad27
  have h6_ad28 : w6 (ad 28) = some (eI cs (600) (upd (K 28) (((60 * wi) + n)) (pe n))) := by rw [ew6]; exact (va_up_ne _ _ (hinj 28 30 (by decide))).trans h5_ad28
  have h6_ad29 : w6 (ad 29) = some (eI cs (600) (upd (K 29) (((60 * wi) + n)) (me n))) := by rw [ew6]; exact (va_up_ne _ _ (hinj 29 30 (by decide))).trans h5_ad29
  have h6_ad30 : w6 (ad 30) = some (eI cs (600) (upd (K 30) (((60 * wi) + n)) (en n))) := by rw [nI_clamp (by omega)] at h6_ad30; exact h6_ad30
  refine lv_aload_n hx hb dX7_lays_82 rfl (lv_at hl 1 rfl) ?_
  refine z_get (C := RX7) (T := TX7) (N := 45) (v := .ref (ad 31)) hx hb hts (by decide +kernel) hown hK hS h6_mm rfl 31 (by decide) (hts (.fieldLink RX7 84 "PayLedgerModel" "withRate" "[I") (by decide +kernel)) rfl dX7_lays_83 ?_
  refine lv_iload hx hb dX7_lays_86 (lv_at hl 0 rfl) ?_
  refine lv_aload_n hx hb dX7_lays_88 rfl (lv_at hl 1 rfl) ?_
  refine z_get (C := RX7) (T := TX7) (N := 45) (v := .int (rb n)) hx hb hts (by decide +kernel) hown hK hS h6_mm rfl 22 (by decide) (hts (.fieldLink RX7 230 "PayLedgerModel" "bonusRate" "I") (by decide +kernel)) rfl dX7_lays_89 ?_
  refine z_iast hx hb hK hS h6_ad31 (vp_in_nI (by omega) (by decide)) dX7_lays_92 (fun H locs hS => ?_)
  obtain ⟨w7, ew7⟩ : ∃ z : zw, z = va_up w6 (ad 31) (some (eI cs (600) (upd (K 31) (nI ((60 * wi) + n) : Int32).toNatClampNeg (rb n)))) := ⟨_, rfl⟩
  have hS : zS (zA w sz) D w7 s.heap H locs := by rw [ew7]; exact hS
  have h7_ad31 : w7 (ad 31) = some (eI cs (600) (upd (K 31) (nI ((60 * wi) + n) : Int32).toNatClampNeg (rb n))) := by rw [ew7]; exact va_up_self _ _ _
  have h7_mm : w7 (mm) = some (mo ad (th) (tb) (nI nd) (wk) (rb n) (yr) (wd)) := by rw [ew7]; exact (va_up_ne _ _ (zne h6_mm h6_ad31 (by intro q9; first | cases q9 | simp at q9))).trans h6_mm
  have h7_ad12 : w7 (ad 12) = some (eI cs (10) (K 12)) := by rw [ew7]; exact (va_up_ne _ _ (hinj 12 31 (by decide))).trans h6_ad12
  have h7_ad13 : w7 (ad 13) = some (eI cs (10) (K 13)) := by rw [ew7]; exact (va_up_ne _ _ (hinj 13 31 (by decide))).trans h6_ad13
  have h7_ad14 : w7 (ad 14) = some (eI cs (10) (K 14)) := by rw [ew7]; exact (va_up_ne _ _ (hinj 14 31 (by decide))).trans h6_ad14
  have h7_ad15 : w7 (ad 15) = some (eI cs (10) (K 15)) := by rw [ew7]; exact (va_up_ne _ _ (hinj 15 31 (by decide))).trans h6_ad15
  have h7_ad16 : w7 (ad 16) = some (eJ cs (10) (J 16)) := by rw [ew7]; exact (va_up_ne _ _ (hinj 16 31 (by decide))).trans h6_ad16
  have h7_ad17 : w7 (ad 17) = some (eJ cs (10) (J 17)) := by rw [ew7]; exact (va_up_ne _ _ (hinj 17 31 (by decide))).trans h6_ad17
  have h7_ad18 : w7 (ad 18) = some (eJ cs (10) (J 18)) := by rw [ew7]; exact (va_up_ne _ _ (hinj 18 31 (by decide))).trans h6_ad18
  have h7_ad19 : w7 (ad 19) = some (eI cs (10) (K 19)) := by rw [ew7]; exact (va_up_ne _ _ (hinj 19 31 (by decide))).trans h6_ad19
  have h7_ad32 : w7 (ad 32) = some (eJ cs (600) (J 32)) := by rw [ew7]; exact (va_up_ne _ _ (hinj 32 31 (by decide))).trans h6_ad32
  have h7_ad33 : w7 (ad 33) = some (eJ cs (600) (J 33)) := by rw [ew7]; exact (va_up_ne _ _ (hinj 33 31 (by decide))).trans h6_ad33
  have h7_ad34 : w7 (ad 34) = some (eJ cs (600) (J 34)) := by rw [ew7]; exact (va_up_ne _ _ (hinj 34 31 (by decide))).trans h6_ad34
  have h7_ad25 : w7 (ad 25) = some (eJ cs (600) (vp_updL (J 25) (((60 * wi) + n)) (V n 0))) := by rw [ew7]; exact (va_up_ne _ _ (hinj 25 31 (by decide))).trans h6_ad25
  have h7_ad26 : w7 (ad 26) = some (eZ cs (600) (upd (K 26) (60 * wi + n) (bo n))) := by rw [ew7]; exact (va_up_ne _ _ (hinj 26 31 (by decide))).trans h6_ad26
  have h7_ad27 : w7 (ad 27) = some (eI cs (600) (upd (K 27) (((60 * wi) + n)) (nI (tx n)))) := by rw [ew7]; exact (va_up_ne _ _ (hinj 27 31 (by decide))).trans h6_ad27
  have h7_ad28 : w7 (ad 28) = some (eI cs (600) (upd (K 28) (((60 * wi) + n)) (pe n))) := by rw [ew7]; exact (va_up_ne _ _ (hinj 28 31 (by decide))).trans h6_ad28
  have h7_ad29 : w7 (ad 29) = some (eI cs (600) (upd (K 29) (((60 * wi) + n)) (me n))) := by rw [ew7]; exact (va_up_ne _ _ (hinj 29 31 (by decide))).trans h6_ad29
  have h7_ad30 : w7 (ad 30) = some (eI cs (600) (upd (K 30) (((60 * wi) + n)) (en n))) := by rw [ew7]; exact (va_up_ne _ _ (hinj 30 31 (by decide))).trans h6_ad30
  have h7_ad31 : w7 (ad 31) = some (eI cs (600) (upd (K 31) (((60 * wi) + n)) (rb n))) := by rw [nI_clamp (by omega)] at h7_ad31; exact h7_ad31
  refine lv_aload_n hx hb dX7_lays_93 rfl (lv_at hl 1 rfl) ?_
  refine z_get (C := RX7) (T := TX7) (N := 45) (v := .ref (ad 32)) hx hb hts (by decide +kernel) hown hK hS h7_mm rfl 32 (by decide) (hts (.fieldLink RX7 87 "PayLedgerModel" "withRelief" "[J") (by decide +kernel)) rfl dX7_lays_94 ?_
  refine lv_iload hx hb dX7_lays_97 (lv_at hl 0 rfl) ?_
  refine lv_aload_n hx hb dX7_lays_99 rfl (lv_at hl 1 rfl) ?_
  refine z_get (C := RX7) (T := TX7) (N := 45) (v := .ref (ad 16)) hx hb hts (by decide +kernel) hown hK hS h7_mm rfl 16 (by decide) (hts (.fieldLink RX7 51 "PayLedgerModel" "hasRelief" "[J") (by decide +kernel)) rfl dX7_lays_100 ?_
  refine lv_iload_n hx hb dX7_lays_103 rfl (lv_at hl 2 rfl) ?_
  refine z_lald hx hb hK hS h7_ad16 (vp_in_nI (by omega) (by decide)) dX7_lays_104 ?_
  refine z_tl (y := ((J 16) (wi))) (congrArg _ (nI_clamp (by omega))) ?_
  refine z_tl (y := re n) h16 ?_
  refine z_last hx hb hK hS h7_ad32 (vp_in_nI (by omega) (by decide)) dX7_lays_105 (fun H locs hS => ?_)
  obtain ⟨w8, ew8⟩ : ∃ z : zw, z = va_up w7 (ad 32) (some (eJ cs (600) (vp_updL (J 32) (nI ((60 * wi) + n) : Int32).toNatClampNeg (re n)))) := ⟨_, rfl⟩
  have hS : zS (zA w sz) D w8 s.heap H locs := by rw [ew8]; exact hS
  have h8_ad32 : w8 (ad 32) = some (eJ cs (600) (vp_updL (J 32) (nI ((60 * wi) + n) : Int32).toNatClampNeg (re n))) := by rw [ew8]; exact va_up_self _ _ _
  have h8_mm : w8 (mm) = some (mo ad (th) (tb) (nI nd) (wk) (rb n) (yr) (wd)) := by rw [ew8]; exact (va_up_ne _ _ (zne h7_mm h7_ad32 (by intro q9; first | cases q9 | simp at q9))).trans h7_mm
  have h8_ad12 : w8 (ad 12) = some (eI cs (10) (K 12)) := by rw [ew8]; exact (va_up_ne _ _ (hinj 12 32 (by decide))).trans h7_ad12
  have h8_ad13 : w8 (ad 13) = some (eI cs (10) (K 13)) := by rw [ew8]; exact (va_up_ne _ _ (hinj 13 32 (by decide))).trans h7_ad13
  have h8_ad14 : w8 (ad 14) = some (eI cs (10) (K 14)) := by rw [ew8]; exact (va_up_ne _ _ (hinj 14 32 (by decide))).trans h7_ad14
  have h8_ad15 : w8 (ad 15) = some (eI cs (10) (K 15)) := by rw [ew8]; exact (va_up_ne _ _ (hinj 15 32 (by decide))).trans h7_ad15
  have h8_ad16 : w8 (ad 16) = some (eJ cs (10) (J 16)) := by rw [ew8]; exact (va_up_ne _ _ (hinj 16 32 (by decide))).trans h7_ad16
  have h8_ad17 : w8 (ad 17) = some (eJ cs (10) (J 17)) := by rw [ew8]; exact (va_up_ne _ _ (hinj 17 32 (by decide))).trans h7_ad17
  have h8_ad18 : w8 (ad 18) = some (eJ cs (10) (J 18)) := by rw [ew8]; exact (va_up_ne _ _ (hinj 18 32 (by decide))).trans h7_ad18
  have h8_ad19 : w8 (ad 19) = some (eI cs (10) (K 19)) := by rw [ew8]; exact (va_up_ne _ _ (hinj 19 32 (by decide))).trans h7_ad19
  have h8_ad33 : w8 (ad 33) = some (eJ cs (600) (J 33)) := by rw [ew8]; exact (va_up_ne _ _ (hinj 33 32 (by decide))).trans h7_ad33
  have h8_ad34 : w8 (ad 34) = some (eJ cs (600) (J 34)) := by rw [ew8]; exact (va_up_ne _ _ (hinj 34 32 (by decide))).trans h7_ad34
  have h8_ad25 : w8 (ad 25) = some (eJ cs (600) (vp_updL (J 25) (((60 * wi) + n)) (V n 0))) := by rw [ew8]; exact (va_up_ne _ _ (hinj 25 32 (by decide))).trans h7_ad25
  have h8_ad26 : w8 (ad 26) = some (eZ cs (600) (upd (K 26) (60 * wi + n) (bo n))) := by rw [ew8]; exact (va_up_ne _ _ (hinj 26 32 (by decide))).trans h7_ad26
  have h8_ad27 : w8 (ad 27) = some (eI cs (600) (upd (K 27) (((60 * wi) + n)) (nI (tx n)))) := by rw [ew8]; exact (va_up_ne _ _ (hinj 27 32 (by decide))).trans h7_ad27
  have h8_ad28 : w8 (ad 28) = some (eI cs (600) (upd (K 28) (((60 * wi) + n)) (pe n))) := by rw [ew8]; exact (va_up_ne _ _ (hinj 28 32 (by decide))).trans h7_ad28
  have h8_ad29 : w8 (ad 29) = some (eI cs (600) (upd (K 29) (((60 * wi) + n)) (me n))) := by rw [ew8]; exact (va_up_ne _ _ (hinj 29 32 (by decide))).trans h7_ad29
  have h8_ad30 : w8 (ad 30) = some (eI cs (600) (upd (K 30) (((60 * wi) + n)) (en n))) := by rw [ew8]; exact (va_up_ne _ _ (hinj 30 32 (by decide))).trans h7_ad30
  have h8_ad31 : w8 (ad 31) = some (eI cs (600) (upd (K 31) (((60 * wi) + n)) (rb n))) := by rw [ew8]; exact (va_up_ne _ _ (hinj 31 32 (by decide))).trans h7_ad31
  have h8_ad32 : w8 (ad 32) = some (eJ cs (600) (vp_updL (J 32) (((60 * wi) + n)) (re n))) := by rw [nI_clamp (by omega)] at h8_ad32; exact h8_ad32
  refine lv_aload_n hx hb dX7_lays_106 rfl (lv_at hl 1 rfl) ?_
  refine z_get (C := RX7) (T := TX7) (N := 45) (v := .ref (ad 33)) hx hb hts (by decide +kernel) hown hK hS h8_mm rfl 33 (by decide) (hts (.fieldLink RX7 90 "PayLedgerModel" "withCredit" "[J") (by decide +kernel)) rfl dX7_lays_107 ?_
  refine lv_iload hx hb dX7_lays_110 (lv_at hl 0 rfl) ?_
  refine lv_aload_n hx hb dX7_lays_112 rfl (lv_at hl 1 rfl) ?_
  refine z_get (C := RX7) (T := TX7) (N := 45) (v := .ref (ad 17)) hx hb hts (by decide +kernel) hown hK hS h8_mm rfl 17 (by decide) (hts (.fieldLink RX7 54 "PayLedgerModel" "hasCredit" "[J") (by decide +kernel)) rfl dX7_lays_113 ?_
  refine lv_iload_n hx hb dX7_lays_116 rfl (lv_at hl 2 rfl) ?_
  refine z_lald hx hb hK hS h8_ad17 (vp_in_nI (by omega) (by decide)) dX7_lays_117 ?_
  refine z_tl (y := ((J 17) (wi))) (congrArg _ (nI_clamp (by omega))) ?_
  refine z_tl (y := cr n) h17 ?_
  refine z_last hx hb hK hS h8_ad33 (vp_in_nI (by omega) (by decide)) dX7_lays_118 (fun H locs hS => ?_)
  obtain ⟨w9, ew9⟩ : ∃ z : zw, z = va_up w8 (ad 33) (some (eJ cs (600) (vp_updL (J 33) (nI ((60 * wi) + n) : Int32).toNatClampNeg (cr n)))) := ⟨_, rfl⟩
  have hS : zS (zA w sz) D w9 s.heap H locs := by rw [ew9]; exact hS
  have h9_ad33 : w9 (ad 33) = some (eJ cs (600) (vp_updL (J 33) (nI ((60 * wi) + n) : Int32).toNatClampNeg (cr n))) := by rw [ew9]; exact va_up_self _ _ _
  have h9_mm : w9 (mm) = some (mo ad (th) (tb) (nI nd) (wk) (rb n) (yr) (wd)) := by rw [ew9]; exact (va_up_ne _ _ (zne h8_mm h8_ad33 (by intro q9; first | cases q9 | simp at q9))).trans h8_mm
  have h9_ad12 : w9 (ad 12) = some (eI cs (10) (K 12)) := by rw [ew9]; exact (va_up_ne _ _ (hinj 12 33 (by decide))).trans h8_ad12
  have h9_ad13 : w9 (ad 13) = some (eI cs (10) (K 13)) := by rw [ew9]; exact (va_up_ne _ _ (hinj 13 33 (by decide))).trans h8_ad13
  have h9_ad14 : w9 (ad 14) = some (eI cs (10) (K 14)) := by rw [ew9]; exact (va_up_ne _ _ (hinj 14 33 (by decide))).trans h8_ad14
  have h9_ad15 : w9 (ad 15) = some (eI cs (10) (K 15)) := by rw [ew9]; exact (va_up_ne _ _ (hinj 15 33 (by decide))).trans h8_ad15
  have h9_ad16 : w9 (ad 16) = some (eJ cs (10) (J 16)) := by rw [ew9]; exact (va_up_ne _ _ (hinj 16 33 (by decide))).trans h8_ad16
  have h9_ad17 : w9 (ad 17) = some (eJ cs (10) (J 17)) := by rw [ew9]; exact (va_up_ne _ _ (hinj 17 33 (by decide))).trans h8_ad17
  have h9_ad18 : w9 (ad 18) = some (eJ cs (10) (J 18)) := by rw [ew9]; exact (va_up_ne _ _ (hinj 18 33 (by decide))).trans h8_ad18
  have h9_ad19 : w9 (ad 19) = some (eI cs (10) (K 19)) := by rw [ew9]; exact (va_up_ne _ _ (hinj 19 33 (by decide))).trans h8_ad19
  have h9_ad34 : w9 (ad 34) = some (eJ cs (600) (J 34)) := by rw [ew9]; exact (va_up_ne _ _ (hinj 34 33 (by decide))).trans h8_ad34
  have h9_ad25 : w9 (ad 25) = some (eJ cs (600) (vp_updL (J 25) (((60 * wi) + n)) (V n 0))) := by rw [ew9]; exact (va_up_ne _ _ (hinj 25 33 (by decide))).trans h8_ad25
  have h9_ad26 : w9 (ad 26) = some (eZ cs (600) (upd (K 26) (60 * wi + n) (bo n))) := by rw [ew9]; exact (va_up_ne _ _ (hinj 26 33 (by decide))).trans h8_ad26
  have h9_ad27 : w9 (ad 27) = some (eI cs (600) (upd (K 27) (((60 * wi) + n)) (nI (tx n)))) := by rw [ew9]; exact (va_up_ne _ _ (hinj 27 33 (by decide))).trans h8_ad27
  have h9_ad28 : w9 (ad 28) = some (eI cs (600) (upd (K 28) (((60 * wi) + n)) (pe n))) := by rw [ew9]; exact (va_up_ne _ _ (hinj 28 33 (by decide))).trans h8_ad28
  have h9_ad29 : w9 (ad 29) = some (eI cs (600) (upd (K 29) (((60 * wi) + n)) (me n))) := by rw [ew9]; exact (va_up_ne _ _ (hinj 29 33 (by decide))).trans h8_ad29
  have h9_ad30 : w9 (ad 30) = some (eI cs (600) (upd (K 30) (((60 * wi) + n)) (en n))) := by rw [ew9]; exact (va_up_ne _ _ (hinj 30 33 (by decide))).trans h8_ad30
  have h9_ad31 : w9 (ad 31) = some (eI cs (600) (upd (K 31) (((60 * wi) + n)) (rb n))) := by rw [ew9]; exact (va_up_ne _ _ (hinj 31 33 (by decide))).trans h8_ad31
  have h9_ad32 : w9 (ad 32) = some (eJ cs (600) (vp_updL (J 32) (((60 * wi) + n)) (re n))) := by rw [ew9]; exact (va_up_ne _ _ (hinj 32 33 (by decide))).trans h8_ad32
  have h9_ad33 : w9 (ad 33) = some (eJ cs (600) (vp_updL (J 33) (((60 * wi) + n)) (cr n))) := by rw [nI_clamp (by omega)] at h9_ad33; exact h9_ad33
  refine lv_aload_n hx hb dX7_lays_119 rfl (lv_at hl 1 rfl) ?_
  refine z_get (C := RX7) (T := TX7) (N := 45) (v := .ref (ad 34)) hx hb hts (by decide +kernel) hown hK hS h9_mm rfl 34 (by decide) (hts (.fieldLink RX7 93 "PayLedgerModel" "withExtra" "[J") (by decide +kernel)) rfl dX7_lays_120 ?_
  refine lv_iload hx hb dX7_lays_123 (lv_at hl 0 rfl) ?_
  refine lv_aload_n hx hb dX7_lays_125 rfl (lv_at hl 1 rfl) ?_
  refine z_get (C := RX7) (T := TX7) (N := 45) (v := .ref (ad 18)) hx hb hts (by decide +kernel) hown hK hS h9_mm rfl 18 (by decide) (hts (.fieldLink RX7 57 "PayLedgerModel" "hasExtra" "[J") (by decide +kernel)) rfl dX7_lays_126 ?_
  refine lv_iload_n hx hb dX7_lays_129 rfl (lv_at hl 2 rfl) ?_
  refine z_lald hx hb hK hS h9_ad18 (vp_in_nI (by omega) (by decide)) dX7_lays_130 ?_
  refine z_tl (y := ((J 18) (wi))) (congrArg _ (nI_clamp (by omega))) ?_
  refine z_tl (y := ex n) h18 ?_
  refine z_last hx hb hK hS h9_ad34 (vp_in_nI (by omega) (by decide)) dX7_lays_131 (fun H locs hS => ?_)
  obtain ⟨w10, ew10⟩ : ∃ z : zw, z = va_up w9 (ad 34) (some (eJ cs (600) (vp_updL (J 34) (nI ((60 * wi) + n) : Int32).toNatClampNeg (ex n)))) := ⟨_, rfl⟩
  have hS : zS (zA w sz) D w10 s.heap H locs := by rw [ew10]; exact hS
  have h10_ad34 : w10 (ad 34) = some (eJ cs (600) (vp_updL (J 34) (nI ((60 * wi) + n) : Int32).toNatClampNeg (ex n))) := by rw [ew10]; exact va_up_self _ _ _
  have h10_mm : w10 (mm) = some (mo ad (th) (tb) (nI nd) (wk) (rb n) (yr) (wd)) := by rw [ew10]; exact (va_up_ne _ _ (zne h9_mm h9_ad34 (by intro q9; first | cases q9 | simp at q9))).trans h9_mm
  have h10_ad12 : w10 (ad 12) = some (eI cs (10) (K 12)) := by rw [ew10]; exact (va_up_ne _ _ (hinj 12 34 (by decide))).trans h9_ad12
  have h10_ad13 : w10 (ad 13) = some (eI cs (10) (K 13)) := by rw [ew10]; exact (va_up_ne _ _ (hinj 13 34 (by decide))).trans h9_ad13
  have h10_ad14 : w10 (ad 14) = some (eI cs (10) (K 14)) := by rw [ew10]; exact (va_up_ne _ _ (hinj 14 34 (by decide))).trans h9_ad14
  have h10_ad15 : w10 (ad 15) = some (eI cs (10) (K 15)) := by rw [ew10]; exact (va_up_ne _ _ (hinj 15 34 (by decide))).trans h9_ad15
  have h10_ad16 : w10 (ad 16) = some (eJ cs (10) (J 16)) := by rw [ew10]; exact (va_up_ne _ _ (hinj 16 34 (by decide))).trans h9_ad16
  have h10_ad17 : w10 (ad 17) = some (eJ cs (10) (J 17)) := by rw [ew10]; exact (va_up_ne _ _ (hinj 17 34 (by decide))).trans h9_ad17
  have h10_ad18 : w10 (ad 18) = some (eJ cs (10) (J 18)) := by rw [ew10]; exact (va_up_ne _ _ (hinj 18 34 (by decide))).trans h9_ad18
  have h10_ad19 : w10 (ad 19) = some (eI cs (10) (K 19)) := by rw [ew10]; exact (va_up_ne _ _ (hinj 19 34 (by decide))).trans h9_ad19
  have h10_ad25 : w10 (ad 25) = some (eJ cs (600) (vp_updL (J 25) (((60 * wi) + n)) (V n 0))) := by rw [ew10]; exact (va_up_ne _ _ (hinj 25 34 (by decide))).trans h9_ad25
  have h10_ad26 : w10 (ad 26) = some (eZ cs (600) (upd (K 26) (60 * wi + n) (bo n))) := by rw [ew10]; exact (va_up_ne _ _ (hinj 26 34 (by decide))).trans h9_ad26
  have h10_ad27 : w10 (ad 27) = some (eI cs (600) (upd (K 27) (((60 * wi) + n)) (nI (tx n)))) := by rw [ew10]; exact (va_up_ne _ _ (hinj 27 34 (by decide))).trans h9_ad27
  have h10_ad28 : w10 (ad 28) = some (eI cs (600) (upd (K 28) (((60 * wi) + n)) (pe n))) := by rw [ew10]; exact (va_up_ne _ _ (hinj 28 34 (by decide))).trans h9_ad28
  have h10_ad29 : w10 (ad 29) = some (eI cs (600) (upd (K 29) (((60 * wi) + n)) (me n))) := by rw [ew10]; exact (va_up_ne _ _ (hinj 29 34 (by decide))).trans h9_ad29
  have h10_ad30 : w10 (ad 30) = some (eI cs (600) (upd (K 30) (((60 * wi) + n)) (en n))) := by rw [ew10]; exact (va_up_ne _ _ (hinj 30 34 (by decide))).trans h9_ad30
  have h10_ad31 : w10 (ad 31) = some (eI cs (600) (upd (K 31) (((60 * wi) + n)) (rb n))) := by rw [ew10]; exact (va_up_ne _ _ (hinj 31 34 (by decide))).trans h9_ad31
  have h10_ad32 : w10 (ad 32) = some (eJ cs (600) (vp_updL (J 32) (((60 * wi) + n)) (re n))) := by rw [ew10]; exact (va_up_ne _ _ (hinj 32 34 (by decide))).trans h9_ad32
  have h10_ad33 : w10 (ad 33) = some (eJ cs (600) (vp_updL (J 33) (((60 * wi) + n)) (cr n))) := by rw [ew10]; exact (va_up_ne _ _ (hinj 33 34 (by decide))).trans h9_ad33
  have h10_ad34 : w10 (ad 34) = some (eJ cs (600) (vp_updL (J 34) (((60 * wi) + n)) (ex n))) := by rw [nI_clamp (by omega)] at h10_ad34; exact h10_ad34
  refine lv_aload_n hx hb dX7_lays_132 rfl (lv_at hl 1 rfl) ?_
  refine lv_iload_n hx hb dX7_lays_133 rfl (lv_at hl 2 rfl) ?_
  refine lv_aload_n hx hb dX7_lays_134 rfl (lv_at hl 1 rfl) ?_
  refine z_get (C := RX7) (T := TX7) (N := 45) (v := .ref (ad 19)) hx hb hts (by decide +kernel) hown hK hS h10_mm rfl 19 (by decide) (hts (.fieldLink RX7 60 "PayLedgerModel" "many" "[I") (by decide +kernel)) rfl dX7_lays_135 ?_
  refine lv_iload_n hx hb dX7_lays_138 rfl (lv_at hl 2 rfl) ?_
  refine z_iald hx hb hK hS h10_ad19 (vp_in_nI (by omega) (by decide)) dX7_lays_139 ?_
  refine z_ti (y := ((K 19) (wi))) (congrArg _ (nI_clamp (by omega))) ?_
  refine z_ti (y := nI n) h19 ?_
  refine lv_iconst (v := 1) hx hb dX7_lays_140 (by decide) ?_
  refine lv_iadd hx hb dX7_lays_141 ?_
  refine z_ti (y := nI (n + 1)) (nI_add (n) (1)) ?_
  have hex1 : zEx w w10 [(ad 25, (eJ cs (600) (vp_updL (J 25) (((60 * wi) + n)) (V n 0)))), (ad 26, (eZ cs (600) (upd (K 26) (60 * wi + n) (bo n)))), (ad 27, (eI cs (600) (upd (K 27) (((60 * wi) + n)) (nI (tx n))))), (ad 28, (eI cs (600) (upd (K 28) (((60 * wi) + n)) (pe n)))), (ad 29, (eI cs (600) (upd (K 29) (((60 * wi) + n)) (me n)))), (ad 30, (eI cs (600) (upd (K 30) (((60 * wi) + n)) (en n)))), (ad 31, (eI cs (600) (upd (K 31) (((60 * wi) + n)) (rb n)))), (ad 32, (eJ cs (600) (vp_updL (J 32) (((60 * wi) + n)) (re n)))), (ad 33, (eJ cs (600) (vp_updL (J 33) (((60 * wi) + n)) (cr n)))), (ad 34, (eJ cs (600) (vp_updL (J 34) (((60 * wi) + n)) (ex n))))] := ⟨(zm1 h10_ad25 (zm1 h10_ad26 (zm1 h10_ad27 (zm1 h10_ad28 (zm1 h10_ad29 (zm1 h10_ad30 (zm1 h10_ad31 (zm1 h10_ad32 (zm1 h10_ad33 (zm1 h10_ad34 zm0)))))))))), fun a9 h9 => by rw [ew10, va_up_ne _ _ (show a9 ≠ ad 34 from h9 (ad 34, (eJ cs (600) (vp_updL (J 34) (((60 * wi) + n)) (ex n)))) (List.mem_of_getElem? (i := 9) rfl)), ew9, va_up_ne _ _ (show a9 ≠ ad 33 from h9 (ad 33, (eJ cs (600) (vp_updL (J 33) (((60 * wi) + n)) (cr n)))) (List.mem_of_getElem? (i := 8) rfl)), ew8, va_up_ne _ _ (show a9 ≠ ad 32 from h9 (ad 32, (eJ cs (600) (vp_updL (J 32) (((60 * wi) + n)) (re n)))) (List.mem_of_getElem? (i := 7) rfl)), ew7, va_up_ne _ _ (show a9 ≠ ad 31 from h9 (ad 31, (eI cs (600) (upd (K 31) (((60 * wi) + n)) (rb n)))) (List.mem_of_getElem? (i := 6) rfl)), ew6, va_up_ne _ _ (show a9 ≠ ad 30 from h9 (ad 30, (eI cs (600) (upd (K 30) (((60 * wi) + n)) (en n)))) (List.mem_of_getElem? (i := 5) rfl)), ew5, va_up_ne _ _ (show a9 ≠ ad 29 from h9 (ad 29, (eI cs (600) (upd (K 29) (((60 * wi) + n)) (me n)))) (List.mem_of_getElem? (i := 4) rfl)), ew4, va_up_ne _ _ (show a9 ≠ ad 28 from h9 (ad 28, (eI cs (600) (upd (K 28) (((60 * wi) + n)) (pe n)))) (List.mem_of_getElem? (i := 3) rfl)), ew3, va_up_ne _ _ (show a9 ≠ ad 27 from h9 (ad 27, (eI cs (600) (upd (K 27) (((60 * wi) + n)) (nI (tx n))))) (List.mem_of_getElem? (i := 2) rfl)), ew2, va_up_ne _ _ (show a9 ≠ ad 26 from h9 (ad 26, (eZ cs (600) (upd (K 26) (60 * wi + n) (bo n)))) (List.mem_of_getElem? (i := 1) rfl)), ew1, va_up_ne _ _ (show a9 ≠ ad 25 from h9 (ad 25, (eJ cs (600) (vp_updL (J 25) (((60 * wi) + n)) (V n 0)))) (List.mem_of_getElem? (i := 0) rfl))]⟩
  obtain ⟨J1, eJ1⟩ : ∃ z, z = (va_up (va_up (va_up (va_up J 25 (vp_updL (J 25) (60 * wi + n) (V n 0))) 32 (vp_updL (J 32) (60 * wi + n) (re n))) 33 (vp_updL (J 33) (60 * wi + n) (cr n))) 34 (vp_updL (J 34) (60 * wi + n) (ex n))) := ⟨_, rfl⟩
  obtain ⟨K1, eK1⟩ : ∃ z, z = (va_up (va_up (va_up (va_up (va_up (va_up K 26 (upd (K 26) (60 * wi + n) (bo n))) 27 (upd (K 27) (60 * wi + n) (nI (tx n)))) 28 (upd (K 28) (60 * wi + n) (pe n))) 29 (upd (K 29) (60 * wi + n) (me n))) 30 (upd (K 30) (60 * wi + n) (en n))) 31 (upd (K 31) (60 * wi + n) (rb n))) := ⟨_, rfl⟩
  have hex2 : zMZ cs w w10 ad [25, 26, 27, 28, 29, 30, 31, 32, 33, 34] J1 K1 := by rw [eJ1, eK1]; exact hex1
  have sJ : ∀ s : Nat, s ∉ [25, 26, 27, 28, 29, 30, 31, 32, 33, 34] → J1 s = J s := by rw [eJ1]; exact (fun s hs => (va_up_ne _ _ (fun e => hs (by rw [e]; decide))).trans ((va_up_ne _ _ (fun e => hs (by rw [e]; decide))).trans ((va_up_ne _ _ (fun e => hs (by rw [e]; decide))).trans (va_up_ne _ _ (fun e => hs (by rw [e]; decide))))))
  have sK : ∀ s : Nat, s ∉ [25, 26, 27, 28, 29, 30, 31, 32, 33, 34] → K1 s = K s := by rw [eK1]; exact (fun s hs => (va_up_ne _ _ (fun e => hs (by rw [e]; decide))).trans ((va_up_ne _ _ (fun e => hs (by rw [e]; decide))).trans ((va_up_ne _ _ (fun e => hs (by rw [e]; decide))).trans ((va_up_ne _ _ (fun e => hs (by rw [e]; decide))).trans ((va_up_ne _ _ (fun e => hs (by rw [e]; decide))).trans (va_up_ne _ _ (fun e => hs (by rw [e]; decide))))))))
  have hM1 := hM.mz hinj hex2 sJ sK
  have hq1 : zMQ cs w w10 ad mm (mo ad (th) (tb) (nI nd) (wk) (rb n) (yr) (wd)) J1 K1 := zMQ.z (by decide) hM h_m hinj hex2 sJ sK
  have hP1 : mPy J1 K1 wi (n + 1) bo rb pe me re cr ex en tx V nb := hP.new (by rw [eJ1]; rfl) (by rw [eK1]; rfl) (by rw [eK1]; rfl) (by rw [eK1]; rfl) (by rw [eK1]; rfl) (by rw [eK1]; rfl) (by rw [eK1]; rfl) (by rw [eJ1]; rfl) (by rw [eJ1]; rfl) (by rw [eJ1]; rfl) htx hpn
  refine z_invV (As := [.int (nI wi), .int (nI (n + 1))]) (rest := []) (n := 2) ⟨hx, hb, hml, hown, hts⟩ (c_X7_works l D cs w10 H.size mm ad J1 K1 th tb wk (rb n) yr wd wi bo rb pe me re cr ex en tx V P nb tn FF GF nd de so si ca bs (n + 1) hinj hM1 (hTb.of (sJ 1 (by decide)) (sK 2 (by decide)) (sK 3 (by decide))) (hDd.of (sJ 8 (by decide)) (sJ 9 (by decide)) (sJ 10 (by decide)) (sK 6 (by decide)) (sK 7 (by decide))) hP1 hw (by omega) hWk h10_mm) gX7_lays_X7_works rfl ⟨rfl, by decide +kernel, by decide +kernel, by decide +kernel⟩ ⟨Nat.le_of_ble_eq_true rfl, Nat.le_of_ble_eq_true rfl⟩ hK hE hS rfl h10_mm rfl hl.1 rfl (Nat.le_of_ble_eq_true rfl) dX7_lays_142 ⟨Nat.le_of_ble_eq_true rfl, Nat.le_of_ble_eq_true rfl⟩ (fun v9 u11 H locs hq hS => ?_)
  have h_m9 := hq1.1
  obtain ⟨rfl, J2, ho, hz, hA2⟩ := hq
  have hq2 := zMQ.w hM1 h_m9 hinj hz ho
  have h_m3 : u11 mm = some (mo ad (th) (tb) (nI nd) (wk) (rb n) (yr) (wd)) := hq2.1
  have h_193 : u11 (ad 19) = some (eI cs (10) (K1 19)) := hq2.2.1 19 (by decide)
  have h_433 : u11 (ad 43) = some (eJ cs (60) (J2 43)) := hq2.2.1 43 (by decide)
  refine W.eq (g2 := F0 m 145 ls []) rfl ?_
  refine lv_aload_n hx hb dX7_lays_145 rfl (lv_at hl 1 rfl) ?_
  refine z_get (C := RX7) (T := TX7) (N := 45) (v := .ref (ad 43)) hx hb hts (by decide +kernel) hown hK hS h_m3 rfl 43 (by decide) (hts (.fieldLink RX7 120 "PayLedgerModel" "nets" "[J") (by decide +kernel)) rfl dX7_lays_146 ?_
  refine lv_aload_n hx hb dX7_lays_149 rfl (lv_at hl 1 rfl) ?_
  refine z_get (C := RX7) (T := TX7) (N := 45) (v := .ref (ad 19)) hx hb hts (by decide +kernel) hown hK hS h_m3 rfl 19 (by decide) (hts (.fieldLink RX7 60 "PayLedgerModel" "many" "[I") (by decide +kernel)) rfl dX7_lays_150 ?_
  refine lv_iload_n hx hb dX7_lays_153 rfl (lv_at hl 2 rfl) ?_
  refine z_iald hx hb hK hS h_193 (vp_in_nI (by omega) (by decide)) dX7_lays_154 ?_
  refine z_ti (y := ((K1 19) (wi))) (congrArg _ (nI_clamp (by omega))) ?_
  refine z_ti (y := nI n) ((congrFun (sK 19 (by decide)) wi).trans h19) ?_
  refine z_lald hx hb hK hS h_433 (vp_in_nI (by omega) (by decide)) dX7_lays_155 ?_
  refine z_tl (y := ((J2 43) (n))) (congrArg _ (nI_clamp (by omega))) ?_
  refine z_tl (y := V n 6) ((hA2 n (by omega)).1).2.2.2.2.2 ?_
  exact z_lret hx hb hr hlocks hS (Nat.le_of_ble_eq_true rfl) (Nat.le_of_ble_eq_true rfl) dX7_lays_156 ⟨rfl, J2, by rw [← eJ1]; exact ho, by rw [← eK1]; exact hq1.trans hq2⟩
set_option maxHeartbeats 4000000 in
set_option maxRecDepth 100000 in
theorem c_X7_pay (l : Launch) (D : va_G) (cs : Nat → ClassId) (w : zw) (sz : Nat) (mm : Nat) (ad : Nat → Nat) (J : Nat → Nat → Int64) (K : Nat → Nat → Int32) (th tb yr wd : Int32) (wi : Nat) (bo rb pe me : Nat → Int32) (re cr ex : Nat → Int64) (en : Nat → Int32) (tx : Nat → Nat) (V P : Nat → Nat → Int64) (nb : Nat) (tn : Nat → Nat) (FF : Nat → Nat → Int64) (GF : Nat → Nat → Int32) (nd : Nat) (de so : Nat → Int32) (si ca bs : Nat → Int64) (n : Nat) (nw : Nat) (hinj : ∀ i j : Nat, i ≠ j → ad i ≠ ad j) (hM : zMA cs w ad J K) (hTb : mTb J K nb tn FF GF) (hDd : mDd J K nd de so si ca bs) (hP : mPy J K wi (n) bo rb pe me re cr ex en tx V nb) (hw : wi < 10) (hn : n < 60) (h19 : K 19 wi = nI n) (hb01 : bo n = 0 ∨ bo n = 1) (h12 : K 12 wi = nI (tx n)) (h13 : K 13 wi = pe n) (h14 : K 14 wi = me n) (h15 : K 15 wi = en n) (h16 : J 16 wi = re n) (h17 : J 17 wi = cr n) (h18 : J 18 wi = ex n) (htx : tx n < nb) (hpn : (pe n).toInt64 ≠ 0) (hWk : ∀ k : Nat, k < n + 1 → mWkd nd de so si ca bs bo rb pe me re cr ex en tx tn FF GF V P k) (hnw : nw ≤ 10) (hwi : wi < nw) (hy : zUpTo (V n 0) 1000000000 = 1) (h_m : w (mm) = some (mo ad (th) (tb) (nI nd) (nI nw) (rb n) (yr) (wd))) : zM l D cs yX7_pay wsX7_pay 7 0 0 w sz [.ref (mm), .int (nI wi), .long (V n 0), .int (bo n)] (fun r w2 => r = some (.int (nI n)) ∧ ∃ J' : Nat → Nat → Int64, mOut (va_up (va_up (va_up (va_up J 25 (vp_updL (J 25) (60 * wi + n) (V n 0))) 32 (vp_updL (J 32) (60 * wi + n) (re n))) 33 (vp_updL (J 33) (60 * wi + n) (cr n))) 34 (vp_updL (J 34) (60 * wi + n) (ex n))) J' ∧ zMQ cs w w2 ad mm (mo ad (0) (tb) (nI nd) (nI nw) (rb n) (yr) (wd + 1)) (va_up J' 35 (vp_updL (J' 35) (60 * wi + n) (V n 6))) (va_up (va_up (va_up (va_up (va_up (va_up (va_up K 26 (upd (K 26) (60 * wi + n) (bo n))) 27 (upd (K 27) (60 * wi + n) (nI (tx n)))) 28 (upd (K 28) (60 * wi + n) (pe n))) 29 (upd (K 29) (60 * wi + n) (me n))) 30 (upd (K 30) (60 * wi + n) (en n))) 31 (upd (K 31) (60 * wi + n) (rb n))) 19 (upd (K 19) wi (nI (n + 1))))) := by
  refine z_met (cc := cX7_pay) (maxL := 5) (ret := (some .int)) (by decide) rfl (Nat.le_of_ble_eq_true rfl) ?_
  intro p e s m below meth c hx hb hr hml hown hts hlocks hnm hsz hK hE hS ls hl
  have hl : lv_has ls 5 [(0, .ref (mm)), (1, .int (nI wi)), (2, .long (V n 0)), (4, .int (bo n))] := hl
  refine lv_aload_n hx hb dX7_pay_0 rfl (lv_at hl 0 rfl) ?_
  refine lv_iload_n hx hb dX7_pay_1 rfl (lv_at hl 1 rfl) ?_
  refine lv_lload_n hx hb dX7_pay_2 rfl (lv_at hl 2 rfl) ?_
  refine z_invV (As := [.int (nI wi), .long (V n 0)]) (rest := []) (n := 2) ⟨hx, hb, hml, hown, hts⟩ (c_X7_refuses l D cs w s.heap.size mm ad J K th tb (nI nd) (rb n) yr wd nw wi n (V n 0) hinj hM hnw hwi hy h19 (by omega) (by omega) h_m) gX7_pay_X7_refuses rfl ⟨rfl, by decide +kernel, by decide +kernel, by decide +kernel⟩ ⟨Nat.le_of_ble_eq_true rfl, Nat.le_of_ble_eq_true rfl⟩ hK hE hS rfl h_m rfl hl.1 rfl (Nat.le_of_ble_eq_true rfl) dX7_pay_3 ⟨Nat.le_of_ble_eq_true rfl, Nat.le_of_ble_eq_true rfl⟩ (fun v9 u1 H locs hq hS => ?_)
  obtain ⟨rfl, hr1⟩ := hq
  have h_m4 : u1 mm = some (mo ad (0) (tb) (nI nd) (nI nw) (rb n) (yr) (wd)) := hr1.1
  have h_194 : u1 (ad 19) = some (eI cs (10) (K 19)) := hr1.2.1 19 (by decide)
  refine W.eq (g2 := F0 m 6 ls [.int (0)]) rfl ?_
  refine lv_if_eq (tgt := 11) hx hb dX7_pay_6 (by decide) (fun _ => ?_) (fun cq9 => absurd rfl cq9)
  refine lv_aload_n hx hb dX7_pay_11 rfl (lv_at hl 0 rfl) ?_
  refine z_get (C := RX7) (T := TX7) (N := 45) (v := .ref (ad 35)) hx hb hts (by decide +kernel) hown hK hS h_m4 rfl 35 (by decide) (hts (.fieldLink RX7 96 "PayLedgerModel" "paid" "[J") (by decide +kernel)) rfl dX7_pay_12 ?_
  refine lv_bipush (v := 60) hx hb dX7_pay_15 (by decide) ?_
  refine lv_iload_n hx hb dX7_pay_17 rfl (lv_at hl 1 rfl) ?_
  refine lv_imul hx hb dX7_pay_18 ?_
  refine z_ti (y := nI (60 * wi)) (zI_mul (60) (wi)) ?_
  refine lv_aload_n hx hb dX7_pay_19 rfl (lv_at hl 0 rfl) ?_
  refine z_get (C := RX7) (T := TX7) (N := 45) (v := .ref (ad 19)) hx hb hts (by decide +kernel) hown hK hS h_m4 rfl 19 (by decide) (hts (.fieldLink RX7 60 "PayLedgerModel" "many" "[I") (by decide +kernel)) rfl dX7_pay_20 ?_
  refine lv_iload_n hx hb dX7_pay_23 rfl (lv_at hl 1 rfl) ?_
  refine z_iald hx hb hK hS h_194 (vp_in_nI (by omega) (by decide)) dX7_pay_24 ?_
  refine z_ti (y := ((K 19) (wi))) (congrArg _ (nI_clamp (by omega))) ?_
  refine z_ti (y := nI n) h19 ?_
  refine lv_iadd hx hb dX7_pay_25 ?_
  refine z_ti (y := nI ((60 * wi) + n)) (nI_add ((60 * wi)) (n)) ?_
  refine lv_aload_n hx hb dX7_pay_26 rfl (lv_at hl 0 rfl) ?_
  refine lv_iload_n hx hb dX7_pay_27 rfl (lv_at hl 1 rfl) ?_
  refine lv_lload_n hx hb dX7_pay_28 rfl (lv_at hl 2 rfl) ?_
  refine lv_iload hx hb dX7_pay_29 (lv_at hl 3 rfl) ?_
  refine z_invV (As := [.int (nI wi), .long (V n 0), .int (bo n)]) (rest := [.int (nI ((60 * wi) + n)), .ref (ad 35)]) (n := 3) ⟨hx, hb, hml, hown, hts⟩ (c_X7_lays l D cs u1 H.size mm ad J K 0 tb (nI nw) yr wd wi bo rb pe me re cr ex en tx V P nb tn FF GF nd de so si ca bs n hinj hr1.2.1 hTb hDd hP hw hn h19 hb01 h12 h13 h14 h15 h16 h17 h18 htx hpn hWk h_m4) gX7_pay_X7_lays rfl ⟨rfl, by decide +kernel, by decide +kernel, by decide +kernel⟩ ⟨Nat.le_of_ble_eq_true rfl, Nat.le_of_ble_eq_true rfl⟩ hK hE hS rfl h_m4 rfl hl.1 rfl (Nat.le_of_ble_eq_true rfl) dX7_pay_31 ⟨Nat.le_of_ble_eq_true rfl, Nat.le_of_ble_eq_true rfl⟩ (fun v9 u2 H locs hq hS => ?_)
  obtain ⟨rfl, J2, ho, hq2⟩ := hq
  have h_m5 : u2 mm = some (mo ad (0) (tb) (nI nd) (nI nw) (rb n) (yr) (wd)) := hq2.1
  have h_195 : u2 (ad 19) = some (eI cs (10) ((va_up (va_up (va_up (va_up (va_up (va_up K 26 (upd (K 26) (60 * wi + n) (bo n))) 27 (upd (K 27) (60 * wi + n) (nI (tx n)))) 28 (upd (K 28) (60 * wi + n) (pe n))) 29 (upd (K 29) (60 * wi + n) (me n))) 30 (upd (K 30) (60 * wi + n) (en n))) 31 (upd (K 31) (60 * wi + n) (rb n))) 19)) := hq2.2.1 19 (by decide)
  have h_355 : u2 (ad 35) = some (eJ cs (600) (J2 35)) := hq2.2.1 35 (by decide)
  refine W.eq (g2 := F0 m 34 ls [.long (V n 6), .int (nI ((60 * wi) + n)), .ref (ad 35)]) rfl ?_
  refine z_last hx hb hK hS h_355 (vp_in_nI (by omega) (by decide)) dX7_pay_34 (fun H locs hS => ?_)
  obtain ⟨w3, ew3⟩ : ∃ z : zw, z = va_up u2 (ad 35) (some (eJ cs (600) (vp_updL (J2 35) (nI ((60 * wi) + n) : Int32).toNatClampNeg (V n 6)))) := ⟨_, rfl⟩
  have hS : zS (zA w sz) D w3 s.heap H locs := by rw [ew3]; exact hS
  have h3_ad35 : w3 (ad 35) = some (eJ cs (600) (vp_updL (J2 35) (nI ((60 * wi) + n) : Int32).toNatClampNeg (V n 6))) := by rw [ew3]; exact va_up_self _ _ _
  have h3_mm : w3 (mm) = some (mo ad (0) (tb) (nI nd) (nI nw) (rb n) (yr) (wd)) := by rw [ew3]; exact (va_up_ne _ _ (zne h_m5 h_355 (by intro q9; first | cases q9 | simp at q9))).trans h_m5
  have h3_ad19 : w3 (ad 19) = some (eI cs (10) ((va_up (va_up (va_up (va_up (va_up (va_up K 26 (upd (K 26) (60 * wi + n) (bo n))) 27 (upd (K 27) (60 * wi + n) (nI (tx n)))) 28 (upd (K 28) (60 * wi + n) (pe n))) 29 (upd (K 29) (60 * wi + n) (me n))) 30 (upd (K 30) (60 * wi + n) (en n))) 31 (upd (K 31) (60 * wi + n) (rb n))) 19)) := by rw [ew3]; exact (va_up_ne _ _ (hinj 19 35 (by decide))).trans h_195
  have h3_ad35 : w3 (ad 35) = some (eJ cs (600) (vp_updL (J2 35) (((60 * wi) + n)) (V n 6))) := by rw [nI_clamp (by omega)] at h3_ad35; exact h3_ad35
  refine lv_aload_n hx hb dX7_pay_35 rfl (lv_at hl 0 rfl) ?_
  refine z_get (C := RX7) (T := TX7) (N := 45) (v := .ref (ad 19)) hx hb hts (by decide +kernel) hown hK hS h3_mm rfl 19 (by decide) (hts (.fieldLink RX7 60 "PayLedgerModel" "many" "[I") (by decide +kernel)) rfl dX7_pay_36 ?_
  refine lv_iload_n hx hb dX7_pay_39 rfl (lv_at hl 1 rfl) ?_
  refine lv_dup2_11 hx hb dX7_pay_40 rfl rfl ?_
  refine z_iald hx hb hK hS h3_ad19 (vp_in_nI (by omega) (by decide)) dX7_pay_41 ?_
  refine z_ti (y := (((va_up (va_up (va_up (va_up (va_up (va_up K 26 (upd (K 26) (60 * wi + n) (bo n))) 27 (upd (K 27) (60 * wi + n) (nI (tx n)))) 28 (upd (K 28) (60 * wi + n) (pe n))) 29 (upd (K 29) (60 * wi + n) (me n))) 30 (upd (K 30) (60 * wi + n) (en n))) 31 (upd (K 31) (60 * wi + n) (rb n))) 19) (wi))) (congrArg _ (nI_clamp (by omega))) ?_
  refine z_ti (y := nI n) h19 ?_
  refine lv_iconst (v := 1) hx hb dX7_pay_42 (by decide) ?_
  refine lv_iadd hx hb dX7_pay_43 ?_
  refine z_ti (y := nI (n + 1)) (nI_add (n) (1)) ?_
  refine z_iast hx hb hK hS h3_ad19 (vp_in_nI (by omega) (by decide)) dX7_pay_44 (fun H locs hS => ?_)
  obtain ⟨w4, ew4⟩ : ∃ z : zw, z = va_up w3 (ad 19) (some (eI cs (10) (upd ((va_up (va_up (va_up (va_up (va_up (va_up K 26 (upd (K 26) (60 * wi + n) (bo n))) 27 (upd (K 27) (60 * wi + n) (nI (tx n)))) 28 (upd (K 28) (60 * wi + n) (pe n))) 29 (upd (K 29) (60 * wi + n) (me n))) 30 (upd (K 30) (60 * wi + n) (en n))) 31 (upd (K 31) (60 * wi + n) (rb n))) 19) (nI wi : Int32).toNatClampNeg (nI (n + 1))))) := ⟨_, rfl⟩
  have hS : zS (zA w sz) D w4 s.heap H locs := by rw [ew4]; exact hS
  have h4_ad19 : w4 (ad 19) = some (eI cs (10) (upd ((va_up (va_up (va_up (va_up (va_up (va_up K 26 (upd (K 26) (60 * wi + n) (bo n))) 27 (upd (K 27) (60 * wi + n) (nI (tx n)))) 28 (upd (K 28) (60 * wi + n) (pe n))) 29 (upd (K 29) (60 * wi + n) (me n))) 30 (upd (K 30) (60 * wi + n) (en n))) 31 (upd (K 31) (60 * wi + n) (rb n))) 19) (nI wi : Int32).toNatClampNeg (nI (n + 1)))) := by rw [ew4]; exact va_up_self _ _ _
  have h4_mm : w4 (mm) = some (mo ad (0) (tb) (nI nd) (nI nw) (rb n) (yr) (wd)) := by rw [ew4]; exact (va_up_ne _ _ (zne h3_mm h3_ad19 (by intro q9; first | cases q9 | simp at q9))).trans h3_mm
  have h4_ad35 : w4 (ad 35) = some (eJ cs (600) (vp_updL (J2 35) (((60 * wi) + n)) (V n 6))) := by rw [ew4]; exact (va_up_ne _ _ (hinj 35 19 (by decide))).trans h3_ad35
  have h4_ad19 : w4 (ad 19) = some (eI cs (10) (upd ((va_up (va_up (va_up (va_up (va_up (va_up K 26 (upd (K 26) (60 * wi + n) (bo n))) 27 (upd (K 27) (60 * wi + n) (nI (tx n)))) 28 (upd (K 28) (60 * wi + n) (pe n))) 29 (upd (K 29) (60 * wi + n) (me n))) 30 (upd (K 30) (60 * wi + n) (en n))) 31 (upd (K 31) (60 * wi + n) (rb n))) 19) (wi) (nI (n + 1)))) := by rw [nI_clamp (by omega)] at h4_ad19; exact h4_ad19
  rw [show (eI cs (10) (upd ((va_up (va_up (va_up (va_up (va_up (va_up K 26 (upd (K 26) (60 * wi + n) (bo n))) 27 (upd (K 27) (60 * wi + n) (nI (tx n)))) 28 (upd (K 28) (60 * wi + n) (pe n))) 29 (upd (K 29) (60 * wi + n) (me n))) 30 (upd (K 30) (60 * wi + n) (en n))) 31 (upd (K 31) (60 * wi + n) (rb n))) 19) (wi) (nI (n + 1)))) = (eI cs (10) (upd (K 19) (wi) (nI (n + 1)))) from rfl] at h4_ad19
  refine lv_aload_n hx hb dX7_pay_45 rfl (lv_at hl 0 rfl) ?_
  refine lv_dup hx hb dX7_pay_46 rfl ?_
  refine z_get (C := RX7) (T := TX7) (N := 45) (v := .int (wd)) hx hb hts (by decide +kernel) hown hK hS h4_mm rfl 24 (by decide) (hts (.fieldLink RX7 240 "PayLedgerModel" "worked" "I") (by decide +kernel)) rfl dX7_pay_47 ?_
  refine lv_iconst (v := 1) hx hb dX7_pay_50 (by decide) ?_
  refine lv_iadd hx hb dX7_pay_51 ?_
  refine z_put (C := RX7) (T := TX7) (N := 45) (v := .int ((wd + 1))) hx hb hts (by decide +kernel) tyX7 tyX7_ok nmX7 hown hK hS h4_mm rfl 24 (by decide) (hts (.fieldLink RX7 240 "PayLedgerModel" "worked" "I") (by decide +kernel)) rfl rfl rfl (Nat.le_of_ble_eq_true rfl) dX7_pay_52 (fun H locs hS => ?_)
  obtain ⟨w5, ew5⟩ : ∃ z : zw, z = va_up w4 (mm) (some (mo ad (0) (tb) (nI nd) (nI nw) (rb n) (yr) ((wd + 1)))) := ⟨_, rfl⟩
  have hS : zS (zA w sz) D w5 s.heap H locs := by rw [ew5]; exact hS
  have h5_mm : w5 (mm) = some (mo ad (0) (tb) (nI nd) (nI nw) (rb n) (yr) ((wd + 1))) := by rw [ew5]; exact va_up_self _ _ _
  have h5_ad35 : w5 (ad 35) = some (eJ cs (600) (vp_updL (J2 35) (((60 * wi) + n)) (V n 6))) := by rw [ew5]; exact (va_up_ne _ _ (zne h4_ad35 h4_mm (by intro q9; first | cases q9 | simp at q9))).trans h4_ad35
  have h5_ad19 : w5 (ad 19) = some (eI cs (10) (upd (K 19) (wi) (nI (n + 1)))) := by rw [ew5]; exact (va_up_ne _ _ (zne h4_ad19 h4_mm (by intro q9; first | cases q9 | simp at q9))).trans h4_ad19
  refine lv_aload_n hx hb dX7_pay_55 rfl (lv_at hl 0 rfl) ?_
  refine z_get (C := RX7) (T := TX7) (N := 45) (v := .ref (ad 19)) hx hb hts (by decide +kernel) hown hK hS h5_mm rfl 19 (by decide) (hts (.fieldLink RX7 60 "PayLedgerModel" "many" "[I") (by decide +kernel)) rfl dX7_pay_56 ?_
  refine lv_iload_n hx hb dX7_pay_59 rfl (lv_at hl 1 rfl) ?_
  refine z_iald hx hb hK hS h5_ad19 (vp_in_nI (by omega) (by decide)) dX7_pay_60 ?_
  refine z_ti (y := ((upd (K 19) (wi) (nI (n + 1))) (wi))) (congrArg _ (nI_clamp (by omega))) ?_
  refine z_ti (y := nI (n + 1)) (up_self _ _ _) ?_
  refine lv_iconst (v := 1) hx hb dX7_pay_61 (by decide) ?_
  refine lv_isub hx hb dX7_pay_62 ?_
  refine z_ti (y := nI n) (nI_pred n) ?_
  have hex : zEx u2 w5 [(mm, (mo ad (0) (tb) (nI nd) (nI nw) (rb n) (yr) ((wd + 1)))), (ad 35, (eJ cs (600) (vp_updL (J2 35) (((60 * wi) + n)) (V n 6)))), (ad 19, (eI cs (10) (upd (K 19) (wi) (nI (n + 1)))))] := ⟨(zm1 h5_mm (zm1 h5_ad35 (zm1 h5_ad19 zm0))), fun a9 h9 => by rw [ew5, va_up_ne _ _ (show a9 ≠ mm from h9 (mm, (mo ad (0) (tb) (nI nd) (nI nw) (rb n) (yr) ((wd + 1)))) (List.mem_of_getElem? (i := 0) rfl)), ew4, va_up_ne _ _ (show a9 ≠ ad 19 from h9 (ad 19, (eI cs (10) (upd (K 19) (wi) (nI (n + 1))))) (List.mem_of_getElem? (i := 2) rfl)), ew3, va_up_ne _ _ (show a9 ≠ ad 35 from h9 (ad 35, (eJ cs (600) (vp_updL (J2 35) (((60 * wi) + n)) (V n 6)))) (List.mem_of_getElem? (i := 1) rfl))]⟩
  exact z_iret hx hb hr hlocks hS (Nat.le_of_ble_eq_true rfl) (Nat.le_of_ble_eq_true rfl) dX7_pay_63 ⟨rfl, J2, ho, hr1.trans (hq2.trans (zMQ.of [35, 19] (by decide) hq2.2.1 hq2.1 hinj hex (fun s hs => va_up_ne _ _ (fun e => hs (by rw [e]; decide))) (fun s hs => va_up_ne _ _ (fun e => hs (by rw [e]; decide)))))⟩
set_option maxHeartbeats 4000000 in
set_option maxRecDepth 100000 in
theorem c_X7_ask (l : Launch) (D : va_G) (cs : Nat → ClassId) (w : zw) (sz : Nat) (mm : Nat) (ad : Nat → Nat) (J : Nat → Nat → Int64) (K : Nat → Nat → Int32) (th tb yr wd : Int32) (wi : Nat) (bo rb pe me : Nat → Int32) (re cr ex : Nat → Int64) (en : Nat → Int32) (tx : Nat → Nat) (V P : Nat → Nat → Int64) (nb : Nat) (tn : Nat → Nat) (FF : Nat → Nat → Int64) (GF : Nat → Nat → Int32) (nd : Nat) (de so : Nat → Int32) (si ca bs : Nat → Int64) (n : Nat) (nw : Nat) (hinj : ∀ i j : Nat, i ≠ j → ad i ≠ ad j) (hM : zMA cs w ad J K) (hTb : mTb J K nb tn FF GF) (hDd : mDd J K nd de so si ca bs) (hP : mPy J K wi (n) bo rb pe me re cr ex en tx V nb) (hw : wi < 10) (hn : n < 60) (h19 : K 19 wi = nI n) (hb01 : bo n = 0 ∨ bo n = 1) (h12 : K 12 wi = nI (tx n)) (h13 : K 13 wi = pe n) (h14 : K 14 wi = me n) (h15 : K 15 wi = en n) (h16 : J 16 wi = re n) (h17 : J 17 wi = cr n) (h18 : J 18 wi = ex n) (htx : tx n < nb) (hpn : (pe n).toInt64 ≠ 0) (hWk : ∀ k : Nat, k < n + 1 → mWkd nd de so si ca bs bo rb pe me re cr ex en tx tn FF GF V P k) (hnw : nw ≤ 10) (hwi : wi < nw) (hy : zUpTo (V n 0) 1000000000 = 1) (h_m : w (mm) = some (mo ad (th) (tb) (nI nd) (nI nw) (rb n) (yr) (wd))) : zM l D cs yX7_ask wsX7_ask 7 0 0 w sz [.ref (mm), .int (nI wi), .long (V n 0), .int (bo n)] (fun r w2 => r = some (.long (V n 6)) ∧ ∃ J' : Nat → Nat → Int64, mOut (va_up (va_up (va_up (va_up J 25 (vp_updL (J 25) (60 * wi + n) (V n 0))) 32 (vp_updL (J 32) (60 * wi + n) (re n))) 33 (vp_updL (J 33) (60 * wi + n) (cr n))) 34 (vp_updL (J 34) (60 * wi + n) (ex n))) J' ∧ zMQ cs w w2 ad mm (mo ad (0) (tb) (nI nd) (nI nw) (rb n) (yr) (wd)) J' (va_up (va_up (va_up (va_up (va_up (va_up K 26 (upd (K 26) (60 * wi + n) (bo n))) 27 (upd (K 27) (60 * wi + n) (nI (tx n)))) 28 (upd (K 28) (60 * wi + n) (pe n))) 29 (upd (K 29) (60 * wi + n) (me n))) 30 (upd (K 30) (60 * wi + n) (en n))) 31 (upd (K 31) (60 * wi + n) (rb n)))) := by
  refine z_met (cc := cX7_ask) (maxL := 5) (ret := (some .long)) (by decide) rfl (Nat.le_of_ble_eq_true rfl) ?_
  intro p e s m below meth c hx hb hr hml hown hts hlocks hnm hsz hK hE hS ls hl
  have hl : lv_has ls 5 [(0, .ref (mm)), (1, .int (nI wi)), (2, .long (V n 0)), (4, .int (bo n))] := hl
  refine lv_aload_n hx hb dX7_ask_0 rfl (lv_at hl 0 rfl) ?_
  refine lv_iload_n hx hb dX7_ask_1 rfl (lv_at hl 1 rfl) ?_
  refine lv_lload_n hx hb dX7_ask_2 rfl (lv_at hl 2 rfl) ?_
  refine z_invV (As := [.int (nI wi), .long (V n 0)]) (rest := []) (n := 2) ⟨hx, hb, hml, hown, hts⟩ (c_X7_refuses l D cs w s.heap.size mm ad J K th tb (nI nd) (rb n) yr wd nw wi n (V n 0) hinj hM hnw hwi hy h19 (by omega) (by omega) h_m) gX7_ask_X7_refuses rfl ⟨rfl, by decide +kernel, by decide +kernel, by decide +kernel⟩ ⟨Nat.le_of_ble_eq_true rfl, Nat.le_of_ble_eq_true rfl⟩ hK hE hS rfl h_m rfl hl.1 rfl (Nat.le_of_ble_eq_true rfl) dX7_ask_3 ⟨Nat.le_of_ble_eq_true rfl, Nat.le_of_ble_eq_true rfl⟩ (fun v9 u1 H locs hq hS => ?_)
  obtain ⟨rfl, hr1⟩ := hq
  have h_m4 : u1 mm = some (mo ad (0) (tb) (nI nd) (nI nw) (rb n) (yr) (wd)) := hr1.1
  have h_194 : u1 (ad 19) = some (eI cs (10) (K 19)) := hr1.2.1 19 (by decide)
  refine W.eq (g2 := F0 m 6 ls [.int (0)]) rfl ?_
  refine lv_if_eq (tgt := 13) hx hb dX7_ask_6 (by decide) (fun _ => ?_) (fun cq9 => absurd rfl cq9)
  refine lv_aload_n hx hb dX7_ask_13 rfl (lv_at hl 0 rfl) ?_
  refine lv_iload_n hx hb dX7_ask_14 rfl (lv_at hl 1 rfl) ?_
  refine lv_lload_n hx hb dX7_ask_15 rfl (lv_at hl 2 rfl) ?_
  refine lv_iload hx hb dX7_ask_16 (lv_at hl 3 rfl) ?_
  refine z_invV (As := [.int (nI wi), .long (V n 0), .int (bo n)]) (rest := []) (n := 3) ⟨hx, hb, hml, hown, hts⟩ (c_X7_lays l D cs u1 H.size mm ad J K 0 tb (nI nw) yr wd wi bo rb pe me re cr ex en tx V P nb tn FF GF nd de so si ca bs n hinj hr1.2.1 hTb hDd hP hw hn h19 hb01 h12 h13 h14 h15 h16 h17 h18 htx hpn hWk h_m4) gX7_ask_X7_lays rfl ⟨rfl, by decide +kernel, by decide +kernel, by decide +kernel⟩ ⟨Nat.le_of_ble_eq_true rfl, Nat.le_of_ble_eq_true rfl⟩ hK hE hS rfl h_m4 rfl hl.1 rfl (Nat.le_of_ble_eq_true rfl) dX7_ask_18 ⟨Nat.le_of_ble_eq_true rfl, Nat.le_of_ble_eq_true rfl⟩ (fun v9 u2 H locs hq hS => ?_)
  obtain ⟨rfl, J2, ho, hq2⟩ := hq
  have h_m5 : u2 mm = some (mo ad (0) (tb) (nI nd) (nI nw) (rb n) (yr) (wd)) := hq2.1
  refine W.eq (g2 := F0 m 21 ls [.long (V n 6)]) rfl ?_
  exact z_lret hx hb hr hlocks hS (Nat.le_of_ble_eq_true rfl) (Nat.le_of_ble_eq_true rfl) dX7_ask_21 ⟨rfl, J2, ho, hr1.trans hq2⟩
set_option maxHeartbeats 4000000 in
set_option maxRecDepth 100000 in
theorem t1_X7_pay (l : Launch) (D : va_G) (cs : Nat → ClassId) (w : zw) (sz : Nat) (mm : Nat) (ad : Nat → Nat) (J : Nat → Nat → Int64) (K : Nat → Nat → Int32) (th tb dd br yr wd : Int32) (nw : Nat) (x : Int32) (y : Int64) (b : Int32) (hinj : ∀ i j : Nat, i ≠ j → ad i ≠ ad j) (hM : zMA cs w ad J K) (hnw : nw ≤ 10) (hx9 : ∀ k : Nat, k < nw → x ≠ nI k) (h_m : w (mm) = some (mo ad (th) (tb) (dd) (nI nw) (br) (yr) (wd))) : zM l D cs yX7_pay wsX7_pay 7 0 0 w sz [.ref (mm), .int (x), .long (y), .int (b)] (fun r w2 => r = some (.int 0) ∧ zMQ cs w w2 ad mm (mo ad (1) (tb) (dd) (nI nw) (br) (yr) (wd)) J K) := by
  refine z_met (cc := cX7_pay) (maxL := 5) (ret := (some .int)) (by decide) rfl (Nat.le_of_ble_eq_true rfl) ?_
  intro p e s m below meth c hx hb hr hml hown hts hlocks hnm hsz hK hE hS ls hl
  have hl : lv_has ls 5 [(0, .ref (mm)), (1, .int (x)), (2, .long (y)), (4, .int (b))] := hl
  refine lv_aload_n hx hb dX7_pay_0 rfl (lv_at hl 0 rfl) ?_
  refine lv_iload_n hx hb dX7_pay_1 rfl (lv_at hl 1 rfl) ?_
  refine lv_lload_n hx hb dX7_pay_2 rfl (lv_at hl 2 rfl) ?_
  refine z_invV (As := [.int (x), .long (y)]) (rest := []) (n := 2) ⟨hx, hb, hml, hown, hts⟩ (t1_X7_refuses l D cs w s.heap.size mm ad J K th tb dd br yr wd nw x y hinj hM hnw hx9 h_m) gX7_pay_X7_refuses rfl ⟨rfl, by decide +kernel, by decide +kernel, by decide +kernel⟩ ⟨Nat.le_of_ble_eq_true rfl, Nat.le_of_ble_eq_true rfl⟩ hK hE hS rfl h_m rfl hl.1 rfl (Nat.le_of_ble_eq_true rfl) dX7_pay_3 ⟨Nat.le_of_ble_eq_true rfl, Nat.le_of_ble_eq_true rfl⟩ (fun v9 u1 H locs hq hS => ?_)
  obtain ⟨rfl, hr1⟩ := hq
  have h_m4 : u1 mm = some (mo ad (1) (tb) (dd) (nI nw) (br) (yr) (wd)) := hr1.1
  refine W.eq (g2 := F0 m 6 ls [.int (1)]) rfl ?_
  refine lv_if_eq (tgt := 11) hx hb dX7_pay_6 (by decide) (fun cq9 => absurd cq9 (by decide)) (fun _ => ?_)
  refine lv_iconst (v := 0) hx hb dX7_pay_9 (by decide) ?_
  exact z_iret hx hb hr hlocks hS (Nat.le_of_ble_eq_true rfl) (Nat.le_of_ble_eq_true rfl) dX7_pay_10 ⟨rfl, hr1⟩
set_option maxHeartbeats 4000000 in
set_option maxRecDepth 100000 in
theorem t2_X7_pay (l : Launch) (D : va_G) (cs : Nat → ClassId) (w : zw) (sz : Nat) (mm : Nat) (ad : Nat → Nat) (J : Nat → Nat → Int64) (K : Nat → Nat → Int32) (th tb dd br yr wd : Int32) (nw wi : Nat) (y : Int64) (b : Int32) (hinj : ∀ i j : Nat, i ≠ j → ad i ≠ ad j) (hM : zMA cs w ad J K) (hnw : nw ≤ 10) (hwi : wi < nw) (hy : zUpTo y 1000000000 = 0) (h_m : w (mm) = some (mo ad (th) (tb) (dd) (nI nw) (br) (yr) (wd))) : zM l D cs yX7_pay wsX7_pay 7 0 0 w sz [.ref (mm), .int (nI wi), .long (y), .int (b)] (fun r w2 => r = some (.int 0) ∧ zMQ cs w w2 ad mm (mo ad (2) (tb) (dd) (nI nw) (br) (yr) (wd)) J K) := by
  refine z_met (cc := cX7_pay) (maxL := 5) (ret := (some .int)) (by decide) rfl (Nat.le_of_ble_eq_true rfl) ?_
  intro p e s m below meth c hx hb hr hml hown hts hlocks hnm hsz hK hE hS ls hl
  have hl : lv_has ls 5 [(0, .ref (mm)), (1, .int (nI wi)), (2, .long (y)), (4, .int (b))] := hl
  refine lv_aload_n hx hb dX7_pay_0 rfl (lv_at hl 0 rfl) ?_
  refine lv_iload_n hx hb dX7_pay_1 rfl (lv_at hl 1 rfl) ?_
  refine lv_lload_n hx hb dX7_pay_2 rfl (lv_at hl 2 rfl) ?_
  refine z_invV (As := [.int (nI wi), .long (y)]) (rest := []) (n := 2) ⟨hx, hb, hml, hown, hts⟩ (t2_X7_refuses l D cs w s.heap.size mm ad J K th tb dd br yr wd nw wi y hinj hM hnw hwi hy h_m) gX7_pay_X7_refuses rfl ⟨rfl, by decide +kernel, by decide +kernel, by decide +kernel⟩ ⟨Nat.le_of_ble_eq_true rfl, Nat.le_of_ble_eq_true rfl⟩ hK hE hS rfl h_m rfl hl.1 rfl (Nat.le_of_ble_eq_true rfl) dX7_pay_3 ⟨Nat.le_of_ble_eq_true rfl, Nat.le_of_ble_eq_true rfl⟩ (fun v9 u1 H locs hq hS => ?_)
  obtain ⟨rfl, hr1⟩ := hq
  have h_m4 : u1 mm = some (mo ad (2) (tb) (dd) (nI nw) (br) (yr) (wd)) := hr1.1
  refine W.eq (g2 := F0 m 6 ls [.int (1)]) rfl ?_
  refine lv_if_eq (tgt := 11) hx hb dX7_pay_6 (by decide) (fun cq9 => absurd cq9 (by decide)) (fun _ => ?_)
  refine lv_iconst (v := 0) hx hb dX7_pay_9 (by decide) ?_
  exact z_iret hx hb hr hlocks hS (Nat.le_of_ble_eq_true rfl) (Nat.le_of_ble_eq_true rfl) dX7_pay_10 ⟨rfl, hr1⟩
set_option maxHeartbeats 4000000 in
set_option maxRecDepth 100000 in
theorem t3_X7_pay (l : Launch) (D : va_G) (cs : Nat → ClassId) (w : zw) (sz : Nat) (mm : Nat) (ad : Nat → Nat) (J : Nat → Nat → Int64) (K : Nat → Nat → Int32) (th tb dd br yr wd : Int32) (nw wi n : Nat) (y : Int64) (b : Int32) (hinj : ∀ i j : Nat, i ≠ j → ad i ≠ ad j) (hM : zMA cs w ad J K) (hnw : nw ≤ 10) (hwi : wi < nw) (hy : zUpTo y 1000000000 = 1) (h19 : K 19 wi = nI n) (hn : n ≤ 60) (h60 : n = 60) (h_m : w (mm) = some (mo ad (th) (tb) (dd) (nI nw) (br) (yr) (wd))) : zM l D cs yX7_pay wsX7_pay 7 0 0 w sz [.ref (mm), .int (nI wi), .long (y), .int (b)] (fun r w2 => r = some (.int 0) ∧ zMQ cs w w2 ad mm (mo ad (3) (tb) (dd) (nI nw) (br) (yr) (wd)) J K) := by
  refine z_met (cc := cX7_pay) (maxL := 5) (ret := (some .int)) (by decide) rfl (Nat.le_of_ble_eq_true rfl) ?_
  intro p e s m below meth c hx hb hr hml hown hts hlocks hnm hsz hK hE hS ls hl
  have hl : lv_has ls 5 [(0, .ref (mm)), (1, .int (nI wi)), (2, .long (y)), (4, .int (b))] := hl
  refine lv_aload_n hx hb dX7_pay_0 rfl (lv_at hl 0 rfl) ?_
  refine lv_iload_n hx hb dX7_pay_1 rfl (lv_at hl 1 rfl) ?_
  refine lv_lload_n hx hb dX7_pay_2 rfl (lv_at hl 2 rfl) ?_
  refine z_invV (As := [.int (nI wi), .long (y)]) (rest := []) (n := 2) ⟨hx, hb, hml, hown, hts⟩ (t3_X7_refuses l D cs w s.heap.size mm ad J K th tb dd br yr wd nw wi n y hinj hM hnw hwi hy h19 hn h60 h_m) gX7_pay_X7_refuses rfl ⟨rfl, by decide +kernel, by decide +kernel, by decide +kernel⟩ ⟨Nat.le_of_ble_eq_true rfl, Nat.le_of_ble_eq_true rfl⟩ hK hE hS rfl h_m rfl hl.1 rfl (Nat.le_of_ble_eq_true rfl) dX7_pay_3 ⟨Nat.le_of_ble_eq_true rfl, Nat.le_of_ble_eq_true rfl⟩ (fun v9 u1 H locs hq hS => ?_)
  obtain ⟨rfl, hr1⟩ := hq
  have h_m4 : u1 mm = some (mo ad (3) (tb) (dd) (nI nw) (br) (yr) (wd)) := hr1.1
  refine W.eq (g2 := F0 m 6 ls [.int (1)]) rfl ?_
  refine lv_if_eq (tgt := 11) hx hb dX7_pay_6 (by decide) (fun cq9 => absurd cq9 (by decide)) (fun _ => ?_)
  refine lv_iconst (v := 0) hx hb dX7_pay_9 (by decide) ?_
  exact z_iret hx hb hr hlocks hS (Nat.le_of_ble_eq_true rfl) (Nat.le_of_ble_eq_true rfl) dX7_pay_10 ⟨rfl, hr1⟩
set_option maxHeartbeats 4000000 in
set_option maxRecDepth 100000 in
theorem t1_X7_ask (l : Launch) (D : va_G) (cs : Nat → ClassId) (w : zw) (sz : Nat) (mm : Nat) (ad : Nat → Nat) (J : Nat → Nat → Int64) (K : Nat → Nat → Int32) (th tb dd br yr wd : Int32) (nw : Nat) (x : Int32) (y : Int64) (b : Int32) (hinj : ∀ i j : Nat, i ≠ j → ad i ≠ ad j) (hM : zMA cs w ad J K) (hnw : nw ≤ 10) (hx9 : ∀ k : Nat, k < nw → x ≠ nI k) (h_m : w (mm) = some (mo ad (th) (tb) (dd) (nI nw) (br) (yr) (wd))) : zM l D cs yX7_ask wsX7_ask 7 0 0 w sz [.ref (mm), .int (x), .long (y), .int (b)] (fun r w2 => r = some (.long 0) ∧ zMQ cs w w2 ad mm (mo ad (1) (tb) (dd) (nI nw) (br) (yr) (wd)) J K) := by
  refine z_met (cc := cX7_ask) (maxL := 5) (ret := (some .long)) (by decide) rfl (Nat.le_of_ble_eq_true rfl) ?_
  intro p e s m below meth c hx hb hr hml hown hts hlocks hnm hsz hK hE hS ls hl
  have hl : lv_has ls 5 [(0, .ref (mm)), (1, .int (x)), (2, .long (y)), (4, .int (b))] := hl
  refine lv_aload_n hx hb dX7_ask_0 rfl (lv_at hl 0 rfl) ?_
  refine lv_iload_n hx hb dX7_ask_1 rfl (lv_at hl 1 rfl) ?_
  refine lv_lload_n hx hb dX7_ask_2 rfl (lv_at hl 2 rfl) ?_
  refine z_invV (As := [.int (x), .long (y)]) (rest := []) (n := 2) ⟨hx, hb, hml, hown, hts⟩ (t1_X7_refuses l D cs w s.heap.size mm ad J K th tb dd br yr wd nw x y hinj hM hnw hx9 h_m) gX7_ask_X7_refuses rfl ⟨rfl, by decide +kernel, by decide +kernel, by decide +kernel⟩ ⟨Nat.le_of_ble_eq_true rfl, Nat.le_of_ble_eq_true rfl⟩ hK hE hS rfl h_m rfl hl.1 rfl (Nat.le_of_ble_eq_true rfl) dX7_ask_3 ⟨Nat.le_of_ble_eq_true rfl, Nat.le_of_ble_eq_true rfl⟩ (fun v9 u1 H locs hq hS => ?_)
  obtain ⟨rfl, hr1⟩ := hq
  have h_m4 : u1 mm = some (mo ad (1) (tb) (dd) (nI nw) (br) (yr) (wd)) := hr1.1
  refine W.eq (g2 := F0 m 6 ls [.int (1)]) rfl ?_
  refine lv_if_eq (tgt := 13) hx hb dX7_ask_6 (by decide) (fun cq9 => absurd cq9 (by decide)) (fun _ => ?_)
  refine lv_lconst (v := 0) hx hb dX7_ask_9 (by decide) ?_
  refine lv_goto (tgt := 21) hx hb dX7_ask_10 (by decide) ?_
  exact z_lret hx hb hr hlocks hS (Nat.le_of_ble_eq_true rfl) (Nat.le_of_ble_eq_true rfl) dX7_ask_21 ⟨rfl, hr1⟩
set_option maxHeartbeats 4000000 in
set_option maxRecDepth 100000 in
theorem t2_X7_ask (l : Launch) (D : va_G) (cs : Nat → ClassId) (w : zw) (sz : Nat) (mm : Nat) (ad : Nat → Nat) (J : Nat → Nat → Int64) (K : Nat → Nat → Int32) (th tb dd br yr wd : Int32) (nw wi : Nat) (y : Int64) (b : Int32) (hinj : ∀ i j : Nat, i ≠ j → ad i ≠ ad j) (hM : zMA cs w ad J K) (hnw : nw ≤ 10) (hwi : wi < nw) (hy : zUpTo y 1000000000 = 0) (h_m : w (mm) = some (mo ad (th) (tb) (dd) (nI nw) (br) (yr) (wd))) : zM l D cs yX7_ask wsX7_ask 7 0 0 w sz [.ref (mm), .int (nI wi), .long (y), .int (b)] (fun r w2 => r = some (.long 0) ∧ zMQ cs w w2 ad mm (mo ad (2) (tb) (dd) (nI nw) (br) (yr) (wd)) J K) := by
  refine z_met (cc := cX7_ask) (maxL := 5) (ret := (some .long)) (by decide) rfl (Nat.le_of_ble_eq_true rfl) ?_
  intro p e s m below meth c hx hb hr hml hown hts hlocks hnm hsz hK hE hS ls hl
  have hl : lv_has ls 5 [(0, .ref (mm)), (1, .int (nI wi)), (2, .long (y)), (4, .int (b))] := hl
  refine lv_aload_n hx hb dX7_ask_0 rfl (lv_at hl 0 rfl) ?_
  refine lv_iload_n hx hb dX7_ask_1 rfl (lv_at hl 1 rfl) ?_
  refine lv_lload_n hx hb dX7_ask_2 rfl (lv_at hl 2 rfl) ?_
  refine z_invV (As := [.int (nI wi), .long (y)]) (rest := []) (n := 2) ⟨hx, hb, hml, hown, hts⟩ (t2_X7_refuses l D cs w s.heap.size mm ad J K th tb dd br yr wd nw wi y hinj hM hnw hwi hy h_m) gX7_ask_X7_refuses rfl ⟨rfl, by decide +kernel, by decide +kernel, by decide +kernel⟩ ⟨Nat.le_of_ble_eq_true rfl, Nat.le_of_ble_eq_true rfl⟩ hK hE hS rfl h_m rfl hl.1 rfl (Nat.le_of_ble_eq_true rfl) dX7_ask_3 ⟨Nat.le_of_ble_eq_true rfl, Nat.le_of_ble_eq_true rfl⟩ (fun v9 u1 H locs hq hS => ?_)
  obtain ⟨rfl, hr1⟩ := hq
  have h_m4 : u1 mm = some (mo ad (2) (tb) (dd) (nI nw) (br) (yr) (wd)) := hr1.1
  refine W.eq (g2 := F0 m 6 ls [.int (1)]) rfl ?_
  refine lv_if_eq (tgt := 13) hx hb dX7_ask_6 (by decide) (fun cq9 => absurd cq9 (by decide)) (fun _ => ?_)
  refine lv_lconst (v := 0) hx hb dX7_ask_9 (by decide) ?_
  refine lv_goto (tgt := 21) hx hb dX7_ask_10 (by decide) ?_
  exact z_lret hx hb hr hlocks hS (Nat.le_of_ble_eq_true rfl) (Nat.le_of_ble_eq_true rfl) dX7_ask_21 ⟨rfl, hr1⟩
set_option maxHeartbeats 4000000 in
set_option maxRecDepth 100000 in
theorem t3_X7_ask (l : Launch) (D : va_G) (cs : Nat → ClassId) (w : zw) (sz : Nat) (mm : Nat) (ad : Nat → Nat) (J : Nat → Nat → Int64) (K : Nat → Nat → Int32) (th tb dd br yr wd : Int32) (nw wi n : Nat) (y : Int64) (b : Int32) (hinj : ∀ i j : Nat, i ≠ j → ad i ≠ ad j) (hM : zMA cs w ad J K) (hnw : nw ≤ 10) (hwi : wi < nw) (hy : zUpTo y 1000000000 = 1) (h19 : K 19 wi = nI n) (hn : n ≤ 60) (h60 : n = 60) (h_m : w (mm) = some (mo ad (th) (tb) (dd) (nI nw) (br) (yr) (wd))) : zM l D cs yX7_ask wsX7_ask 7 0 0 w sz [.ref (mm), .int (nI wi), .long (y), .int (b)] (fun r w2 => r = some (.long 0) ∧ zMQ cs w w2 ad mm (mo ad (3) (tb) (dd) (nI nw) (br) (yr) (wd)) J K) := by
  refine z_met (cc := cX7_ask) (maxL := 5) (ret := (some .long)) (by decide) rfl (Nat.le_of_ble_eq_true rfl) ?_
  intro p e s m below meth c hx hb hr hml hown hts hlocks hnm hsz hK hE hS ls hl
  have hl : lv_has ls 5 [(0, .ref (mm)), (1, .int (nI wi)), (2, .long (y)), (4, .int (b))] := hl
  refine lv_aload_n hx hb dX7_ask_0 rfl (lv_at hl 0 rfl) ?_
  refine lv_iload_n hx hb dX7_ask_1 rfl (lv_at hl 1 rfl) ?_
  refine lv_lload_n hx hb dX7_ask_2 rfl (lv_at hl 2 rfl) ?_
  refine z_invV (As := [.int (nI wi), .long (y)]) (rest := []) (n := 2) ⟨hx, hb, hml, hown, hts⟩ (t3_X7_refuses l D cs w s.heap.size mm ad J K th tb dd br yr wd nw wi n y hinj hM hnw hwi hy h19 hn h60 h_m) gX7_ask_X7_refuses rfl ⟨rfl, by decide +kernel, by decide +kernel, by decide +kernel⟩ ⟨Nat.le_of_ble_eq_true rfl, Nat.le_of_ble_eq_true rfl⟩ hK hE hS rfl h_m rfl hl.1 rfl (Nat.le_of_ble_eq_true rfl) dX7_ask_3 ⟨Nat.le_of_ble_eq_true rfl, Nat.le_of_ble_eq_true rfl⟩ (fun v9 u1 H locs hq hS => ?_)
  obtain ⟨rfl, hr1⟩ := hq
  have h_m4 : u1 mm = some (mo ad (3) (tb) (dd) (nI nw) (br) (yr) (wd)) := hr1.1
  refine W.eq (g2 := F0 m 6 ls [.int (1)]) rfl ?_
  refine lv_if_eq (tgt := 13) hx hb dX7_ask_6 (by decide) (fun cq9 => absurd cq9 (by decide)) (fun _ => ?_)
  refine lv_lconst (v := 0) hx hb dX7_ask_9 (by decide) ?_
  refine lv_goto (tgt := 21) hx hb dX7_ask_10 (by decide) ?_
  exact z_lret hx hb hr hlocks hS (Nat.le_of_ble_eq_true rfl) (Nat.le_of_ble_eq_true rfl) dX7_ask_21 ⟨rfl, hr1⟩
