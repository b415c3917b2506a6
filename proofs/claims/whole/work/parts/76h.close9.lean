/-! ===== the model: close, and what it leaves of those that are no workers yet ===== -/
set_option maxHeartbeats 8000000 in
set_option maxRecDepth 100000 in
theorem c9_X7_close (l : Launch) (D : va_G) (cs : Nat → ClassId) (w : zw) (sz : Nat) (mm : Nat) (ad : Nat → Nat) (J : Nat → Nat → Int64) (K : Nat → Nat → Int32) (th tb br wd : Int32) (bo rb pe me : Nat → Nat → Int32) (re cr ex : Nat → Nat → Int64) (en : Nat → Nat → Int32) (tx : Nat → Nat → Nat) (V P : Nat → Nat → Nat → Int64) (nb : Nat) (tn : Nat → Nat) (FF : Nat → Nat → Int64) (GF : Nat → Nat → Int32) (nd : Nat) (de so : Nat → Int32) (si ca bs : Nat → Int64) (hd : Nat → Nat) (nw : Nat) (y : Nat) (tw : Nat → Nat) (hinj : ∀ i j : Nat, i ≠ j → ad i ≠ ad j) (hM : zMA cs w ad J K) (hWs : ∀ k : Nat, k < nw → mWr J K k (bo k) (rb k) (pe k) (me k) (re k) (cr k) (ex k) (en k) (tx k) (V k) (P k) nb tn FF GF nd de so si ca bs (hd k)) (hnw : nw ≤ 10) (hy : y ≤ 6) (hev : ∀ k : Nat, k < nw → zTotal (bo k) (V k) (hd k) (J 20 k) (10) = 0) (hy6 : y < 6) (h12 : ∀ k : Nat, k < nw → K 12 k = nI (tw k) ∧ tw k < nb) (h_m : w (mm) = some (mo ad (th) (tb) (nI nd) (nI nw) (br) (nI y) (wd))) : zM l D cs yX7_close wsX7_close 10 0 0 w sz [.ref (mm)] (fun r w2 => r = some (.int (nI y)) ∧ ∃ (J' : Nat → Nat → Int64) (K' : Nat → Nat → Int32), (∀ s : Nat, s ∉ [20, 36, 37, 38, 39, 40, 41, 42, 43] → J' s = J s) ∧ (∀ s : Nat, s ≠ 19 → K' s = K s) ∧ (∀ k : Nat, k < nw → K' 19 k = 0 ∧ J' 20 k = 0) ∧ (∀ k : Nat, nw ≤ k → K' 19 k = K 19 k ∧ J' 20 k = J 20 k) ∧ mSts (J 36) (J' 36) y nw (fun k q => mStm (bo k) (V k) (hd k) (J 20 k) (mDuty (FF (tw k)) (GF (tw k)) (tn (tw k)) (J 16 k) (J 17 k) (zTot (bo k) (V k) (hd k) 2)) q) nw 0 ∧ zMQ cs w w2 ad mm (mo ad (0) (tb) (nI nd) (nI nw) (br) (nI (y + 1)) (wd)) J' K') := by
  refine z_met (cc := cX7_close) (maxL := 5) (ret := (some .int)) (by decide) rfl (Nat.le_of_ble_eq_true rfl) ?_
  intro p e s m below meth c hx hb hr hml hown hts hlocks hnm hsz hK hE hS ls hl
  have hl : lv_has ls 5 [(0, .ref (mm))] := hl
  have L199 : ∀ (i : Nat), ∀ (u : zw) (J7 : Nat → Nat → Int64) (K7 : Nat → Nat → Int32), (hi : i ≤ nw) → (eo7 : ∀ s : Nat, s ∉ [20, 36, 37, 38, 39, 40, 41, 42, 43] → J7 s = J s) → (ek7 : ∀ s : Nat, s ≠ 19 → K7 s = K s) → (e0 : ∀ k : Nat, k < i → K7 19 k = 0 ∧ J7 20 k = 0) → (e9 : ∀ k : Nat, i ≤ k → K7 19 k = K 19 k ∧ J7 20 k = J 20 k) → (hst : mSts (J 36) (J7 36) y nw (fun k q => mStm (bo k) (V k) (hd k) (J 20 k) (mDuty (FF (tw k)) (GF (tw k)) (tn (tw k)) (J 16 k) (J 17 k) (zTot (bo k) (V k) (hd k) 2)) q) nw 0) → (hq7 : zMQ cs w u ad mm (mo ad (0) (tb) (nI nd) (nI nw) (br) (nI y) (wd)) J7 K7) → (h_m : u (mm) = some (mo ad (0) (tb) (nI nd) (nI nw) (br) (nI y) (wd))) → (h_19 : u (ad 19) = some (eI cs (10) (K7 19))) → (h_20 : u (ad 20) = some (eJ cs (10) (J7 20))) → ∀ (H : Heap) (locs : List Loc) (ls : Array Slot), zS (zA w sz) D u s.heap H locs → lv_has ls 5 [(2, .int (nI i)), (0, .ref (mm))] → W p l e (zR 10 0 0) s m [.ref (mm)].toArray below meth c H locs 0 0 (MQ below (zQ D w sz (fun r w2 => r = some (.int (nI y)) ∧ ∃ (J' : Nat → Nat → Int64) (K' : Nat → Nat → Int32), (∀ s : Nat, s ∉ [20, 36, 37, 38, 39, 40, 41, 42, 43] → J' s = J s) ∧ (∀ s : Nat, s ≠ 19 → K' s = K s) ∧ (∀ k : Nat, k < nw → K' 19 k = 0 ∧ J' 20 k = 0) ∧ (∀ k : Nat, nw ≤ k → K' 19 k = K 19 k ∧ J' 20 k = J 20 k) ∧ mSts (J 36) (J' 36) y nw (fun k q => mStm (bo k) (V k) (hd k) (J 20 k) (mDuty (FF (tw k)) (GF (tw k)) (tn (tw k)) (J 16 k) (J 17 k) (zTot (bo k) (V k) (hd k) 2)) q) nw 0 ∧ zMQ cs w w2 ad mm (mo ad (0) (tb) (nI nd) (nI nw) (br) (nI (y + 1)) (wd)) J' K')) [.ref (mm)].toArray s 0 0 (zA w sz)) (F0 m 199 ls []) := by
    refine zloopU (P := fun i => ∀ (u : zw) (J7 : Nat → Nat → Int64) (K7 : Nat → Nat → Int32), (hi : i ≤ nw) → (eo7 : ∀ s : Nat, s ∉ [20, 36, 37, 38, 39, 40, 41, 42, 43] → J7 s = J s) → (ek7 : ∀ s : Nat, s ≠ 19 → K7 s = K s) → (e0 : ∀ k : Nat, k < i → K7 19 k = 0 ∧ J7 20 k = 0) → (e9 : ∀ k : Nat, i ≤ k → K7 19 k = K 19 k ∧ J7 20 k = J 20 k) → (hst : mSts (J 36) (J7 36) y nw (fun k q => mStm (bo k) (V k) (hd k) (J 20 k) (mDuty (FF (tw k)) (GF (tw k)) (tn (tw k)) (J 16 k) (J 17 k) (zTot (bo k) (V k) (hd k) 2)) q) nw 0) → (hq7 : zMQ cs w u ad mm (mo ad (0) (tb) (nI nd) (nI nw) (br) (nI y) (wd)) J7 K7) → (h_m : u (mm) = some (mo ad (0) (tb) (nI nd) (nI nw) (br) (nI y) (wd))) → (h_19 : u (ad 19) = some (eI cs (10) (K7 19))) → (h_20 : u (ad 20) = some (eJ cs (10) (J7 20))) → ∀ (H : Heap) (locs : List Loc) (ls : Array Slot), zS (zA w sz) D u s.heap H locs → lv_has ls 5 [(2, .int (nI i)), (0, .ref (mm))] → W p l e (zR 10 0 0) s m [.ref (mm)].toArray below meth c H locs 0 0 (MQ below (zQ D w sz (fun r w2 => r = some (.int (nI y)) ∧ ∃ (J' : Nat → Nat → Int64) (K' : Nat → Nat → Int32), (∀ s : Nat, s ∉ [20, 36, 37, 38, 39, 40, 41, 42, 43] → J' s = J s) ∧ (∀ s : Nat, s ≠ 19 → K' s = K s) ∧ (∀ k : Nat, k < nw → K' 19 k = 0 ∧ J' 20 k = 0) ∧ (∀ k : Nat, nw ≤ k → K' 19 k = K 19 k ∧ J' 20 k = J 20 k) ∧ mSts (J 36) (J' 36) y nw (fun k q => mStm (bo k) (V k) (hd k) (J 20 k) (mDuty (FF (tw k)) (GF (tw k)) (tn (tw k)) (J 16 k) (J 17 k) (zTot (bo k) (V k) (hd k) 2)) q) nw 0 ∧ zMQ cs w w2 ad mm (mo ad (0) (tb) (nI nd) (nI nw) (br) (nI (y + 1)) (wd)) J' K')) [.ref (mm)].toArray s 0 0 (zA w sz)) (F0 m 199 ls [])) nw (fun i ih => ?_)
    intro u J7 K7 hi eo7 ek7 e0 e9 hst hq7 h_m h_19 h_20 H locs ls hS hl
    refine lv_iload_n hx hb dX7_close_199 rfl (lv_at hl 0 rfl) ?_
    refine lv_aload_n hx hb dX7_close_200 rfl (lv_at hl 1 rfl) ?_
    refine z_get (C := RX7) (T := TX7) (N := 45) (v := .int (nI nw)) hx hb hts (by decide +kernel) hown hK hS h_m rfl 21 (by decide) (hts (.fieldLink RX7 183 "PayLedgerModel" "workers" "I") (by decide +kernel)) rfl dX7_close_201 ?_
    refine lv_icmp_ge (tgt := 227) hx hb dX7_close_204 (by decide) (fun c204 => ?_) (fun c204 => ?_)
    · have hi9 : i = nw := by rcases Nat.lt_or_ge i (nw) with q | q; exact absurd c204 (nI_ge (b := nw) q (by omega)); omega
      refine lv_aload_n hx hb dX7_close_227 rfl (lv_at hl 1 rfl) ?_
      refine lv_dup hx hb dX7_close_228 rfl ?_
      refine z_get (C := RX7) (T := TX7) (N := 45) (v := .int (nI y)) hx hb hts (by decide +kernel) hown hK hS h_m rfl 23 (by decide) (hts (.fieldLink RX7 251 "PayLedgerModel" "year" "I") (by decide +kernel)) rfl dX7_close_229 ?_
      refine lv_iconst (v := 1) hx hb dX7_close_232 (by decide) ?_
      refine lv_iadd hx hb dX7_close_233 ?_
      refine z_ti (y := nI (y + 1)) (nI_add (y) (1)) ?_
      refine z_put (C := RX7) (T := TX7) (N := 45) (v := .int (nI (y + 1))) hx hb hts (by decide +kernel) tyX7 tyX7_ok nmX7 hown hK hS h_m rfl 23 (by decide) (hts (.fieldLink RX7 251 "PayLedgerModel" "year" "I") (by decide +kernel)) rfl rfl rfl (Nat.le_of_ble_eq_true rfl) dX7_close_234 (fun H locs hS => ?_)
      obtain ⟨w1, ew1⟩ : ∃ z : zw, z = va_up u (mm) (some (mo ad (0) (tb) (nI nd) (nI nw) (br) (nI (y + 1)) (wd))) := ⟨_, rfl⟩
      have hS : zS (zA w sz) D w1 s.heap H locs := by rw [ew1]; exact hS
      have h1_mm : w1 (mm) = some (mo ad (0) (tb) (nI nd) (nI nw) (br) (nI (y + 1)) (wd)) := by rw [ew1]; exact va_up_self _ _ _
      have h1_ad19 : w1 (ad 19) = some (eI cs (10) (K7 19)) := by rw [ew1]; exact (va_up_ne _ _ (zne h_19 h_m (by intro q9; first | cases q9 | simp at q9))).trans h_19
      have h1_ad20 : w1 (ad 20) = some (eJ cs (10) (J7 20)) := by rw [ew1]; exact (va_up_ne _ _ (zne h_20 h_m (by intro q9; first | cases q9 | simp at q9))).trans h_20
      refine lv_aload_n hx hb dX7_close_237 rfl (lv_at hl 1 rfl) ?_
      refine z_get (C := RX7) (T := TX7) (N := 45) (v := .int (nI (y + 1))) hx hb hts (by decide +kernel) hown hK hS h1_mm rfl 23 (by decide) (hts (.fieldLink RX7 251 "PayLedgerModel" "year" "I") (by decide +kernel)) rfl dX7_close_238 ?_
      refine lv_iconst (v := 1) hx hb dX7_close_241 (by decide) ?_
      refine lv_isub hx hb dX7_close_242 ?_
      refine z_ti (y := nI y) (nI_pred y) ?_
      have hex : zEx u w1 [(mm, (mo ad (0) (tb) (nI nd) (nI nw) (br) (nI (y + 1)) (wd)))] := ⟨(zm1 h1_mm zm0), fun a9 h9 => by rw [ew1, va_up_ne _ _ (show a9 ≠ mm from h9 (mm, (mo ad (0) (tb) (nI nd) (nI nw) (br) (nI (y + 1)) (wd))) (List.mem_of_getElem? (i := 0) rfl))]⟩
      exact z_iret hx hb hr hlocks hS (Nat.le_of_ble_eq_true rfl) (Nat.le_of_ble_eq_true rfl) dX7_close_243 ⟨rfl, J7, K7, eo7, ek7, (fun k hk => e0 k (by omega)), (fun k hk => e9 k (by omega)), hst, hq7.trans (zMQ.o hq7.2.1 hq7.1 hinj hex)⟩
    · have c204 : i < nw := by rcases Nat.lt_or_ge i (nw) with q | q; exact q; exact absurd (nI_le (a := nw) q (by omega)) c204
      refine lv_aload_n hx hb dX7_close_207 rfl (lv_at hl 1 rfl) ?_
      refine z_get (C := RX7) (T := TX7) (N := 45) (v := .ref (ad 19)) hx hb hts (by decide +kernel) hown hK hS h_m rfl 19 (by decide) (hts (.fieldLink RX7 60 "PayLedgerModel" "many" "[I") (by decide +kernel)) rfl dX7_close_208 ?_
      refine lv_iload_n hx hb dX7_close_211 rfl (lv_at hl 0 rfl) ?_
      refine lv_iconst (v := 0) hx hb dX7_close_212 (by decide) ?_
      refine z_iast hx hb hK hS h_19 (vp_in_nI (by omega) (by decide)) dX7_close_213 (fun H locs hS => ?_)
      obtain ⟨w2, ew2⟩ : ∃ z : zw, z = va_up u (ad 19) (some (eI cs (10) (upd (K7 19) (nI i : Int32).toNatClampNeg (0)))) := ⟨_, rfl⟩
      have hS : zS (zA w sz) D w2 s.heap H locs := by rw [ew2]; exact hS
      have h2_ad19 : w2 (ad 19) = some (eI cs (10) (upd (K7 19) (nI i : Int32).toNatClampNeg (0))) := by rw [ew2]; exact va_up_self _ _ _
      have h2_mm : w2 (mm) = some (mo ad (0) (tb) (nI nd) (nI nw) (br) (nI y) (wd)) := by rw [ew2]; exact (va_up_ne _ _ (zne h_m h_19 (by intro q9; first | cases q9 | simp at q9))).trans h_m
      have h2_ad20 : w2 (ad 20) = some (eJ cs (10) (J7 20)) := by rw [ew2]; exact (va_up_ne _ _ (hinj 20 19 (by decide))).trans h_20
      have h2_ad19 : w2 (ad 19) = some (eI cs (10) (upd (K7 19) (i) (0))) := by rw [nI_clamp (by omega)] at h2_ad19; exact h2_ad19
      refine lv_aload_n hx hb dX7_close_214 rfl (lv_at hl 1 rfl) ?_
      refine z_get (C := RX7) (T := TX7) (N := 45) (v := .ref (ad 20)) hx hb hts (by decide +kernel) hown hK hS h2_mm rfl 20 (by decide) (hts (.fieldLink RX7 63 "PayLedgerModel" "settled" "[J") (by decide +kernel)) rfl dX7_close_215 ?_
      refine lv_iload_n hx hb dX7_close_218 rfl (lv_at hl 0 rfl) ?_
      refine lv_lconst (v := 0) hx hb dX7_close_219 (by decide) ?_
      refine z_last hx hb hK hS h2_ad20 (vp_in_nI (by omega) (by decide)) dX7_close_220 (fun H locs hS => ?_)
      obtain ⟨w3, ew3⟩ : ∃ z : zw, z = va_up w2 (ad 20) (some (eJ cs (10) (vp_updL (J7 20) (nI i : Int32).toNatClampNeg (0)))) := ⟨_, rfl⟩
      have hS : zS (zA w sz) D w3 s.heap H locs := by rw [ew3]; exact hS
      have h3_ad20 : w3 (ad 20) = some (eJ cs (10) (vp_updL (J7 20) (nI i : Int32).toNatClampNeg (0))) := by rw [ew3]; exact va_up_self _ _ _
      have h3_mm : w3 (mm) = some (mo ad (0) (tb) (nI nd) (nI nw) (br) (nI y) (wd)) := by rw [ew3]; exact (va_up_ne _ _ (zne h2_mm h2_ad20 (by intro q9; first | cases q9 | simp at q9))).trans h2_mm
      have h3_ad19 : w3 (ad 19) = some (eI cs (10) (upd (K7 19) (i) (0))) := by rw [ew3]; exact (va_up_ne _ _ (hinj 19 20 (by decide))).trans h2_ad19
      have h3_ad20 : w3 (ad 20) = some (eJ cs (10) (vp_updL (J7 20) (i) (0))) := by rw [nI_clamp (by omega)] at h3_ad20; exact h3_ad20
      refine lv_iinc (v := nI (i + 1)) (lv' := [(2, .int (nI (i + 1))), (0, .ref (mm))]) hx hb dX7_close_221 hl (k := 0) rfl (nI_1 _) (by decide) rfl (fun ls hl => ?_)
      have hex8 : zEx u w3 [(mm, (mo ad (0) (tb) (nI nd) (nI nw) (br) (nI y) (wd))), (ad 19, (eI cs (10) (upd (K7 19) (i) (0)))), (ad 20, (eJ cs (10) (vp_updL (J7 20) (i) (0))))] := ⟨(zm1 h3_mm (zm1 h3_ad19 (zm1 h3_ad20 zm0))), fun a9 h9 => by rw [ew3, va_up_ne _ _ (show a9 ≠ ad 20 from h9 (ad 20, (eJ cs (10) (vp_updL (J7 20) (i) (0)))) (List.mem_of_getElem? (i := 2) rfl)), ew2, va_up_ne _ _ (show a9 ≠ ad 19 from h9 (ad 19, (eI cs (10) (upd (K7 19) (i) (0)))) (List.mem_of_getElem? (i := 1) rfl))]⟩
      refine lv_goto (tgt := 199) hx hb dX7_close_224 (by decide) ?_
      exact ih c204 _ (va_up J7 20 (vp_updL (J7 20) i 0)) (va_up K7 19 (upd (K7 19) i 0)) (by omega) (fun s hs => (va_up_ne _ _ (fun q9 => hs (by rw [q9]; decide))).trans (eo7 s hs)) (fun s hs => (va_up_ne _ _ hs).trans (ek7 s hs)) (fun k hk => by rw [va_up_self, va_up_self]; exact ⟨zUpdUptoI (f := fun _ => 0) (fun j hj => (e0 j hj).1) k hk, zUpdUpto (f := fun _ => 0) (fun j hj => (e0 j hj).2) k hk⟩) (fun k hk => by rw [va_up_self, va_up_self, up_ne _ _ (by omega), vpL_ne _ _ (by omega)]; exact e9 k (by omega)) (by rw [va_up_ne _ _ (by decide)]; exact hst) (hq7.trans (zMQ.of [19, 20] (by decide) hq7.2.1 hq7.1 hinj hex8 (fun s hs => va_up_ne _ _ (fun e => hs (by rw [e]; decide))) (fun s hs => va_up_ne _ _ (fun e => hs (by rw [e]; decide))))) h3_mm h3_ad19 h3_ad20 _ _ _ hS (lv_sub hl [0, 1] rfl)
  have L112 : ∀ (q : Nat), ∀ (i : Nat) (v2 : zw) (J5 : Nat → Nat → Int64), (hin : i < nw) → (hq : q ≤ 9) → (eo5 : ∀ s : Nat, s ∉ [36, 37, 38, 39, 40, 41, 42, 43] → J5 s = J s) → (hst5 : mSts (J 36) (J5 36) y nw (fun k q => mStm (bo k) (V k) (hd k) (J 20 k) (mDuty (FF (tw k)) (GF (tw k)) (tn (tw k)) (J 16 k) (J 17 k) (zTot (bo k) (V k) (hd k) 2)) q) i q) → (hq5 : zMQ cs w v2 ad mm (mo ad (0) (tb) (nI nd) (nI nw) (br) (nI y) (wd)) J5 K) → (h_m : v2 (mm) = some (mo ad (0) (tb) (nI nd) (nI nw) (br) (nI y) (wd))) → (h_36 : v2 (ad 36) = some (eJ cs (660) (J5 36))) → (kk : ∀ (v3 : zw) (J6 : Nat → Nat → Int64), (eo6 : ∀ s : Nat, s ∉ [36, 37, 38, 39, 40, 41, 42, 43] → J6 s = J s) → (hst6 : mSts (J 36) (J6 36) y nw (fun k q => mStm (bo k) (V k) (hd k) (J 20 k) (mDuty (FF (tw k)) (GF (tw k)) (tn (tw k)) (J 16 k) (J 17 k) (zTot (bo k) (V k) (hd k) 2)) q) i 9) → (hq6 : zMQ cs w v3 ad mm (mo ad (0) (tb) (nI nd) (nI nw) (br) (nI y) (wd)) J6 K) → ∀ (H : Heap) (locs : List Loc) (ls : Array Slot), zS (zA w sz) D v3 s.heap H locs → lv_has ls 5 [(3, .int (nI (11 * (10 * y + i)))), (2, .int (nI i)), (0, .ref (mm))] → W p l e (zR 10 0 0) s m [.ref (mm)].toArray below meth c H locs 0 0 (MQ below (zQ D w sz (fun r w2 => r = some (.int (nI y)) ∧ ∃ (J' : Nat → Nat → Int64) (K' : Nat → Nat → Int32), (∀ s : Nat, s ∉ [20, 36, 37, 38, 39, 40, 41, 42, 43] → J' s = J s) ∧ (∀ s : Nat, s ≠ 19 → K' s = K s) ∧ (∀ k : Nat, k < nw → K' 19 k = 0 ∧ J' 20 k = 0) ∧ (∀ k : Nat, nw ≤ k → K' 19 k = K 19 k ∧ J' 20 k = J 20 k) ∧ mSts (J 36) (J' 36) y nw (fun k q => mStm (bo k) (V k) (hd k) (J 20 k) (mDuty (FF (tw k)) (GF (tw k)) (tn (tw k)) (J 16 k) (J 17 k) (zTot (bo k) (V k) (hd k) 2)) q) nw 0 ∧ zMQ cs w w2 ad mm (mo ad (0) (tb) (nI nd) (nI nw) (br) (nI (y + 1)) (wd)) J' K')) [.ref (mm)].toArray s 0 0 (zA w sz)) (F0 m 141 ls [])) → ∀ (H : Heap) (locs : List Loc) (ls : Array Slot), zS (zA w sz) D v2 s.heap H locs → lv_has ls 5 [(4, .int (nI q)), (3, .int (nI (11 * (10 * y + i)))), (2, .int (nI i)), (0, .ref (mm))] → W p l e (zR 10 0 0) s m [.ref (mm)].toArray below meth c H locs 0 0 (MQ below (zQ D w sz (fun r w2 => r = some (.int (nI y)) ∧ ∃ (J' : Nat → Nat → Int64) (K' : Nat → Nat → Int32), (∀ s : Nat, s ∉ [20, 36, 37, 38, 39, 40, 41, 42, 43] → J' s = J s) ∧ (∀ s : Nat, s ≠ 19 → K' s = K s) ∧ (∀ k : Nat, k < nw → K' 19 k = 0 ∧ J' 20 k = 0) ∧ (∀ k : Nat, nw ≤ k → K' 19 k = K 19 k ∧ J' 20 k = J 20 k) ∧ mSts (J 36) (J' 36) y nw (fun k q => mStm (bo k) (V k) (hd k) (J 20 k) (mDuty (FF (tw k)) (GF (tw k)) (tn (tw k)) (J 16 k) (J 17 k) (zTot (bo k) (V k) (hd k) 2)) q) nw 0 ∧ zMQ cs w w2 ad mm (mo ad (0) (tb) (nI nd) (nI nw) (br) (nI (y + 1)) (wd)) J' K')) [.ref (mm)].toArray s 0 0 (zA w sz)) (F0 m 112 ls []) := by
    refine zloopU (P := fun q => ∀ (i : Nat) (v2 : zw) (J5 : Nat → Nat → Int64), (hin : i < nw) → (hq : q ≤ 9) → (eo5 : ∀ s : Nat, s ∉ [36, 37, 38, 39, 40, 41, 42, 43] → J5 s = J s) → (hst5 : mSts (J 36) (J5 36) y nw (fun k q => mStm (bo k) (V k) (hd k) (J 20 k) (mDuty (FF (tw k)) (GF (tw k)) (tn (tw k)) (J 16 k) (J 17 k) (zTot (bo k) (V k) (hd k) 2)) q) i q) → (hq5 : zMQ cs w v2 ad mm (mo ad (0) (tb) (nI nd) (nI nw) (br) (nI y) (wd)) J5 K) → (h_m : v2 (mm) = some (mo ad (0) (tb) (nI nd) (nI nw) (br) (nI y) (wd))) → (h_36 : v2 (ad 36) = some (eJ cs (660) (J5 36))) → (kk : ∀ (v3 : zw) (J6 : Nat → Nat → Int64), (eo6 : ∀ s : Nat, s ∉ [36, 37, 38, 39, 40, 41, 42, 43] → J6 s = J s) → (hst6 : mSts (J 36) (J6 36) y nw (fun k q => mStm (bo k) (V k) (hd k) (J 20 k) (mDuty (FF (tw k)) (GF (tw k)) (tn (tw k)) (J 16 k) (J 17 k) (zTot (bo k) (V k) (hd k) 2)) q) i 9) → (hq6 : zMQ cs w v3 ad mm (mo ad (0) (tb) (nI nd) (nI nw) (br) (nI y) (wd)) J6 K) → ∀ (H : Heap) (locs : List Loc) (ls : Array Slot), zS (zA w sz) D v3 s.heap H locs → lv_has ls 5 [(3, .int (nI (11 * (10 * y + i)))), (2, .int (nI i)), (0, .ref (mm))] → W p l e (zR 10 0 0) s m [.ref (mm)].toArray below meth c H locs 0 0 (MQ below (zQ D w sz (fun r w2 => r = some (.int (nI y)) ∧ ∃ (J' : Nat → Nat → Int64) (K' : Nat → Nat → Int32), (∀ s : Nat, s ∉ [20, 36, 37, 38, 39, 40, 41, 42, 43] → J' s = J s) ∧ (∀ s : Nat, s ≠ 19 → K' s = K s) ∧ (∀ k : Nat, k < nw → K' 19 k = 0 ∧ J' 20 k = 0) ∧ (∀ k : Nat, nw ≤ k → K' 19 k = K 19 k ∧ J' 20 k = J 20 k) ∧ mSts (J 36) (J' 36) y nw (fun k q => mStm (bo k) (V k) (hd k) (J 20 k) (mDuty (FF (tw k)) (GF (tw k)) (tn (tw k)) (J 16 k) (J 17 k) (zTot (bo k) (V k) (hd k) 2)) q) nw 0 ∧ zMQ cs w w2 ad mm (mo ad (0) (tb) (nI nd) (nI nw) (br) (nI (y + 1)) (wd)) J' K')) [.ref (mm)].toArray s 0 0 (zA w sz)) (F0 m 141 ls [])) → ∀ (H : Heap) (locs : List Loc) (ls : Array Slot), zS (zA w sz) D v2 s.heap H locs → lv_has ls 5 [(4, .int (nI q)), (3, .int (nI (11 * (10 * y + i)))), (2, .int (nI i)), (0, .ref (mm))] → W p l e (zR 10 0 0) s m [.ref (mm)].toArray below meth c H locs 0 0 (MQ below (zQ D w sz (fun r w2 => r = some (.int (nI y)) ∧ ∃ (J' : Nat → Nat → Int64) (K' : Nat → Nat → Int32), (∀ s : Nat, s ∉ [20, 36, 37, 38, 39, 40, 41, 42, 43] → J' s = J s) ∧ (∀ s : Nat, s ≠ 19 → K' s = K s) ∧ (∀ k : Nat, k < nw → K' 19 k = 0 ∧ J' 20 k = 0) ∧ (∀ k : Nat, nw ≤ k → K' 19 k = K 19 k ∧ J' 20 k = J 20 k) ∧ mSts (J 36) (J' 36) y nw (fun k q => mStm (bo k) (V k) (hd k) (J 20 k) (mDuty (FF (tw k)) (GF (tw k)) (tn (tw k)) (J 16 k) (J 17 k) (zTot (bo k) (V k) (hd k) 2)) q) nw 0 ∧ zMQ cs w w2 ad mm (mo ad (0) (tb) (nI nd) (nI nw) (br) (nI (y + 1)) (wd)) J' K')) [.ref (mm)].toArray s 0 0 (zA w sz)) (F0 m 112 ls [])) 9 (fun q ih => ?_)
    intro i v2 J5 hin hq eo5 hst5 hq5 h_m h_36 kk H locs ls hS hl
    refine lv_iload hx hb dX7_close_112 (lv_at hl 0 rfl) ?_
    refine lv_bipush (v := 9) hx hb dX7_close_114 (by decide) ?_
    refine lv_icmp_ge (tgt := 141) hx hb dX7_close_116 (by decide) (fun c116 => ?_) (fun c116 => ?_)
    · have hi9 : q = 9 := by rcases Nat.lt_or_ge q (9) with q | q; exact absurd c116 (nI_ge (b := 9) q (by omega)); omega
      exact kk _ J5 eo5 (by rw [hi9] at hst5; exact hst5) hq5 _ _ _ hS (lv_sub hl [1, 2, 3] rfl)
    · have c116 : q < 9 := by rcases Nat.lt_or_ge q (9) with q | q; exact q; exact absurd (nI_le (a := 9) q (by omega)) c116
      refine lv_aload_n hx hb dX7_close_119 rfl (lv_at hl 3 rfl) ?_
      refine z_get (C := RX7) (T := TX7) (N := 45) (v := .ref (ad 36)) hx hb hts (by decide +kernel) hown hK hS h_m rfl 36 (by decide) (hts (.fieldLink RX7 99 "PayLedgerModel" "statements" "[J") (by decide +kernel)) rfl dX7_close_120 ?_
      refine lv_iload_n hx hb dX7_close_123 rfl (lv_at hl 1 rfl) ?_
      refine lv_iload hx hb dX7_close_124 (lv_at hl 0 rfl) ?_
      refine lv_iadd hx hb dX7_close_126 ?_
      refine z_ti (y := nI ((11 * (10 * y + i)) + q)) (nI_add ((11 * (10 * y + i))) (q)) ?_
      refine lv_aload_n hx hb dX7_close_127 rfl (lv_at hl 3 rfl) ?_
      refine lv_iload_n hx hb dX7_close_128 rfl (lv_at hl 2 rfl) ?_
      refine lv_iload hx hb dX7_close_129 (lv_at hl 0 rfl) ?_
      refine z_invV (As := [.int (nI i), .int (nI q)]) (rest := [.int (nI ((11 * (10 * y + i)) + q)), .ref (ad 36)]) (n := 2) ⟨hx, hb, hml, hown, hts⟩ (c_X7_sums l D cs v2 H.size mm ad J5 K 0 tb (nI nw) br (nI y) wd i (bo i) (rb i) (pe i) (me i) (re i) (cr i) (ex i) (en i) (tx i) (V i) (P i) nb tn FF GF nd de so si ca bs (hd i) (nI q) hinj hq5.2.1 (((hWs i hin).of (fun s hs => eo5 s ((by decide : ∀ s ∈ [1, 8, 9, 10, 25, 32, 33, 34, 35], s ∉ [36, 37, 38, 39, 40, 41, 42, 43]) s hs)))) h_m) gX7_close_X7_sums rfl ⟨rfl, by decide +kernel, by decide +kernel, by decide +kernel⟩ ⟨Nat.le_of_ble_eq_true rfl, Nat.le_of_ble_eq_true rfl⟩ hK hE hS rfl h_m rfl hl.1 rfl (Nat.le_of_ble_eq_true rfl) dX7_close_131 ⟨Nat.le_of_ble_eq_true rfl, Nat.le_of_ble_eq_true rfl⟩ (fun v9 u4 H locs hq hS => ?_)
      obtain ⟨rfl, J8, ho8, hz8⟩ := hq
      have hq8 := zMQ.w hq5.2.1 hq5.1 hinj hz8 ho8
      have h_m8 : u4 mm = some (mo ad (0) (tb) (nI nd) (nI nw) (br) (nI y) (wd)) := hq8.1
      have h_368 : u4 (ad 36) = some (eJ cs (660) (J8 36)) := hq8.2.1 36 (by decide)
      refine W.eq (g2 := F0 m 134 ls [.long (zTotal (bo i) (V i) (hd i) (J5 20 i) (nI q)), .int (nI ((11 * (10 * y + i)) + q)), .ref (ad 36)]) rfl ?_
      refine z_tl (y := zTotal (bo i) (V i) (hd i) (J 20 i) (nI q)) (by rw [eo5 20 (by decide)]) ?_
      refine z_last hx hb hK hS h_368 (vp_in_nI (by omega) (by decide)) dX7_close_134 (fun H locs hS => ?_)
      obtain ⟨w5, ew5⟩ : ∃ z : zw, z = va_up u4 (ad 36) (some (eJ cs (660) (vp_updL (J8 36) (nI ((11 * (10 * y + i)) + q) : Int32).toNatClampNeg (zTotal (bo i) (V i) (hd i) (J 20 i) (nI q))))) := ⟨_, rfl⟩
      have hS : zS (zA w sz) D w5 s.heap H locs := by rw [ew5]; exact hS
      have h5_ad36 : w5 (ad 36) = some (eJ cs (660) (vp_updL (J8 36) (nI ((11 * (10 * y + i)) + q) : Int32).toNatClampNeg (zTotal (bo i) (V i) (hd i) (J 20 i) (nI q)))) := by rw [ew5]; exact va_up_self _ _ _
      have h5_mm : w5 (mm) = some (mo ad (0) (tb) (nI nd) (nI nw) (br) (nI y) (wd)) := by rw [ew5]; exact (va_up_ne _ _ (zne h_m8 h_368 (by intro q9; first | cases q9 | simp at q9))).trans h_m8
      have h5_ad36 : w5 (ad 36) = some (eJ cs (660) (vp_updL (J8 36) (((11 * (10 * y + i)) + q)) (zTotal (bo i) (V i) (hd i) (J 20 i) (nI q)))) := by rw [nI_clamp (by omega)] at h5_ad36; exact h5_ad36
      refine lv_iinc (v := nI (q + 1)) (lv' := [(4, .int (nI (q + 1))), (3, .int (nI (11 * (10 * y + i)))), (2, .int (nI i)), (0, .ref (mm))]) hx hb dX7_close_135 hl (k := 0) rfl (nI_1 _) (by decide) rfl (fun ls hl => ?_)
      have hexA : zEx u4 w5 [(mm, (mo ad (0) (tb) (nI nd) (nI nw) (br) (nI y) (wd))), (ad 36, (eJ cs (660) (vp_updL (J8 36) (((11 * (10 * y + i)) + q)) (zTotal (bo i) (V i) (hd i) (J 20 i) (nI q)))))] := ⟨(zm1 h5_mm (zm1 h5_ad36 zm0)), fun a9 h9 => by rw [ew5, va_up_ne _ _ (show a9 ≠ ad 36 from h9 (ad 36, (eJ cs (660) (vp_updL (J8 36) (((11 * (10 * y + i)) + q)) (zTotal (bo i) (V i) (hd i) (J 20 i) (nI q))))) (List.mem_of_getElem? (i := 1) rfl))]⟩
      refine lv_goto (tgt := 112) hx hb dX7_close_138 (by decide) ?_
      exact ih c116 i _ (va_up J8 36 (vp_updL (J8 36) (11 * (10 * y + i) + q) (zTotal (bo i) (V i) (hd i) (J 20 i) (nI q)))) hin (by omega) (fun s hs => by rw [va_up_ne _ _ (fun q9 => hs (by rw [q9]; decide)), ho8 s (fun q9 => hs (List.mem_cons_of_mem _ q9)), eo5 s hs]) (by rw [va_up_self, ho8 36 (by decide)]; exact hst5.put hin (by omega) (mStm_lt c116).symm) (hq5.trans (hq8.trans (zMQ.of [36] (by decide) hq8.2.1 hq8.1 hinj hexA (fun s hs => va_up_ne _ _ (fun e => hs (by rw [e]; decide))) (fun _ _ => rfl)))) h5_mm h5_ad36 kk _ _ _ hS (lv_sub hl [0, 1, 2, 3] rfl)
  have L88 : ∀ (i : Nat), ∀ (u : zw) (J4 : Nat → Nat → Int64), (hi : i ≤ nw) → (eo4 : ∀ s : Nat, s ∉ [36, 37, 38, 39, 40, 41, 42, 43] → J4 s = J s) → (hst4 : mSts (J 36) (J4 36) y nw (fun k q => mStm (bo k) (V k) (hd k) (J 20 k) (mDuty (FF (tw k)) (GF (tw k)) (tn (tw k)) (J 16 k) (J 17 k) (zTot (bo k) (V k) (hd k) 2)) q) i 0) → (hq4 : zMQ cs w u ad mm (mo ad (0) (tb) (nI nd) (nI nw) (br) (nI y) (wd)) J4 K) → (h_m : u (mm) = some (mo ad (0) (tb) (nI nd) (nI nw) (br) (nI y) (wd))) → (h_36 : u (ad 36) = some (eJ cs (660) (J4 36))) → ∀ (H : Heap) (locs : List Loc) (ls : Array Slot), zS (zA w sz) D u s.heap H locs → lv_has ls 5 [(2, .int (nI i)), (0, .ref (mm))] → W p l e (zR 10 0 0) s m [.ref (mm)].toArray below meth c H locs 0 0 (MQ below (zQ D w sz (fun r w2 => r = some (.int (nI y)) ∧ ∃ (J' : Nat → Nat → Int64) (K' : Nat → Nat → Int32), (∀ s : Nat, s ∉ [20, 36, 37, 38, 39, 40, 41, 42, 43] → J' s = J s) ∧ (∀ s : Nat, s ≠ 19 → K' s = K s) ∧ (∀ k : Nat, k < nw → K' 19 k = 0 ∧ J' 20 k = 0) ∧ (∀ k : Nat, nw ≤ k → K' 19 k = K 19 k ∧ J' 20 k = J 20 k) ∧ mSts (J 36) (J' 36) y nw (fun k q => mStm (bo k) (V k) (hd k) (J 20 k) (mDuty (FF (tw k)) (GF (tw k)) (tn (tw k)) (J 16 k) (J 17 k) (zTot (bo k) (V k) (hd k) 2)) q) nw 0 ∧ zMQ cs w w2 ad mm (mo ad (0) (tb) (nI nd) (nI nw) (br) (nI (y + 1)) (wd)) J' K')) [.ref (mm)].toArray s 0 0 (zA w sz)) (F0 m 88 ls []) := by
    refine zloopU (P := fun i => ∀ (u : zw) (J4 : Nat → Nat → Int64), (hi : i ≤ nw) → (eo4 : ∀ s : Nat, s ∉ [36, 37, 38, 39, 40, 41, 42, 43] → J4 s = J s) → (hst4 : mSts (J 36) (J4 36) y nw (fun k q => mStm (bo k) (V k) (hd k) (J 20 k) (mDuty (FF (tw k)) (GF (tw k)) (tn (tw k)) (J 16 k) (J 17 k) (zTot (bo k) (V k) (hd k) 2)) q) i 0) → (hq4 : zMQ cs w u ad mm (mo ad (0) (tb) (nI nd) (nI nw) (br) (nI y) (wd)) J4 K) → (h_m : u (mm) = some (mo ad (0) (tb) (nI nd) (nI nw) (br) (nI y) (wd))) → (h_36 : u (ad 36) = some (eJ cs (660) (J4 36))) → ∀ (H : Heap) (locs : List Loc) (ls : Array Slot), zS (zA w sz) D u s.heap H locs → lv_has ls 5 [(2, .int (nI i)), (0, .ref (mm))] → W p l e (zR 10 0 0) s m [.ref (mm)].toArray below meth c H locs 0 0 (MQ below (zQ D w sz (fun r w2 => r = some (.int (nI y)) ∧ ∃ (J' : Nat → Nat → Int64) (K' : Nat → Nat → Int32), (∀ s : Nat, s ∉ [20, 36, 37, 38, 39, 40, 41, 42, 43] → J' s = J s) ∧ (∀ s : Nat, s ≠ 19 → K' s = K s) ∧ (∀ k : Nat, k < nw → K' 19 k = 0 ∧ J' 20 k = 0) ∧ (∀ k : Nat, nw ≤ k → K' 19 k = K 19 k ∧ J' 20 k = J 20 k) ∧ mSts (J 36) (J' 36) y nw (fun k q => mStm (bo k) (V k) (hd k) (J 20 k) (mDuty (FF (tw k)) (GF (tw k)) (tn (tw k)) (J 16 k) (J 17 k) (zTot (bo k) (V k) (hd k) 2)) q) nw 0 ∧ zMQ cs w w2 ad mm (mo ad (0) (tb) (nI nd) (nI nw) (br) (nI (y + 1)) (wd)) J' K')) [.ref (mm)].toArray s 0 0 (zA w sz)) (F0 m 88 ls [])) nw (fun i ih => ?_)
    intro u J4 hi eo4 hst4 hq4 h_m h_36 H locs ls hS hl
    refine lv_iload_n hx hb dX7_close_88 rfl (lv_at hl 0 rfl) ?_
    refine lv_aload_n hx hb dX7_close_89 rfl (lv_at hl 1 rfl) ?_
    refine z_get (C := RX7) (T := TX7) (N := 45) (v := .int (nI nw)) hx hb hts (by decide +kernel) hown hK hS h_m rfl 21 (by decide) (hts (.fieldLink RX7 183 "PayLedgerModel" "workers" "I") (by decide +kernel)) rfl dX7_close_90 ?_
    refine lv_icmp_ge (tgt := 197) hx hb dX7_close_93 (by decide) (fun c93 => ?_) (fun c93 => ?_)
    · have hi9 : i = nw := by rcases Nat.lt_or_ge i (nw) with q | q; exact absurd c93 (nI_ge (b := nw) q (by omega)); omega
      have h_19x : u (ad 19) = some (eI cs (10) (K 19)) := hq4.2.1 19 (by decide)
      have h_20x : u (ad 20) = some (eJ cs (10) (J4 20)) := hq4.2.1 20 (by decide)
      refine lv_iconst (v := 0) hx hb dX7_close_197 (by decide) ?_
      refine lv_istore_n (lv' := [(2, .int (0)), (0, .ref (mm))]) hx hb dX7_close_198 rfl hl (by decide) rfl (fun ls hl => ?_)
      exact L199 0 _ J4 K (by omega) (fun s hs => eo4 s (fun q9 => hs (List.mem_cons_of_mem _ q9))) (fun _ _ => rfl) (fun k hk => absurd hk (by omega)) (fun k _ => ⟨rfl, congrFun (eo4 20 (by decide)) k⟩) (by rw [hi9] at hst4; exact hst4) hq4 h_m h_19x h_20x _ _ _ hS (lv_sub hl [0, 1] rfl)
    · have c93 : i < nw := by rcases Nat.lt_or_ge i (nw) with q | q; exact q; exact absurd (nI_le (a := nw) q (by omega)) c93
      refine lv_bipush (v := 11) hx hb dX7_close_96 (by decide) ?_
      refine lv_bipush (v := 10) hx hb dX7_close_98 (by decide) ?_
      refine lv_aload_n hx hb dX7_close_100 rfl (lv_at hl 1 rfl) ?_
      refine z_get (C := RX7) (T := TX7) (N := 45) (v := .int (nI y)) hx hb hts (by decide +kernel) hown hK hS h_m rfl 23 (by decide) (hts (.fieldLink RX7 251 "PayLedgerModel" "year" "I") (by decide +kernel)) rfl dX7_close_101 ?_
      refine lv_imul hx hb dX7_close_104 ?_
      refine z_ti (y := nI (10 * y)) (zI_mul (10) (y)) ?_
      refine lv_iload_n hx hb dX7_close_105 rfl (lv_at hl 0 rfl) ?_
      refine lv_iadd hx hb dX7_close_106 ?_
      refine z_ti (y := nI ((10 * y) + i)) (nI_add ((10 * y)) (i)) ?_
      refine lv_imul hx hb dX7_close_107 ?_
      refine z_ti (y := nI (11 * ((10 * y) + i))) (zI_mul (11) (((10 * y) + i))) ?_
      refine lv_istore_n (lv' := [(3, .int (nI (11 * ((10 * y) + i)))), (2, .int (nI i)), (0, .ref (mm))]) hx hb dX7_close_108 rfl hl (by decide) rfl (fun ls hl => ?_)
      refine lv_iconst (v := 0) hx hb dX7_close_109 (by decide) ?_
      refine lv_istore (lv' := [(4, .int (0)), (3, .int (nI (11 * ((10 * y) + i)))), (2, .int (nI i)), (0, .ref (mm))]) hx hb dX7_close_110 hl (by decide) rfl (fun ls hl => ?_)
      refine L112 0 i _ J4 c93 (by omega) eo4 hst4 hq4 h_m h_36 (fun v3 J6 eo6 hst6 hq6 H locs ls hS hl => ?_) _ _ _ hS (lv_sub hl [0, 1, 2, 3] rfl)
      have h_m9 : v3 mm = some (mo ad (0) (tb) (nI nd) (nI nw) (br) (nI y) (wd)) := hq6.1
      have h_369 : v3 (ad 36) = some (eJ cs (660) (J6 36)) := hq6.2.1 36 (by decide)
      refine lv_aload_n hx hb dX7_close_141 rfl (lv_at hl 2 rfl) ?_
      refine z_get (C := RX7) (T := TX7) (N := 45) (v := .ref (ad 36)) hx hb hts (by decide +kernel) hown hK hS h_m9 rfl 36 (by decide) (hts (.fieldLink RX7 99 "PayLedgerModel" "statements" "[J") (by decide +kernel)) rfl dX7_close_142 ?_
      refine lv_iload_n hx hb dX7_close_145 rfl (lv_at hl 0 rfl) ?_
      refine lv_bipush (v := 9) hx hb dX7_close_146 (by decide) ?_
      refine lv_iadd hx hb dX7_close_148 ?_
      refine z_ti (y := nI ((11 * (10 * y + i)) + 9)) (nI_add ((11 * (10 * y + i))) (9)) ?_
      refine lv_aload_n hx hb dX7_close_149 rfl (lv_at hl 2 rfl) ?_
      refine lv_iload_n hx hb dX7_close_150 rfl (lv_at hl 1 rfl) ?_
      refine z_invV (As := [.int (nI i)]) (rest := [.int (nI ((11 * (10 * y + i)) + 9)), .ref (ad 36)]) (n := 1) ⟨hx, hb, hml, hown, hts⟩ (c_X7_dutyOf l D cs v3 H.size mm ad J6 K 0 tb (nI nw) br (nI y) wd i (bo i) (rb i) (pe i) (me i) (re i) (cr i) (ex i) (en i) (tx i) (V i) (P i) nb tn FF GF nd de so si ca bs (hd i) (tw i) hinj hq6.2.1 ((hWs i c93).of (fun s hs => eo6 s ((by decide : ∀ s ∈ [1, 8, 9, 10, 25, 32, 33, 34, 35], s ∉ [36, 37, 38, 39, 40, 41, 42, 43]) s hs))) (h12 i c93).1 (h12 i c93).2 h_m9) gX7_close_X7_dutyOf rfl ⟨rfl, by decide +kernel, by decide +kernel, by decide +kernel⟩ ⟨Nat.le_of_ble_eq_true rfl, Nat.le_of_ble_eq_true rfl⟩ hK hE hS rfl h_m9 rfl hl.1 rfl (Nat.le_of_ble_eq_true rfl) dX7_close_151 ⟨Nat.le_of_ble_eq_true rfl, Nat.le_of_ble_eq_true rfl⟩ (fun v9 u6 H locs hq hS => ?_)
      obtain ⟨rfl, J8, ho8, hz8⟩ := hq
      have hq8 := zMQ.w hq6.2.1 hq6.1 hinj hz8 ho8
      have h_m8 : u6 mm = some (mo ad (0) (tb) (nI nd) (nI nw) (br) (nI y) (wd)) := hq8.1
      have h_368 : u6 (ad 36) = some (eJ cs (660) (J8 36)) := hq8.2.1 36 (by decide)
      refine W.eq (g2 := F0 m 154 ls [.long (mDuty (FF (tw i)) (GF (tw i)) (tn (tw i)) (J6 16 i) (J6 17 i) (zTot (bo i) (V i) (hd i) 2)), .int (nI ((11 * (10 * y + i)) + 9)), .ref (ad 36)]) rfl ?_
      refine z_tl (y := mDuty (FF (tw i)) (GF (tw i)) (tn (tw i)) (J 16 i) (J 17 i) (zTot (bo i) (V i) (hd i) 2)) (by rw [eo6 16 (by decide), eo6 17 (by decide)]) ?_
      refine z_last hx hb hK hS h_368 (vp_in_nI (by omega) (by decide)) dX7_close_154 (fun H locs hS => ?_)
      obtain ⟨w7, ew7⟩ : ∃ z : zw, z = va_up u6 (ad 36) (some (eJ cs (660) (vp_updL (J8 36) (nI ((11 * (10 * y + i)) + 9) : Int32).toNatClampNeg (mDuty (FF (tw i)) (GF (tw i)) (tn (tw i)) (J 16 i) (J 17 i) (zTot (bo i) (V i) (hd i) 2))))) := ⟨_, rfl⟩
      have hS : zS (zA w sz) D w7 s.heap H locs := by rw [ew7]; exact hS
      have h7_ad36 : w7 (ad 36) = some (eJ cs (660) (vp_updL (J8 36) (nI ((11 * (10 * y + i)) + 9) : Int32).toNatClampNeg (mDuty (FF (tw i)) (GF (tw i)) (tn (tw i)) (J 16 i) (J 17 i) (zTot (bo i) (V i) (hd i) 2)))) := by rw [ew7]; exact va_up_self _ _ _
      have h7_mm : w7 (mm) = some (mo ad (0) (tb) (nI nd) (nI nw) (br) (nI y) (wd)) := by rw [ew7]; exact (va_up_ne _ _ (zne h_m8 h_368 (by intro q9; first | cases q9 | simp at q9))).trans h_m8
      have h7_ad36 : w7 (ad 36) = some (eJ cs (660) (vp_updL (J8 36) (((11 * (10 * y + i)) + 9)) (mDuty (FF (tw i)) (GF (tw i)) (tn (tw i)) (J 16 i) (J 17 i) (zTot (bo i) (V i) (hd i) 2)))) := by rw [nI_clamp (by omega)] at h7_ad36; exact h7_ad36
      refine lv_aload_n hx hb dX7_close_155 rfl (lv_at hl 2 rfl) ?_
      refine z_get (C := RX7) (T := TX7) (N := 45) (v := .ref (ad 36)) hx hb hts (by decide +kernel) hown hK hS h7_mm rfl 36 (by decide) (hts (.fieldLink RX7 99 "PayLedgerModel" "statements" "[J") (by decide +kernel)) rfl dX7_close_156 ?_
      refine lv_iload_n hx hb dX7_close_159 rfl (lv_at hl 0 rfl) ?_
      refine lv_bipush (v := 10) hx hb dX7_close_160 (by decide) ?_
      refine lv_iadd hx hb dX7_close_162 ?_
      refine z_ti (y := nI ((11 * (10 * y + i)) + 10)) (nI_add ((11 * (10 * y + i))) (10)) ?_
      refine lv_aload_n hx hb dX7_close_163 rfl (lv_at hl 2 rfl) ?_
      refine z_get (C := RX7) (T := TX7) (N := 45) (v := .ref (ad 36)) hx hb hts (by decide +kernel) hown hK hS h7_mm rfl 36 (by decide) (hts (.fieldLink RX7 99 "PayLedgerModel" "statements" "[J") (by decide +kernel)) rfl dX7_close_164 ?_
      refine lv_iload_n hx hb dX7_close_167 rfl (lv_at hl 0 rfl) ?_
      refine lv_iconst (v := 3) hx hb dX7_close_168 (by decide) ?_
      refine lv_iadd hx hb dX7_close_169 ?_
      refine z_ti (y := nI ((11 * (10 * y + i)) + 3)) (nI_add ((11 * (10 * y + i))) (3)) ?_
      refine z_lald hx hb hK hS h7_ad36 (vp_in_nI (by omega) (by decide)) dX7_close_170 ?_
      refine z_tl (y := ((vp_updL (J8 36) (((11 * (10 * y + i)) + 9)) (mDuty (FF (tw i)) (GF (tw i)) (tn (tw i)) (J 16 i) (J 17 i) (zTot (bo i) (V i) (hd i) 2))) (((11 * (10 * y + i)) + 3)))) (congrArg _ (nI_clamp (by omega))) ?_
      refine z_tl (y := zTotal (bo i) (V i) (hd i) (J 20 i) (3)) (by rw [vpL_ne _ _ (by omega), ho8 36 (by decide), hst6.2.1 3 (by decide)]; exact mStm_lt (q := 3) (by decide)) ?_
      refine lv_aload_n hx hb dX7_close_171 rfl (lv_at hl 2 rfl) ?_
      refine z_get (C := RX7) (T := TX7) (N := 45) (v := .ref (ad 36)) hx hb hts (by decide +kernel) hown hK hS h7_mm rfl 36 (by decide) (hts (.fieldLink RX7 99 "PayLedgerModel" "statements" "[J") (by decide +kernel)) rfl dX7_close_172 ?_
      refine lv_iload_n hx hb dX7_close_175 rfl (lv_at hl 0 rfl) ?_
      refine lv_iconst (v := 4) hx hb dX7_close_176 (by decide) ?_
      refine lv_iadd hx hb dX7_close_177 ?_
      refine z_ti (y := nI ((11 * (10 * y + i)) + 4)) (nI_add ((11 * (10 * y + i))) (4)) ?_
      refine z_lald hx hb hK hS h7_ad36 (vp_in_nI (by omega) (by decide)) dX7_close_178 ?_
      refine z_tl (y := ((vp_updL (J8 36) (((11 * (10 * y + i)) + 9)) (mDuty (FF (tw i)) (GF (tw i)) (tn (tw i)) (J 16 i) (J 17 i) (zTot (bo i) (V i) (hd i) 2))) (((11 * (10 * y + i)) + 4)))) (congrArg _ (nI_clamp (by omega))) ?_
      refine z_tl (y := zTotal (bo i) (V i) (hd i) (J 20 i) (4)) (by rw [vpL_ne _ _ (by omega), ho8 36 (by decide), hst6.2.1 4 (by decide)]; exact mStm_lt (q := 4) (by decide)) ?_
      refine lv_ladd hx hb dX7_close_179 ?_
      refine lv_aload_n hx hb dX7_close_180 rfl (lv_at hl 2 rfl) ?_
      refine z_get (C := RX7) (T := TX7) (N := 45) (v := .ref (ad 36)) hx hb hts (by decide +kernel) hown hK hS h7_mm rfl 36 (by decide) (hts (.fieldLink RX7 99 "PayLedgerModel" "statements" "[J") (by decide +kernel)) rfl dX7_close_181 ?_
      refine lv_iload_n hx hb dX7_close_184 rfl (lv_at hl 0 rfl) ?_
      refine lv_bipush (v := 9) hx hb dX7_close_185 (by decide) ?_
      refine lv_iadd hx hb dX7_close_187 ?_
      refine z_ti (y := nI ((11 * (10 * y + i)) + 9)) (nI_add ((11 * (10 * y + i))) (9)) ?_
      refine z_lald hx hb hK hS h7_ad36 (vp_in_nI (by omega) (by decide)) dX7_close_188 ?_
      refine z_tl (y := ((vp_updL (J8 36) (((11 * (10 * y + i)) + 9)) (mDuty (FF (tw i)) (GF (tw i)) (tn (tw i)) (J 16 i) (J 17 i) (zTot (bo i) (V i) (hd i) 2))) (((11 * (10 * y + i)) + 9)))) (congrArg _ (nI_clamp (by omega))) ?_
      refine z_tl (y := mDuty (FF (tw i)) (GF (tw i)) (tn (tw i)) (J 16 i) (J 17 i) (zTot (bo i) (V i) (hd i) 2)) (vpL_self _ _ _) ?_
      refine lv_lsub hx hb dX7_close_189 ?_
      refine z_last hx hb hK hS h7_ad36 (vp_in_nI (by omega) (by decide)) dX7_close_190 (fun H locs hS => ?_)
      obtain ⟨w8, ew8⟩ : ∃ z : zw, z = va_up w7 (ad 36) (some (eJ cs (660) (vp_updL (vp_updL (J8 36) (((11 * (10 * y + i)) + 9)) (mDuty (FF (tw i)) (GF (tw i)) (tn (tw i)) (J 16 i) (J 17 i) (zTot (bo i) (V i) (hd i) 2))) (nI ((11 * (10 * y + i)) + 10) : Int32).toNatClampNeg (((zTotal (bo i) (V i) (hd i) (J 20 i) (3) + zTotal (bo i) (V i) (hd i) (J 20 i) (4)) - mDuty (FF (tw i)) (GF (tw i)) (tn (tw i)) (J 16 i) (J 17 i) (zTot (bo i) (V i) (hd i) 2)))))) := ⟨_, rfl⟩
      have hS : zS (zA w sz) D w8 s.heap H locs := by rw [ew8]; exact hS
      have h8_ad36 : w8 (ad 36) = some (eJ cs (660) (vp_updL (vp_updL (J8 36) (((11 * (10 * y + i)) + 9)) (mDuty (FF (tw i)) (GF (tw i)) (tn (tw i)) (J 16 i) (J 17 i) (zTot (bo i) (V i) (hd i) 2))) (nI ((11 * (10 * y + i)) + 10) : Int32).toNatClampNeg (((zTotal (bo i) (V i) (hd i) (J 20 i) (3) + zTotal (bo i) (V i) (hd i) (J 20 i) (4)) - mDuty (FF (tw i)) (GF (tw i)) (tn (tw i)) (J 16 i) (J 17 i) (zTot (bo i) (V i) (hd i) 2))))) := by rw [ew8]; exact va_up_self _ _ _
      have h8_mm : w8 (mm) = some (mo ad (0) (tb) (nI nd) (nI nw) (br) (nI y) (wd)) := by rw [ew8]; exact (va_up_ne _ _ (zne h7_mm h7_ad36 (by intro q9; first | cases q9 | simp at q9))).trans h7_mm
      have h8_ad36 : w8 (ad 36) = some (eJ cs (660) (vp_updL (vp_updL (J8 36) (((11 * (10 * y + i)) + 9)) (mDuty (FF (tw i)) (GF (tw i)) (tn (tw i)) (J 16 i) (J 17 i) (zTot (bo i) (V i) (hd i) 2))) (((11 * (10 * y + i)) + 10)) (((zTotal (bo i) (V i) (hd i) (J 20 i) (3) + zTotal (bo i) (V i) (hd i) (J 20 i) (4)) - mDuty (FF (tw i)) (GF (tw i)) (tn (tw i)) (J 16 i) (J 17 i) (zTot (bo i) (V i) (hd i) 2))))) := by rw [nI_clamp (by omega)] at h8_ad36; exact h8_ad36
      refine lv_iinc (v := nI (i + 1)) (lv' := [(2, .int (nI (i + 1))), (3, .int (nI (11 * (10 * y + i)))), (0, .ref (mm))]) hx hb dX7_close_191 hl (k := 1) rfl (nI_1 _) (by decide) rfl (fun ls hl => ?_)
      have hexB : zEx u6 w8 [(mm, (mo ad (0) (tb) (nI nd) (nI nw) (br) (nI y) (wd))), (ad 36, (eJ cs (660) (vp_updL (vp_updL (J8 36) (((11 * (10 * y + i)) + 9)) (mDuty (FF (tw i)) (GF (tw i)) (tn (tw i)) (J 16 i) (J 17 i) (zTot (bo i) (V i) (hd i) 2))) (((11 * (10 * y + i)) + 10)) (((zTotal (bo i) (V i) (hd i) (J 20 i) (3) + zTotal (bo i) (V i) (hd i) (J 20 i) (4)) - mDuty (FF (tw i)) (GF (tw i)) (tn (tw i)) (J 16 i) (J 17 i) (zTot (bo i) (V i) (hd i) 2))))))] := ⟨(zm1 h8_mm (zm1 h8_ad36 zm0)), fun a9 h9 => by rw [ew8, va_up_ne _ _ (show a9 ≠ ad 36 from h9 (ad 36, (eJ cs (660) (vp_updL (vp_updL (J8 36) (((11 * (10 * y + i)) + 9)) (mDuty (FF (tw i)) (GF (tw i)) (tn (tw i)) (J 16 i) (J 17 i) (zTot (bo i) (V i) (hd i) 2))) (((11 * (10 * y + i)) + 10)) (((zTotal (bo i) (V i) (hd i) (J 20 i) (3) + zTotal (bo i) (V i) (hd i) (J 20 i) (4)) - mDuty (FF (tw i)) (GF (tw i)) (tn (tw i)) (J 16 i) (J 17 i) (zTot (bo i) (V i) (hd i) 2)))))) (List.mem_of_getElem? (i := 1) rfl)), ew7, va_up_ne _ _ (show a9 ≠ ad 36 from h9 (ad 36, (eJ cs (660) (vp_updL (vp_updL (J8 36) (((11 * (10 * y + i)) + 9)) (mDuty (FF (tw i)) (GF (tw i)) (tn (tw i)) (J 16 i) (J 17 i) (zTot (bo i) (V i) (hd i) 2))) (((11 * (10 * y + i)) + 10)) (((zTotal (bo i) (V i) (hd i) (J 20 i) (3) + zTotal (bo i) (V i) (hd i) (J 20 i) (4)) - mDuty (FF (tw i)) (GF (tw i)) (tn (tw i)) (J 16 i) (J 17 i) (zTot (bo i) (V i) (hd i) 2)))))) (List.mem_of_getElem? (i := 1) rfl))]⟩
      refine lv_goto (tgt := 88) hx hb dX7_close_194 (by decide) ?_
      exact ih c93 _ (va_up J8 36 (vp_updL (vp_updL (J8 36) (11 * (10 * y + i) + 9) (mDuty (FF (tw i)) (GF (tw i)) (tn (tw i)) (J 16 i) (J 17 i) (zTot (bo i) (V i) (hd i) 2))) (11 * (10 * y + i) + 10) (zTotal (bo i) (V i) (hd i) (J 20 i) (3) + zTotal (bo i) (V i) (hd i) (J 20 i) (4) - mDuty (FF (tw i)) (GF (tw i)) (tn (tw i)) (J 16 i) (J 17 i) (zTot (bo i) (V i) (hd i) 2)))) (by omega) (fun s hs => by rw [va_up_ne _ _ (fun q9 => hs (by rw [q9]; decide)), ho8 s (fun q9 => hs (List.mem_cons_of_mem _ q9)), eo6 s hs]) (by rw [va_up_self, ho8 36 (by decide)]; exact ((hst6.put c93 (by omega) mStm_9.symm).put c93 (by omega) mStm_10.symm).next) (hq6.trans (hq8.trans (zMQ.of [36] (by decide) hq8.2.1 hq8.1 hinj hexB (fun s hs => va_up_ne _ _ (fun e => hs (by rw [e]; decide))) (fun _ _ => rfl)))) h8_mm h8_ad36 _ _ _ hS (lv_sub hl [0, 2] rfl)
  have L9 : ∀ (i : Nat), ∀ (u : zw) (J2 : Nat → Nat → Int64) (b : Int32), (hi : i ≤ nw) → (ho : mOut J J2) → (hq2 : zMQ cs w u ad mm (mo ad (0) (tb) (nI nd) (nI nw) (br) (nI y) (wd)) J2 K) → (hb9 : b = 1 ∧ (∀ k : Nat, k < i → zTotal (bo k) (V k) (hd k) (J 20 k) (10) = 0) ∨ b = 0 ∧ ¬ (∀ k : Nat, k < i → zTotal (bo k) (V k) (hd k) (J 20 k) (10) = 0)) → (h_m : u (mm) = some (mo ad (0) (tb) (nI nd) (nI nw) (br) (nI y) (wd))) → ∀ (H : Heap) (locs : List Loc) (ls : Array Slot), zS (zA w sz) D u s.heap H locs → lv_has ls 5 [(2, .int (nI i)), (1, .int (b)), (0, .ref (mm))] → W p l e (zR 10 0 0) s m [.ref (mm)].toArray below meth c H locs 0 0 (MQ below (zQ D w sz (fun r w2 => r = some (.int (nI y)) ∧ ∃ (J' : Nat → Nat → Int64) (K' : Nat → Nat → Int32), (∀ s : Nat, s ∉ [20, 36, 37, 38, 39, 40, 41, 42, 43] → J' s = J s) ∧ (∀ s : Nat, s ≠ 19 → K' s = K s) ∧ (∀ k : Nat, k < nw → K' 19 k = 0 ∧ J' 20 k = 0) ∧ (∀ k : Nat, nw ≤ k → K' 19 k = K 19 k ∧ J' 20 k = J 20 k) ∧ mSts (J 36) (J' 36) y nw (fun k q => mStm (bo k) (V k) (hd k) (J 20 k) (mDuty (FF (tw k)) (GF (tw k)) (tn (tw k)) (J 16 k) (J 17 k) (zTot (bo k) (V k) (hd k) 2)) q) nw 0 ∧ zMQ cs w w2 ad mm (mo ad (0) (tb) (nI nd) (nI nw) (br) (nI (y + 1)) (wd)) J' K')) [.ref (mm)].toArray s 0 0 (zA w sz)) (F0 m 9 ls []) := by
    refine zloopU (P := fun i => ∀ (u : zw) (J2 : Nat → Nat → Int64) (b : Int32), (hi : i ≤ nw) → (ho : mOut J J2) → (hq2 : zMQ cs w u ad mm (mo ad (0) (tb) (nI nd) (nI nw) (br) (nI y) (wd)) J2 K) → (hb9 : b = 1 ∧ (∀ k : Nat, k < i → zTotal (bo k) (V k) (hd k) (J 20 k) (10) = 0) ∨ b = 0 ∧ ¬ (∀ k : Nat, k < i → zTotal (bo k) (V k) (hd k) (J 20 k) (10) = 0)) → (h_m : u (mm) = some (mo ad (0) (tb) (nI nd) (nI nw) (br) (nI y) (wd))) → ∀ (H : Heap) (locs : List Loc) (ls : Array Slot), zS (zA w sz) D u s.heap H locs → lv_has ls 5 [(2, .int (nI i)), (1, .int (b)), (0, .ref (mm))] → W p l e (zR 10 0 0) s m [.ref (mm)].toArray below meth c H locs 0 0 (MQ below (zQ D w sz (fun r w2 => r = some (.int (nI y)) ∧ ∃ (J' : Nat → Nat → Int64) (K' : Nat → Nat → Int32), (∀ s : Nat, s ∉ [20, 36, 37, 38, 39, 40, 41, 42, 43] → J' s = J s) ∧ (∀ s : Nat, s ≠ 19 → K' s = K s) ∧ (∀ k : Nat, k < nw → K' 19 k = 0 ∧ J' 20 k = 0) ∧ (∀ k : Nat, nw ≤ k → K' 19 k = K 19 k ∧ J' 20 k = J 20 k) ∧ mSts (J 36) (J' 36) y nw (fun k q => mStm (bo k) (V k) (hd k) (J 20 k) (mDuty (FF (tw k)) (GF (tw k)) (tn (tw k)) (J 16 k) (J 17 k) (zTot (bo k) (V k) (hd k) 2)) q) nw 0 ∧ zMQ cs w w2 ad mm (mo ad (0) (tb) (nI nd) (nI nw) (br) (nI (y + 1)) (wd)) J' K')) [.ref (mm)].toArray s 0 0 (zA w sz)) (F0 m 9 ls [])) nw (fun i ih => ?_)
    intro u J2 b hi ho hq2 hb9 h_m H locs ls hS hl
    refine lv_iload_n hx hb dX7_close_9 rfl (lv_at hl 0 rfl) ?_
    refine lv_aload_n hx hb dX7_close_10 rfl (lv_at hl 2 rfl) ?_
    refine z_get (C := RX7) (T := TX7) (N := 45) (v := .int (nI nw)) hx hb hts (by decide +kernel) hown hK hS h_m rfl 21 (by decide) (hts (.fieldLink RX7 183 "PayLedgerModel" "workers" "I") (by decide +kernel)) rfl dX7_close_11 ?_
    refine lv_icmp_ge (tgt := 45) hx hb dX7_close_14 (by decide) (fun c14 => ?_) (fun c14 => ?_)
    · have hi9 : i = nw := by rcases Nat.lt_or_ge i (nw) with q | q; exact absurd c14 (nI_ge (b := nw) q (by omega)); omega
      refine lv_aload_n hx hb dX7_close_45 rfl (lv_at hl 2 rfl) ?_
      refine lv_iload_n hx hb dX7_close_46 rfl (lv_at hl 1 rfl) ?_
      refine lv_if_ne (tgt := 54) hx hb dX7_close_47 (by decide) (fun _ => ?_) (fun cq9 => absurd cq9 (by rcases hb9 with q9 | q9; rw [q9.1]; decide; exact absurd (fun k hk => hev k (by omega)) q9.2))
      refine lv_iconst (v := 0) hx hb dX7_close_54 (by decide) ?_
      refine lv_iconst (v := 1) hx hb dX7_close_55 (by decide) ?_
      refine z_rV (As := [.int (0), .int (1)]) (rest := []) (n := 2) ⟨hx, hb, hml, hown, hts⟩ (c0_X7_throwsIf l D cs u H.size mm ad (0) (tb) (nI nd) (nI nw) (br) (nI y) (wd) 1 h_m) gX7_close_X7_throwsIf rfl ⟨rfl, by decide +kernel, by decide +kernel, by decide +kernel⟩ ⟨Nat.le_of_ble_eq_true rfl, Nat.le_of_ble_eq_true rfl⟩ hK hE hS rfl h_m rfl hl.1 rfl (Nat.le_of_ble_eq_true rfl) dX7_close_56 ⟨Nat.le_of_ble_eq_true rfl, Nat.le_of_ble_eq_true rfl⟩ (fun H locs hS => ?_)
      refine lv_if_ne (tgt := 84) hx hb dX7_close_59 (by decide) (fun cq9 => absurd rfl cq9) (fun _ => ?_)
      refine lv_aload_n hx hb dX7_close_62 rfl (lv_at hl 2 rfl) ?_
      refine lv_aload_n hx hb dX7_close_63 rfl (lv_at hl 2 rfl) ?_
      refine z_get (C := RX7) (T := TX7) (N := 45) (v := .int (nI y)) hx hb hts (by decide +kernel) hown hK hS h_m rfl 23 (by decide) (hts (.fieldLink RX7 251 "PayLedgerModel" "year" "I") (by decide +kernel)) rfl dX7_close_64 ?_
      refine lv_bipush (v := 6) hx hb dX7_close_67 (by decide) ?_
      refine lv_icmp_ne (tgt := 76) hx hb dX7_close_69 (by decide) (fun _ => ?_) (fun cq9 => absurd cq9 (fun q9 => by have := (nI_eq (a := y) (b := 6) (by omega) (by omega)).mp q9; omega))
      refine lv_iconst (v := 0) hx hb dX7_close_76 (by decide) ?_
      refine lv_iconst (v := 2) hx hb dX7_close_77 (by decide) ?_
      refine z_rV (As := [.int (0), .int (2)]) (rest := []) (n := 2) ⟨hx, hb, hml, hown, hts⟩ (c0_X7_throwsIf l D cs u H.size mm ad (0) (tb) (nI nd) (nI nw) (br) (nI y) (wd) 2 h_m) gX7_close_X7_throwsIf rfl ⟨rfl, by decide +kernel, by decide +kernel, by decide +kernel⟩ ⟨Nat.le_of_ble_eq_true rfl, Nat.le_of_ble_eq_true rfl⟩ hK hE hS rfl h_m rfl hl.1 rfl (Nat.le_of_ble_eq_true rfl) dX7_close_78 ⟨Nat.le_of_ble_eq_true rfl, Nat.le_of_ble_eq_true rfl⟩ (fun H locs hS => ?_)
      refine lv_if_eq (tgt := 86) hx hb dX7_close_81 (by decide) (fun _ => ?_) (fun cq9 => absurd rfl cq9)
      have h_36x : u (ad 36) = some (eJ cs (660) (J2 36)) := hq2.2.1 36 (by decide)
      refine lv_iconst (v := 0) hx hb dX7_close_86 (by decide) ?_
      refine lv_istore_n (lv' := [(2, .int (0)), (1, .int (b)), (0, .ref (mm))]) hx hb dX7_close_87 rfl hl (by decide) rfl (fun ls hl => ?_)
      exact L88 0 _ J2 (by omega) (fun s hs => ho s (fun q9 => hs (List.mem_cons_of_mem _ q9))) (by rw [ho 36 (by decide)]; exact mSts.zero) hq2 h_m h_36x _ _ _ hS (lv_sub hl [0, 2] rfl)
    · have c14 : i < nw := by rcases Nat.lt_or_ge i (nw) with q | q; exact q; exact absurd (nI_le (a := nw) q (by omega)) c14
      refine lv_iload_n hx hb dX7_close_17 rfl (lv_at hl 1 rfl) ?_
      refine lv_if_eq (tgt := 37) hx hb dX7_close_18 (by decide) (fun c18 => ?_) (fun c18 => ?_)
      · have hb8 := hb9.resolve_left (fun q9 => by rw [q9.1] at c18; cases c18)
        refine lv_iconst (v := 0) hx hb dX7_close_37 (by decide) ?_
        refine lv_istore_n (lv' := [(1, .int (0)), (2, .int (nI i)), (0, .ref (mm))]) hx hb dX7_close_38 rfl hl (by decide) rfl (fun ls hl => ?_)
        refine lv_iinc (v := nI (i + 1)) (lv' := [(2, .int (nI (i + 1))), (1, .int (0)), (0, .ref (mm))]) hx hb dX7_close_39 hl (k := 1) rfl (nI_1 _) (by decide) rfl (fun ls hl => ?_)
        refine lv_goto (tgt := 9) hx hb dX7_close_42 (by decide) ?_
        exact ih c14 _ J2 0 (by omega) ho hq2 (Or.inr ⟨rfl, fun q9 => hb8.2 (fun k hk => q9 k (by omega))⟩) h_m _ _ _ hS (lv_sub hl [0, 1, 2] rfl)
      · have hb8 := hb9.resolve_right (fun q9 => c18 q9.1)
        refine lv_aload_n hx hb dX7_close_21 rfl (lv_at hl 2 rfl) ?_
        refine lv_iload_n hx hb dX7_close_22 rfl (lv_at hl 0 rfl) ?_
        refine lv_bipush (v := 10) hx hb dX7_close_23 (by decide) ?_
        refine z_invV (As := [.int (nI i), .int (10)]) (rest := []) (n := 2) ⟨hx, hb, hml, hown, hts⟩ (c_X7_sums l D cs u H.size mm ad J2 K 0 tb (nI nw) br (nI y) wd i (bo i) (rb i) (pe i) (me i) (re i) (cr i) (ex i) (en i) (tx i) (V i) (P i) nb tn FF GF nd de so si ca bs (hd i) (10) hinj hq2.2.1 ((hWs i c14).out ho) h_m) gX7_close_X7_sums rfl ⟨rfl, by decide +kernel, by decide +kernel, by decide +kernel⟩ ⟨Nat.le_of_ble_eq_true rfl, Nat.le_of_ble_eq_true rfl⟩ hK hE hS rfl h_m rfl hl.1 rfl (Nat.le_of_ble_eq_true rfl) dX7_close_25 ⟨Nat.le_of_ble_eq_true rfl, Nat.le_of_ble_eq_true rfl⟩ (fun v9 u9 H locs hq hS => ?_)
        obtain ⟨rfl, J3, ho3, hz3⟩ := hq
        have hq3 := zMQ.w hq2.2.1 hq2.1 hinj hz3 ho3
        have h_m3 : u9 mm = some (mo ad (0) (tb) (nI nd) (nI nw) (br) (nI y) (wd)) := hq3.1
        refine W.eq (g2 := F0 m 28 ls [.long (zTotal (bo i) (V i) (hd i) (J2 20 i) (10))]) rfl ?_
        refine z_tl (y := zTotal (bo i) (V i) (hd i) (J 20 i) (10)) (by rw [ho 20 (by decide)]) ?_
        refine lv_lconst (v := 0) hx hb dX7_close_28 (by decide) ?_
        refine z_lif_ne (tgt := 37) hx hb dX7_close_29 dX7_close_30 (by decide) (fun c29 => ?_) (fun c29 => ?_)
        · refine lv_iconst (v := 0) hx hb dX7_close_37 (by decide) ?_
          refine lv_istore_n (lv' := [(1, .int (0)), (2, .int (nI i)), (0, .ref (mm))]) hx hb dX7_close_38 rfl hl (by decide) rfl (fun ls hl => ?_)
          refine lv_iinc (v := nI (i + 1)) (lv' := [(2, .int (nI (i + 1))), (1, .int (0)), (0, .ref (mm))]) hx hb dX7_close_39 hl (k := 1) rfl (nI_1 _) (by decide) rfl (fun ls hl => ?_)
          refine lv_goto (tgt := 9) hx hb dX7_close_42 (by decide) ?_
          exact ih c14 _ J3 0 (by omega) (ho.trans ho3) (hq2.trans hq3) (Or.inr ⟨rfl, fun q9 => c29 (q9 i (by omega))⟩) h_m3 _ _ _ hS (lv_sub hl [0, 1, 2] rfl)
        · refine lv_iconst (v := 1) hx hb dX7_close_33 (by decide) ?_
          refine lv_goto (tgt := 38) hx hb dX7_close_34 (by decide) ?_
          refine lv_istore_n (lv' := [(1, .int (1)), (2, .int (nI i)), (0, .ref (mm))]) hx hb dX7_close_38 rfl hl (by decide) rfl (fun ls hl => ?_)
          refine lv_iinc (v := nI (i + 1)) (lv' := [(2, .int (nI (i + 1))), (1, .int (1)), (0, .ref (mm))]) hx hb dX7_close_39 hl (k := 1) rfl (nI_1 _) (by decide) rfl (fun ls hl => ?_)
          refine lv_goto (tgt := 9) hx hb dX7_close_42 (by decide) ?_
          exact ih c14 _ J3 1 (by omega) (ho.trans ho3) (hq2.trans hq3) (Or.inl ⟨rfl, fun k hk => (Nat.lt_succ_iff_lt_or_eq.mp hk).elim (fun h => hb8.2 k h) (fun h => by rw [h]; exact c29)⟩) h_m3 _ _ _ hS (lv_sub hl [0, 1, 2] rfl)
  refine lv_aload_n hx hb dX7_close_0 rfl (lv_at hl 0 rfl) ?_
  refine lv_iconst (v := 0) hx hb dX7_close_1 (by decide) ?_
  refine z_put (C := RX7) (T := TX7) (N := 45) (v := .int (0)) hx hb hts (by decide +kernel) tyX7 tyX7_ok nmX7 hown hK hS h_m rfl 0 (by decide) (hts (.fieldLink RX7 126 "PayLedgerModel" "thrown" "I") (by decide +kernel)) rfl rfl rfl (Nat.le_of_ble_eq_true rfl) dX7_close_2 (fun H locs hS => ?_)
  obtain ⟨w10, ew10⟩ : ∃ z : zw, z = va_up w (mm) (some (mo ad (0) (tb) (nI nd) (nI nw) (br) (nI y) (wd))) := ⟨_, rfl⟩
  have hS : zS (zA w sz) D w10 s.heap H locs := by rw [ew10]; exact hS
  have h10_mm : w10 (mm) = some (mo ad (0) (tb) (nI nd) (nI nw) (br) (nI y) (wd)) := by rw [ew10]; exact va_up_self _ _ _
  have hex1 : zEx w w10 [(mm, (mo ad (0) (tb) (nI nd) (nI nw) (br) (nI y) (wd)))] := ⟨(zm1 h10_mm zm0), fun a9 h9 => by rw [ew10, va_up_ne _ _ (show a9 ≠ mm from h9 (mm, (mo ad (0) (tb) (nI nd) (nI nw) (br) (nI y) (wd))) (List.mem_of_getElem? (i := 0) rfl))]⟩
  have hq1 : zMQ cs w w10 ad mm (mo ad (0) (tb) (nI nd) (nI nw) (br) (nI y) (wd)) J K := zMQ.o hM h_m hinj hex1
  refine lv_iconst (v := 1) hx hb dX7_close_5 (by decide) ?_
  refine lv_istore_n (lv' := [(1, .int (1)), (0, .ref (mm))]) hx hb dX7_close_6 rfl hl (by decide) rfl (fun ls hl => ?_)
  refine lv_iconst (v := 0) hx hb dX7_close_7 (by decide) ?_
  refine lv_istore_n (lv' := [(2, .int (0)), (1, .int (1)), (0, .ref (mm))]) hx hb dX7_close_8 rfl hl (by decide) rfl (fun ls hl => ?_)
  exact L9 0 _ J 1 (by omega) mOut.refl hq1 (Or.inl ⟨rfl, fun k hk => absurd hk (by omega)⟩) h10_mm _ _ _ hS (lv_sub hl [0, 1, 2] rfl)
