/-! ===== Ahead.gather, Worker.stated ===== -/
set_option maxHeartbeats 4000000 in
set_option maxRecDepth 100000 in
theorem c_X0_gather (l : Launch) (D : va_G) (cs : Nat → ClassId) (w : zw) (sz : Nat) (aa ap : Nat) (ag : Int64) (us : Int32) (ai ab : Int64) (AP : Nat → Int64) (wk wt pay sts n : Nat) (se : Int64) (PR : Nat → Option Nat) (PA TE PP : Nat → Nat) (bo br : Nat → Int32) (V PT : Nat → Nat → Int64) (mm : Nat) (hn : n ≤ 60) (hm : mm ≤ n) (hPay : zPays cs w PR PA TE PP bo br V PT n) (hap : ∀ i : Nat, i < n → PP i ≠ ap) (h_a : w (aa) = some (.inr (0, [.ref (ap), .long (ag), .int (us), .long (ai), .long (ab)]))) (h_ap : w (ap) = some (eJ cs (8) (AP))) (h_w : w (wk) = some (.inr (5, [.ref (wt), .ref (pay), .ref (sts), .int (nI n), .long (se)]))) (h_ps : w (pay) = some (eR cs 4 (60) (PR))) : zM l D cs yX0_gather wsX0_gather 2 0 0 w sz [.ref (aa), .ref (wk), .int (nI mm)] (fun r w2 => r = none ∧ ∃ GG : Nat → Int64, (∀ k : Nat, k < 8 → GG k = zSum (fun i => PT i k) mm) ∧ zEx w w2 [(aa, zAhE ap bo V mm), (ap, eJ cs 8 GG)]) := by
  refine z_met (cc := cX0_gather) (maxL := 5) (ret := none) (by decide) rfl (Nat.le_of_ble_eq_true rfl) ?_
  intro p e s m below meth c hx hb hr hml hown hts hlocks hnm hsz hK hE hS ls hl
  have hl : lv_has ls 5 [(0, .ref (aa)), (1, .ref (wk)), (2, .int (nI mm))] := hl
  have h_a0 := h_a
  have h_ap0 := h_ap
  have L6 : ∀ (i : Nat), ∀ (u : zw) (GG : Nat → Int64), (hi : i ≤ mm) → (hG : ∀ k : Nat, k < 8 → GG k = zSum (fun j => PT j k) i) → (h_a : u (aa) = some (.inr (0, [.ref (ap), .long (zSum (fun i => V i 0) (i)), .int (nI (zUs bo (i))), .long (zSumU bo (fun i => V i 2) (i)), .long (zSumU bo (fun i => V i 3) (i))]))) → (h_ap : u (ap) = some (eJ cs (8) (GG))) → (h_w : u (wk) = some (.inr (5, [.ref (wt), .ref (pay), .ref (sts), .int (nI n), .long (se)]))) → (h_ps : u (pay) = some (eR cs 4 (60) (PR))) → (hex0 : zEx w u [(aa, (.inr (0, [.ref (ap), .long (zSum (fun i => V i 0) (i)), .int (nI (zUs bo (i))), .long (zSumU bo (fun i => V i 2) (i)), .long (zSumU bo (fun i => V i 3) (i))]))), (ap, (eJ cs (8) (GG)))]) → ∀ (H : Heap) (locs : List Loc) (ls : Array Slot), zS (zA w sz) D u s.heap H locs → lv_has ls 5 [(3, .int (nI i)), (0, .ref (aa)), (1, .ref (wk)), (2, .int (nI mm))] → W p l e (zR 2 0 0) s m [.ref (aa), .ref (wk), .int (nI mm)].toArray below meth c H locs 0 0 (MQ below (zQ D w sz (fun r w2 => r = none ∧ ∃ GG : Nat → Int64, (∀ k : Nat, k < 8 → GG k = zSum (fun i => PT i k) mm) ∧ zEx w w2 [(aa, zAhE ap bo V mm), (ap, eJ cs 8 GG)])) [.ref (aa), .ref (wk), .int (nI mm)].toArray s 0 0 (zA w sz)) (F0 m 6 ls []) := by
    refine zloopU (P := fun i => ∀ (u : zw) (GG : Nat → Int64), (hi : i ≤ mm) → (hG : ∀ k : Nat, k < 8 → GG k = zSum (fun j => PT j k) i) → (h_a : u (aa) = some (.inr (0, [.ref (ap), .long (zSum (fun i => V i 0) (i)), .int (nI (zUs bo (i))), .long (zSumU bo (fun i => V i 2) (i)), .long (zSumU bo (fun i => V i 3) (i))]))) → (h_ap : u (ap) = some (eJ cs (8) (GG))) → (h_w : u (wk) = some (.inr (5, [.ref (wt), .ref (pay), .ref (sts), .int (nI n), .long (se)]))) → (h_ps : u (pay) = some (eR cs 4 (60) (PR))) → (hex0 : zEx w u [(aa, (.inr (0, [.ref (ap), .long (zSum (fun i => V i 0) (i)), .int (nI (zUs bo (i))), .long (zSumU bo (fun i => V i 2) (i)), .long (zSumU bo (fun i => V i 3) (i))]))), (ap, (eJ cs (8) (GG)))]) → ∀ (H : Heap) (locs : List Loc) (ls : Array Slot), zS (zA w sz) D u s.heap H locs → lv_has ls 5 [(3, .int (nI i)), (0, .ref (aa)), (1, .ref (wk)), (2, .int (nI mm))] → W p l e (zR 2 0 0) s m [.ref (aa), .ref (wk), .int (nI mm)].toArray below meth c H locs 0 0 (MQ below (zQ D w sz (fun r w2 => r = none ∧ ∃ GG : Nat → Int64, (∀ k : Nat, k < 8 → GG k = zSum (fun i => PT i k) mm) ∧ zEx w w2 [(aa, zAhE ap bo V mm), (ap, eJ cs 8 GG)])) [.ref (aa), .ref (wk), .int (nI mm)].toArray s 0 0 (zA w sz)) (F0 m 6 ls [])) mm (fun i ih => ?_)
    intro u GG hi hG h_a h_ap h_w h_ps hex0 H locs ls hS hl
    refine lv_iload_n hx hb dX0_gather_6 rfl (lv_at hl 0 rfl) ?_
    refine lv_iload_n hx hb dX0_gather_7 rfl (lv_at hl 3 rfl) ?_
    refine lv_icmp_ge (tgt := 41) hx hb dX0_gather_8 (by decide) (fun c8 => ?_) (fun c8 => ?_)
    · have hin : i = mm := by rcases Nat.lt_or_ge i mm with q | q; exact absurd c8 (nI_ge q (by omega)); omega
      have hex : zEx w u [(aa, (.inr (0, [.ref (ap), .long (zSum (fun i => V i 0) (i)), .int (nI (zUs bo (i))), .long (zSumU bo (fun i => V i 2) (i)), .long (zSumU bo (fun i => V i 3) (i))]))), (ap, (eJ cs (8) (GG)))] := ⟨(zm1 h_a (zm1 h_ap zm0)), fun a9 h9 => by rw [hex0.2 a9 (zm1 (show a9 ≠ aa from h9 (aa, (.inr (0, [.ref (ap), .long (zSum (fun i => V i 0) (i)), .int (nI (zUs bo (i))), .long (zSumU bo (fun i => V i 2) (i)), .long (zSumU bo (fun i => V i 3) (i))]))) (List.mem_of_getElem? (i := 0) rfl)) (zm1 (show a9 ≠ ap from h9 (ap, (eJ cs (8) (GG))) (List.mem_of_getElem? (i := 1) rfl)) zm0))]⟩
      exact z_vret hx hb hr hlocks hS (Nat.le_of_ble_eq_true rfl) (Nat.le_of_ble_eq_true rfl) dX0_gather_41 ⟨rfl, GG, by rw [← hin]; exact hG, by rw [hin] at hex; exact hex⟩
    · have c8 : i < mm := by rcases Nat.lt_or_ge i mm with q | q; exact q; exact absurd (nI_le q (by omega)) c8
      refine lv_iload_n hx hb dX0_gather_11 rfl (lv_at hl 0 rfl) ?_
      refine lv_bipush (v := 60) hx hb dX0_gather_12 (by decide) ?_
      refine lv_icmp_ge (tgt := 41) hx hb dX0_gather_14 (by decide) (fun cq9 => absurd cq9 (nI_ge (b := 60) (by omega) (by omega))) (fun _ => ?_)
      refine lv_aload_n hx hb dX0_gather_17 rfl (lv_at hl 2 rfl) ?_
      refine lv_iload_n hx hb dX0_gather_18 rfl (lv_at hl 0 rfl) ?_
      refine z_rV (As := [.int (nI i)]) (rest := []) (n := 1) ⟨hx, hb, hml, hown, hts⟩ (c_X5_payAt l D cs u H.size wk wt pay sts n se PR (nI i) hn h_w h_ps) gX0_gather_X5_payAt rfl ⟨rfl, by decide +kernel, by decide +kernel, by decide +kernel⟩ ⟨Nat.le_of_ble_eq_true rfl, Nat.le_of_ble_eq_true rfl⟩ hK hE hS rfl h_w rfl hl.1 rfl (Nat.le_of_ble_eq_true rfl) dX0_gather_19 ⟨Nat.le_of_ble_eq_true rfl, Nat.le_of_ble_eq_true rfl⟩ (fun H locs hS => ?_)
      refine z_tv (y := .ref (PA i)) (by rw [zPayAt_in (by omega) (by omega), (hPay i (by omega)).1]; rfl) ?_
      have hpi0 := hPay i (by omega)
      have h_pi : u (PA i) = some (zPayE (TE i) (PP i) (bo i) (br i) (V i)) := hex0.old hpi0.2.1 (zm1 (zne hpi0.2.1 h_a0 (by intro q9; cases q9)) (zm1 (zne hpi0.2.1 h_ap0 (by intro q9; cases q9)) zm0))
      have h_ppi : u (PP i) = some (eJ cs 8 (PT i)) := hex0.old hpi0.2.2 (zm1 (zne hpi0.2.2 h_a0 (by intro q9; cases q9)) (zm1 (hap i (by omega)) zm0))
      refine lv_astore (lv' := [(4, .ref (PA i)), (3, .int (nI i)), (0, .ref (aa)), (1, .ref (wk)), (2, .int (nI mm))]) hx hb dX0_gather_22 hl (by decide) rfl (fun ls hl => ?_)
      refine lv_aload hx hb dX0_gather_24 (lv_at hl 0 rfl) ?_
      refine lv_ifnull hx hb dX0_gather_26 ?_
      refine lv_aload_n hx hb dX0_gather_29 rfl (lv_at hl 2 rfl) ?_
      refine lv_aload hx hb dX0_gather_30 (lv_at hl 0 rfl) ?_
      refine z_invV (As := [.ref (PA i)]) (rest := []) (n := 1) ⟨hx, hb, hml, hown, hts⟩ (c_X0_add l D cs u H.size aa ap (zSum (fun i => V i 0) i) (nI (zUs bo i)) (zSumU bo (fun i => V i 2) i) (zSumU bo (fun i => V i 3) i) GG (PA i) (TE i) (PP i) (bo i) (br i) (V i) (PT i) (hap i (by omega)) h_a h_ap h_pi h_ppi) gX0_gather_X0_add rfl ⟨rfl, by decide +kernel, by decide +kernel, by decide +kernel⟩ ⟨Nat.le_of_ble_eq_true rfl, Nat.le_of_ble_eq_true rfl⟩ hK hE hS rfl h_a rfl hl.1 rfl (Nat.le_of_ble_eq_true rfl) dX0_gather_32 ⟨Nat.le_of_ble_eq_true rfl, Nat.le_of_ble_eq_true rfl⟩ (fun v9 u1 H locs hq hS => ?_)
      obtain ⟨rfl, hx1⟩ := hq
      have h2_aa : u1 (aa) = some (.inr (0, [.ref (ap), .long (zSum (fun i => V i 0) i + V i 0), .int (if bo i = 0 then nI (zUs bo i) + 1 else nI (zUs bo i)), .long (if bo i = 0 then zSumU bo (fun i => V i 2) i + V i 2 else zSumU bo (fun i => V i 2) i), .long (if bo i = 0 then zSumU bo (fun i => V i 3) i + V i 3 else zSumU bo (fun i => V i 3) i)])) := hx1.at 0 rfl
      have h2_ap : u1 (ap) = some (eJ cs (8) (zAdd GG (PT i) 8)) := hx1.at 1 rfl
      have h2_wk : u1 (wk) = some (.inr (5, [.ref (wt), .ref (pay), .ref (sts), .int (nI n), .long (se)])) := hx1.old h_w (zm1 (zne h_w h_a (by intro q9; first | cases q9 | simp at q9)) (zm1 (zne h_w h_ap (by intro q9; first | cases q9 | simp at q9)) zm0))
      have h2_pay : u1 (pay) = some (eR cs 4 (60) (PR)) := hx1.old h_ps (zm1 (zne h_ps h_a (by intro q9; first | cases q9 | simp at q9)) (zm1 (zne h_ps h_ap (by intro q9; first | cases q9 | simp at q9)) zm0))
      have h2_PAi : u1 (PA i) = some (.inr (2, [.ref (TE i), .ref (PP i), .int (bo i), .int (br i), .long (V i 0), .long (V i 1), .long (V i 2), .long (V i 3), .long (V i 4), .long (V i 5), .long (V i 6), .long (V i 7)])) := hx1.old h_pi (zm1 (zne h_pi h_a (by intro q9; first | cases q9 | simp at q9)) (zm1 (zne h_pi h_ap (by intro q9; first | cases q9 | simp at q9)) zm0))
      have h2_PPi : u1 (PP i) = some (eJ cs (8) (PT i)) := hx1.old h_ppi (zm1 (zne h_ppi h_a (by intro q9; first | cases q9 | simp at q9)) (zm1 (hap i (by omega)) zm0))
      refine W.eq (g2 := F0 m 35 ls []) rfl ?_
      have h_aa9 : u1 (aa) = some (.inr (0, [.ref (ap), .long (zSum (fun i => V i 0) (i + 1)), .int (nI (zUs bo (i + 1))), .long (zSumU bo (fun i => V i 2) (i + 1)), .long (zSumU bo (fun i => V i 3) (i + 1))])) := by rw [h2_aa, zUs_s]; rfl
      refine lv_iinc (v := nI (i + 1)) (lv' := [(3, .int (nI (i + 1))), (4, .ref (PA i)), (0, .ref (aa)), (1, .ref (wk)), (2, .int (nI mm))]) hx hb dX0_gather_35 hl (k := 1) rfl (nI_1 _) (by decide) rfl (fun ls hl => ?_)
      refine lv_goto (tgt := 6) hx hb dX0_gather_38 (by decide) ?_
      have hex : zEx w u1 [(aa, (.inr (0, [.ref (ap), .long (zSum (fun i => V i 0) (i + 1)), .int (nI (zUs bo (i + 1))), .long (zSumU bo (fun i => V i 2) (i + 1)), .long (zSumU bo (fun i => V i 3) (i + 1))]))), (ap, (eJ cs (8) (zAdd GG (PT i) 8)))] := ⟨(zm1 h_aa9 (zm1 h2_ap zm0)), fun a9 h9 => by rw [hx1.2 a9 (zm1 (show a9 ≠ aa from h9 (aa, (.inr (0, [.ref (ap), .long (zSum (fun i => V i 0) (i + 1)), .int (nI (zUs bo (i + 1))), .long (zSumU bo (fun i => V i 2) (i + 1)), .long (zSumU bo (fun i => V i 3) (i + 1))]))) (List.mem_of_getElem? (i := 0) rfl)) (zm1 (show a9 ≠ ap from h9 (ap, (eJ cs (8) (zAdd GG (PT i) 8))) (List.mem_of_getElem? (i := 1) rfl)) zm0)), hex0.2 a9 (zm1 (show a9 ≠ aa from h9 (aa, (.inr (0, [.ref (ap), .long (zSum (fun i => V i 0) (i + 1)), .int (nI (zUs bo (i + 1))), .long (zSumU bo (fun i => V i 2) (i + 1)), .long (zSumU bo (fun i => V i 3) (i + 1))]))) (List.mem_of_getElem? (i := 0) rfl)) (zm1 (show a9 ≠ ap from h9 (ap, (eJ cs (8) (zAdd GG (PT i) 8))) (List.mem_of_getElem? (i := 1) rfl)) zm0))]⟩
      exact ih c8 u1 (zAdd GG (PT i) 8) (by omega) (fun k hk => by rw [zAdd, if_pos hk, hG k hk]; rfl) h_aa9 h2_ap h2_wk h2_pay hex _ _ _ hS (lv_sub hl [0, 2, 3, 4] rfl)
  refine lv_aload_n hx hb dX0_gather_0 rfl (lv_at hl 0 rfl) ?_
  refine z_invV (As := []) (rest := []) (n := 0) ⟨hx, hb, hml, hown, hts⟩ (c_X0_clear l D cs w s.heap.size aa ap ag us ai ab AP h_a h_ap) gX0_gather_X0_clear rfl ⟨rfl, by decide +kernel, by decide +kernel, by decide +kernel⟩ ⟨Nat.le_of_ble_eq_true rfl, Nat.le_of_ble_eq_true rfl⟩ hK hE hS rfl h_a rfl hl.1 rfl (Nat.le_of_ble_eq_true rfl) dX0_gather_1 ⟨Nat.le_of_ble_eq_true rfl, Nat.le_of_ble_eq_true rfl⟩ (fun v9 u3 H locs hq hS => ?_)
  obtain ⟨rfl, hx3⟩ := hq
  have h4_aa : u3 (aa) = some (.inr (0, [.ref (ap), .long (0), .int (0), .long (0), .long (0)])) := hx3.at 0 rfl
  have h4_ap : u3 (ap) = some (eJ cs (8) (zClr AP 8)) := hx3.at 1 rfl
  have h4_wk : u3 (wk) = some (.inr (5, [.ref (wt), .ref (pay), .ref (sts), .int (nI n), .long (se)])) := hx3.old h_w (zm1 (zne h_w h_a (by intro q9; first | cases q9 | simp at q9)) (zm1 (zne h_w h_ap (by intro q9; first | cases q9 | simp at q9)) zm0))
  have h4_pay : u3 (pay) = some (eR cs 4 (60) (PR)) := hx3.old h_ps (zm1 (zne h_ps h_a (by intro q9; first | cases q9 | simp at q9)) (zm1 (zne h_ps h_ap (by intro q9; first | cases q9 | simp at q9)) zm0))
  refine W.eq (g2 := F0 m 4 ls []) rfl ?_
  refine lv_iconst (v := 0) hx hb dX0_gather_4 (by decide) ?_
  refine lv_istore_n (lv' := [(3, .int (0)), (0, .ref (aa)), (1, .ref (wk)), (2, .int (nI mm))]) hx hb dX0_gather_5 rfl hl (by decide) rfl (fun ls hl => ?_)
  have hex : zEx w u3 [(aa, (.inr (0, [.ref (ap), .long (0), .int (0), .long (0), .long (0)]))), (ap, (eJ cs (8) (zClr AP 8)))] := ⟨(zm1 h4_aa (zm1 h4_ap zm0)), fun a9 h9 => by rw [hx3.2 a9 (zm1 (show a9 ≠ aa from h9 (aa, (.inr (0, [.ref (ap), .long (0), .int (0), .long (0), .long (0)]))) (List.mem_of_getElem? (i := 0) rfl)) (zm1 (show a9 ≠ ap from h9 (ap, (eJ cs (8) (zClr AP 8))) (List.mem_of_getElem? (i := 1) rfl)) zm0))]⟩
  exact L6 0 u3 (zClr AP 8) (by omega) (fun k hk => by simp [zClr, hk, zSum]) h4_aa h4_ap h4_wk h4_pay hex _ _ _ hS (lv_sub hl [0, 1, 2, 3] rfl)
set_option maxHeartbeats 4000000 in
set_option maxRecDepth 100000 in
theorem c_X5_stated (l : Launch) (D : va_G) (cs : Nat → ClassId) (w : zw) (sz : Nat) (wk wt pay sts n : Nat) (se : Int64) (PR : Nat → Option Nat) (SR : Nat → Option Nat) (y k sa : Nat) (SV : Nat → Int64) (hy : y < 6) (hk : k < 11) (hsr : SR y = some sa) (h_w : w (wk) = some (.inr (5, [.ref (wt), .ref (pay), .ref (sts), .int (nI n), .long (se)]))) (h_ps : w (pay) = some (eR cs 4 (60) (PR))) (h_ss : w (sts) = some (eR cs 7 (6) (SR))) (h_sa : w (sa) = some (eJ cs (11) (SV))) : zMr l D cs yX5_stated wsX5_stated 1 w sz [.ref (wk), .int (nI y), .int (nI k)] (.long (SV k)) := by
  refine z_met (cc := cX5_stated) (maxL := 3) (ret := (some .long)) (by decide) rfl (Nat.le_of_ble_eq_true rfl) ?_
  intro p e s m below meth c hx hb hr hml hown hts hlocks hnm hsz hK hE hS ls hl
  have hl : lv_has ls 3 [(0, .ref (wk)), (1, .int (nI y)), (2, .int (nI k))] := hl
  refine lv_iload_n hx hb dX5_stated_0 rfl (lv_at hl 1 rfl) ?_
  refine lv_if_lt (tgt := 13) hx hb dX5_stated_1 (by decide) (fun cq9 => absurd cq9 (nI_pos (by omega))) (fun _ => ?_)
  refine lv_iload_n hx hb dX5_stated_4 rfl (lv_at hl 1 rfl) ?_
  refine lv_aload_n hx hb dX5_stated_5 rfl (lv_at hl 0 rfl) ?_
  refine z_get (C := RX5) (T := TX5) (N := 5) (v := .ref (sts)) hx hb hts (by decide +kernel) hown hK hS h_w rfl 2 (by decide) (hts (.fieldLink RX5 26 "PayLedger$Worker" "statements" "[[J") (by decide +kernel)) rfl dX5_stated_6 ?_
  refine z_alen (t0 := 7) (v := 6) hx hb hK hS h_ss rfl rfl dX5_stated_9 ?_
  refine lv_icmp_lt (tgt := 15) hx hb dX5_stated_10 (by decide) (fun _ => ?_) (fun cq9 => absurd (nI_lt (b := 6) hy (by omega)) cq9)
  refine lv_aload_n hx hb dX5_stated_15 rfl (lv_at hl 0 rfl) ?_
  refine z_get (C := RX5) (T := TX5) (N := 5) (v := .ref (sts)) hx hb hts (by decide +kernel) hown hK hS h_w rfl 2 (by decide) (hts (.fieldLink RX5 26 "PayLedger$Worker" "statements" "[[J") (by decide +kernel)) rfl dX5_stated_16 ?_
  refine lv_iload_n hx hb dX5_stated_19 rfl (lv_at hl 1 rfl) ?_
  refine z_aaldg (v := .ref (sa)) hx hb hK hS h_ss rfl rfl (vp_in_nI hy (by omega)) (by rw [nI_clamp (by omega), hsr]; rfl) dX5_stated_20 ?_
  refine lv_iload_n hx hb dX5_stated_21 rfl (lv_at hl 2 rfl) ?_
  refine z_rSN (As := [.ref (sa), .int (nI k)]) (rest := []) (n := 2) ⟨hx, hb, hml, hown, hts⟩ (c_X6_elementOf l D cs w s.heap.size sa 11 k SV (by omega) hk h_sa) gX5_stated_X6_elementOf_n63 rfl (by decide +kernel) (hts (.initialized RX6) (by decide +kernel)) (hts (.static yX6_elementOf) (by decide +kernel)) ⟨by decide +kernel, by decide +kernel, by decide +kernel⟩ ⟨Nat.le_of_ble_eq_true rfl, Nat.le_of_ble_eq_true rfl⟩ hK hE hS rfl hl.1 rfl (Nat.le_of_ble_eq_true rfl) dX5_stated_22 ⟨Nat.le_of_ble_eq_true rfl, Nat.le_of_ble_eq_true rfl⟩ (fun H locs hS => ?_)
  exact z_lret hx hb hr hlocks hS (Nat.le_of_ble_eq_true rfl) (Nat.le_of_ble_eq_true rfl) dX5_stated_25 ⟨rfl, rfl⟩
