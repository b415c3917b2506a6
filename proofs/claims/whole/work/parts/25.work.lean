/-! ===== PayLedger.takeAll, withheld ===== -/
set_option maxHeartbeats 4000000 in
set_option maxRecDepth 100000 in
theorem c_X6_takeAll (l : Launch) (D : va_G) (cs : Nat → ClassId) (w : zw) (sz : Nat) (of tbs dds wks aa ap : Nat) (tc dc wc brt yr wd : Int32) (ag : Int64) (us : Int32) (ai ab : Int64) (AP : Nat → Int64) (DR : Nat → Option Nat) (DA : Nat → Nat) (de so : Nat → Int32) (si ca bs : Nat → Int64) (nd : Nat) (pq te pp : Nat) (bo br : Int32) (V PT : Nat → Int64) (t : Nat) (pe me : Int32) (re cr ex : Int64) (en : Int32) (early : Int32) (left : Int64) (hDs : zDeds w DR DA de so si ca bs nd) (hne : pp ≠ ap) (h_f : w (of) = some (.inr (6, [.ref (tbs), .ref (dds), .ref (wks), .ref (aa), .int (tc), .int (dc), .int (wc), .int (brt), .int (yr), .int (wd)]))) (h_dr : w (dds) = some (eR cs 3 (8) (DR))) (h_a : w (aa) = some (.inr (0, [.ref (ap), .long (ag), .int (us), .long (ai), .long (ab)]))) (h_ap : w (ap) = some (eJ cs (8) (AP))) (h_p : w (pq) = some (.inr (2, [.ref (te), .ref (pp), .int (bo), .int (br), .long (V 0), .long (V 1), .long (V 2), .long (V 3), .long (V 4), .long (V 5), .long (V 6), .long (V 7)]))) (h_pp : w (pp) = some (eJ cs (8) (PT))) (h_te : w (te) = some (.inr (4, [.ref (t), .int (pe), .int (me), .long (re), .long (cr), .long (ex), .int (en)]))) : zM l D cs yX6_takeAll wsX6_takeAll 3 0 0 w sz [.ref (of), .ref (pq), .int (early), .long (left)] (fun r w2 => r = some (.long (zTk (zSel de nd early) (zHasF en) (zDueF so si ca bs bo (V 0) ag AP) (left) (PT) 8).1) ∧ zEx w w2 [(pp, eJ cs 8 (zTk (zSel de nd early) (zHasF en) (zDueF so si ca bs bo (V 0) ag AP) (left) (PT) 8).2)]) := by
  refine z_met (cc := cX6_takeAll) (maxL := 11) (ret := (some .long)) (by decide) rfl (Nat.le_of_ble_eq_true rfl) ?_
  intro p e s m below meth c hx hb hr hml hown hts hlocks hnm hsz hK hE hS ls hl
  have hl : lv_has ls 11 [(0, .ref (of)), (1, .ref (pq)), (2, .int (early)), (3, .long (left))] := hl
  have h_pp0 := h_pp
  have L6 : ∀ (i : Nat), ∀ (u : zw) (rs : Int64) (ff : Nat → Int64), (hi : i ≤ 8) → (hT : zTk (zSel de nd early) (zHasF en) (zDueF so si ca bs bo (V 0) ag AP) (left) (PT) i = (rs, ff)) → (h_f : u (of) = some (.inr (6, [.ref (tbs), .ref (dds), .ref (wks), .ref (aa), .int (tc), .int (dc), .int (wc), .int (brt), .int (yr), .int (wd)]))) → (h_dr : u (dds) = some (eR cs 3 (8) (DR))) → (h_a : u (aa) = some (.inr (0, [.ref (ap), .long (ag), .int (us), .long (ai), .long (ab)]))) → (h_ap : u (ap) = some (eJ cs (8) (AP))) → (h_p : u (pq) = some (.inr (2, [.ref (te), .ref (pp), .int (bo), .int (br), .long (V 0), .long (V 1), .long (V 2), .long (V 3), .long (V 4), .long (V 5), .long (V 6), .long (V 7)]))) → (h_pp : u (pp) = some (eJ cs (8) (ff))) → (h_te : u (te) = some (.inr (4, [.ref (t), .int (pe), .int (me), .long (re), .long (cr), .long (ex), .int (en)]))) → (hex0 : zEx w u [(pp, (eJ cs (8) (ff)))]) → ∀ (H : Heap) (locs : List Loc) (ls : Array Slot), zS (zA w sz) D u s.heap H locs → lv_has ls 11 [(7, .int (nI i)), (5, .long (rs)), (0, .ref (of)), (1, .ref (pq)), (2, .int (early)), (3, .long (left))] → W p l e (zR 3 0 0) s m [.ref (of), .ref (pq), .int (early), .long (left)].toArray below meth c H locs 0 0 (MQ below (zQ D w sz (fun r w2 => r = some (.long (zTk (zSel de nd early) (zHasF en) (zDueF so si ca bs bo (V 0) ag AP) (left) (PT) 8).1) ∧ zEx w w2 [(pp, eJ cs 8 (zTk (zSel de nd early) (zHasF en) (zDueF so si ca bs bo (V 0) ag AP) (left) (PT) 8).2)])) [.ref (of), .ref (pq), .int (early), .long (left)].toArray s 0 0 (zA w sz)) (F0 m 6 ls []) := by
    refine zloopU (P := fun i => ∀ (u : zw) (rs : Int64) (ff : Nat → Int64), (hi : i ≤ 8) → (hT : zTk (zSel de nd early) (zHasF en) (zDueF so si ca bs bo (V 0) ag AP) (left) (PT) i = (rs, ff)) → (h_f : u (of) = some (.inr (6, [.ref (tbs), .ref (dds), .ref (wks), .ref (aa), .int (tc), .int (dc), .int (wc), .int (brt), .int (yr), .int (wd)]))) → (h_dr : u (dds) = some (eR cs 3 (8) (DR))) → (h_a : u (aa) = some (.inr (0, [.ref (ap), .long (ag), .int (us), .long (ai), .long (ab)]))) → (h_ap : u (ap) = some (eJ cs (8) (AP))) → (h_p : u (pq) = some (.inr (2, [.ref (te), .ref (pp), .int (bo), .int (br), .long (V 0), .long (V 1), .long (V 2), .long (V 3), .long (V 4), .long (V 5), .long (V 6), .long (V 7)]))) → (h_pp : u (pp) = some (eJ cs (8) (ff))) → (h_te : u (te) = some (.inr (4, [.ref (t), .int (pe), .int (me), .long (re), .long (cr), .long (ex), .int (en)]))) → (hex0 : zEx w u [(pp, (eJ cs (8) (ff)))]) → ∀ (H : Heap) (locs : List Loc) (ls : Array Slot), zS (zA w sz) D u s.heap H locs → lv_has ls 11 [(7, .int (nI i)), (5, .long (rs)), (0, .ref (of)), (1, .ref (pq)), (2, .int (early)), (3, .long (left))] → W p l e (zR 3 0 0) s m [.ref (of), .ref (pq), .int (early), .long (left)].toArray below meth c H locs 0 0 (MQ below (zQ D w sz (fun r w2 => r = some (.long (zTk (zSel de nd early) (zHasF en) (zDueF so si ca bs bo (V 0) ag AP) (left) (PT) 8).1) ∧ zEx w w2 [(pp, eJ cs 8 (zTk (zSel de nd early) (zHasF en) (zDueF so si ca bs bo (V 0) ag AP) (left) (PT) 8).2)])) [.ref (of), .ref (pq), .int (early), .long (left)].toArray s 0 0 (zA w sz)) (F0 m 6 ls [])) 8 (fun i ih => ?_)
    intro u rs ff hi hT h_f h_dr h_a h_ap h_p h_pp h_te hex0 H locs ls hS hl
    refine lv_iload hx hb dX6_takeAll_6 (lv_at hl 0 rfl) ?_
    refine lv_aload_n hx hb dX6_takeAll_8 rfl (lv_at hl 2 rfl) ?_
    refine z_get (C := RX6) (T := TX6) (N := 10) (v := .ref (dds)) hx hb hts (by decide +kernel) hown hK hS h_f rfl 1 (by decide) (hts (.fieldLink RX6 17 "PayLedger" "deductions" "[LPayLedger$Deduction;") (by decide +kernel)) rfl dX6_takeAll_9 ?_
    refine z_alen (t0 := 3) (v := 8) hx hb hK hS h_dr rfl rfl dX6_takeAll_12 ?_
    refine lv_icmp_ge (tgt := 106) hx hb dX6_takeAll_13 (by decide) (fun c13 => ?_) (fun c13 => ?_)
    · have hi8 : i = 8 := by rcases Nat.lt_or_ge i (8) with q | q; exact absurd c13 (nI_ge (b := 8) q (by omega)); omega
      refine lv_lload hx hb dX6_takeAll_106 (lv_at hl 1 rfl) ?_
      have hex : zEx w u [(pp, (eJ cs (8) (ff)))] := ⟨(zm1 h_pp zm0), fun a9 h9 => by rw [hex0.2 a9 (zm1 (show a9 ≠ pp from h9 (pp, (eJ cs (8) (ff))) (List.mem_of_getElem? (i := 0) rfl)) zm0)]⟩
      exact z_lret hx hb hr hlocks hS (Nat.le_of_ble_eq_true rfl) (Nat.le_of_ble_eq_true rfl) dX6_takeAll_108 ⟨by rw [hi8] at hT; rw [hT], by rw [hi8] at hT; rw [hT]; exact hex⟩
    · have c13 : i < 8 := by rcases Nat.lt_or_ge i (8) with q | q; exact q; exact absurd (nI_le (a := 8) q (by omega)) c13
      refine lv_iload hx hb dX6_takeAll_16 (lv_at hl 0 rfl) ?_
      refine lv_aload_n hx hb dX6_takeAll_18 rfl (lv_at hl 3 rfl) ?_
      refine z_get (C := RX2) (T := TX2) (N := 12) (v := .ref (pp)) hx hb hts (by decide +kernel) hown hK hS h_p rfl 1 (by decide) (hts (.fieldLink RX6 209 "PayLedger$Pay" "parts" "[J") (by decide +kernel)) rfl dX6_takeAll_19 ?_
      refine z_alen (t0 := 1) (v := 8) hx hb hK hS h_pp rfl rfl dX6_takeAll_22 ?_
      refine lv_icmp_ge (tgt := 106) hx hb dX6_takeAll_23 (by decide) (fun cq9 => absurd cq9 (nI_ge (b := 8) (by omega) (by omega))) (fun _ => ?_)
      refine lv_aload_n hx hb dX6_takeAll_26 rfl (lv_at hl 2 rfl) ?_
      refine z_get (C := RX6) (T := TX6) (N := 10) (v := .ref (dds)) hx hb hts (by decide +kernel) hown hK hS h_f rfl 1 (by decide) (hts (.fieldLink RX6 17 "PayLedger" "deductions" "[LPayLedger$Deduction;") (by decide +kernel)) rfl dX6_takeAll_27 ?_
      refine lv_iload hx hb dX6_takeAll_30 (lv_at hl 0 rfl) ?_
      rcases Nat.lt_or_ge i nd with hnd | hnd
      · refine z_aaldv (v := .ref (DA i)) hx hb hK hS h_dr rfl (vp_in_nI c13 (by omega)) (by rw [nI_clamp (by omega), (hDs.2.1 i hnd).1]; rfl) dX6_takeAll_32 ?_
        have h_di : u (DA i) = some (.inr (1, [.int (de i), .int (so i), .long (si i), .long (ca i), .long (bs i)])) := hex0.old (hDs.2.1 i hnd).2 (zm1 (zne (hDs.2.1 i hnd).2 h_pp0 (by intro q9; cases q9)) zm0)
        refine lv_astore (lv' := [(8, .ref (DA i)), (7, .int (nI i)), (5, .long (rs)), (0, .ref (of)), (1, .ref (pq)), (2, .int (early)), (3, .long (left))]) hx hb dX6_takeAll_33 hl (by decide) rfl (fun ls hl => ?_)
        refine lv_aload hx hb dX6_takeAll_35 (lv_at hl 0 rfl) ?_
        refine lv_ifnull hx hb dX6_takeAll_37 ?_
        refine lv_aload hx hb dX6_takeAll_40 (lv_at hl 0 rfl) ?_
        refine z_get (C := RX1) (T := TX1) (N := 5) (v := .int (de i)) hx hb hts (by decide +kernel) hown hK hS h_di rfl 0 (by decide) (hts (.fieldLink RX6 334 "PayLedger$Deduction" "early" "Z") (by decide +kernel)) rfl dX6_takeAll_42 ?_
        refine lv_iload_n hx hb dX6_takeAll_45 rfl (lv_at hl 5 rfl) ?_
        refine lv_icmp_ne (tgt := 100) hx hb dX6_takeAll_46 (by decide) (fun c46 => ?_) (fun c46 => ?_)
        · have hse : zSel de nd early i = false := by rw [zSel]; exact decide_eq_false (fun q9 => c46 q9.2)
          refine lv_iinc (v := nI (i + 1)) (lv' := [(7, .int (nI (i + 1))), (8, .ref (DA i)), (5, .long (rs)), (0, .ref (of)), (1, .ref (pq)), (2, .int (early)), (3, .long (left))]) hx hb dX6_takeAll_100 hl (k := 1) rfl (nI_1 _) (by decide) rfl (fun ls hl => ?_)
          refine lv_goto (tgt := 6) hx hb dX6_takeAll_103 (by decide) ?_
          have hex : zEx w u [(pp, (eJ cs (8) (ff)))] := ⟨(zm1 h_pp zm0), fun a9 h9 => by rw [hex0.2 a9 (zm1 (show a9 ≠ pp from h9 (pp, (eJ cs (8) (ff))) (List.mem_of_getElem? (i := 0) rfl)) zm0)]⟩
          exact ih c13 u (rs) (ff) (by omega) (zTk_skip hT hse) h_f h_dr h_a h_ap h_p h_pp h_te hex _ _ _ hS (lv_sub hl [0, 2, 3, 4, 5, 6] rfl)
        · have hse : zSel de nd early i = true := by rw [zSel]; exact decide_eq_true ⟨hnd, c46⟩
          refine lv_aload_n hx hb dX6_takeAll_49 rfl (lv_at hl 4 rfl) ?_
          refine z_get (C := RX2) (T := TX2) (N := 12) (v := .ref (te)) hx hb hts (by decide +kernel) hown hK hS h_p rfl 0 (by decide) (hts (.fieldLink RX6 286 "PayLedger$Pay" "terms" "LPayLedger$Terms;") (by decide +kernel)) rfl dX6_takeAll_50 ?_
          refine lv_iload hx hb dX6_takeAll_53 (lv_at hl 1 rfl) ?_
          refine z_rV (As := [.int (nI i)]) (rest := []) (n := 1) ⟨hx, hb, hml, hown, hts⟩ (c_X4_has l D cs u H.size te (some t) pe me re cr ex en (nI i) h_te) gX6_takeAll_X4_has rfl ⟨rfl, by decide +kernel, by decide +kernel, by decide +kernel⟩ ⟨Nat.le_of_ble_eq_true rfl, Nat.le_of_ble_eq_true rfl⟩ hK hE hS rfl h_te rfl hl.1 rfl (Nat.le_of_ble_eq_true rfl) dX6_takeAll_55 ⟨Nat.le_of_ble_eq_true rfl, Nat.le_of_ble_eq_true rfl⟩ (fun H locs hS => ?_)
          refine lv_if_eq (tgt := 81) hx hb dX6_takeAll_58 (by decide) (fun c58 => ?_) (fun c58 => ?_)
          · have hha : zHasF en i = false := by rw [zHasF]; exact decide_eq_false (fun q9 => q9 c58)
            refine lv_lconst (v := 0) hx hb dX6_takeAll_81 (by decide) ?_
            refine lv_lstore (lv' := [(9, .long (0)), (8, .ref (DA i)), (7, .int (nI i)), (5, .long (rs)), (0, .ref (of)), (1, .ref (pq)), (2, .int (early)), (3, .long (left))]) hx hb dX6_takeAll_82 hl (by decide) rfl (fun ls hl => ?_)
            refine lv_aload_n hx hb dX6_takeAll_84 rfl (lv_at hl 5 rfl) ?_
            refine z_get (C := RX2) (T := TX2) (N := 12) (v := .ref (pp)) hx hb hts (by decide +kernel) hown hK hS h_p rfl 1 (by decide) (hts (.fieldLink RX6 209 "PayLedger$Pay" "parts" "[J") (by decide +kernel)) rfl dX6_takeAll_85 ?_
            refine lv_iload hx hb dX6_takeAll_88 (lv_at hl 2 rfl) ?_
            refine lv_lload hx hb dX6_takeAll_90 (lv_at hl 0 rfl) ?_
            refine z_last hx hb hK hS h_pp (vp_in_nI c13 (by omega)) dX6_takeAll_92 (fun H locs hS => ?_)
            obtain ⟨w1, ew1⟩ : ∃ z : zw, z = va_up u (pp) (some (eJ cs (8) (vp_updL (ff) (nI i : Int32).toNatClampNeg (0)))) := ⟨_, rfl⟩
            have hS : zS (zA w sz) D w1 s.heap H locs := by rw [ew1]; exact hS
            have h1_pp : w1 (pp) = some (eJ cs (8) (vp_updL (ff) (nI i : Int32).toNatClampNeg (0))) := by rw [ew1]; exact va_up_self _ _ _
            have h1_of : w1 (of) = some (.inr (6, [.ref (tbs), .ref (dds), .ref (wks), .ref (aa), .int (tc), .int (dc), .int (wc), .int (brt), .int (yr), .int (wd)])) := by rw [ew1]; exact (va_up_ne _ _ (zne h_f h_pp (by intro q9; first | cases q9 | simp at q9))).trans h_f
            have h1_dds : w1 (dds) = some (eR cs 3 (8) (DR)) := by rw [ew1]; exact (va_up_ne _ _ (zne h_dr h_pp (by intro q9; first | cases q9 | simp at q9))).trans h_dr
            have h1_aa : w1 (aa) = some (.inr (0, [.ref (ap), .long (ag), .int (us), .long (ai), .long (ab)])) := by rw [ew1]; exact (va_up_ne _ _ (zne h_a h_pp (by intro q9; first | cases q9 | simp at q9))).trans h_a
            have h1_ap : w1 (ap) = some (eJ cs (8) (AP)) := by rw [ew1]; exact (va_up_ne _ _ (Ne.symm hne)).trans h_ap
            have h1_pq : w1 (pq) = some (.inr (2, [.ref (te), .ref (pp), .int (bo), .int (br), .long (V 0), .long (V 1), .long (V 2), .long (V 3), .long (V 4), .long (V 5), .long (V 6), .long (V 7)])) := by rw [ew1]; exact (va_up_ne _ _ (zne h_p h_pp (by intro q9; first | cases q9 | simp at q9))).trans h_p
            have h1_te : w1 (te) = some (.inr (4, [.ref (t), .int (pe), .int (me), .long (re), .long (cr), .long (ex), .int (en)])) := by rw [ew1]; exact (va_up_ne _ _ (zne h_te h_pp (by intro q9; first | cases q9 | simp at q9))).trans h_te
            have h1_DAi : w1 (DA i) = some (.inr (1, [.int (de i), .int (so i), .long (si i), .long (ca i), .long (bs i)])) := by rw [ew1]; exact (va_up_ne _ _ (zne h_di h_pp (by intro q9; first | cases q9 | simp at q9))).trans h_di
            rw [show (eJ cs (8) (vp_updL (ff) (nI i : Int32).toNatClampNeg (0))) = (eJ cs (8) (vp_updL ff i (0))) from (by rw [nI_clamp (by omega)])] at h1_pp
            refine lv_lload hx hb dX6_takeAll_93 (lv_at hl 3 rfl) ?_
            refine lv_lload hx hb dX6_takeAll_95 (lv_at hl 0 rfl) ?_
            refine lv_lsub hx hb dX6_takeAll_97 ?_
            refine lv_lstore (lv' := [(5, .long ((rs - 0))), (9, .long (0)), (8, .ref (DA i)), (7, .int (nI i)), (0, .ref (of)), (1, .ref (pq)), (2, .int (early)), (3, .long (left))]) hx hb dX6_takeAll_98 hl (by decide) rfl (fun ls hl => ?_)
            refine lv_iinc (v := nI (i + 1)) (lv' := [(7, .int (nI (i + 1))), (5, .long ((rs - 0))), (9, .long (0)), (8, .ref (DA i)), (0, .ref (of)), (1, .ref (pq)), (2, .int (early)), (3, .long (left))]) hx hb dX6_takeAll_100 hl (k := 3) rfl (nI_1 _) (by decide) rfl (fun ls hl => ?_)
            refine lv_goto (tgt := 6) hx hb dX6_takeAll_103 (by decide) ?_
            have hex : zEx w w1 [(pp, (eJ cs (8) (vp_updL ff i (0))))] := ⟨(zm1 h1_pp zm0), fun a9 h9 => by rw [ew1, va_up_ne _ _ (show a9 ≠ pp from h9 (pp, (eJ cs (8) (vp_updL ff i (0)))) (List.mem_of_getElem? (i := 0) rfl)), hex0.2 a9 (zm1 (show a9 ≠ pp from h9 (pp, (eJ cs (8) (vp_updL ff i (0)))) (List.mem_of_getElem? (i := 0) rfl)) zm0)]⟩
            exact ih c13 w1 ((rs - 0)) (vp_updL ff i (0)) (by omega) (zTk_not hT hse hha) h1_of h1_dds h1_aa h1_ap h1_pq h1_pp h1_te hex _ _ _ hS (lv_sub hl [0, 1, 4, 5, 6, 7] rfl)
          · have hha : zHasF en i = true := by rw [zHasF]; exact decide_eq_true c58
            refine lv_lload hx hb dX6_takeAll_61 (lv_at hl 2 rfl) ?_
            refine lv_aload hx hb dX6_takeAll_63 (lv_at hl 0 rfl) ?_
            refine lv_aload_n hx hb dX6_takeAll_65 rfl (lv_at hl 4 rfl) ?_
            refine lv_aload_n hx hb dX6_takeAll_66 rfl (lv_at hl 3 rfl) ?_
            refine z_get (C := RX6) (T := TX6) (N := 10) (v := .ref (aa)) hx hb hts (by decide +kernel) hown hK hS h_f rfl 3 (by decide) (hts (.fieldLink RX6 30 "PayLedger" "ahead" "LPayLedger$Ahead;") (by decide +kernel)) rfl dX6_takeAll_67 ?_
            refine lv_iload hx hb dX6_takeAll_70 (lv_at hl 1 rfl) ?_
            refine z_rV (As := [.ref (pq), .ref (aa), .int (nI i)]) (rest := [.long (rs)]) (n := 3) ⟨hx, hb, hml, hown, hts⟩ (c_X1_dueOf l D cs u H.size (DA i) pq (de i) (so i) (si i) (ca i) (bs i) te pp bo br (V 0) (V 1) (V 2) (V 3) (V 4) (V 5) (V 6) (V 7) aa ap ag us ai ab AP i c13 h_di h_p h_a h_ap) gX6_takeAll_X1_dueOf rfl ⟨rfl, by decide +kernel, by decide +kernel, by decide +kernel⟩ ⟨Nat.le_of_ble_eq_true rfl, Nat.le_of_ble_eq_true rfl⟩ hK hE hS rfl h_di rfl hl.1 rfl (Nat.le_of_ble_eq_true rfl) dX6_takeAll_72 ⟨Nat.le_of_ble_eq_true rfl, Nat.le_of_ble_eq_true rfl⟩ (fun H locs hS => ?_)
            refine va_mmin_long hx hb (by rw [hml]; exact hl.1.symm) hown (hts (.methodLink RX6 316 Lib.MathLoose.min_long.x) (by decide +kernel)) (hts (.static Lib.MathLoose.min_long.x) (by decide +kernel)) (hts (.initialized "java/lang/Math") (by decide +kernel)) (hts (.code Lib.MathLoose.min_long.x Lib.MathLoose.min_long.code 4 (some .long)) (by decide +kernel)) (Nat.le_of_ble_eq_true rfl) (Nat.le_of_ble_eq_true rfl) (Nat.le_of_ble_eq_true rfl) (Nat.le_of_ble_eq_true rfl) dX6_takeAll_75 ?_
            refine z_tl (y := zMin rs (zDueF so si ca bs bo (V 0) ag AP i)) rfl ?_
            refine lv_goto (tgt := 82) hx hb dX6_takeAll_78 (by decide) ?_
            refine lv_lstore (lv' := [(9, .long (zMin rs (zDueF so si ca bs bo (V 0) ag AP i))), (8, .ref (DA i)), (7, .int (nI i)), (5, .long (rs)), (0, .ref (of)), (1, .ref (pq)), (2, .int (early)), (3, .long (left))]) hx hb dX6_takeAll_82 hl (by decide) rfl (fun ls hl => ?_)
            refine lv_aload_n hx hb dX6_takeAll_84 rfl (lv_at hl 5 rfl) ?_
            refine z_get (C := RX2) (T := TX2) (N := 12) (v := .ref (pp)) hx hb hts (by decide +kernel) hown hK hS h_p rfl 1 (by decide) (hts (.fieldLink RX6 209 "PayLedger$Pay" "parts" "[J") (by decide +kernel)) rfl dX6_takeAll_85 ?_
            refine lv_iload hx hb dX6_takeAll_88 (lv_at hl 2 rfl) ?_
            refine lv_lload hx hb dX6_takeAll_90 (lv_at hl 0 rfl) ?_
            refine z_last hx hb hK hS h_pp (vp_in_nI c13 (by omega)) dX6_takeAll_92 (fun H locs hS => ?_)
            obtain ⟨w2, ew2⟩ : ∃ z : zw, z = va_up u (pp) (some (eJ cs (8) (vp_updL (ff) (nI i : Int32).toNatClampNeg (zMin rs (zDueF so si ca bs bo (V 0) ag AP i))))) := ⟨_, rfl⟩
            have hS : zS (zA w sz) D w2 s.heap H locs := by rw [ew2]; exact hS
            have h2_pp : w2 (pp) = some (eJ cs (8) (vp_updL (ff) (nI i : Int32).toNatClampNeg (zMin rs (zDueF so si ca bs bo (V 0) ag AP i)))) := by rw [ew2]; exact va_up_self _ _ _
            have h2_of : w2 (of) = some (.inr (6, [.ref (tbs), .ref (dds), .ref (wks), .ref (aa), .int (tc), .int (dc), .int (wc), .int (brt), .int (yr), .int (wd)])) := by rw [ew2]; exact (va_up_ne _ _ (zne h_f h_pp (by intro q9; first | cases q9 | simp at q9))).trans h_f
            have h2_dds : w2 (dds) = some (eR cs 3 (8) (DR)) := by rw [ew2]; exact (va_up_ne _ _ (zne h_dr h_pp (by intro q9; first | cases q9 | simp at q9))).trans h_dr
            have h2_aa : w2 (aa) = some (.inr (0, [.ref (ap), .long (ag), .int (us), .long (ai), .long (ab)])) := by rw [ew2]; exact (va_up_ne _ _ (zne h_a h_pp (by intro q9; first | cases q9 | simp at q9))).trans h_a
            have h2_ap : w2 (ap) = some (eJ cs (8) (AP)) := by rw [ew2]; exact (va_up_ne _ _ (Ne.symm hne)).trans h_ap
            have h2_pq : w2 (pq) = some (.inr (2, [.ref (te), .ref (pp), .int (bo), .int (br), .long (V 0), .long (V 1), .long (V 2), .long (V 3), .long (V 4), .long (V 5), .long (V 6), .long (V 7)])) := by rw [ew2]; exact (va_up_ne _ _ (zne h_p h_pp (by intro q9; first | cases q9 | simp at q9))).trans h_p
            have h2_te : w2 (te) = some (.inr (4, [.ref (t), .int (pe), .int (me), .long (re), .long (cr), .long (ex), .int (en)])) := by rw [ew2]; exact (va_up_ne _ _ (zne h_te h_pp (by intro q9; first | cases q9 | simp at q9))).trans h_te
            have h2_DAi : w2 (DA i) = some (.inr (1, [.int (de i), .int (so i), .long (si i), .long (ca i), .long (bs i)])) := by rw [ew2]; exact (va_up_ne _ _ (zne h_di h_pp (by intro q9; first | cases q9 | simp at q9))).trans h_di
            rw [show (eJ cs (8) (vp_updL (ff) (nI i : Int32).toNatClampNeg (zMin rs (zDueF so si ca bs bo (V 0) ag AP i)))) = (eJ cs (8) (vp_updL ff i (zMin rs (zDueF so si ca bs bo (V 0) ag AP i)))) from (by rw [nI_clamp (by omega)])] at h2_pp
            refine lv_lload hx hb dX6_takeAll_93 (lv_at hl 3 rfl) ?_
            refine lv_lload hx hb dX6_takeAll_95 (lv_at hl 0 rfl) ?_
            refine lv_lsub hx hb dX6_takeAll_97 ?_
            refine lv_lstore (lv' := [(5, .long ((rs - zMin rs (zDueF so si ca bs bo (V 0) ag AP i)))), (9, .long (zMin rs (zDueF so si ca bs bo (V 0) ag AP i))), (8, .ref (DA i)), (7, .int (nI i)), (0, .ref (of)), (1, .ref (pq)), (2, .int (early)), (3, .long (left))]) hx hb dX6_takeAll_98 hl (by decide) rfl (fun ls hl => ?_)
            refine lv_iinc (v := nI (i + 1)) (lv' := [(7, .int (nI (i + 1))), (5, .long ((rs - zMin rs (zDueF so si ca bs bo (V 0) ag AP i)))), (9, .long (zMin rs (zDueF so si ca bs bo (V 0) ag AP i))), (8, .ref (DA i)), (0, .ref (of)), (1, .ref (pq)), (2, .int (early)), (3, .long (left))]) hx hb dX6_takeAll_100 hl (k := 3) rfl (nI_1 _) (by decide) rfl (fun ls hl => ?_)
            refine lv_goto (tgt := 6) hx hb dX6_takeAll_103 (by decide) ?_
            have hex : zEx w w2 [(pp, (eJ cs (8) (vp_updL ff i (zMin rs (zDueF so si ca bs bo (V 0) ag AP i)))))] := ⟨(zm1 h2_pp zm0), fun a9 h9 => by rw [ew2, va_up_ne _ _ (show a9 ≠ pp from h9 (pp, (eJ cs (8) (vp_updL ff i (zMin rs (zDueF so si ca bs bo (V 0) ag AP i))))) (List.mem_of_getElem? (i := 0) rfl)), hex0.2 a9 (zm1 (show a9 ≠ pp from h9 (pp, (eJ cs (8) (vp_updL ff i (zMin rs (zDueF so si ca bs bo (V 0) ag AP i))))) (List.mem_of_getElem? (i := 0) rfl)) zm0)]⟩
            exact ih c13 w2 ((rs - zMin rs (zDueF so si ca bs bo (V 0) ag AP i))) (vp_updL ff i (zMin rs (zDueF so si ca bs bo (V 0) ag AP i))) (by omega) (zTk_has hT hse hha) h2_of h2_dds h2_aa h2_ap h2_pq h2_pp h2_te hex _ _ _ hS (lv_sub hl [0, 1, 4, 5, 6, 7] rfl)
      · refine z_aaldv (v := .null) hx hb hK hS h_dr rfl (vp_in_nI c13 (by omega)) (by rw [nI_clamp (by omega), hDs.2.2 i hnd c13]; rfl) dX6_takeAll_32 ?_
        refine lv_astoreN (lv' := [(8, .null), (7, .int (nI i)), (5, .long (rs)), (0, .ref (of)), (1, .ref (pq)), (2, .int (early)), (3, .long (left))]) hx hb dX6_takeAll_33 hl (by decide) rfl (fun ls hl => ?_)
        refine lv_aloadN hx hb dX6_takeAll_35 (lv_at hl 0 rfl) ?_
        refine lv_ifnullN (tgt := 100) hx hb dX6_takeAll_37 (by decide) ?_
        refine lv_iinc (v := nI (i + 1)) (lv' := [(7, .int (nI (i + 1))), (8, .null), (5, .long (rs)), (0, .ref (of)), (1, .ref (pq)), (2, .int (early)), (3, .long (left))]) hx hb dX6_takeAll_100 hl (k := 1) rfl (nI_1 _) (by decide) rfl (fun ls hl => ?_)
        refine lv_goto (tgt := 6) hx hb dX6_takeAll_103 (by decide) ?_
        have hex : zEx w u [(pp, (eJ cs (8) (ff)))] := ⟨(zm1 h_pp zm0), fun a9 h9 => by rw [hex0.2 a9 (zm1 (show a9 ≠ pp from h9 (pp, (eJ cs (8) (ff))) (List.mem_of_getElem? (i := 0) rfl)) zm0)]⟩
        exact ih c13 u (rs) (ff) (by omega) (zTk_skip hT (by rw [zSel]; exact decide_eq_false (fun q9 => by omega))) h_f h_dr h_a h_ap h_p h_pp h_te hex _ _ _ hS (lv_sub hl [0, 2, 3, 4, 5, 6] rfl)
  refine lv_lload_n hx hb dX6_takeAll_0 rfl (lv_at hl 3 rfl) ?_
  refine lv_lstore (lv' := [(5, .long (left)), (0, .ref (of)), (1, .ref (pq)), (2, .int (early)), (3, .long (left))]) hx hb dX6_takeAll_1 hl (by decide) rfl (fun ls hl => ?_)
  refine lv_iconst (v := 0) hx hb dX6_takeAll_3 (by decide) ?_
  refine lv_istore (lv' := [(7, .int (0)), (5, .long (left)), (0, .ref (of)), (1, .ref (pq)), (2, .int (early)), (3, .long (left))]) hx hb dX6_takeAll_4 hl (by decide) rfl (fun ls hl => ?_)
  have hex : zEx w w [(pp, (eJ cs (8) (PT)))] := ⟨(zm1 h_pp zm0), fun a9 h9 => rfl⟩
  exact L6 0 w left PT (by omega) rfl h_f h_dr h_a h_ap h_p h_pp h_te hex _ _ _ hS (lv_sub hl [0, 1, 2, 3, 4, 5] rfl)
set_option maxHeartbeats 4000000 in
set_option maxRecDepth 100000 in
theorem c_X6_withheld (l : Launch) (D : va_G) (cs : Nat → ClassId) (w : zw) (sz : Nat) (of tbs dds wks aa ap : Nat) (tc dc wc brt yr wd : Int32) (ag : Int64) (ai ab : Int64) (AP : Nat → Int64) (DR : Nat → Option Nat) (DA : Nat → Nat) (de so : Nat → Int32) (si ca bs : Nat → Int64) (nd : Nat) (pq te pp : Nat) (bo br : Int32) (V PT : Nat → Int64) (t : Nat) (pe me : Int32) (re cr ex : Int64) (en : Int32) (fl ra nt : Nat) (F : Nat → Int64) (G : Nat → Int32) (tk : Int32) (k : Nat) (hnt : nt ≤ 12) (hk : k ≤ 60) (h_f : w (of) = some (.inr (6, [.ref (tbs), .ref (dds), .ref (wks), .ref (aa), .int (tc), .int (dc), .int (wc), .int (brt), .int (yr), .int (wd)]))) (h_a : w (aa) = some (.inr (0, [.ref (ap), .long (ag), .int (nI k), .long (ai), .long (ab)]))) (h_ap : w (ap) = some (eJ cs (8) (AP))) (h_p : w (pq) = some (.inr (2, [.ref (te), .ref (pp), .int (bo), .int (br), .long (V 0), .long (V 1), .long (V 2), .long (V 3), .long (V 4), .long (V 5), .long (V 6), .long (V 7)]))) (h_pp : w (pp) = some (eJ cs (8) (PT))) (h_te : w (te) = some (.inr (4, [.ref (t), .int (pe), .int (me), .long (re), .long (cr), .long (ex), .int (en)]))) (h_t : w (t) = some (.inr (3, [.ref (fl), .ref (ra), .int (nI nt), .int (tk)]))) (h_fl : w (fl) = some (eJ cs (12) (F))) (h_ra : w (ra) = some (eI cs (12) (G))) : zMr l D cs yX6_withheld wsX6_withheld 3 w sz [.ref (of), .ref (pq)] (.long (zWh F G nt pe me re cr bo br k ai ab (V 2))) := by
  refine z_met (cc := cX6_withheld) (maxL := 8) (ret := (some .long)) (by decide) rfl (Nat.le_of_ble_eq_true rfl) ?_
  intro p e s m below meth c hx hb hr hml hown hts hlocks hnm hsz hK hE hS ls hl
  have hl : lv_has ls 8 [(0, .ref (of)), (1, .ref (pq))] := hl
  refine lv_aload_n hx hb dX6_withheld_0 rfl (lv_at hl 1 rfl) ?_
  refine z_get (C := RX2) (T := TX2) (N := 12) (v := .int (bo)) hx hb hts (by decide +kernel) hown hK hS h_p rfl 2 (by decide) (hts (.fieldLink RX6 282 "PayLedger$Pay" "bonus" "Z") (by decide +kernel)) rfl dX6_withheld_1 ?_
  refine lv_if_eq (tgt := 24) hx hb dX6_withheld_4 (by decide) (fun c4 => ?_) (fun c4 => ?_)
  · refine lv_aload_n hx hb dX6_withheld_24 rfl (lv_at hl 1 rfl) ?_
    refine z_get (C := RX2) (T := TX2) (N := 12) (v := .ref (te)) hx hb hts (by decide +kernel) hown hK hS h_p rfl 0 (by decide) (hts (.fieldLink RX6 286 "PayLedger$Pay" "terms" "LPayLedger$Terms;") (by decide +kernel)) rfl dX6_withheld_25 ?_
    refine z_get (C := RX4) (T := TX4) (N := 7) (v := .int (pe)) hx hb hts (by decide +kernel) hown hK hS h_te rfl 1 (by decide) (hts (.fieldLink RX6 345 "PayLedger$Terms" "periods" "I") (by decide +kernel)) rfl dX6_withheld_28 ?_
    refine lv_i2l (v := ((pe : Int32).toInt64)) hx hb dX6_withheld_31 rfl ?_
    refine z_tl (y := pe.toInt64) rfl ?_
    refine lv_lstore_n (lv' := [(2, .long (pe.toInt64)), (0, .ref (of)), (1, .ref (pq))]) hx hb dX6_withheld_32 rfl hl (by decide) rfl (fun ls hl => ?_)
    refine lv_aload_n hx hb dX6_withheld_33 rfl (lv_at hl 2 rfl) ?_
    refine z_get (C := RX2) (T := TX2) (N := 12) (v := .ref (te)) hx hb hts (by decide +kernel) hown hK hS h_p rfl 0 (by decide) (hts (.fieldLink RX6 286 "PayLedger$Pay" "terms" "LPayLedger$Terms;") (by decide +kernel)) rfl dX6_withheld_34 ?_
    refine z_get (C := RX4) (T := TX4) (N := 7) (v := .int (me)) hx hb hts (by decide +kernel) hown hK hS h_te rfl 2 (by decide) (hts (.fieldLink RX6 348 "PayLedger$Terms" "method" "I") (by decide +kernel)) rfl dX6_withheld_37 ?_
    refine lv_if_ne (tgt := 61) hx hb dX6_withheld_40 (by decide) (fun c40 => ?_) (fun c40 => ?_)
    · refine lv_aload_n hx hb dX6_withheld_61 rfl (lv_at hl 1 rfl) ?_
      refine z_get (C := RX6) (T := TX6) (N := 10) (v := .ref (aa)) hx hb hts (by decide +kernel) hown hK hS h_f rfl 3 (by decide) (hts (.fieldLink RX6 30 "PayLedger" "ahead" "LPayLedger$Ahead;") (by decide +kernel)) rfl dX6_withheld_62 ?_
      refine z_get (C := RX0) (T := TX0) (N := 5) (v := .int (nI k)) hx hb hts (by decide +kernel) hown hK hS h_a rfl 2 (by decide) (hts (.fieldLink RX6 354 "PayLedger$Ahead" "usual" "I") (by decide +kernel)) rfl dX6_withheld_65 ?_
      refine lv_i2l (v := ((nI k : Int32).toInt64)) hx hb dX6_withheld_68 rfl ?_
      refine lv_lconst (v := 1) hx hb dX6_withheld_69 (by decide) ?_
      refine lv_ladd hx hb dX6_withheld_70 ?_
      refine z_tl (y := lN (k + 1)) (by rw [nI_l (by omega)]; exact lN_1 k) ?_
      refine lv_lstore (lv' := [(4, .long (lN (k + 1))), (2, .long (pe.toInt64)), (0, .ref (of)), (1, .ref (pq))]) hx hb dX6_withheld_71 hl (by decide) rfl (fun ls hl => ?_)
      refine lv_lload hx hb dX6_withheld_73 (lv_at hl 0 rfl) ?_
      refine lv_lconst (v := 1) hx hb dX6_withheld_75 (by decide) ?_
      refine z_lif_ge (tgt := 84) hx hb dX6_withheld_76 dX6_withheld_77 (by decide) (fun _ => ?_) (fun cq9 => absurd (by rw [show (1 : Int64) = lN 1 from rfl, lN_le (by omega) (by omega)]; omega) cq9)
      refine lv_aload_n hx hb dX6_withheld_84 rfl (lv_at hl 2 rfl) ?_
      refine z_get (C := RX6) (T := TX6) (N := 10) (v := .ref (aa)) hx hb hts (by decide +kernel) hown hK hS h_f rfl 3 (by decide) (hts (.fieldLink RX6 30 "PayLedger" "ahead" "LPayLedger$Ahead;") (by decide +kernel)) rfl dX6_withheld_85 ?_
      refine z_get (C := RX0) (T := TX0) (N := 5) (v := .long (ai)) hx hb hts (by decide +kernel) hown hK hS h_a rfl 3 (by decide) (hts (.fieldLink RX6 357 "PayLedger$Ahead" "incomes" "J") (by decide +kernel)) rfl dX6_withheld_88 ?_
      refine lv_aload_n hx hb dX6_withheld_91 rfl (lv_at hl 3 rfl) ?_
      refine z_get (C := RX2) (T := TX2) (N := 12) (v := .long (V 2)) hx hb hts (by decide +kernel) hown hK hS h_p rfl 6 (by decide) (hts (.fieldLink RX6 306 "PayLedger$Pay" "income" "J") (by decide +kernel)) rfl dX6_withheld_92 ?_
      refine lv_ladd hx hb dX6_withheld_95 ?_
      refine lv_lload_n hx hb dX6_withheld_96 rfl (lv_at hl 1 rfl) ?_
      refine lv_lmul hx hb dX6_withheld_97 ?_
      refine lv_lload hx hb dX6_withheld_98 (lv_at hl 0 rfl) ?_
      refine lv_ldiv hx hb dX6_withheld_100 (fun q9 => by rw [show (0 : Int64) = lN 0 from rfl, lN_eq (by omega) (by omega)] at q9; omega) ?_
      refine lv_lstore (lv' := [(6, .long ((((ai + V 2) * pe.toInt64) / lN (k + 1)))), (4, .long (lN (k + 1))), (2, .long (pe.toInt64)), (0, .ref (of)), (1, .ref (pq))]) hx hb dX6_withheld_101 hl (by decide) rfl (fun ls hl => ?_)
      refine lv_lconst (v := 0) hx hb dX6_withheld_103 (by decide) ?_
      refine lv_aload_n hx hb dX6_withheld_104 rfl (lv_at hl 4 rfl) ?_
      refine z_get (C := RX2) (T := TX2) (N := 12) (v := .ref (te)) hx hb hts (by decide +kernel) hown hK hS h_p rfl 0 (by decide) (hts (.fieldLink RX6 286 "PayLedger$Pay" "terms" "LPayLedger$Terms;") (by decide +kernel)) rfl dX6_withheld_105 ?_
      refine lv_lload hx hb dX6_withheld_108 (lv_at hl 0 rfl) ?_
      refine z_rV (As := [.long ((((ai + V 2) * pe.toInt64) / lN (k + 1)))]) (rest := [.long (0)]) (n := 1) ⟨hx, hb, hml, hown, hts⟩ (c_X4_dutyOf l D cs w s.heap.size te t fl ra nt F G tk pe me re cr ex en ((ai + V 2) * pe.toInt64 / lN (k + 1)) hnt h_te h_t h_fl h_ra) gX6_withheld_X4_dutyOf rfl ⟨rfl, by decide +kernel, by decide +kernel, by decide +kernel⟩ ⟨Nat.le_of_ble_eq_true rfl, Nat.le_of_ble_eq_true rfl⟩ hK hE hS rfl h_te rfl hl.1 rfl (Nat.le_of_ble_eq_true rfl) dX6_withheld_110 ⟨Nat.le_of_ble_eq_true rfl, Nat.le_of_ble_eq_true rfl⟩ (fun H locs hS => ?_)
      refine lv_lload hx hb dX6_withheld_113 (lv_at hl 1 rfl) ?_
      refine lv_lmul hx hb dX6_withheld_115 ?_
      refine lv_lload_n hx hb dX6_withheld_116 rfl (lv_at hl 2 rfl) ?_
      refine z_rS (As := [.long ((zDuty F G nt re cr ((ai + V 2) * pe.toInt64 / lN (k + 1)) * lN (k + 1))), .long (pe.toInt64)]) (rest := [.long (0)]) (n := 2) ⟨hx, hb, hml, hown, hts⟩ (c_X6_round l D cs w H.size (zDuty F G nt re cr ((ai + V 2) * pe.toInt64 / lN (k + 1)) * lN (k + 1)) pe.toInt64) gX6_withheld_X6_round rfl ⟨by decide +kernel, by decide +kernel, by decide +kernel⟩ ⟨Nat.le_of_ble_eq_true rfl, Nat.le_of_ble_eq_true rfl⟩ hK hE hS rfl hl.1 rfl (Nat.le_of_ble_eq_true rfl) dX6_withheld_117 ⟨Nat.le_of_ble_eq_true rfl, Nat.le_of_ble_eq_true rfl⟩ (fun H locs hS => ?_)
      refine lv_aload_n hx hb dX6_withheld_120 rfl (lv_at hl 3 rfl) ?_
      refine z_get (C := RX6) (T := TX6) (N := 10) (v := .ref (aa)) hx hb hts (by decide +kernel) hown hK hS h_f rfl 3 (by decide) (hts (.fieldLink RX6 30 "PayLedger" "ahead" "LPayLedger$Ahead;") (by decide +kernel)) rfl dX6_withheld_121 ?_
      refine z_get (C := RX0) (T := TX0) (N := 5) (v := .long (ab)) hx hb hts (by decide +kernel) hown hK hS h_a rfl 4 (by decide) (hts (.fieldLink RX6 360 "PayLedger$Ahead" "basics" "J") (by decide +kernel)) rfl dX6_withheld_124 ?_
      refine lv_lsub hx hb dX6_withheld_127 ?_
      refine va_mmax_long hx hb (by rw [hml]; exact hl.1.symm) hown (hts (.methodLink RX6 363 Lib.MathLoose.max_long.x) (by decide +kernel)) (hts (.static Lib.MathLoose.max_long.x) (by decide +kernel)) (hts (.initialized "java/lang/Math") (by decide +kernel)) (hts (.code Lib.MathLoose.max_long.x Lib.MathLoose.max_long.code 4 (some .long)) (by decide +kernel)) (Nat.le_of_ble_eq_true rfl) (Nat.le_of_ble_eq_true rfl) (Nat.le_of_ble_eq_true rfl) (Nat.le_of_ble_eq_true rfl) dX6_withheld_128 ?_
      refine z_tl (y := zMax0 (zRound (zDuty F G nt re cr ((ai + V 2) * pe.toInt64 / lN (k + 1)) * lN (k + 1)) pe.toInt64 - ab)) rfl ?_
      exact z_lret hx hb hr hlocks hS (Nat.le_of_ble_eq_true rfl) (Nat.le_of_ble_eq_true rfl) dX6_withheld_131 ⟨by rw [zWh, if_pos c4, if_neg c40], rfl⟩
    · refine lv_aload_n hx hb dX6_withheld_43 rfl (lv_at hl 2 rfl) ?_
      refine z_get (C := RX2) (T := TX2) (N := 12) (v := .ref (te)) hx hb hts (by decide +kernel) hown hK hS h_p rfl 0 (by decide) (hts (.fieldLink RX6 286 "PayLedger$Pay" "terms" "LPayLedger$Terms;") (by decide +kernel)) rfl dX6_withheld_44 ?_
      refine lv_aload_n hx hb dX6_withheld_47 rfl (lv_at hl 2 rfl) ?_
      refine z_get (C := RX2) (T := TX2) (N := 12) (v := .long (V 2)) hx hb hts (by decide +kernel) hown hK hS h_p rfl 6 (by decide) (hts (.fieldLink RX6 306 "PayLedger$Pay" "income" "J") (by decide +kernel)) rfl dX6_withheld_48 ?_
      refine lv_lload_n hx hb dX6_withheld_51 rfl (lv_at hl 0 rfl) ?_
      refine lv_lmul hx hb dX6_withheld_52 ?_
      refine z_rV (As := [.long ((V 2 * pe.toInt64))]) (rest := []) (n := 1) ⟨hx, hb, hml, hown, hts⟩ (c_X4_dutyOf l D cs w s.heap.size te t fl ra nt F G tk pe me re cr ex en (V 2 * pe.toInt64) hnt h_te h_t h_fl h_ra) gX6_withheld_X4_dutyOf rfl ⟨rfl, by decide +kernel, by decide +kernel, by decide +kernel⟩ ⟨Nat.le_of_ble_eq_true rfl, Nat.le_of_ble_eq_true rfl⟩ hK hE hS rfl h_te rfl hl.1 rfl (Nat.le_of_ble_eq_true rfl) dX6_withheld_53 ⟨Nat.le_of_ble_eq_true rfl, Nat.le_of_ble_eq_true rfl⟩ (fun H locs hS => ?_)
      refine lv_lload_n hx hb dX6_withheld_56 rfl (lv_at hl 0 rfl) ?_
      refine z_rS (As := [.long (zDuty F G nt re cr (V 2 * pe.toInt64)), .long (pe.toInt64)]) (rest := []) (n := 2) ⟨hx, hb, hml, hown, hts⟩ (c_X6_round l D cs w H.size (zDuty F G nt re cr (V 2 * pe.toInt64)) pe.toInt64) gX6_withheld_X6_round rfl ⟨by decide +kernel, by decide +kernel, by decide +kernel⟩ ⟨Nat.le_of_ble_eq_true rfl, Nat.le_of_ble_eq_true rfl⟩ hK hE hS rfl hl.1 rfl (Nat.le_of_ble_eq_true rfl) dX6_withheld_57 ⟨Nat.le_of_ble_eq_true rfl, Nat.le_of_ble_eq_true rfl⟩ (fun H locs hS => ?_)
      exact z_lret hx hb hr hlocks hS (Nat.le_of_ble_eq_true rfl) (Nat.le_of_ble_eq_true rfl) dX6_withheld_60 ⟨by rw [zWh, if_pos c4, if_pos c40], rfl⟩
  · refine lv_aload_n hx hb dX6_withheld_7 rfl (lv_at hl 1 rfl) ?_
    refine z_get (C := RX2) (T := TX2) (N := 12) (v := .long (V 2)) hx hb hts (by decide +kernel) hown hK hS h_p rfl 6 (by decide) (hts (.fieldLink RX6 306 "PayLedger$Pay" "income" "J") (by decide +kernel)) rfl dX6_withheld_8 ?_
    refine lv_aload_n hx hb dX6_withheld_11 rfl (lv_at hl 1 rfl) ?_
    refine z_get (C := RX2) (T := TX2) (N := 12) (v := .int (br)) hx hb hts (by decide +kernel) hown hK hS h_p rfl 3 (by decide) (hts (.fieldLink RX6 285 "PayLedger$Pay" "bonusRate" "I") (by decide +kernel)) rfl dX6_withheld_12 ?_
    refine lv_i2l (v := ((br : Int32).toInt64)) hx hb dX6_withheld_15 rfl ?_
    refine z_tl (y := br.toInt64) rfl ?_
    refine lv_lmul hx hb dX6_withheld_16 ?_
    refine lv_ldc2 (v := 1000000) hx hb hown (hts (.constantLong RX6 340 (1000000)) (by decide +kernel)) dX6_withheld_17 ?_
    refine z_rS (As := [.long ((V 2 * br.toInt64)), .long (1000000)]) (rest := []) (n := 2) ⟨hx, hb, hml, hown, hts⟩ (c_X6_round l D cs w s.heap.size (V 2 * br.toInt64) 1000000) gX6_withheld_X6_round rfl ⟨by decide +kernel, by decide +kernel, by decide +kernel⟩ ⟨Nat.le_of_ble_eq_true rfl, Nat.le_of_ble_eq_true rfl⟩ hK hE hS rfl hl.1 rfl (Nat.le_of_ble_eq_true rfl) dX6_withheld_20 ⟨Nat.le_of_ble_eq_true rfl, Nat.le_of_ble_eq_true rfl⟩ (fun H locs hS => ?_)
    exact z_lret hx hb hr hlocks hS (Nat.le_of_ble_eq_true rfl) (Nat.le_of_ble_eq_true rfl) dX6_withheld_23 ⟨by rw [zWh, if_neg c4], rfl⟩
