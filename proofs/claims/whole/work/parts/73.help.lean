/-! ===== the law's helpers ===== -/
theorem zall0 {α : Type} {P : α → Prop} : ∀ z ∈ ([] : List α), P z := fun _ h => nomatch h
theorem zall1 {α : Type} {P : α → Prop} {a : α} {L : List α} (h : P a) (t : ∀ z ∈ L, P z) : ∀ z ∈ a :: L, P z := fun z hz => (List.mem_cons.mp hz).elim (fun e => by rw [e]; exact h) (t z)
set_option maxHeartbeats 4000000 in
set_option maxRecDepth 100000 in
theorem h_L_table (l : Launch) (D : va_G) (cs : Nat → ClassId) {u v : zw} {sz xo out d mc ms : Nat}  {fs : List Value} {f : Nat → Int64} {post : Int32 → zw → Prop} (hc : zM l D cs yX6_table wsX6_table d mc ms u sz [.ref (xo)] (fun r u2 => ∃ z : Int32, r = some (.int z) ∧ post z u2)) (hx6 : u xo = some (.inr (6, fs))) (hd : zDj u v) (ho : v out = some (eJ cs 1 f)) : zML l D cs yL_table wsL_table (d + 1) mc ms (zJ u v) sz [.ref (xo), .ref (out)] (fun r w2 => r = some (.int 0) ∧ ∃ (z : Int32) (u2 : zw), post z u2 ∧ zDj u2 v ∧ w2 = zJ u2 (va_up v out (some (eJ cs 1 (vp_updL f 0 z.toInt64))))) := by
  refine z_metL (cc := cL_table) (maxL := 3) (ret := (some .int)) (hh := [(0, 8, 11, 13)]) (by decide) rfl (Nat.le_of_ble_eq_true rfl) ?_
  intro p e s m below meth c hx hb hr hml hown hts hlocks hT hsz hK hE hN hS ls hl
  have hl : lv_has ls 3 [(0, .ref (xo)), (1, .ref (out))] := hl
  refine lv_aload_n hx hb dL_table_0 rfl (lv_at hl 1 rfl) ?_
  refine lv_iconst (v := 0) hx hb dL_table_1 (by decide) ?_
  refine lv_aload_n hx hb dL_table_2 rfl (lv_at hl 0 rfl) ?_
  refine z_invV (b := xo) (As := []) (rest := [.int (0), .ref (out)]) (n := 0) ⟨hx, hb, hml, hown, hts⟩ (by rw [hsz]; exact hc.frame hd) gL_table_X6_table rfl ⟨rfl, by decide +kernel, by decide +kernel, by decide +kernel⟩ ⟨by simp only [zR]; omega, by simp only [zR]; omega⟩ hK hE hS (ci := 6) rfl (zJ_l hx6) rfl hl.1 rfl (Nat.le_of_ble_eq_true rfl) dL_table_3 ⟨by simp only [zR]; omega, by simp only [zR]; omega⟩ (fun v9 w9 H locs hq hS => ?_)
  obtain ⟨u2, ⟨z, rfl, hp⟩, hdj, rfl⟩ := hq
  refine W.eq (g2 := F0 m 6 ls [.int (z), .int (0), .ref (out)]) rfl ?_
  refine lv_i2l (v := z.toInt64) hx hb dL_table_6 rfl ?_
  refine z_last hx hb hK hS (zJ_r hdj ho) (show ¬ ((0 : Int32) < 0 ∨ 1 ≤ (0 : Int32).toNatClampNeg) by decide) dL_table_7 (fun H locs hS => ?_)
  have hS : zS (zA (zJ u v) sz) D (zJ u2 (va_up v out (some (eJ cs 1 (vp_updL f 0 z.toInt64))))) s.heap H locs := by rw [← zJ_up (hdj.n ho)]; exact hS
  refine lv_goto (tgt := 14) hx hb dL_table_8 (by decide) ?_
  refine lv_iconst (v := 0) hx hb dL_table_14 (by decide) ?_
  exact z_iret hx hb hr hlocks hS (by omega) (by omega) dL_table_15 ⟨rfl, z, u2, hp, hdj, rfl⟩
set_option maxHeartbeats 4000000 in
set_option maxRecDepth 100000 in
theorem x1_L_table (l : Launch) (D : va_G) (cs : Nat → ClassId) {u v : zw} {sz xo out d mc ms : Nat}  {fs : List Value} (hc : zMX l D cs yX6_table wsX6_table d mc ms u sz [.ref (xo)] (fun _ _ => False) (fun E9 => E9 = "java/lang/UnsupportedOperationException")) (hx6 : u xo = some (.inr (6, fs))) (hd : zDj u v) : zML l D cs yL_table wsL_table (d + 1) mc ms (zJ u v) sz [.ref (xo), .ref (out)] (fun r w2 => r = some (.int 1) ∧ w2 = zJ u v) := by
  refine z_metL (cc := cL_table) (maxL := 3) (ret := (some .int)) (hh := [(0, 8, 11, 13)]) (by decide) rfl (Nat.le_of_ble_eq_true rfl) ?_
  intro p e s m below meth c hx hb hr hml hown hts hlocks hT hsz hK hE hN hS ls hl
  have hl : lv_has ls 3 [(0, .ref (xo)), (1, .ref (out))] := hl
  refine lv_aload_n hx hb dL_table_0 rfl (lv_at hl 1 rfl) ?_
  refine lv_iconst (v := 0) hx hb dL_table_1 (by decide) ?_
  refine lv_aload_n hx hb dL_table_2 rfl (lv_at hl 0 rfl) ?_
  refine z_invVX (b := xo) (As := []) (rest := [.int (0), .ref (out)]) (n := 0) ⟨hx, hb, hml, hown, hts⟩ (by rw [hsz]; exact hc.frame hd) gL_table_X6_table rfl ⟨rfl, by decide +kernel, by decide +kernel, by decide +kernel⟩ ⟨by simp only [zR]; omega, by simp only [zR]; omega⟩ hK hE hS (ci := 6) rfl (zJ_l hx6) rfl hl.1 rfl (Nat.le_of_ble_eq_true rfl) dL_table_3 ⟨by simp only [zR]; omega, by simp only [zR]; omega⟩ (fun E ce q9 H locs hpx hS k1 k2 k3 => ?_) (fun v9 w9 H locs hq hS => ?_)
  · subst hpx
    refine vx_catch (own := RL) (name := "java/lang/UnsupportedOperationException") hown [] ⟨0, 8, 11, 13⟩ [] (hT.trans rfl) zall0 (by decide) (by decide) (hts (.classLink RL 13 "java/lang/UnsupportedOperationException") (by decide +kernel)) (va_Nw.use rfl (hE.2.2.2.2.2.2.2.1 _ (by decide))) k1 k2 k3 ?_
    refine lv_astore_n (lv' := [(2, .ref (q9)), (0, .ref (xo)), (1, .ref (out))]) hx hb dL_table_11 rfl hl (by decide) rfl (fun ls hl => ?_)
    refine lv_iconst (v := 1) hx hb dL_table_12 (by decide) ?_
    exact z_iret hx hb hr hlocks hS (by omega) (by omega) dL_table_13 ⟨rfl, rfl⟩
  · obtain ⟨u2, hf, _⟩ := hq
    exact hf.elim
set_option maxHeartbeats 4000000 in
set_option maxRecDepth 100000 in
theorem h_L_stage (l : Launch) (D : va_G) (cs : Nat → ClassId) {u v : zw} {sz xo out d mc ms : Nat} (a0 : Int32) (a1 : Int64) (a2 : Int32) {fs : List Value} {f : Nat → Int64} {post : Int32 → zw → Prop} (hc : zM l D cs yX6_stage wsX6_stage d mc ms u sz [.ref (xo), .int (a0), .long (a1), .int (a2)] (fun r u2 => ∃ z : Int32, r = some (.int z) ∧ post z u2)) (hx6 : u xo = some (.inr (6, fs))) (hd : zDj u v) (ho : v out = some (eJ cs 1 f)) : zML l D cs yL_stage wsL_stage (d + 1) mc ms (zJ u v) sz [.ref (xo), .int (a0), .long (a1), .int (a2), .ref (out)] (fun r w2 => r = some (.int 0) ∧ ∃ (z : Int32) (u2 : zw), post z u2 ∧ zDj u2 v ∧ w2 = zJ u2 (va_up v out (some (eJ cs 1 (vp_updL f 0 z.toInt64))))) := by
  refine z_metL (cc := cL_stage) (maxL := 7) (ret := (some .int)) (hh := [(0, 13, 16, 19), (0, 13, 20, 21), (0, 13, 24, 23), (0, 13, 28, 13)]) (by decide) rfl (Nat.le_of_ble_eq_true rfl) ?_
  intro p e s m below meth c hx hb hr hml hown hts hlocks hT hsz hK hE hN hS ls hl
  have hl : lv_has ls 7 [(0, .ref (xo)), (1, .int (a0)), (2, .long (a1)), (4, .int (a2)), (5, .ref (out))] := hl
  refine lv_aload hx hb dL_stage_0 (lv_at hl 4 rfl) ?_
  refine lv_iconst (v := 0) hx hb dL_stage_2 (by decide) ?_
  refine lv_aload_n hx hb dL_stage_3 rfl (lv_at hl 0 rfl) ?_
  refine lv_iload_n hx hb dL_stage_4 rfl (lv_at hl 1 rfl) ?_
  refine lv_lload_n hx hb dL_stage_5 rfl (lv_at hl 2 rfl) ?_
  refine lv_iload hx hb dL_stage_6 (lv_at hl 3 rfl) ?_
  refine z_invV (b := xo) (As := [.int (a0), .long (a1), .int (a2)]) (rest := [.int (0), .ref (out)]) (n := 3) ⟨hx, hb, hml, hown, hts⟩ (by rw [hsz]; exact hc.frame hd) gL_stage_X6_stage rfl ⟨rfl, by decide +kernel, by decide +kernel, by decide +kernel⟩ ⟨by simp only [zR]; omega, by simp only [zR]; omega⟩ hK hE hS (ci := 6) rfl (zJ_l hx6) rfl hl.1 rfl (Nat.le_of_ble_eq_true rfl) dL_stage_8 ⟨by simp only [zR]; omega, by simp only [zR]; omega⟩ (fun v9 w9 H locs hq hS => ?_)
  obtain ⟨u2, ⟨z, rfl, hp⟩, hdj, rfl⟩ := hq
  refine W.eq (g2 := F0 m 11 ls [.int (z), .int (0), .ref (out)]) rfl ?_
  refine lv_i2l (v := z.toInt64) hx hb dL_stage_11 rfl ?_
  refine z_last hx hb hK hS (zJ_r hdj ho) (show ¬ ((0 : Int32) < 0 ∨ 1 ≤ (0 : Int32).toNatClampNeg) by decide) dL_stage_12 (fun H locs hS => ?_)
  have hS : zS (zA (zJ u v) sz) D (zJ u2 (va_up v out (some (eJ cs 1 (vp_updL f 0 z.toInt64))))) s.heap H locs := by rw [← zJ_up (hdj.n ho)]; exact hS
  refine lv_goto (tgt := 32) hx hb dL_stage_13 (by decide) ?_
  refine lv_iconst (v := 0) hx hb dL_stage_32 (by decide) ?_
  exact z_iret hx hb hr hlocks hS (by omega) (by omega) dL_stage_33 ⟨rfl, z, u2, hp, hdj, rfl⟩
set_option maxHeartbeats 4000000 in
set_option maxRecDepth 100000 in
theorem x1_L_stage (l : Launch) (D : va_G) (cs : Nat → ClassId) {u v : zw} {sz xo out d mc ms : Nat} (a0 : Int32) (a1 : Int64) (a2 : Int32) {fs : List Value} (hc : zMX l D cs yX6_stage wsX6_stage d mc ms u sz [.ref (xo), .int (a0), .long (a1), .int (a2)] (fun _ _ => False) (fun E9 => E9 = "java/lang/IndexOutOfBoundsException")) (hx6 : u xo = some (.inr (6, fs))) (hd : zDj u v) : zML l D cs yL_stage wsL_stage (d + 1) mc ms (zJ u v) sz [.ref (xo), .int (a0), .long (a1), .int (a2), .ref (out)] (fun r w2 => r = some (.int 1) ∧ w2 = zJ u v) := by
  refine z_metL (cc := cL_stage) (maxL := 7) (ret := (some .int)) (hh := [(0, 13, 16, 19), (0, 13, 20, 21), (0, 13, 24, 23), (0, 13, 28, 13)]) (by decide) rfl (Nat.le_of_ble_eq_true rfl) ?_
  intro p e s m below meth c hx hb hr hml hown hts hlocks hT hsz hK hE hN hS ls hl
  have hl : lv_has ls 7 [(0, .ref (xo)), (1, .int (a0)), (2, .long (a1)), (4, .int (a2)), (5, .ref (out))] := hl
  refine lv_aload hx hb dL_stage_0 (lv_at hl 4 rfl) ?_
  refine lv_iconst (v := 0) hx hb dL_stage_2 (by decide) ?_
  refine lv_aload_n hx hb dL_stage_3 rfl (lv_at hl 0 rfl) ?_
  refine lv_iload_n hx hb dL_stage_4 rfl (lv_at hl 1 rfl) ?_
  refine lv_lload_n hx hb dL_stage_5 rfl (lv_at hl 2 rfl) ?_
  refine lv_iload hx hb dL_stage_6 (lv_at hl 3 rfl) ?_
  refine z_invVX (b := xo) (As := [.int (a0), .long (a1), .int (a2)]) (rest := [.int (0), .ref (out)]) (n := 3) ⟨hx, hb, hml, hown, hts⟩ (by rw [hsz]; exact hc.frame hd) gL_stage_X6_stage rfl ⟨rfl, by decide +kernel, by decide +kernel, by decide +kernel⟩ ⟨by simp only [zR]; omega, by simp only [zR]; omega⟩ hK hE hS (ci := 6) rfl (zJ_l hx6) rfl hl.1 rfl (Nat.le_of_ble_eq_true rfl) dL_stage_8 ⟨by simp only [zR]; omega, by simp only [zR]; omega⟩ (fun E ce q9 H locs hpx hS k1 k2 k3 => ?_) (fun v9 w9 H locs hq hS => ?_)
  · subst hpx
    refine vx_catch (own := RL) (name := "java/lang/IndexOutOfBoundsException") hown [] ⟨0, 13, 16, 19⟩ [⟨0, 13, 20, 21⟩, ⟨0, 13, 24, 23⟩, ⟨0, 13, 28, 13⟩] (hT.trans rfl) zall0 (by decide) (by decide) (hts (.classLink RL 19 "java/lang/IndexOutOfBoundsException") (by decide +kernel)) (va_Nw.use rfl (hE.2.2.2.2.2.2.2.1 _ (by decide))) k1 k2 k3 ?_
    refine lv_astore (lv' := [(6, .ref (q9)), (0, .ref (xo)), (1, .int (a0)), (2, .long (a1)), (4, .int (a2)), (5, .ref (out))]) hx hb dL_stage_16 hl (by decide) rfl (fun ls hl => ?_)
    refine lv_iconst (v := 1) hx hb dL_stage_18 (by decide) ?_
    exact z_iret hx hb hr hlocks hS (by omega) (by omega) dL_stage_19 ⟨rfl, rfl⟩
  · obtain ⟨u2, hf, _⟩ := hq
    exact hf.elim
set_option maxHeartbeats 4000000 in
set_option maxRecDepth 100000 in
theorem x2_L_stage (l : Launch) (D : va_G) (cs : Nat → ClassId) {u v : zw} {sz xo out d mc ms : Nat} (a0 : Int32) (a1 : Int64) (a2 : Int32) {fs : List Value} (hc : zMX l D cs yX6_stage wsX6_stage d mc ms u sz [.ref (xo), .int (a0), .long (a1), .int (a2)] (fun _ _ => False) (fun E9 => E9 = "java/lang/IllegalArgumentException")) (hx6 : u xo = some (.inr (6, fs))) (hd : zDj u v) : zML l D cs yL_stage wsL_stage (d + 1) mc ms (zJ u v) sz [.ref (xo), .int (a0), .long (a1), .int (a2), .ref (out)] (fun r w2 => r = some (.int 2) ∧ w2 = zJ u v) := by
  refine z_metL (cc := cL_stage) (maxL := 7) (ret := (some .int)) (hh := [(0, 13, 16, 19), (0, 13, 20, 21), (0, 13, 24, 23), (0, 13, 28, 13)]) (by decide) rfl (Nat.le_of_ble_eq_true rfl) ?_
  intro p e s m below meth c hx hb hr hml hown hts hlocks hT hsz hK hE hN hS ls hl
  have hl : lv_has ls 7 [(0, .ref (xo)), (1, .int (a0)), (2, .long (a1)), (4, .int (a2)), (5, .ref (out))] := hl
  refine lv_aload hx hb dL_stage_0 (lv_at hl 4 rfl) ?_
  refine lv_iconst (v := 0) hx hb dL_stage_2 (by decide) ?_
  refine lv_aload_n hx hb dL_stage_3 rfl (lv_at hl 0 rfl) ?_
  refine lv_iload_n hx hb dL_stage_4 rfl (lv_at hl 1 rfl) ?_
  refine lv_lload_n hx hb dL_stage_5 rfl (lv_at hl 2 rfl) ?_
  refine lv_iload hx hb dL_stage_6 (lv_at hl 3 rfl) ?_
  refine z_invVX (b := xo) (As := [.int (a0), .long (a1), .int (a2)]) (rest := [.int (0), .ref (out)]) (n := 3) ⟨hx, hb, hml, hown, hts⟩ (by rw [hsz]; exact hc.frame hd) gL_stage_X6_stage rfl ⟨rfl, by decide +kernel, by decide +kernel, by decide +kernel⟩ ⟨by simp only [zR]; omega, by simp only [zR]; omega⟩ hK hE hS (ci := 6) rfl (zJ_l hx6) rfl hl.1 rfl (Nat.le_of_ble_eq_true rfl) dL_stage_8 ⟨by simp only [zR]; omega, by simp only [zR]; omega⟩ (fun E ce q9 H locs hpx hS k1 k2 k3 => ?_) (fun v9 w9 H locs hq hS => ?_)
  · subst hpx
    refine vx_catch (own := RL) (name := "java/lang/IllegalArgumentException") hown [⟨0, 13, 16, 19⟩] ⟨0, 13, 20, 21⟩ [⟨0, 13, 24, 23⟩, ⟨0, 13, 28, 13⟩] (hT.trans rfl) (zall1 (Or.inr ⟨by decide, "java/lang/IndexOutOfBoundsException", hts (.classLink RL 19 "java/lang/IndexOutOfBoundsException") (by decide +kernel), hN _ (by decide) _ (by decide) (by decide)⟩) zall0) (by decide) (by decide) (hts (.classLink RL 21 "java/lang/IllegalArgumentException") (by decide +kernel)) (va_Nw.use rfl (hE.2.2.2.2.2.2.2.1 _ (by decide))) k1 k2 k3 ?_
    refine lv_astore (lv' := [(6, .ref (q9)), (0, .ref (xo)), (1, .int (a0)), (2, .long (a1)), (4, .int (a2)), (5, .ref (out))]) hx hb dL_stage_20 hl (by decide) rfl (fun ls hl => ?_)
    refine lv_iconst (v := 2) hx hb dL_stage_22 (by decide) ?_
    exact z_iret hx hb hr hlocks hS (by omega) (by omega) dL_stage_23 ⟨rfl, rfl⟩
  · obtain ⟨u2, hf, _⟩ := hq
    exact hf.elim
set_option maxHeartbeats 4000000 in
set_option maxRecDepth 100000 in
theorem x3_L_stage (l : Launch) (D : va_G) (cs : Nat → ClassId) {u v : zw} {sz xo out d mc ms : Nat} (a0 : Int32) (a1 : Int64) (a2 : Int32) {fs : List Value} (hc : zMX l D cs yX6_stage wsX6_stage d mc ms u sz [.ref (xo), .int (a0), .long (a1), .int (a2)] (fun _ _ => False) (fun E9 => E9 = "java/lang/IllegalStateException")) (hx6 : u xo = some (.inr (6, fs))) (hd : zDj u v) : zML l D cs yL_stage wsL_stage (d + 1) mc ms (zJ u v) sz [.ref (xo), .int (a0), .long (a1), .int (a2), .ref (out)] (fun r w2 => r = some (.int 3) ∧ w2 = zJ u v) := by
  refine z_metL (cc := cL_stage) (maxL := 7) (ret := (some .int)) (hh := [(0, 13, 16, 19), (0, 13, 20, 21), (0, 13, 24, 23), (0, 13, 28, 13)]) (by decide) rfl (Nat.le_of_ble_eq_true rfl) ?_
  intro p e s m below meth c hx hb hr hml hown hts hlocks hT hsz hK hE hN hS ls hl
  have hl : lv_has ls 7 [(0, .ref (xo)), (1, .int (a0)), (2, .long (a1)), (4, .int (a2)), (5, .ref (out))] := hl
  refine lv_aload hx hb dL_stage_0 (lv_at hl 4 rfl) ?_
  refine lv_iconst (v := 0) hx hb dL_stage_2 (by decide) ?_
  refine lv_aload_n hx hb dL_stage_3 rfl (lv_at hl 0 rfl) ?_
  refine lv_iload_n hx hb dL_stage_4 rfl (lv_at hl 1 rfl) ?_
  refine lv_lload_n hx hb dL_stage_5 rfl (lv_at hl 2 rfl) ?_
  refine lv_iload hx hb dL_stage_6 (lv_at hl 3 rfl) ?_
  refine z_invVX (b := xo) (As := [.int (a0), .long (a1), .int (a2)]) (rest := [.int (0), .ref (out)]) (n := 3) ⟨hx, hb, hml, hown, hts⟩ (by rw [hsz]; exact hc.frame hd) gL_stage_X6_stage rfl ⟨rfl, by decide +kernel, by decide +kernel, by decide +kernel⟩ ⟨by simp only [zR]; omega, by simp only [zR]; omega⟩ hK hE hS (ci := 6) rfl (zJ_l hx6) rfl hl.1 rfl (Nat.le_of_ble_eq_true rfl) dL_stage_8 ⟨by simp only [zR]; omega, by simp only [zR]; omega⟩ (fun E ce q9 H locs hpx hS k1 k2 k3 => ?_) (fun v9 w9 H locs hq hS => ?_)
  · subst hpx
    refine vx_catch (own := RL) (name := "java/lang/IllegalStateException") hown [⟨0, 13, 16, 19⟩, ⟨0, 13, 20, 21⟩] ⟨0, 13, 24, 23⟩ [⟨0, 13, 28, 13⟩] (hT.trans rfl) (zall1 (Or.inr ⟨by decide, "java/lang/IndexOutOfBoundsException", hts (.classLink RL 19 "java/lang/IndexOutOfBoundsException") (by decide +kernel), hN _ (by decide) _ (by decide) (by decide)⟩) (zall1 (Or.inr ⟨by decide, "java/lang/IllegalArgumentException", hts (.classLink RL 21 "java/lang/IllegalArgumentException") (by decide +kernel), hN _ (by decide) _ (by decide) (by decide)⟩) zall0)) (by decide) (by decide) (hts (.classLink RL 23 "java/lang/IllegalStateException") (by decide +kernel)) (va_Nw.use rfl (hE.2.2.2.2.2.2.2.1 _ (by decide))) k1 k2 k3 ?_
    refine lv_astore (lv' := [(6, .ref (q9)), (0, .ref (xo)), (1, .int (a0)), (2, .long (a1)), (4, .int (a2)), (5, .ref (out))]) hx hb dL_stage_24 hl (by decide) rfl (fun ls hl => ?_)
    refine lv_iconst (v := 3) hx hb dL_stage_26 (by decide) ?_
    exact z_iret hx hb hr hlocks hS (by omega) (by omega) dL_stage_27 ⟨rfl, rfl⟩
  · obtain ⟨u2, hf, _⟩ := hq
    exact hf.elim
set_option maxHeartbeats 4000000 in
set_option maxRecDepth 100000 in
theorem x4_L_stage (l : Launch) (D : va_G) (cs : Nat → ClassId) {u v : zw} {sz xo out d mc ms : Nat} (a0 : Int32) (a1 : Int64) (a2 : Int32) {fs : List Value} (hc : zMX l D cs yX6_stage wsX6_stage d mc ms u sz [.ref (xo), .int (a0), .long (a1), .int (a2)] (fun _ _ => False) (fun E9 => E9 = "java/lang/UnsupportedOperationException")) (hx6 : u xo = some (.inr (6, fs))) (hd : zDj u v) : zML l D cs yL_stage wsL_stage (d + 1) mc ms (zJ u v) sz [.ref (xo), .int (a0), .long (a1), .int (a2), .ref (out)] (fun r w2 => r = some (.int 4) ∧ w2 = zJ u v) := by
  refine z_metL (cc := cL_stage) (maxL := 7) (ret := (some .int)) (hh := [(0, 13, 16, 19), (0, 13, 20, 21), (0, 13, 24, 23), (0, 13, 28, 13)]) (by decide) rfl (Nat.le_of_ble_eq_true rfl) ?_
  intro p e s m below meth c hx hb hr hml hown hts hlocks hT hsz hK hE hN hS ls hl
  have hl : lv_has ls 7 [(0, .ref (xo)), (1, .int (a0)), (2, .long (a1)), (4, .int (a2)), (5, .ref (out))] := hl
  refine lv_aload hx hb dL_stage_0 (lv_at hl 4 rfl) ?_
  refine lv_iconst (v := 0) hx hb dL_stage_2 (by decide) ?_
  refine lv_aload_n hx hb dL_stage_3 rfl (lv_at hl 0 rfl) ?_
  refine lv_iload_n hx hb dL_stage_4 rfl (lv_at hl 1 rfl) ?_
  refine lv_lload_n hx hb dL_stage_5 rfl (lv_at hl 2 rfl) ?_
  refine lv_iload hx hb dL_stage_6 (lv_at hl 3 rfl) ?_
  refine z_invVX (b := xo) (As := [.int (a0), .long (a1), .int (a2)]) (rest := [.int (0), .ref (out)]) (n := 3) ⟨hx, hb, hml, hown, hts⟩ (by rw [hsz]; exact hc.frame hd) gL_stage_X6_stage rfl ⟨rfl, by decide +kernel, by decide +kernel, by decide +kernel⟩ ⟨by simp only [zR]; omega, by simp only [zR]; omega⟩ hK hE hS (ci := 6) rfl (zJ_l hx6) rfl hl.1 rfl (Nat.le_of_ble_eq_true rfl) dL_stage_8 ⟨by simp only [zR]; omega, by simp only [zR]; omega⟩ (fun E ce q9 H locs hpx hS k1 k2 k3 => ?_) (fun v9 w9 H locs hq hS => ?_)
  · subst hpx
    refine vx_catch (own := RL) (name := "java/lang/UnsupportedOperationException") hown [⟨0, 13, 16, 19⟩, ⟨0, 13, 20, 21⟩, ⟨0, 13, 24, 23⟩] ⟨0, 13, 28, 13⟩ [] (hT.trans rfl) (zall1 (Or.inr ⟨by decide, "java/lang/IndexOutOfBoundsException", hts (.classLink RL 19 "java/lang/IndexOutOfBoundsException") (by decide +kernel), hN _ (by decide) _ (by decide) (by decide)⟩) (zall1 (Or.inr ⟨by decide, "java/lang/IllegalArgumentException", hts (.classLink RL 21 "java/lang/IllegalArgumentException") (by decide +kernel), hN _ (by decide) _ (by decide) (by decide)⟩) (zall1 (Or.inr ⟨by decide, "java/lang/IllegalStateException", hts (.classLink RL 23 "java/lang/IllegalStateException") (by decide +kernel), hN _ (by decide) _ (by decide) (by decide)⟩) zall0))) (by decide) (by decide) (hts (.classLink RL 13 "java/lang/UnsupportedOperationException") (by decide +kernel)) (va_Nw.use rfl (hE.2.2.2.2.2.2.2.1 _ (by decide))) k1 k2 k3 ?_
    refine lv_astore (lv' := [(6, .ref (q9)), (0, .ref (xo)), (1, .int (a0)), (2, .long (a1)), (4, .int (a2)), (5, .ref (out))]) hx hb dL_stage_28 hl (by decide) rfl (fun ls hl => ?_)
    refine lv_iconst (v := 4) hx hb dL_stage_30 (by decide) ?_
    exact z_iret hx hb hr hlocks hS (by omega) (by omega) dL_stage_31 ⟨rfl, rfl⟩
  · obtain ⟨u2, hf, _⟩ := hq
    exact hf.elim
set_option maxHeartbeats 4000000 in
set_option maxRecDepth 100000 in
theorem h_L_tax (l : Launch) (D : va_G) (cs : Nat → ClassId) {u v : zw} {sz xo out d mc ms : Nat} (a0 : Int32) (a1 : Int64) {fs : List Value} {f : Nat → Int64} {post : Int64 → zw → Prop} (hc : zM l D cs yX6_tax wsX6_tax d mc ms u sz [.ref (xo), .int (a0), .long (a1)] (fun r u2 => ∃ z : Int64, r = some (.long z) ∧ post z u2)) (hx6 : u xo = some (.inr (6, fs))) (hd : zDj u v) (ho : v out = some (eJ cs 1 f)) : zML l D cs yL_tax wsL_tax (d + 1) mc ms (zJ u v) sz [.ref (xo), .int (a0), .long (a1), .ref (out)] (fun r w2 => r = some (.int 0) ∧ ∃ (z : Int64) (u2 : zw), post z u2 ∧ zDj u2 v ∧ w2 = zJ u2 (va_up v out (some (eJ cs 1 (vp_updL f 0 z))))) := by
  refine z_metL (cc := cL_tax) (maxL := 6) (ret := (some .int)) (hh := [(0, 10, 13, 19), (0, 10, 17, 21)]) (by decide) rfl (Nat.le_of_ble_eq_true rfl) ?_
  intro p e s m below meth c hx hb hr hml hown hts hlocks hT hsz hK hE hN hS ls hl
  have hl : lv_has ls 6 [(0, .ref (xo)), (1, .int (a0)), (2, .long (a1)), (4, .ref (out))] := hl
  refine lv_aload hx hb dL_tax_0 (lv_at hl 3 rfl) ?_
  refine lv_iconst (v := 0) hx hb dL_tax_2 (by decide) ?_
  refine lv_aload_n hx hb dL_tax_3 rfl (lv_at hl 0 rfl) ?_
  refine lv_iload_n hx hb dL_tax_4 rfl (lv_at hl 1 rfl) ?_
  refine lv_lload_n hx hb dL_tax_5 rfl (lv_at hl 2 rfl) ?_
  refine z_invV (b := xo) (As := [.int (a0), .long (a1)]) (rest := [.int (0), .ref (out)]) (n := 2) ⟨hx, hb, hml, hown, hts⟩ (by rw [hsz]; exact hc.frame hd) gL_tax_X6_tax rfl ⟨rfl, by decide +kernel, by decide +kernel, by decide +kernel⟩ ⟨by simp only [zR]; omega, by simp only [zR]; omega⟩ hK hE hS (ci := 6) rfl (zJ_l hx6) rfl hl.1 rfl (Nat.le_of_ble_eq_true rfl) dL_tax_6 ⟨by simp only [zR]; omega, by simp only [zR]; omega⟩ (fun v9 w9 H locs hq hS => ?_)
  obtain ⟨u2, ⟨z, rfl, hp⟩, hdj, rfl⟩ := hq
  refine W.eq (g2 := F0 m 9 ls [.long (z), .int (0), .ref (out)]) rfl ?_
  refine z_last hx hb hK hS (zJ_r hdj ho) (show ¬ ((0 : Int32) < 0 ∨ 1 ≤ (0 : Int32).toNatClampNeg) by decide) dL_tax_9 (fun H locs hS => ?_)
  have hS : zS (zA (zJ u v) sz) D (zJ u2 (va_up v out (some (eJ cs 1 (vp_updL f 0 z))))) s.heap H locs := by rw [← zJ_up (hdj.n ho)]; exact hS
  refine lv_goto (tgt := 21) hx hb dL_tax_10 (by decide) ?_
  refine lv_iconst (v := 0) hx hb dL_tax_21 (by decide) ?_
  exact z_iret hx hb hr hlocks hS (by omega) (by omega) dL_tax_22 ⟨rfl, z, u2, hp, hdj, rfl⟩
set_option maxHeartbeats 4000000 in
set_option maxRecDepth 100000 in
theorem x1_L_tax (l : Launch) (D : va_G) (cs : Nat → ClassId) {u v : zw} {sz xo out d mc ms : Nat} (a0 : Int32) (a1 : Int64) {fs : List Value} (hc : zMX l D cs yX6_tax wsX6_tax d mc ms u sz [.ref (xo), .int (a0), .long (a1)] (fun _ _ => False) (fun E9 => E9 = "java/lang/IndexOutOfBoundsException")) (hx6 : u xo = some (.inr (6, fs))) (hd : zDj u v) : zML l D cs yL_tax wsL_tax (d + 1) mc ms (zJ u v) sz [.ref (xo), .int (a0), .long (a1), .ref (out)] (fun r w2 => r = some (.int 1) ∧ w2 = zJ u v) := by
  refine z_metL (cc := cL_tax) (maxL := 6) (ret := (some .int)) (hh := [(0, 10, 13, 19), (0, 10, 17, 21)]) (by decide) rfl (Nat.le_of_ble_eq_true rfl) ?_
  intro p e s m below meth c hx hb hr hml hown hts hlocks hT hsz hK hE hN hS ls hl
  have hl : lv_has ls 6 [(0, .ref (xo)), (1, .int (a0)), (2, .long (a1)), (4, .ref (out))] := hl
  refine lv_aload hx hb dL_tax_0 (lv_at hl 3 rfl) ?_
  refine lv_iconst (v := 0) hx hb dL_tax_2 (by decide) ?_
  refine lv_aload_n hx hb dL_tax_3 rfl (lv_at hl 0 rfl) ?_
  refine lv_iload_n hx hb dL_tax_4 rfl (lv_at hl 1 rfl) ?_
  refine lv_lload_n hx hb dL_tax_5 rfl (lv_at hl 2 rfl) ?_
  refine z_invVX (b := xo) (As := [.int (a0), .long (a1)]) (rest := [.int (0), .ref (out)]) (n := 2) ⟨hx, hb, hml, hown, hts⟩ (by rw [hsz]; exact hc.frame hd) gL_tax_X6_tax rfl ⟨rfl, by decide +kernel, by decide +kernel, by decide +kernel⟩ ⟨by simp only [zR]; omega, by simp only [zR]; omega⟩ hK hE hS (ci := 6) rfl (zJ_l hx6) rfl hl.1 rfl (Nat.le_of_ble_eq_true rfl) dL_tax_6 ⟨by simp only [zR]; omega, by simp only [zR]; omega⟩ (fun E ce q9 H locs hpx hS k1 k2 k3 => ?_) (fun v9 w9 H locs hq hS => ?_)
  · subst hpx
    refine vx_catch (own := RL) (name := "java/lang/IndexOutOfBoundsException") hown [] ⟨0, 10, 13, 19⟩ [⟨0, 10, 17, 21⟩] (hT.trans rfl) zall0 (by decide) (by decide) (hts (.classLink RL 19 "java/lang/IndexOutOfBoundsException") (by decide +kernel)) (va_Nw.use rfl (hE.2.2.2.2.2.2.2.1 _ (by decide))) k1 k2 k3 ?_
    refine lv_astore (lv' := [(5, .ref (q9)), (0, .ref (xo)), (1, .int (a0)), (2, .long (a1)), (4, .ref (out))]) hx hb dL_tax_13 hl (by decide) rfl (fun ls hl => ?_)
    refine lv_iconst (v := 1) hx hb dL_tax_15 (by decide) ?_
    exact z_iret hx hb hr hlocks hS (by omega) (by omega) dL_tax_16 ⟨rfl, rfl⟩
  · obtain ⟨u2, hf, _⟩ := hq
    exact hf.elim
set_option maxHeartbeats 4000000 in
set_option maxRecDepth 100000 in
theorem x2_L_tax (l : Launch) (D : va_G) (cs : Nat → ClassId) {u v : zw} {sz xo out d mc ms : Nat} (a0 : Int32) (a1 : Int64) {fs : List Value} (hc : zMX l D cs yX6_tax wsX6_tax d mc ms u sz [.ref (xo), .int (a0), .long (a1)] (fun _ _ => False) (fun E9 => E9 = "java/lang/IllegalArgumentException")) (hx6 : u xo = some (.inr (6, fs))) (hd : zDj u v) : zML l D cs yL_tax wsL_tax (d + 1) mc ms (zJ u v) sz [.ref (xo), .int (a0), .long (a1), .ref (out)] (fun r w2 => r = some (.int 2) ∧ w2 = zJ u v) := by
  refine z_metL (cc := cL_tax) (maxL := 6) (ret := (some .int)) (hh := [(0, 10, 13, 19), (0, 10, 17, 21)]) (by decide) rfl (Nat.le_of_ble_eq_true rfl) ?_
  intro p e s m below meth c hx hb hr hml hown hts hlocks hT hsz hK hE hN hS ls hl
  have hl : lv_has ls 6 [(0, .ref (xo)), (1, .int (a0)), (2, .long (a1)), (4, .ref (out))] := hl
  refine lv_aload hx hb dL_tax_0 (lv_at hl 3 rfl) ?_
  refine lv_iconst (v := 0) hx hb dL_tax_2 (by decide) ?_
  refine lv_aload_n hx hb dL_tax_3 rfl (lv_at hl 0 rfl) ?_
  refine lv_iload_n hx hb dL_tax_4 rfl (lv_at hl 1 rfl) ?_
  refine lv_lload_n hx hb dL_tax_5 rfl (lv_at hl 2 rfl) ?_
  refine z_invVX (b := xo) (As := [.int (a0), .long (a1)]) (rest := [.int (0), .ref (out)]) (n := 2) ⟨hx, hb, hml, hown, hts⟩ (by rw [hsz]; exact hc.frame hd) gL_tax_X6_tax rfl ⟨rfl, by decide +kernel, by decide +kernel, by decide +kernel⟩ ⟨by simp only [zR]; omega, by simp only [zR]; omega⟩ hK hE hS (ci := 6) rfl (zJ_l hx6) rfl hl.1 rfl (Nat.le_of_ble_eq_true rfl) dL_tax_6 ⟨by simp only [zR]; omega, by simp only [zR]; omega⟩ (fun E ce q9 H locs hpx hS k1 k2 k3 => ?_) (fun v9 w9 H locs hq hS => ?_)
  · subst hpx
    refine vx_catch (own := RL) (name := "java/lang/IllegalArgumentException") hown [⟨0, 10, 13, 19⟩] ⟨0, 10, 17, 21⟩ [] (hT.trans rfl) (zall1 (Or.inr ⟨by decide, "java/lang/IndexOutOfBoundsException", hts (.classLink RL 19 "java/lang/IndexOutOfBoundsException") (by decide +kernel), hN _ (by decide) _ (by decide) (by decide)⟩) zall0) (by decide) (by decide) (hts (.classLink RL 21 "java/lang/IllegalArgumentException") (by decide +kernel)) (va_Nw.use rfl (hE.2.2.2.2.2.2.2.1 _ (by decide))) k1 k2 k3 ?_
    refine lv_astore (lv' := [(5, .ref (q9)), (0, .ref (xo)), (1, .int (a0)), (2, .long (a1)), (4, .ref (out))]) hx hb dL_tax_17 hl (by decide) rfl (fun ls hl => ?_)
    refine lv_iconst (v := 2) hx hb dL_tax_19 (by decide) ?_
    exact z_iret hx hb hr hlocks hS (by omega) (by omega) dL_tax_20 ⟨rfl, rfl⟩
  · obtain ⟨u2, hf, _⟩ := hq
    exact hf.elim
set_option maxHeartbeats 4000000 in
set_option maxRecDepth 100000 in
theorem h_L_deduction (l : Launch) (D : va_G) (cs : Nat → ClassId) {u v : zw} {sz xo out d mc ms : Nat} (a0 : Int32) (a1 : Int32) (a2 : Int64) (a3 : Int64) (a4 : Int64) {fs : List Value} {f : Nat → Int64} {post : Int32 → zw → Prop} (hc : zM l D cs yX6_deduction wsX6_deduction d mc ms u sz [.ref (xo), .int (a0), .int (a1), .long (a2), .long (a3), .long (a4)] (fun r u2 => ∃ z : Int32, r = some (.int z) ∧ post z u2)) (hx6 : u xo = some (.inr (6, fs))) (hd : zDj u v) (ho : v out = some (eJ cs 1 f)) : zML l D cs yL_deduction wsL_deduction (d + 1) mc ms (zJ u v) sz [.ref (xo), .int (a0), .int (a1), .long (a2), .long (a3), .long (a4), .ref (out)] (fun r w2 => r = some (.int 0) ∧ ∃ (z : Int32) (u2 : zw), post z u2 ∧ zDj u2 v ∧ w2 = zJ u2 (va_up v out (some (eJ cs 1 (vp_updL f 0 z.toInt64))))) := by
  refine z_metL (cc := cL_deduction) (maxL := 11) (ret := (some .int)) (hh := [(0, 16, 19, 21), (0, 16, 23, 13)]) (by decide) rfl (Nat.le_of_ble_eq_true rfl) ?_
  intro p e s m below meth c hx hb hr hml hown hts hlocks hT hsz hK hE hN hS ls hl
  have hl : lv_has ls 11 [(0, .ref (xo)), (1, .int (a0)), (2, .int (a1)), (3, .long (a2)), (5, .long (a3)), (7, .long (a4)), (9, .ref (out))] := hl
  refine lv_aload hx hb dL_deduction_0 (lv_at hl 6 rfl) ?_
  refine lv_iconst (v := 0) hx hb dL_deduction_2 (by decide) ?_
  refine lv_aload_n hx hb dL_deduction_3 rfl (lv_at hl 0 rfl) ?_
  refine lv_iload_n hx hb dL_deduction_4 rfl (lv_at hl 1 rfl) ?_
  refine lv_iload_n hx hb dL_deduction_5 rfl (lv_at hl 2 rfl) ?_
  refine lv_lload_n hx hb dL_deduction_6 rfl (lv_at hl 3 rfl) ?_
  refine lv_lload hx hb dL_deduction_7 (lv_at hl 4 rfl) ?_
  refine lv_lload hx hb dL_deduction_9 (lv_at hl 5 rfl) ?_
  refine z_invV (b := xo) (As := [.int (a0), .int (a1), .long (a2), .long (a3), .long (a4)]) (rest := [.int (0), .ref (out)]) (n := 5) ⟨hx, hb, hml, hown, hts⟩ (by rw [hsz]; exact hc.frame hd) gL_deduction_X6_deduction rfl ⟨rfl, by decide +kernel, by decide +kernel, by decide +kernel⟩ ⟨by simp only [zR]; omega, by simp only [zR]; omega⟩ hK hE hS (ci := 6) rfl (zJ_l hx6) rfl hl.1 rfl (Nat.le_of_ble_eq_true rfl) dL_deduction_11 ⟨by simp only [zR]; omega, by simp only [zR]; omega⟩ (fun v9 w9 H locs hq hS => ?_)
  obtain ⟨u2, ⟨z, rfl, hp⟩, hdj, rfl⟩ := hq
  refine W.eq (g2 := F0 m 14 ls [.int (z), .int (0), .ref (out)]) rfl ?_
  refine lv_i2l (v := z.toInt64) hx hb dL_deduction_14 rfl ?_
  refine z_last hx hb hK hS (zJ_r hdj ho) (show ¬ ((0 : Int32) < 0 ∨ 1 ≤ (0 : Int32).toNatClampNeg) by decide) dL_deduction_15 (fun H locs hS => ?_)
  have hS : zS (zA (zJ u v) sz) D (zJ u2 (va_up v out (some (eJ cs 1 (vp_updL f 0 z.toInt64))))) s.heap H locs := by rw [← zJ_up (hdj.n ho)]; exact hS
  refine lv_goto (tgt := 27) hx hb dL_deduction_16 (by decide) ?_
  refine lv_iconst (v := 0) hx hb dL_deduction_27 (by decide) ?_
  exact z_iret hx hb hr hlocks hS (by omega) (by omega) dL_deduction_28 ⟨rfl, z, u2, hp, hdj, rfl⟩
set_option maxHeartbeats 4000000 in
set_option maxRecDepth 100000 in
theorem x1_L_deduction (l : Launch) (D : va_G) (cs : Nat → ClassId) {u v : zw} {sz xo out d mc ms : Nat} (a0 : Int32) (a1 : Int32) (a2 : Int64) (a3 : Int64) (a4 : Int64) {fs : List Value} (hc : zMX l D cs yX6_deduction wsX6_deduction d mc ms u sz [.ref (xo), .int (a0), .int (a1), .long (a2), .long (a3), .long (a4)] (fun _ _ => False) (fun E9 => E9 = "java/lang/IllegalArgumentException")) (hx6 : u xo = some (.inr (6, fs))) (hd : zDj u v) : zML l D cs yL_deduction wsL_deduction (d + 1) mc ms (zJ u v) sz [.ref (xo), .int (a0), .int (a1), .long (a2), .long (a3), .long (a4), .ref (out)] (fun r w2 => r = some (.int 1) ∧ w2 = zJ u v) := by
  refine z_metL (cc := cL_deduction) (maxL := 11) (ret := (some .int)) (hh := [(0, 16, 19, 21), (0, 16, 23, 13)]) (by decide) rfl (Nat.le_of_ble_eq_true rfl) ?_
  intro p e s m below meth c hx hb hr hml hown hts hlocks hT hsz hK hE hN hS ls hl
  have hl : lv_has ls 11 [(0, .ref (xo)), (1, .int (a0)), (2, .int (a1)), (3, .long (a2)), (5, .long (a3)), (7, .long (a4)), (9, .ref (out))] := hl
  refine lv_aload hx hb dL_deduction_0 (lv_at hl 6 rfl) ?_
  refine lv_iconst (v := 0) hx hb dL_deduction_2 (by decide) ?_
  refine lv_aload_n hx hb dL_deduction_3 rfl (lv_at hl 0 rfl) ?_
  refine lv_iload_n hx hb dL_deduction_4 rfl (lv_at hl 1 rfl) ?_
  refine lv_iload_n hx hb dL_deduction_5 rfl (lv_at hl 2 rfl) ?_
  refine lv_lload_n hx hb dL_deduction_6 rfl (lv_at hl 3 rfl) ?_
  refine lv_lload hx hb dL_deduction_7 (lv_at hl 4 rfl) ?_
  refine lv_lload hx hb dL_deduction_9 (lv_at hl 5 rfl) ?_
  refine z_invVX (b := xo) (As := [.int (a0), .int (a1), .long (a2), .long (a3), .long (a4)]) (rest := [.int (0), .ref (out)]) (n := 5) ⟨hx, hb, hml, hown, hts⟩ (by rw [hsz]; exact hc.frame hd) gL_deduction_X6_deduction rfl ⟨rfl, by decide +kernel, by decide +kernel, by decide +kernel⟩ ⟨by simp only [zR]; omega, by simp only [zR]; omega⟩ hK hE hS (ci := 6) rfl (zJ_l hx6) rfl hl.1 rfl (Nat.le_of_ble_eq_true rfl) dL_deduction_11 ⟨by simp only [zR]; omega, by simp only [zR]; omega⟩ (fun E ce q9 H locs hpx hS k1 k2 k3 => ?_) (fun v9 w9 H locs hq hS => ?_)
  · subst hpx
    refine vx_catch (own := RL) (name := "java/lang/IllegalArgumentException") hown [] ⟨0, 16, 19, 21⟩ [⟨0, 16, 23, 13⟩] (hT.trans rfl) zall0 (by decide) (by decide) (hts (.classLink RL 21 "java/lang/IllegalArgumentException") (by decide +kernel)) (va_Nw.use rfl (hE.2.2.2.2.2.2.2.1 _ (by decide))) k1 k2 k3 ?_
    refine lv_astore (lv' := [(10, .ref (q9)), (0, .ref (xo)), (1, .int (a0)), (2, .int (a1)), (3, .long (a2)), (5, .long (a3)), (7, .long (a4)), (9, .ref (out))]) hx hb dL_deduction_19 hl (by decide) rfl (fun ls hl => ?_)
    refine lv_iconst (v := 1) hx hb dL_deduction_21 (by decide) ?_
    exact z_iret hx hb hr hlocks hS (by omega) (by omega) dL_deduction_22 ⟨rfl, rfl⟩
  · obtain ⟨u2, hf, _⟩ := hq
    exact hf.elim
set_option maxHeartbeats 4000000 in
set_option maxRecDepth 100000 in
theorem x2_L_deduction (l : Launch) (D : va_G) (cs : Nat → ClassId) {u v : zw} {sz xo out d mc ms : Nat} (a0 : Int32) (a1 : Int32) (a2 : Int64) (a3 : Int64) (a4 : Int64) {fs : List Value} (hc : zMX l D cs yX6_deduction wsX6_deduction d mc ms u sz [.ref (xo), .int (a0), .int (a1), .long (a2), .long (a3), .long (a4)] (fun _ _ => False) (fun E9 => E9 = "java/lang/UnsupportedOperationException")) (hx6 : u xo = some (.inr (6, fs))) (hd : zDj u v) : zML l D cs yL_deduction wsL_deduction (d + 1) mc ms (zJ u v) sz [.ref (xo), .int (a0), .int (a1), .long (a2), .long (a3), .long (a4), .ref (out)] (fun r w2 => r = some (.int 2) ∧ w2 = zJ u v) := by
  refine z_metL (cc := cL_deduction) (maxL := 11) (ret := (some .int)) (hh := [(0, 16, 19, 21), (0, 16, 23, 13)]) (by decide) rfl (Nat.le_of_ble_eq_true rfl) ?_
  intro p e s m below meth c hx hb hr hml hown hts hlocks hT hsz hK hE hN hS ls hl
  have hl : lv_has ls 11 [(0, .ref (xo)), (1, .int (a0)), (2, .int (a1)), (3, .long (a2)), (5, .long (a3)), (7, .long (a4)), (9, .ref (out))] := hl
  refine lv_aload hx hb dL_deduction_0 (lv_at hl 6 rfl) ?_
  refine lv_iconst (v := 0) hx hb dL_deduction_2 (by decide) ?_
  refine lv_aload_n hx hb dL_deduction_3 rfl (lv_at hl 0 rfl) ?_
  refine lv_iload_n hx hb dL_deduction_4 rfl (lv_at hl 1 rfl) ?_
  refine lv_iload_n hx hb dL_deduction_5 rfl (lv_at hl 2 rfl) ?_
  refine lv_lload_n hx hb dL_deduction_6 rfl (lv_at hl 3 rfl) ?_
  refine lv_lload hx hb dL_deduction_7 (lv_at hl 4 rfl) ?_
  refine lv_lload hx hb dL_deduction_9 (lv_at hl 5 rfl) ?_
  refine z_invVX (b := xo) (As := [.int (a0), .int (a1), .long (a2), .long (a3), .long (a4)]) (rest := [.int (0), .ref (out)]) (n := 5) ⟨hx, hb, hml, hown, hts⟩ (by rw [hsz]; exact hc.frame hd) gL_deduction_X6_deduction rfl ⟨rfl, by decide +kernel, by decide +kernel, by decide +kernel⟩ ⟨by simp only [zR]; omega, by simp only [zR]; omega⟩ hK hE hS (ci := 6) rfl (zJ_l hx6) rfl hl.1 rfl (Nat.le_of_ble_eq_true rfl) dL_deduction_11 ⟨by simp only [zR]; omega, by simp only [zR]; omega⟩ (fun E ce q9 H locs hpx hS k1 k2 k3 => ?_) (fun v9 w9 H locs hq hS => ?_)
  · subst hpx
    refine vx_catch (own := RL) (name := "java/lang/UnsupportedOperationException") hown [⟨0, 16, 19, 21⟩] ⟨0, 16, 23, 13⟩ [] (hT.trans rfl) (zall1 (Or.inr ⟨by decide, "java/lang/IllegalArgumentException", hts (.classLink RL 21 "java/lang/IllegalArgumentException") (by decide +kernel), hN _ (by decide) _ (by decide) (by decide)⟩) zall0) (by decide) (by decide) (hts (.classLink RL 13 "java/lang/UnsupportedOperationException") (by decide +kernel)) (va_Nw.use rfl (hE.2.2.2.2.2.2.2.1 _ (by decide))) k1 k2 k3 ?_
    refine lv_astore (lv' := [(10, .ref (q9)), (0, .ref (xo)), (1, .int (a0)), (2, .int (a1)), (3, .long (a2)), (5, .long (a3)), (7, .long (a4)), (9, .ref (out))]) hx hb dL_deduction_23 hl (by decide) rfl (fun ls hl => ?_)
    refine lv_iconst (v := 2) hx hb dL_deduction_25 (by decide) ?_
    exact z_iret hx hb hr hlocks hS (by omega) (by omega) dL_deduction_26 ⟨rfl, rfl⟩
  · obtain ⟨u2, hf, _⟩ := hq
    exact hf.elim
set_option maxHeartbeats 4000000 in
set_option maxRecDepth 100000 in
theorem h_L_employ (l : Launch) (D : va_G) (cs : Nat → ClassId) {u v : zw} {sz xo out d mc ms : Nat} (a0 : Int32) (a1 : Int32) (a2 : Int32) {fs : List Value} {f : Nat → Int64} {post : Int32 → zw → Prop} (hc : zM l D cs yX6_employ wsX6_employ d mc ms u sz [.ref (xo), .int (a0), .int (a1), .int (a2)] (fun r u2 => ∃ z : Int32, r = some (.int z) ∧ post z u2)) (hx6 : u xo = some (.inr (6, fs))) (hd : zDj u v) (ho : v out = some (eJ cs 1 f)) : zML l D cs yL_employ wsL_employ (d + 1) mc ms (zJ u v) sz [.ref (xo), .int (a0), .int (a1), .int (a2), .ref (out)] (fun r w2 => r = some (.int 0) ∧ ∃ (z : Int32) (u2 : zw), post z u2 ∧ zDj u2 v ∧ w2 = zJ u2 (va_up v out (some (eJ cs 1 (vp_updL f 0 z.toInt64))))) := by
  refine z_metL (cc := cL_employ) (maxL := 6) (ret := (some .int)) (hh := [(0, 12, 15, 19), (0, 12, 19, 21), (0, 12, 23, 13)]) (by decide) rfl (Nat.le_of_ble_eq_true rfl) ?_
  intro p e s m below meth c hx hb hr hml hown hts hlocks hT hsz hK hE hN hS ls hl
  have hl : lv_has ls 6 [(0, .ref (xo)), (1, .int (a0)), (2, .int (a1)), (3, .int (a2)), (4, .ref (out))] := hl
  refine lv_aload hx hb dL_employ_0 (lv_at hl 4 rfl) ?_
  refine lv_iconst (v := 0) hx hb dL_employ_2 (by decide) ?_
  refine lv_aload_n hx hb dL_employ_3 rfl (lv_at hl 0 rfl) ?_
  refine lv_iload_n hx hb dL_employ_4 rfl (lv_at hl 1 rfl) ?_
  refine lv_iload_n hx hb dL_employ_5 rfl (lv_at hl 2 rfl) ?_
  refine lv_iload_n hx hb dL_employ_6 rfl (lv_at hl 3 rfl) ?_
  refine z_invV (b := xo) (As := [.int (a0), .int (a1), .int (a2)]) (rest := [.int (0), .ref (out)]) (n := 3) ⟨hx, hb, hml, hown, hts⟩ (by rw [hsz]; exact hc.frame hd) gL_employ_X6_employ rfl ⟨rfl, by decide +kernel, by decide +kernel, by decide +kernel⟩ ⟨by simp only [zR]; omega, by simp only [zR]; omega⟩ hK hE hS (ci := 6) rfl (zJ_l hx6) rfl hl.1 rfl (Nat.le_of_ble_eq_true rfl) dL_employ_7 ⟨by simp only [zR]; omega, by simp only [zR]; omega⟩ (fun v9 w9 H locs hq hS => ?_)
  obtain ⟨u2, ⟨z, rfl, hp⟩, hdj, rfl⟩ := hq
  refine W.eq (g2 := F0 m 10 ls [.int (z), .int (0), .ref (out)]) rfl ?_
  refine lv_i2l (v := z.toInt64) hx hb dL_employ_10 rfl ?_
  refine z_last hx hb hK hS (zJ_r hdj ho) (show ¬ ((0 : Int32) < 0 ∨ 1 ≤ (0 : Int32).toNatClampNeg) by decide) dL_employ_11 (fun H locs hS => ?_)
  have hS : zS (zA (zJ u v) sz) D (zJ u2 (va_up v out (some (eJ cs 1 (vp_updL f 0 z.toInt64))))) s.heap H locs := by rw [← zJ_up (hdj.n ho)]; exact hS
  refine lv_goto (tgt := 27) hx hb dL_employ_12 (by decide) ?_
  refine lv_iconst (v := 0) hx hb dL_employ_27 (by decide) ?_
  exact z_iret hx hb hr hlocks hS (by omega) (by omega) dL_employ_28 ⟨rfl, z, u2, hp, hdj, rfl⟩
set_option maxHeartbeats 4000000 in
set_option maxRecDepth 100000 in
theorem x1_L_employ (l : Launch) (D : va_G) (cs : Nat → ClassId) {u v : zw} {sz xo out d mc ms : Nat} (a0 : Int32) (a1 : Int32) (a2 : Int32) {fs : List Value} (hc : zMX l D cs yX6_employ wsX6_employ d mc ms u sz [.ref (xo), .int (a0), .int (a1), .int (a2)] (fun _ _ => False) (fun E9 => E9 = "java/lang/IndexOutOfBoundsException")) (hx6 : u xo = some (.inr (6, fs))) (hd : zDj u v) : zML l D cs yL_employ wsL_employ (d + 1) mc ms (zJ u v) sz [.ref (xo), .int (a0), .int (a1), .int (a2), .ref (out)] (fun r w2 => r = some (.int 1) ∧ w2 = zJ u v) := by
  refine z_metL (cc := cL_employ) (maxL := 6) (ret := (some .int)) (hh := [(0, 12, 15, 19), (0, 12, 19, 21), (0, 12, 23, 13)]) (by decide) rfl (Nat.le_of_ble_eq_true rfl) ?_
  intro p e s m below meth c hx hb hr hml hown hts hlocks hT hsz hK hE hN hS ls hl
  have hl : lv_has ls 6 [(0, .ref (xo)), (1, .int (a0)), (2, .int (a1)), (3, .int (a2)), (4, .ref (out))] := hl
  refine lv_aload hx hb dL_employ_0 (lv_at hl 4 rfl) ?_
  refine lv_iconst (v := 0) hx hb dL_employ_2 (by decide) ?_
  refine lv_aload_n hx hb dL_employ_3 rfl (lv_at hl 0 rfl) ?_
  refine lv_iload_n hx hb dL_employ_4 rfl (lv_at hl 1 rfl) ?_
  refine lv_iload_n hx hb dL_employ_5 rfl (lv_at hl 2 rfl) ?_
  refine lv_iload_n hx hb dL_employ_6 rfl (lv_at hl 3 rfl) ?_
  refine z_invVX (b := xo) (As := [.int (a0), .int (a1), .int (a2)]) (rest := [.int (0), .ref (out)]) (n := 3) ⟨hx, hb, hml, hown, hts⟩ (by rw [hsz]; exact hc.frame hd) gL_employ_X6_employ rfl ⟨rfl, by decide +kernel, by decide +kernel, by decide +kernel⟩ ⟨by simp only [zR]; omega, by simp only [zR]; omega⟩ hK hE hS (ci := 6) rfl (zJ_l hx6) rfl hl.1 rfl (Nat.le_of_ble_eq_true rfl) dL_employ_7 ⟨by simp only [zR]; omega, by simp only [zR]; omega⟩ (fun E ce q9 H locs hpx hS k1 k2 k3 => ?_) (fun v9 w9 H locs hq hS => ?_)
  · subst hpx
    refine vx_catch (own := RL) (name := "java/lang/IndexOutOfBoundsException") hown [] ⟨0, 12, 15, 19⟩ [⟨0, 12, 19, 21⟩, ⟨0, 12, 23, 13⟩] (hT.trans rfl) zall0 (by decide) (by decide) (hts (.classLink RL 19 "java/lang/IndexOutOfBoundsException") (by decide +kernel)) (va_Nw.use rfl (hE.2.2.2.2.2.2.2.1 _ (by decide))) k1 k2 k3 ?_
    refine lv_astore (lv' := [(5, .ref (q9)), (0, .ref (xo)), (1, .int (a0)), (2, .int (a1)), (3, .int (a2)), (4, .ref (out))]) hx hb dL_employ_15 hl (by decide) rfl (fun ls hl => ?_)
    refine lv_iconst (v := 1) hx hb dL_employ_17 (by decide) ?_
    exact z_iret hx hb hr hlocks hS (by omega) (by omega) dL_employ_18 ⟨rfl, rfl⟩
  · obtain ⟨u2, hf, _⟩ := hq
    exact hf.elim
set_option maxHeartbeats 4000000 in
set_option maxRecDepth 100000 in
theorem x2_L_employ (l : Launch) (D : va_G) (cs : Nat → ClassId) {u v : zw} {sz xo out d mc ms : Nat} (a0 : Int32) (a1 : Int32) (a2 : Int32) {fs : List Value} (hc : zMX l D cs yX6_employ wsX6_employ d mc ms u sz [.ref (xo), .int (a0), .int (a1), .int (a2)] (fun _ _ => False) (fun E9 => E9 = "java/lang/IllegalArgumentException")) (hx6 : u xo = some (.inr (6, fs))) (hd : zDj u v) : zML l D cs yL_employ wsL_employ (d + 1) mc ms (zJ u v) sz [.ref (xo), .int (a0), .int (a1), .int (a2), .ref (out)] (fun r w2 => r = some (.int 2) ∧ w2 = zJ u v) := by
  refine z_metL (cc := cL_employ) (maxL := 6) (ret := (some .int)) (hh := [(0, 12, 15, 19), (0, 12, 19, 21), (0, 12, 23, 13)]) (by decide) rfl (Nat.le_of_ble_eq_true rfl) ?_
  intro p e s m below meth c hx hb hr hml hown hts hlocks hT hsz hK hE hN hS ls hl
  have hl : lv_has ls 6 [(0, .ref (xo)), (1, .int (a0)), (2, .int (a1)), (3, .int (a2)), (4, .ref (out))] := hl
  refine lv_aload hx hb dL_employ_0 (lv_at hl 4 rfl) ?_
  refine lv_iconst (v := 0) hx hb dL_employ_2 (by decide) ?_
  refine lv_aload_n hx hb dL_employ_3 rfl (lv_at hl 0 rfl) ?_
  refine lv_iload_n hx hb dL_employ_4 rfl (lv_at hl 1 rfl) ?_
  refine lv_iload_n hx hb dL_employ_5 rfl (lv_at hl 2 rfl) ?_
  refine lv_iload_n hx hb dL_employ_6 rfl (lv_at hl 3 rfl) ?_
  refine z_invVX (b := xo) (As := [.int (a0), .int (a1), .int (a2)]) (rest := [.int (0), .ref (out)]) (n := 3) ⟨hx, hb, hml, hown, hts⟩ (by rw [hsz]; exact hc.frame hd) gL_employ_X6_employ rfl ⟨rfl, by decide +kernel, by decide +kernel, by decide +kernel⟩ ⟨by simp only [zR]; omega, by simp only [zR]; omega⟩ hK hE hS (ci := 6) rfl (zJ_l hx6) rfl hl.1 rfl (Nat.le_of_ble_eq_true rfl) dL_employ_7 ⟨by simp only [zR]; omega, by simp only [zR]; omega⟩ (fun E ce q9 H locs hpx hS k1 k2 k3 => ?_) (fun v9 w9 H locs hq hS => ?_)
  · subst hpx
    refine vx_catch (own := RL) (name := "java/lang/IllegalArgumentException") hown [⟨0, 12, 15, 19⟩] ⟨0, 12, 19, 21⟩ [⟨0, 12, 23, 13⟩] (hT.trans rfl) (zall1 (Or.inr ⟨by decide, "java/lang/IndexOutOfBoundsException", hts (.classLink RL 19 "java/lang/IndexOutOfBoundsException") (by decide +kernel), hN _ (by decide) _ (by decide) (by decide)⟩) zall0) (by decide) (by decide) (hts (.classLink RL 21 "java/lang/IllegalArgumentException") (by decide +kernel)) (va_Nw.use rfl (hE.2.2.2.2.2.2.2.1 _ (by decide))) k1 k2 k3 ?_
    refine lv_astore (lv' := [(5, .ref (q9)), (0, .ref (xo)), (1, .int (a0)), (2, .int (a1)), (3, .int (a2)), (4, .ref (out))]) hx hb dL_employ_19 hl (by decide) rfl (fun ls hl => ?_)
    refine lv_iconst (v := 2) hx hb dL_employ_21 (by decide) ?_
    exact z_iret hx hb hr hlocks hS (by omega) (by omega) dL_employ_22 ⟨rfl, rfl⟩
  · obtain ⟨u2, hf, _⟩ := hq
    exact hf.elim
set_option maxHeartbeats 4000000 in
set_option maxRecDepth 100000 in
theorem x3_L_employ (l : Launch) (D : va_G) (cs : Nat → ClassId) {u v : zw} {sz xo out d mc ms : Nat} (a0 : Int32) (a1 : Int32) (a2 : Int32) {fs : List Value} (hc : zMX l D cs yX6_employ wsX6_employ d mc ms u sz [.ref (xo), .int (a0), .int (a1), .int (a2)] (fun _ _ => False) (fun E9 => E9 = "java/lang/UnsupportedOperationException")) (hx6 : u xo = some (.inr (6, fs))) (hd : zDj u v) : zML l D cs yL_employ wsL_employ (d + 1) mc ms (zJ u v) sz [.ref (xo), .int (a0), .int (a1), .int (a2), .ref (out)] (fun r w2 => r = some (.int 3) ∧ w2 = zJ u v) := by
  refine z_metL (cc := cL_employ) (maxL := 6) (ret := (some .int)) (hh := [(0, 12, 15, 19), (0, 12, 19, 21), (0, 12, 23, 13)]) (by decide) rfl (Nat.le_of_ble_eq_true rfl) ?_
  intro p e s m below meth c hx hb hr hml hown hts hlocks hT hsz hK hE hN hS ls hl
  have hl : lv_has ls 6 [(0, .ref (xo)), (1, .int (a0)), (2, .int (a1)), (3, .int (a2)), (4, .ref (out))] := hl
  refine lv_aload hx hb dL_employ_0 (lv_at hl 4 rfl) ?_
  refine lv_iconst (v := 0) hx hb dL_employ_2 (by decide) ?_
  refine lv_aload_n hx hb dL_employ_3 rfl (lv_at hl 0 rfl) ?_
  refine lv_iload_n hx hb dL_employ_4 rfl (lv_at hl 1 rfl) ?_
  refine lv_iload_n hx hb dL_employ_5 rfl (lv_at hl 2 rfl) ?_
  refine lv_iload_n hx hb dL_employ_6 rfl (lv_at hl 3 rfl) ?_
  refine z_invVX (b := xo) (As := [.int (a0), .int (a1), .int (a2)]) (rest := [.int (0), .ref (out)]) (n := 3) ⟨hx, hb, hml, hown, hts⟩ (by rw [hsz]; exact hc.frame hd) gL_employ_X6_employ rfl ⟨rfl, by decide +kernel, by decide +kernel, by decide +kernel⟩ ⟨by simp only [zR]; omega, by simp only [zR]; omega⟩ hK hE hS (ci := 6) rfl (zJ_l hx6) rfl hl.1 rfl (Nat.le_of_ble_eq_true rfl) dL_employ_7 ⟨by simp only [zR]; omega, by simp only [zR]; omega⟩ (fun E ce q9 H locs hpx hS k1 k2 k3 => ?_) (fun v9 w9 H locs hq hS => ?_)
  · subst hpx
    refine vx_catch (own := RL) (name := "java/lang/UnsupportedOperationException") hown [⟨0, 12, 15, 19⟩, ⟨0, 12, 19, 21⟩] ⟨0, 12, 23, 13⟩ [] (hT.trans rfl) (zall1 (Or.inr ⟨by decide, "java/lang/IndexOutOfBoundsException", hts (.classLink RL 19 "java/lang/IndexOutOfBoundsException") (by decide +kernel), hN _ (by decide) _ (by decide) (by decide)⟩) (zall1 (Or.inr ⟨by decide, "java/lang/IllegalArgumentException", hts (.classLink RL 21 "java/lang/IllegalArgumentException") (by decide +kernel), hN _ (by decide) _ (by decide) (by decide)⟩) zall0)) (by decide) (by decide) (hts (.classLink RL 13 "java/lang/UnsupportedOperationException") (by decide +kernel)) (va_Nw.use rfl (hE.2.2.2.2.2.2.2.1 _ (by decide))) k1 k2 k3 ?_
    refine lv_astore (lv' := [(5, .ref (q9)), (0, .ref (xo)), (1, .int (a0)), (2, .int (a1)), (3, .int (a2)), (4, .ref (out))]) hx hb dL_employ_23 hl (by decide) rfl (fun ls hl => ?_)
    refine lv_iconst (v := 3) hx hb dL_employ_25 (by decide) ?_
    exact z_iret hx hb hr hlocks hS (by omega) (by omega) dL_employ_26 ⟨rfl, rfl⟩
  · obtain ⟨u2, hf, _⟩ := hq
    exact hf.elim
set_option maxHeartbeats 4000000 in
set_option maxRecDepth 100000 in
theorem h_L_change (l : Launch) (D : va_G) (cs : Nat → ClassId) {u v : zw} {sz xo d mc ms : Nat} (a0 : Int32) (a1 : Int32) (a2 : Int64) {fs : List Value} {post : zw → Prop} (hc : zM l D cs yX6_change wsX6_change d mc ms u sz [.ref (xo), .int (a0), .int (a1), .long (a2)] (fun r u2 => r = none ∧ post u2)) (hx6 : u xo = some (.inr (6, fs))) (hd : zDj u v) : zML l D cs yL_change wsL_change (d + 1) mc ms (zJ u v) sz [.ref (xo), .int (a0), .int (a1), .long (a2)] (fun r w2 => r = some (.int 0) ∧ ∃ u2 : zw, post u2 ∧ zDj u2 v ∧ w2 = zJ u2 v) := by
  refine z_metL (cc := cL_change) (maxL := 6) (ret := (some .int)) (hh := [(0, 7, 10, 19), (0, 7, 14, 21)]) (by decide) rfl (Nat.le_of_ble_eq_true rfl) ?_
  intro p e s m below meth c hx hb hr hml hown hts hlocks hT hsz hK hE hN hS ls hl
  have hl : lv_has ls 6 [(0, .ref (xo)), (1, .int (a0)), (2, .int (a1)), (3, .long (a2))] := hl
  refine lv_aload_n hx hb dL_change_0 rfl (lv_at hl 0 rfl) ?_
  refine lv_iload_n hx hb dL_change_1 rfl (lv_at hl 1 rfl) ?_
  refine lv_iload_n hx hb dL_change_2 rfl (lv_at hl 2 rfl) ?_
  refine lv_lload_n hx hb dL_change_3 rfl (lv_at hl 3 rfl) ?_
  refine z_invV (b := xo) (As := [.int (a0), .int (a1), .long (a2)]) (rest := []) (n := 3) ⟨hx, hb, hml, hown, hts⟩ (by rw [hsz]; exact hc.frame hd) gL_change_X6_change rfl ⟨rfl, by decide +kernel, by decide +kernel, by decide +kernel⟩ ⟨by simp only [zR]; omega, by simp only [zR]; omega⟩ hK hE hS (ci := 6) rfl (zJ_l hx6) rfl hl.1 rfl (Nat.le_of_ble_eq_true rfl) dL_change_4 ⟨by simp only [zR]; omega, by simp only [zR]; omega⟩ (fun v9 w9 H locs hq hS => ?_)
  obtain ⟨u2, ⟨rfl, hp⟩, hdj, rfl⟩ := hq
  refine W.eq (g2 := F0 m 7 ls []) rfl ?_
  refine lv_goto (tgt := 18) hx hb dL_change_7 (by decide) ?_
  refine lv_iconst (v := 0) hx hb dL_change_18 (by decide) ?_
  exact z_iret hx hb hr hlocks hS (by omega) (by omega) dL_change_19 ⟨rfl, u2, hp, hdj, rfl⟩
set_option maxHeartbeats 4000000 in
set_option maxRecDepth 100000 in
theorem x1_L_change (l : Launch) (D : va_G) (cs : Nat → ClassId) {u v : zw} {sz xo d mc ms : Nat} (a0 : Int32) (a1 : Int32) (a2 : Int64) {fs : List Value} (hc : zMX l D cs yX6_change wsX6_change d mc ms u sz [.ref (xo), .int (a0), .int (a1), .long (a2)] (fun _ _ => False) (fun E9 => E9 = "java/lang/IndexOutOfBoundsException")) (hx6 : u xo = some (.inr (6, fs))) (hd : zDj u v) : zML l D cs yL_change wsL_change (d + 1) mc ms (zJ u v) sz [.ref (xo), .int (a0), .int (a1), .long (a2)] (fun r w2 => r = some (.int 1) ∧ w2 = zJ u v) := by
  refine z_metL (cc := cL_change) (maxL := 6) (ret := (some .int)) (hh := [(0, 7, 10, 19), (0, 7, 14, 21)]) (by decide) rfl (Nat.le_of_ble_eq_true rfl) ?_
  intro p e s m below meth c hx hb hr hml hown hts hlocks hT hsz hK hE hN hS ls hl
  have hl : lv_has ls 6 [(0, .ref (xo)), (1, .int (a0)), (2, .int (a1)), (3, .long (a2))] := hl
  refine lv_aload_n hx hb dL_change_0 rfl (lv_at hl 0 rfl) ?_
  refine lv_iload_n hx hb dL_change_1 rfl (lv_at hl 1 rfl) ?_
  refine lv_iload_n hx hb dL_change_2 rfl (lv_at hl 2 rfl) ?_
  refine lv_lload_n hx hb dL_change_3 rfl (lv_at hl 3 rfl) ?_
  refine z_invVX (b := xo) (As := [.int (a0), .int (a1), .long (a2)]) (rest := []) (n := 3) ⟨hx, hb, hml, hown, hts⟩ (by rw [hsz]; exact hc.frame hd) gL_change_X6_change rfl ⟨rfl, by decide +kernel, by decide +kernel, by decide +kernel⟩ ⟨by simp only [zR]; omega, by simp only [zR]; omega⟩ hK hE hS (ci := 6) rfl (zJ_l hx6) rfl hl.1 rfl (Nat.le_of_ble_eq_true rfl) dL_change_4 ⟨by simp only [zR]; omega, by simp only [zR]; omega⟩ (fun E ce q9 H locs hpx hS k1 k2 k3 => ?_) (fun v9 w9 H locs hq hS => ?_)
  · subst hpx
    refine vx_catch (own := RL) (name := "java/lang/IndexOutOfBoundsException") hown [] ⟨0, 7, 10, 19⟩ [⟨0, 7, 14, 21⟩] (hT.trans rfl) zall0 (by decide) (by decide) (hts (.classLink RL 19 "java/lang/IndexOutOfBoundsException") (by decide +kernel)) (va_Nw.use rfl (hE.2.2.2.2.2.2.2.1 _ (by decide))) k1 k2 k3 ?_
    refine lv_astore (lv' := [(5, .ref (q9)), (0, .ref (xo)), (1, .int (a0)), (2, .int (a1)), (3, .long (a2))]) hx hb dL_change_10 hl (by decide) rfl (fun ls hl => ?_)
    refine lv_iconst (v := 1) hx hb dL_change_12 (by decide) ?_
    exact z_iret hx hb hr hlocks hS (by omega) (by omega) dL_change_13 ⟨rfl, rfl⟩
  · obtain ⟨u2, hf, _⟩ := hq
    exact hf.elim
set_option maxHeartbeats 4000000 in
set_option maxRecDepth 100000 in
theorem x2_L_change (l : Launch) (D : va_G) (cs : Nat → ClassId) {u v : zw} {sz xo d mc ms : Nat} (a0 : Int32) (a1 : Int32) (a2 : Int64) {fs : List Value} (hc : zMX l D cs yX6_change wsX6_change d mc ms u sz [.ref (xo), .int (a0), .int (a1), .long (a2)] (fun _ _ => False) (fun E9 => E9 = "java/lang/IllegalArgumentException")) (hx6 : u xo = some (.inr (6, fs))) (hd : zDj u v) : zML l D cs yL_change wsL_change (d + 1) mc ms (zJ u v) sz [.ref (xo), .int (a0), .int (a1), .long (a2)] (fun r w2 => r = some (.int 2) ∧ w2 = zJ u v) := by
  refine z_metL (cc := cL_change) (maxL := 6) (ret := (some .int)) (hh := [(0, 7, 10, 19), (0, 7, 14, 21)]) (by decide) rfl (Nat.le_of_ble_eq_true rfl) ?_
  intro p e s m below meth c hx hb hr hml hown hts hlocks hT hsz hK hE hN hS ls hl
  have hl : lv_has ls 6 [(0, .ref (xo)), (1, .int (a0)), (2, .int (a1)), (3, .long (a2))] := hl
  refine lv_aload_n hx hb dL_change_0 rfl (lv_at hl 0 rfl) ?_
  refine lv_iload_n hx hb dL_change_1 rfl (lv_at hl 1 rfl) ?_
  refine lv_iload_n hx hb dL_change_2 rfl (lv_at hl 2 rfl) ?_
  refine lv_lload_n hx hb dL_change_3 rfl (lv_at hl 3 rfl) ?_
  refine z_invVX (b := xo) (As := [.int (a0), .int (a1), .long (a2)]) (rest := []) (n := 3) ⟨hx, hb, hml, hown, hts⟩ (by rw [hsz]; exact hc.frame hd) gL_change_X6_change rfl ⟨rfl, by decide +kernel, by decide +kernel, by decide +kernel⟩ ⟨by simp only [zR]; omega, by simp only [zR]; omega⟩ hK hE hS (ci := 6) rfl (zJ_l hx6) rfl hl.1 rfl (Nat.le_of_ble_eq_true rfl) dL_change_4 ⟨by simp only [zR]; omega, by simp only [zR]; omega⟩ (fun E ce q9 H locs hpx hS k1 k2 k3 => ?_) (fun v9 w9 H locs hq hS => ?_)
  · subst hpx
    refine vx_catch (own := RL) (name := "java/lang/IllegalArgumentException") hown [⟨0, 7, 10, 19⟩] ⟨0, 7, 14, 21⟩ [] (hT.trans rfl) (zall1 (Or.inr ⟨by decide, "java/lang/IndexOutOfBoundsException", hts (.classLink RL 19 "java/lang/IndexOutOfBoundsException") (by decide +kernel), hN _ (by decide) _ (by decide) (by decide)⟩) zall0) (by decide) (by decide) (hts (.classLink RL 21 "java/lang/IllegalArgumentException") (by decide +kernel)) (va_Nw.use rfl (hE.2.2.2.2.2.2.2.1 _ (by decide))) k1 k2 k3 ?_
    refine lv_astore (lv' := [(5, .ref (q9)), (0, .ref (xo)), (1, .int (a0)), (2, .int (a1)), (3, .long (a2))]) hx hb dL_change_14 hl (by decide) rfl (fun ls hl => ?_)
    refine lv_iconst (v := 2) hx hb dL_change_16 (by decide) ?_
    exact z_iret hx hb hr hlocks hS (by omega) (by omega) dL_change_17 ⟨rfl, rfl⟩
  · obtain ⟨u2, hf, _⟩ := hq
    exact hf.elim
set_option maxHeartbeats 4000000 in
set_option maxRecDepth 100000 in
theorem h_L_enrol (l : Launch) (D : va_G) (cs : Nat → ClassId) {u v : zw} {sz xo out d mc ms : Nat} (a0 : Int32) (a1 : Int32) (a2 : Int32) {fs : List Value} {f : Nat → Int64} {post : Int32 → zw → Prop} (hc : zM l D cs yX6_enrol wsX6_enrol d mc ms u sz [.ref (xo), .int (a0), .int (a1), .int (a2)] (fun r u2 => ∃ z : Int32, r = some (.int z) ∧ post z u2)) (hx6 : u xo = some (.inr (6, fs))) (hd : zDj u v) (ho : v out = some (eJ cs 1 f)) : zML l D cs yL_enrol wsL_enrol (d + 1) mc ms (zJ u v) sz [.ref (xo), .int (a0), .int (a1), .int (a2), .ref (out)] (fun r w2 => r = some (.int 0) ∧ ∃ (z : Int32) (u2 : zw), post z u2 ∧ zDj u2 v ∧ w2 = zJ u2 (va_up v out (some (eJ cs 1 (vp_updL f 0 (if z = 0 then 0 else 1)))))) := by
  refine z_metL (cc := cL_enrol) (maxL := 6) (ret := (some .int)) (hh := [(0, 19, 22, 19)]) (by decide) rfl (Nat.le_of_ble_eq_true rfl) ?_
  intro p e s m below meth c hx hb hr hml hown hts hlocks hT hsz hK hE hN hS ls hl
  have hl : lv_has ls 6 [(0, .ref (xo)), (1, .int (a0)), (2, .int (a1)), (3, .int (a2)), (4, .ref (out))] := hl
  refine lv_aload hx hb dL_enrol_0 (lv_at hl 4 rfl) ?_
  refine lv_iconst (v := 0) hx hb dL_enrol_2 (by decide) ?_
  refine lv_aload_n hx hb dL_enrol_3 rfl (lv_at hl 0 rfl) ?_
  refine lv_iload_n hx hb dL_enrol_4 rfl (lv_at hl 1 rfl) ?_
  refine lv_iload_n hx hb dL_enrol_5 rfl (lv_at hl 2 rfl) ?_
  refine lv_iload_n hx hb dL_enrol_6 rfl (lv_at hl 3 rfl) ?_
  refine z_invV (b := xo) (As := [.int (a0), .int (a1), .int (a2)]) (rest := [.int (0), .ref (out)]) (n := 3) ⟨hx, hb, hml, hown, hts⟩ (by rw [hsz]; exact hc.frame hd) gL_enrol_X6_enrol rfl ⟨rfl, by decide +kernel, by decide +kernel, by decide +kernel⟩ ⟨by simp only [zR]; omega, by simp only [zR]; omega⟩ hK hE hS (ci := 6) rfl (zJ_l hx6) rfl hl.1 rfl (Nat.le_of_ble_eq_true rfl) dL_enrol_7 ⟨by simp only [zR]; omega, by simp only [zR]; omega⟩ (fun v9 w9 H locs hq hS => ?_)
  obtain ⟨u2, ⟨z, rfl, hp⟩, hdj, rfl⟩ := hq
  refine W.eq (g2 := F0 m 10 ls [.int (z), .int (0), .ref (out)]) rfl ?_
  refine lv_if_eq (tgt := 17) hx hb dL_enrol_10 (by decide) (fun c9 => ?_) (fun c9 => ?_)
  · refine lv_lconst (v := 0) hx hb dL_enrol_17 (by decide) ?_
    refine z_last hx hb hK hS (zJ_r hdj ho) (show ¬ ((0 : Int32) < 0 ∨ 1 ≤ (0 : Int32).toNatClampNeg) by decide) dL_enrol_18 (fun H locs hS => ?_)
    have hS : zS (zA (zJ u v) sz) D (zJ u2 (va_up v out (some (eJ cs 1 (vp_updL f 0 0))))) s.heap H locs := by rw [← zJ_up (hdj.n ho)]; exact hS
    refine lv_goto (tgt := 26) hx hb dL_enrol_19 (by decide) ?_
    refine lv_iconst (v := 0) hx hb dL_enrol_26 (by decide) ?_
    exact z_iret hx hb hr hlocks hS (by omega) (by omega) dL_enrol_27 ⟨rfl, z, u2, hp, hdj, by rw [if_pos c9]⟩
  · refine lv_lconst (v := 1) hx hb dL_enrol_13 (by decide) ?_
    refine lv_goto (tgt := 18) hx hb dL_enrol_14 (by decide) ?_
    refine z_last hx hb hK hS (zJ_r hdj ho) (show ¬ ((0 : Int32) < 0 ∨ 1 ≤ (0 : Int32).toNatClampNeg) by decide) dL_enrol_18 (fun H locs hS => ?_)
    have hS : zS (zA (zJ u v) sz) D (zJ u2 (va_up v out (some (eJ cs 1 (vp_updL f 0 1))))) s.heap H locs := by rw [← zJ_up (hdj.n ho)]; exact hS
    refine lv_goto (tgt := 26) hx hb dL_enrol_19 (by decide) ?_
    refine lv_iconst (v := 0) hx hb dL_enrol_26 (by decide) ?_
    exact z_iret hx hb hr hlocks hS (by omega) (by omega) dL_enrol_27 ⟨rfl, z, u2, hp, hdj, by rw [if_neg c9]⟩
set_option maxHeartbeats 4000000 in
set_option maxRecDepth 100000 in
theorem x1_L_enrol (l : Launch) (D : va_G) (cs : Nat → ClassId) {u v : zw} {sz xo out d mc ms : Nat} (a0 : Int32) (a1 : Int32) (a2 : Int32) {fs : List Value} (hc : zMX l D cs yX6_enrol wsX6_enrol d mc ms u sz [.ref (xo), .int (a0), .int (a1), .int (a2)] (fun _ _ => False) (fun E9 => E9 = "java/lang/IndexOutOfBoundsException")) (hx6 : u xo = some (.inr (6, fs))) (hd : zDj u v) : zML l D cs yL_enrol wsL_enrol (d + 1) mc ms (zJ u v) sz [.ref (xo), .int (a0), .int (a1), .int (a2), .ref (out)] (fun r w2 => r = some (.int 1) ∧ w2 = zJ u v) := by
  refine z_metL (cc := cL_enrol) (maxL := 6) (ret := (some .int)) (hh := [(0, 19, 22, 19)]) (by decide) rfl (Nat.le_of_ble_eq_true rfl) ?_
  intro p e s m below meth c hx hb hr hml hown hts hlocks hT hsz hK hE hN hS ls hl
  have hl : lv_has ls 6 [(0, .ref (xo)), (1, .int (a0)), (2, .int (a1)), (3, .int (a2)), (4, .ref (out))] := hl
  refine lv_aload hx hb dL_enrol_0 (lv_at hl 4 rfl) ?_
  refine lv_iconst (v := 0) hx hb dL_enrol_2 (by decide) ?_
  refine lv_aload_n hx hb dL_enrol_3 rfl (lv_at hl 0 rfl) ?_
  refine lv_iload_n hx hb dL_enrol_4 rfl (lv_at hl 1 rfl) ?_
  refine lv_iload_n hx hb dL_enrol_5 rfl (lv_at hl 2 rfl) ?_
  refine lv_iload_n hx hb dL_enrol_6 rfl (lv_at hl 3 rfl) ?_
  refine z_invVX (b := xo) (As := [.int (a0), .int (a1), .int (a2)]) (rest := [.int (0), .ref (out)]) (n := 3) ⟨hx, hb, hml, hown, hts⟩ (by rw [hsz]; exact hc.frame hd) gL_enrol_X6_enrol rfl ⟨rfl, by decide +kernel, by decide +kernel, by decide +kernel⟩ ⟨by simp only [zR]; omega, by simp only [zR]; omega⟩ hK hE hS (ci := 6) rfl (zJ_l hx6) rfl hl.1 rfl (Nat.le_of_ble_eq_true rfl) dL_enrol_7 ⟨by simp only [zR]; omega, by simp only [zR]; omega⟩ (fun E ce q9 H locs hpx hS k1 k2 k3 => ?_) (fun v9 w9 H locs hq hS => ?_)
  · subst hpx
    refine vx_catch (own := RL) (name := "java/lang/IndexOutOfBoundsException") hown [] ⟨0, 19, 22, 19⟩ [] (hT.trans rfl) zall0 (by decide) (by decide) (hts (.classLink RL 19 "java/lang/IndexOutOfBoundsException") (by decide +kernel)) (va_Nw.use rfl (hE.2.2.2.2.2.2.2.1 _ (by decide))) k1 k2 k3 ?_
    refine lv_astore (lv' := [(5, .ref (q9)), (0, .ref (xo)), (1, .int (a0)), (2, .int (a1)), (3, .int (a2)), (4, .ref (out))]) hx hb dL_enrol_22 hl (by decide) rfl (fun ls hl => ?_)
    refine lv_iconst (v := 1) hx hb dL_enrol_24 (by decide) ?_
    exact z_iret hx hb hr hlocks hS (by omega) (by omega) dL_enrol_25 ⟨rfl, rfl⟩
  · obtain ⟨u2, hf, _⟩ := hq
    exact hf.elim
set_option maxHeartbeats 4000000 in
set_option maxRecDepth 100000 in
theorem h_L_bonus (l : Launch) (D : va_G) (cs : Nat → ClassId) {u v : zw} {sz xo d mc ms : Nat} (a0 : Int32) {fs : List Value} {post : zw → Prop} (hc : zM l D cs yX6_bonus wsX6_bonus d mc ms u sz [.ref (xo), .int (a0)] (fun r u2 => r = none ∧ post u2)) (hx6 : u xo = some (.inr (6, fs))) (hd : zDj u v) : zML l D cs yL_bonus wsL_bonus (d + 1) mc ms (zJ u v) sz [.ref (xo), .int (a0)] (fun r w2 => r = some (.int 0) ∧ ∃ u2 : zw, post u2 ∧ zDj u2 v ∧ w2 = zJ u2 v) := by
  refine z_metL (cc := cL_bonus) (maxL := 3) (ret := (some .int)) (hh := [(0, 5, 8, 21)]) (by decide) rfl (Nat.le_of_ble_eq_true rfl) ?_
  intro p e s m below meth c hx hb hr hml hown hts hlocks hT hsz hK hE hN hS ls hl
  have hl : lv_has ls 3 [(0, .ref (xo)), (1, .int (a0))] := hl
  refine lv_aload_n hx hb dL_bonus_0 rfl (lv_at hl 0 rfl) ?_
  refine lv_iload_n hx hb dL_bonus_1 rfl (lv_at hl 1 rfl) ?_
  refine z_invV (b := xo) (As := [.int (a0)]) (rest := []) (n := 1) ⟨hx, hb, hml, hown, hts⟩ (by rw [hsz]; exact hc.frame hd) gL_bonus_X6_bonus rfl ⟨rfl, by decide +kernel, by decide +kernel, by decide +kernel⟩ ⟨by simp only [zR]; omega, by simp only [zR]; omega⟩ hK hE hS (ci := 6) rfl (zJ_l hx6) rfl hl.1 rfl (Nat.le_of_ble_eq_true rfl) dL_bonus_2 ⟨by simp only [zR]; omega, by simp only [zR]; omega⟩ (fun v9 w9 H locs hq hS => ?_)
  obtain ⟨u2, ⟨rfl, hp⟩, hdj, rfl⟩ := hq
  refine W.eq (g2 := F0 m 5 ls []) rfl ?_
  refine lv_goto (tgt := 11) hx hb dL_bonus_5 (by decide) ?_
  refine lv_iconst (v := 0) hx hb dL_bonus_11 (by decide) ?_
  exact z_iret hx hb hr hlocks hS (by omega) (by omega) dL_bonus_12 ⟨rfl, u2, hp, hdj, rfl⟩
set_option maxHeartbeats 4000000 in
set_option maxRecDepth 100000 in
theorem x1_L_bonus (l : Launch) (D : va_G) (cs : Nat → ClassId) {u v : zw} {sz xo d mc ms : Nat} (a0 : Int32) {fs : List Value} (hc : zMX l D cs yX6_bonus wsX6_bonus d mc ms u sz [.ref (xo), .int (a0)] (fun _ _ => False) (fun E9 => E9 = "java/lang/IllegalArgumentException")) (hx6 : u xo = some (.inr (6, fs))) (hd : zDj u v) : zML l D cs yL_bonus wsL_bonus (d + 1) mc ms (zJ u v) sz [.ref (xo), .int (a0)] (fun r w2 => r = some (.int 1) ∧ w2 = zJ u v) := by
  refine z_metL (cc := cL_bonus) (maxL := 3) (ret := (some .int)) (hh := [(0, 5, 8, 21)]) (by decide) rfl (Nat.le_of_ble_eq_true rfl) ?_
  intro p e s m below meth c hx hb hr hml hown hts hlocks hT hsz hK hE hN hS ls hl
  have hl : lv_has ls 3 [(0, .ref (xo)), (1, .int (a0))] := hl
  refine lv_aload_n hx hb dL_bonus_0 rfl (lv_at hl 0 rfl) ?_
  refine lv_iload_n hx hb dL_bonus_1 rfl (lv_at hl 1 rfl) ?_
  refine z_invVX (b := xo) (As := [.int (a0)]) (rest := []) (n := 1) ⟨hx, hb, hml, hown, hts⟩ (by rw [hsz]; exact hc.frame hd) gL_bonus_X6_bonus rfl ⟨rfl, by decide +kernel, by decide +kernel, by decide +kernel⟩ ⟨by simp only [zR]; omega, by simp only [zR]; omega⟩ hK hE hS (ci := 6) rfl (zJ_l hx6) rfl hl.1 rfl (Nat.le_of_ble_eq_true rfl) dL_bonus_2 ⟨by simp only [zR]; omega, by simp only [zR]; omega⟩ (fun E ce q9 H locs hpx hS k1 k2 k3 => ?_) (fun v9 w9 H locs hq hS => ?_)
  · subst hpx
    refine vx_catch (own := RL) (name := "java/lang/IllegalArgumentException") hown [] ⟨0, 5, 8, 21⟩ [] (hT.trans rfl) zall0 (by decide) (by decide) (hts (.classLink RL 21 "java/lang/IllegalArgumentException") (by decide +kernel)) (va_Nw.use rfl (hE.2.2.2.2.2.2.2.1 _ (by decide))) k1 k2 k3 ?_
    refine lv_astore_n (lv' := [(2, .ref (q9)), (0, .ref (xo)), (1, .int (a0))]) hx hb dL_bonus_8 rfl hl (by decide) rfl (fun ls hl => ?_)
    refine lv_iconst (v := 1) hx hb dL_bonus_9 (by decide) ?_
    exact z_iret hx hb hr hlocks hS (by omega) (by omega) dL_bonus_10 ⟨rfl, rfl⟩
  · obtain ⟨u2, hf, _⟩ := hq
    exact hf.elim
set_option maxHeartbeats 4000000 in
set_option maxRecDepth 100000 in
theorem h_L_pay (l : Launch) (D : va_G) (cs : Nat → ClassId) {u v : zw} {sz xo out d mc ms : Nat} (a0 : Int32) (a1 : Int64) (a2 : Int32) {fs : List Value} {f : Nat → Int64} {post : Int32 → zw → Prop} (hc : zM l D cs yX6_pay wsX6_pay d mc ms u sz [.ref (xo), .int (a0), .long (a1), .int (a2)] (fun r u2 => ∃ z : Int32, r = some (.int z) ∧ post z u2)) (hx6 : u xo = some (.inr (6, fs))) (hd : zDj u v) (ho : v out = some (eJ cs 1 f)) : zML l D cs yL_pay wsL_pay (d + 1) mc ms (zJ u v) sz [.ref (xo), .int (a0), .long (a1), .int (a2), .ref (out)] (fun r w2 => r = some (.int 0) ∧ ∃ (z : Int32) (u2 : zw), post z u2 ∧ zDj u2 v ∧ w2 = zJ u2 (va_up v out (some (eJ cs 1 (vp_updL f 0 z.toInt64))))) := by
  refine z_metL (cc := cL_pay) (maxL := 7) (ret := (some .int)) (hh := [(0, 13, 16, 19), (0, 13, 20, 21), (0, 13, 24, 13)]) (by decide) rfl (Nat.le_of_ble_eq_true rfl) ?_
  intro p e s m below meth c hx hb hr hml hown hts hlocks hT hsz hK hE hN hS ls hl
  have hl : lv_has ls 7 [(0, .ref (xo)), (1, .int (a0)), (2, .long (a1)), (4, .int (a2)), (5, .ref (out))] := hl
  refine lv_aload hx hb dL_pay_0 (lv_at hl 4 rfl) ?_
  refine lv_iconst (v := 0) hx hb dL_pay_2 (by decide) ?_
  refine lv_aload_n hx hb dL_pay_3 rfl (lv_at hl 0 rfl) ?_
  refine lv_iload_n hx hb dL_pay_4 rfl (lv_at hl 1 rfl) ?_
  refine lv_lload_n hx hb dL_pay_5 rfl (lv_at hl 2 rfl) ?_
  refine lv_iload hx hb dL_pay_6 (lv_at hl 3 rfl) ?_
  refine z_invV (b := xo) (As := [.int (a0), .long (a1), .int (a2)]) (rest := [.int (0), .ref (out)]) (n := 3) ⟨hx, hb, hml, hown, hts⟩ (by rw [hsz]; exact hc.frame hd) gL_pay_X6_pay rfl ⟨rfl, by decide +kernel, by decide +kernel, by decide +kernel⟩ ⟨by simp only [zR]; omega, by simp only [zR]; omega⟩ hK hE hS (ci := 6) rfl (zJ_l hx6) rfl hl.1 rfl (Nat.le_of_ble_eq_true rfl) dL_pay_8 ⟨by simp only [zR]; omega, by simp only [zR]; omega⟩ (fun v9 w9 H locs hq hS => ?_)
  obtain ⟨u2, ⟨z, rfl, hp⟩, hdj, rfl⟩ := hq
  refine W.eq (g2 := F0 m 11 ls [.int (z), .int (0), .ref (out)]) rfl ?_
  refine lv_i2l (v := z.toInt64) hx hb dL_pay_11 rfl ?_
  refine z_last hx hb hK hS (zJ_r hdj ho) (show ¬ ((0 : Int32) < 0 ∨ 1 ≤ (0 : Int32).toNatClampNeg) by decide) dL_pay_12 (fun H locs hS => ?_)
  have hS : zS (zA (zJ u v) sz) D (zJ u2 (va_up v out (some (eJ cs 1 (vp_updL f 0 z.toInt64))))) s.heap H locs := by rw [← zJ_up (hdj.n ho)]; exact hS
  refine lv_goto (tgt := 28) hx hb dL_pay_13 (by decide) ?_
  refine lv_iconst (v := 0) hx hb dL_pay_28 (by decide) ?_
  exact z_iret hx hb hr hlocks hS (by omega) (by omega) dL_pay_29 ⟨rfl, z, u2, hp, hdj, rfl⟩
set_option maxHeartbeats 4000000 in
set_option maxRecDepth 100000 in
theorem x1_L_pay (l : Launch) (D : va_G) (cs : Nat → ClassId) {u v : zw} {sz xo out d mc ms : Nat} (a0 : Int32) (a1 : Int64) (a2 : Int32) {fs : List Value} (hc : zMX l D cs yX6_pay wsX6_pay d mc ms u sz [.ref (xo), .int (a0), .long (a1), .int (a2)] (fun _ _ => False) (fun E9 => E9 = "java/lang/IndexOutOfBoundsException")) (hx6 : u xo = some (.inr (6, fs))) (hd : zDj u v) : zML l D cs yL_pay wsL_pay (d + 1) mc ms (zJ u v) sz [.ref (xo), .int (a0), .long (a1), .int (a2), .ref (out)] (fun r w2 => r = some (.int 1) ∧ w2 = zJ u v) := by
  refine z_metL (cc := cL_pay) (maxL := 7) (ret := (some .int)) (hh := [(0, 13, 16, 19), (0, 13, 20, 21), (0, 13, 24, 13)]) (by decide) rfl (Nat.le_of_ble_eq_true rfl) ?_
  intro p e s m below meth c hx hb hr hml hown hts hlocks hT hsz hK hE hN hS ls hl
  have hl : lv_has ls 7 [(0, .ref (xo)), (1, .int (a0)), (2, .long (a1)), (4, .int (a2)), (5, .ref (out))] := hl
  refine lv_aload hx hb dL_pay_0 (lv_at hl 4 rfl) ?_
  refine lv_iconst (v := 0) hx hb dL_pay_2 (by decide) ?_
  refine lv_aload_n hx hb dL_pay_3 rfl (lv_at hl 0 rfl) ?_
  refine lv_iload_n hx hb dL_pay_4 rfl (lv_at hl 1 rfl) ?_
  refine lv_lload_n hx hb dL_pay_5 rfl (lv_at hl 2 rfl) ?_
  refine lv_iload hx hb dL_pay_6 (lv_at hl 3 rfl) ?_
  refine z_invVX (b := xo) (As := [.int (a0), .long (a1), .int (a2)]) (rest := [.int (0), .ref (out)]) (n := 3) ⟨hx, hb, hml, hown, hts⟩ (by rw [hsz]; exact hc.frame hd) gL_pay_X6_pay rfl ⟨rfl, by decide +kernel, by decide +kernel, by decide +kernel⟩ ⟨by simp only [zR]; omega, by simp only [zR]; omega⟩ hK hE hS (ci := 6) rfl (zJ_l hx6) rfl hl.1 rfl (Nat.le_of_ble_eq_true rfl) dL_pay_8 ⟨by simp only [zR]; omega, by simp only [zR]; omega⟩ (fun E ce q9 H locs hpx hS k1 k2 k3 => ?_) (fun v9 w9 H locs hq hS => ?_)
  · subst hpx
    refine vx_catch (own := RL) (name := "java/lang/IndexOutOfBoundsException") hown [] ⟨0, 13, 16, 19⟩ [⟨0, 13, 20, 21⟩, ⟨0, 13, 24, 13⟩] (hT.trans rfl) zall0 (by decide) (by decide) (hts (.classLink RL 19 "java/lang/IndexOutOfBoundsException") (by decide +kernel)) (va_Nw.use rfl (hE.2.2.2.2.2.2.2.1 _ (by decide))) k1 k2 k3 ?_
    refine lv_astore (lv' := [(6, .ref (q9)), (0, .ref (xo)), (1, .int (a0)), (2, .long (a1)), (4, .int (a2)), (5, .ref (out))]) hx hb dL_pay_16 hl (by decide) rfl (fun ls hl => ?_)
    refine lv_iconst (v := 1) hx hb dL_pay_18 (by decide) ?_
    exact z_iret hx hb hr hlocks hS (by omega) (by omega) dL_pay_19 ⟨rfl, rfl⟩
  · obtain ⟨u2, hf, _⟩ := hq
    exact hf.elim
set_option maxHeartbeats 4000000 in
set_option maxRecDepth 100000 in
theorem x2_L_pay (l : Launch) (D : va_G) (cs : Nat → ClassId) {u v : zw} {sz xo out d mc ms : Nat} (a0 : Int32) (a1 : Int64) (a2 : Int32) {fs : List Value} (hc : zMX l D cs yX6_pay wsX6_pay d mc ms u sz [.ref (xo), .int (a0), .long (a1), .int (a2)] (fun _ _ => False) (fun E9 => E9 = "java/lang/IllegalArgumentException")) (hx6 : u xo = some (.inr (6, fs))) (hd : zDj u v) : zML l D cs yL_pay wsL_pay (d + 1) mc ms (zJ u v) sz [.ref (xo), .int (a0), .long (a1), .int (a2), .ref (out)] (fun r w2 => r = some (.int 2) ∧ w2 = zJ u v) := by
  refine z_metL (cc := cL_pay) (maxL := 7) (ret := (some .int)) (hh := [(0, 13, 16, 19), (0, 13, 20, 21), (0, 13, 24, 13)]) (by decide) rfl (Nat.le_of_ble_eq_true rfl) ?_
  intro p e s m below meth c hx hb hr hml hown hts hlocks hT hsz hK hE hN hS ls hl
  have hl : lv_has ls 7 [(0, .ref (xo)), (1, .int (a0)), (2, .long (a1)), (4, .int (a2)), (5, .ref (out))] := hl
  refine lv_aload hx hb dL_pay_0 (lv_at hl 4 rfl) ?_
  refine lv_iconst (v := 0) hx hb dL_pay_2 (by decide) ?_
  refine lv_aload_n hx hb dL_pay_3 rfl (lv_at hl 0 rfl) ?_
  refine lv_iload_n hx hb dL_pay_4 rfl (lv_at hl 1 rfl) ?_
  refine lv_lload_n hx hb dL_pay_5 rfl (lv_at hl 2 rfl) ?_
  refine lv_iload hx hb dL_pay_6 (lv_at hl 3 rfl) ?_
  refine z_invVX (b := xo) (As := [.int (a0), .long (a1), .int (a2)]) (rest := [.int (0), .ref (out)]) (n := 3) ⟨hx, hb, hml, hown, hts⟩ (by rw [hsz]; exact hc.frame hd) gL_pay_X6_pay rfl ⟨rfl, by decide +kernel, by decide +kernel, by decide +kernel⟩ ⟨by simp only [zR]; omega, by simp only [zR]; omega⟩ hK hE hS (ci := 6) rfl (zJ_l hx6) rfl hl.1 rfl (Nat.le_of_ble_eq_true rfl) dL_pay_8 ⟨by simp only [zR]; omega, by simp only [zR]; omega⟩ (fun E ce q9 H locs hpx hS k1 k2 k3 => ?_) (fun v9 w9 H locs hq hS => ?_)
  · subst hpx
    refine vx_catch (own := RL) (name := "java/lang/IllegalArgumentException") hown [⟨0, 13, 16, 19⟩] ⟨0, 13, 20, 21⟩ [⟨0, 13, 24, 13⟩] (hT.trans rfl) (zall1 (Or.inr ⟨by decide, "java/lang/IndexOutOfBoundsException", hts (.classLink RL 19 "java/lang/IndexOutOfBoundsException") (by decide +kernel), hN _ (by decide) _ (by decide) (by decide)⟩) zall0) (by decide) (by decide) (hts (.classLink RL 21 "java/lang/IllegalArgumentException") (by decide +kernel)) (va_Nw.use rfl (hE.2.2.2.2.2.2.2.1 _ (by decide))) k1 k2 k3 ?_
    refine lv_astore (lv' := [(6, .ref (q9)), (0, .ref (xo)), (1, .int (a0)), (2, .long (a1)), (4, .int (a2)), (5, .ref (out))]) hx hb dL_pay_20 hl (by decide) rfl (fun ls hl => ?_)
    refine lv_iconst (v := 2) hx hb dL_pay_22 (by decide) ?_
    exact z_iret hx hb hr hlocks hS (by omega) (by omega) dL_pay_23 ⟨rfl, rfl⟩
  · obtain ⟨u2, hf, _⟩ := hq
    exact hf.elim
set_option maxHeartbeats 4000000 in
set_option maxRecDepth 100000 in
theorem x3_L_pay (l : Launch) (D : va_G) (cs : Nat → ClassId) {u v : zw} {sz xo out d mc ms : Nat} (a0 : Int32) (a1 : Int64) (a2 : Int32) {fs : List Value} (hc : zMX l D cs yX6_pay wsX6_pay d mc ms u sz [.ref (xo), .int (a0), .long (a1), .int (a2)] (fun _ _ => False) (fun E9 => E9 = "java/lang/UnsupportedOperationException")) (hx6 : u xo = some (.inr (6, fs))) (hd : zDj u v) : zML l D cs yL_pay wsL_pay (d + 1) mc ms (zJ u v) sz [.ref (xo), .int (a0), .long (a1), .int (a2), .ref (out)] (fun r w2 => r = some (.int 3) ∧ w2 = zJ u v) := by
  refine z_metL (cc := cL_pay) (maxL := 7) (ret := (some .int)) (hh := [(0, 13, 16, 19), (0, 13, 20, 21), (0, 13, 24, 13)]) (by decide) rfl (Nat.le_of_ble_eq_true rfl) ?_
  intro p e s m below meth c hx hb hr hml hown hts hlocks hT hsz hK hE hN hS ls hl
  have hl : lv_has ls 7 [(0, .ref (xo)), (1, .int (a0)), (2, .long (a1)), (4, .int (a2)), (5, .ref (out))] := hl
  refine lv_aload hx hb dL_pay_0 (lv_at hl 4 rfl) ?_
  refine lv_iconst (v := 0) hx hb dL_pay_2 (by decide) ?_
  refine lv_aload_n hx hb dL_pay_3 rfl (lv_at hl 0 rfl) ?_
  refine lv_iload_n hx hb dL_pay_4 rfl (lv_at hl 1 rfl) ?_
  refine lv_lload_n hx hb dL_pay_5 rfl (lv_at hl 2 rfl) ?_
  refine lv_iload hx hb dL_pay_6 (lv_at hl 3 rfl) ?_
  refine z_invVX (b := xo) (As := [.int (a0), .long (a1), .int (a2)]) (rest := [.int (0), .ref (out)]) (n := 3) ⟨hx, hb, hml, hown, hts⟩ (by rw [hsz]; exact hc.frame hd) gL_pay_X6_pay rfl ⟨rfl, by decide +kernel, by decide +kernel, by decide +kernel⟩ ⟨by simp only [zR]; omega, by simp only [zR]; omega⟩ hK hE hS (ci := 6) rfl (zJ_l hx6) rfl hl.1 rfl (Nat.le_of_ble_eq_true rfl) dL_pay_8 ⟨by simp only [zR]; omega, by simp only [zR]; omega⟩ (fun E ce q9 H locs hpx hS k1 k2 k3 => ?_) (fun v9 w9 H locs hq hS => ?_)
  · subst hpx
    refine vx_catch (own := RL) (name := "java/lang/UnsupportedOperationException") hown [⟨0, 13, 16, 19⟩, ⟨0, 13, 20, 21⟩] ⟨0, 13, 24, 13⟩ [] (hT.trans rfl) (zall1 (Or.inr ⟨by decide, "java/lang/IndexOutOfBoundsException", hts (.classLink RL 19 "java/lang/IndexOutOfBoundsException") (by decide +kernel), hN _ (by decide) _ (by decide) (by decide)⟩) (zall1 (Or.inr ⟨by decide, "java/lang/IllegalArgumentException", hts (.classLink RL 21 "java/lang/IllegalArgumentException") (by decide +kernel), hN _ (by decide) _ (by decide) (by decide)⟩) zall0)) (by decide) (by decide) (hts (.classLink RL 13 "java/lang/UnsupportedOperationException") (by decide +kernel)) (va_Nw.use rfl (hE.2.2.2.2.2.2.2.1 _ (by decide))) k1 k2 k3 ?_
    refine lv_astore (lv' := [(6, .ref (q9)), (0, .ref (xo)), (1, .int (a0)), (2, .long (a1)), (4, .int (a2)), (5, .ref (out))]) hx hb dL_pay_24 hl (by decide) rfl (fun ls hl => ?_)
    refine lv_iconst (v := 3) hx hb dL_pay_26 (by decide) ?_
    exact z_iret hx hb hr hlocks hS (by omega) (by omega) dL_pay_27 ⟨rfl, rfl⟩
  · obtain ⟨u2, hf, _⟩ := hq
    exact hf.elim
set_option maxHeartbeats 4000000 in
set_option maxRecDepth 100000 in
theorem h_L_ask (l : Launch) (D : va_G) (cs : Nat → ClassId) {u v : zw} {sz xo out d mc ms : Nat} (a0 : Int32) (a1 : Int64) (a2 : Int32) {fs : List Value} {f : Nat → Int64} {post : Int64 → zw → Prop} (hc : zM l D cs yX6_ask wsX6_ask d mc ms u sz [.ref (xo), .int (a0), .long (a1), .int (a2)] (fun r u2 => ∃ z : Int64, r = some (.long z) ∧ post z u2)) (hx6 : u xo = some (.inr (6, fs))) (hd : zDj u v) (ho : v out = some (eJ cs 1 f)) : zML l D cs yL_ask wsL_ask (d + 1) mc ms (zJ u v) sz [.ref (xo), .int (a0), .long (a1), .int (a2), .ref (out)] (fun r w2 => r = some (.int 0) ∧ ∃ (z : Int64) (u2 : zw), post z u2 ∧ zDj u2 v ∧ w2 = zJ u2 (va_up v out (some (eJ cs 1 (vp_updL f 0 z))))) := by
  refine z_metL (cc := cL_ask) (maxL := 7) (ret := (some .int)) (hh := [(0, 12, 15, 19), (0, 12, 19, 21), (0, 12, 23, 13)]) (by decide) rfl (Nat.le_of_ble_eq_true rfl) ?_
  intro p e s m below meth c hx hb hr hml hown hts hlocks hT hsz hK hE hN hS ls hl
  have hl : lv_has ls 7 [(0, .ref (xo)), (1, .int (a0)), (2, .long (a1)), (4, .int (a2)), (5, .ref (out))] := hl
  refine lv_aload hx hb dL_ask_0 (lv_at hl 4 rfl) ?_
  refine lv_iconst (v := 0) hx hb dL_ask_2 (by decide) ?_
  refine lv_aload_n hx hb dL_ask_3 rfl (lv_at hl 0 rfl) ?_
  refine lv_iload_n hx hb dL_ask_4 rfl (lv_at hl 1 rfl) ?_
  refine lv_lload_n hx hb dL_ask_5 rfl (lv_at hl 2 rfl) ?_
  refine lv_iload hx hb dL_ask_6 (lv_at hl 3 rfl) ?_
  refine z_invV (b := xo) (As := [.int (a0), .long (a1), .int (a2)]) (rest := [.int (0), .ref (out)]) (n := 3) ⟨hx, hb, hml, hown, hts⟩ (by rw [hsz]; exact hc.frame hd) gL_ask_X6_ask rfl ⟨rfl, by decide +kernel, by decide +kernel, by decide +kernel⟩ ⟨by simp only [zR]; omega, by simp only [zR]; omega⟩ hK hE hS (ci := 6) rfl (zJ_l hx6) rfl hl.1 rfl (Nat.le_of_ble_eq_true rfl) dL_ask_8 ⟨by simp only [zR]; omega, by simp only [zR]; omega⟩ (fun v9 w9 H locs hq hS => ?_)
  obtain ⟨u2, ⟨z, rfl, hp⟩, hdj, rfl⟩ := hq
  refine W.eq (g2 := F0 m 11 ls [.long (z), .int (0), .ref (out)]) rfl ?_
  refine z_last hx hb hK hS (zJ_r hdj ho) (show ¬ ((0 : Int32) < 0 ∨ 1 ≤ (0 : Int32).toNatClampNeg) by decide) dL_ask_11 (fun H locs hS => ?_)
  have hS : zS (zA (zJ u v) sz) D (zJ u2 (va_up v out (some (eJ cs 1 (vp_updL f 0 z))))) s.heap H locs := by rw [← zJ_up (hdj.n ho)]; exact hS
  refine lv_goto (tgt := 27) hx hb dL_ask_12 (by decide) ?_
  refine lv_iconst (v := 0) hx hb dL_ask_27 (by decide) ?_
  exact z_iret hx hb hr hlocks hS (by omega) (by omega) dL_ask_28 ⟨rfl, z, u2, hp, hdj, rfl⟩
set_option maxHeartbeats 4000000 in
set_option maxRecDepth 100000 in
theorem x1_L_ask (l : Launch) (D : va_G) (cs : Nat → ClassId) {u v : zw} {sz xo out d mc ms : Nat} (a0 : Int32) (a1 : Int64) (a2 : Int32) {fs : List Value} (hc : zMX l D cs yX6_ask wsX6_ask d mc ms u sz [.ref (xo), .int (a0), .long (a1), .int (a2)] (fun _ _ => False) (fun E9 => E9 = "java/lang/IndexOutOfBoundsException")) (hx6 : u xo = some (.inr (6, fs))) (hd : zDj u v) : zML l D cs yL_ask wsL_ask (d + 1) mc ms (zJ u v) sz [.ref (xo), .int (a0), .long (a1), .int (a2), .ref (out)] (fun r w2 => r = some (.int 1) ∧ w2 = zJ u v) := by
  refine z_metL (cc := cL_ask) (maxL := 7) (ret := (some .int)) (hh := [(0, 12, 15, 19), (0, 12, 19, 21), (0, 12, 23, 13)]) (by decide) rfl (Nat.le_of_ble_eq_true rfl) ?_
  intro p e s m below meth c hx hb hr hml hown hts hlocks hT hsz hK hE hN hS ls hl
  have hl : lv_has ls 7 [(0, .ref (xo)), (1, .int (a0)), (2, .long (a1)), (4, .int (a2)), (5, .ref (out))] := hl
  refine lv_aload hx hb dL_ask_0 (lv_at hl 4 rfl) ?_
  refine lv_iconst (v := 0) hx hb dL_ask_2 (by decide) ?_
  refine lv_aload_n hx hb dL_ask_3 rfl (lv_at hl 0 rfl) ?_
  refine lv_iload_n hx hb dL_ask_4 rfl (lv_at hl 1 rfl) ?_
  refine lv_lload_n hx hb dL_ask_5 rfl (lv_at hl 2 rfl) ?_
  refine lv_iload hx hb dL_ask_6 (lv_at hl 3 rfl) ?_
  refine z_invVX (b := xo) (As := [.int (a0), .long (a1), .int (a2)]) (rest := [.int (0), .ref (out)]) (n := 3) ⟨hx, hb, hml, hown, hts⟩ (by rw [hsz]; exact hc.frame hd) gL_ask_X6_ask rfl ⟨rfl, by decide +kernel, by decide +kernel, by decide +kernel⟩ ⟨by simp only [zR]; omega, by simp only [zR]; omega⟩ hK hE hS (ci := 6) rfl (zJ_l hx6) rfl hl.1 rfl (Nat.le_of_ble_eq_true rfl) dL_ask_8 ⟨by simp only [zR]; omega, by simp only [zR]; omega⟩ (fun E ce q9 H locs hpx hS k1 k2 k3 => ?_) (fun v9 w9 H locs hq hS => ?_)
  · subst hpx
    refine vx_catch (own := RL) (name := "java/lang/IndexOutOfBoundsException") hown [] ⟨0, 12, 15, 19⟩ [⟨0, 12, 19, 21⟩, ⟨0, 12, 23, 13⟩] (hT.trans rfl) zall0 (by decide) (by decide) (hts (.classLink RL 19 "java/lang/IndexOutOfBoundsException") (by decide +kernel)) (va_Nw.use rfl (hE.2.2.2.2.2.2.2.1 _ (by decide))) k1 k2 k3 ?_
    refine lv_astore (lv' := [(6, .ref (q9)), (0, .ref (xo)), (1, .int (a0)), (2, .long (a1)), (4, .int (a2)), (5, .ref (out))]) hx hb dL_ask_15 hl (by decide) rfl (fun ls hl => ?_)
    refine lv_iconst (v := 1) hx hb dL_ask_17 (by decide) ?_
    exact z_iret hx hb hr hlocks hS (by omega) (by omega) dL_ask_18 ⟨rfl, rfl⟩
  · obtain ⟨u2, hf, _⟩ := hq
    exact hf.elim
set_option maxHeartbeats 4000000 in
set_option maxRecDepth 100000 in
theorem x2_L_ask (l : Launch) (D : va_G) (cs : Nat → ClassId) {u v : zw} {sz xo out d mc ms : Nat} (a0 : Int32) (a1 : Int64) (a2 : Int32) {fs : List Value} (hc : zMX l D cs yX6_ask wsX6_ask d mc ms u sz [.ref (xo), .int (a0), .long (a1), .int (a2)] (fun _ _ => False) (fun E9 => E9 = "java/lang/IllegalArgumentException")) (hx6 : u xo = some (.inr (6, fs))) (hd : zDj u v) : zML l D cs yL_ask wsL_ask (d + 1) mc ms (zJ u v) sz [.ref (xo), .int (a0), .long (a1), .int (a2), .ref (out)] (fun r w2 => r = some (.int 2) ∧ w2 = zJ u v) := by
  refine z_metL (cc := cL_ask) (maxL := 7) (ret := (some .int)) (hh := [(0, 12, 15, 19), (0, 12, 19, 21), (0, 12, 23, 13)]) (by decide) rfl (Nat.le_of_ble_eq_true rfl) ?_
  intro p e s m below meth c hx hb hr hml hown hts hlocks hT hsz hK hE hN hS ls hl
  have hl : lv_has ls 7 [(0, .ref (xo)), (1, .int (a0)), (2, .long (a1)), (4, .int (a2)), (5, .ref (out))] := hl
  refine lv_aload hx hb dL_ask_0 (lv_at hl 4 rfl) ?_
  refine lv_iconst (v := 0) hx hb dL_ask_2 (by decide) ?_
  refine lv_aload_n hx hb dL_ask_3 rfl (lv_at hl 0 rfl) ?_
  refine lv_iload_n hx hb dL_ask_4 rfl (lv_at hl 1 rfl) ?_
  refine lv_lload_n hx hb dL_ask_5 rfl (lv_at hl 2 rfl) ?_
  refine lv_iload hx hb dL_ask_6 (lv_at hl 3 rfl) ?_
  refine z_invVX (b := xo) (As := [.int (a0), .long (a1), .int (a2)]) (rest := [.int (0), .ref (out)]) (n := 3) ⟨hx, hb, hml, hown, hts⟩ (by rw [hsz]; exact hc.frame hd) gL_ask_X6_ask rfl ⟨rfl, by decide +kernel, by decide +kernel, by decide +kernel⟩ ⟨by simp only [zR]; omega, by simp only [zR]; omega⟩ hK hE hS (ci := 6) rfl (zJ_l hx6) rfl hl.1 rfl (Nat.le_of_ble_eq_true rfl) dL_ask_8 ⟨by simp only [zR]; omega, by simp only [zR]; omega⟩ (fun E ce q9 H locs hpx hS k1 k2 k3 => ?_) (fun v9 w9 H locs hq hS => ?_)
  · subst hpx
    refine vx_catch (own := RL) (name := "java/lang/IllegalArgumentException") hown [⟨0, 12, 15, 19⟩] ⟨0, 12, 19, 21⟩ [⟨0, 12, 23, 13⟩] (hT.trans rfl) (zall1 (Or.inr ⟨by decide, "java/lang/IndexOutOfBoundsException", hts (.classLink RL 19 "java/lang/IndexOutOfBoundsException") (by decide +kernel), hN _ (by decide) _ (by decide) (by decide)⟩) zall0) (by decide) (by decide) (hts (.classLink RL 21 "java/lang/IllegalArgumentException") (by decide +kernel)) (va_Nw.use rfl (hE.2.2.2.2.2.2.2.1 _ (by decide))) k1 k2 k3 ?_
    refine lv_astore (lv' := [(6, .ref (q9)), (0, .ref (xo)), (1, .int (a0)), (2, .long (a1)), (4, .int (a2)), (5, .ref (out))]) hx hb dL_ask_19 hl (by decide) rfl (fun ls hl => ?_)
    refine lv_iconst (v := 2) hx hb dL_ask_21 (by decide) ?_
    exact z_iret hx hb hr hlocks hS (by omega) (by omega) dL_ask_22 ⟨rfl, rfl⟩
  · obtain ⟨u2, hf, _⟩ := hq
    exact hf.elim
set_option maxHeartbeats 4000000 in
set_option maxRecDepth 100000 in
theorem x3_L_ask (l : Launch) (D : va_G) (cs : Nat → ClassId) {u v : zw} {sz xo out d mc ms : Nat} (a0 : Int32) (a1 : Int64) (a2 : Int32) {fs : List Value} (hc : zMX l D cs yX6_ask wsX6_ask d mc ms u sz [.ref (xo), .int (a0), .long (a1), .int (a2)] (fun _ _ => False) (fun E9 => E9 = "java/lang/UnsupportedOperationException")) (hx6 : u xo = some (.inr (6, fs))) (hd : zDj u v) : zML l D cs yL_ask wsL_ask (d + 1) mc ms (zJ u v) sz [.ref (xo), .int (a0), .long (a1), .int (a2), .ref (out)] (fun r w2 => r = some (.int 3) ∧ w2 = zJ u v) := by
  refine z_metL (cc := cL_ask) (maxL := 7) (ret := (some .int)) (hh := [(0, 12, 15, 19), (0, 12, 19, 21), (0, 12, 23, 13)]) (by decide) rfl (Nat.le_of_ble_eq_true rfl) ?_
  intro p e s m below meth c hx hb hr hml hown hts hlocks hT hsz hK hE hN hS ls hl
  have hl : lv_has ls 7 [(0, .ref (xo)), (1, .int (a0)), (2, .long (a1)), (4, .int (a2)), (5, .ref (out))] := hl
  refine lv_aload hx hb dL_ask_0 (lv_at hl 4 rfl) ?_
  refine lv_iconst (v := 0) hx hb dL_ask_2 (by decide) ?_
  refine lv_aload_n hx hb dL_ask_3 rfl (lv_at hl 0 rfl) ?_
  refine lv_iload_n hx hb dL_ask_4 rfl (lv_at hl 1 rfl) ?_
  refine lv_lload_n hx hb dL_ask_5 rfl (lv_at hl 2 rfl) ?_
  refine lv_iload hx hb dL_ask_6 (lv_at hl 3 rfl) ?_
  refine z_invVX (b := xo) (As := [.int (a0), .long (a1), .int (a2)]) (rest := [.int (0), .ref (out)]) (n := 3) ⟨hx, hb, hml, hown, hts⟩ (by rw [hsz]; exact hc.frame hd) gL_ask_X6_ask rfl ⟨rfl, by decide +kernel, by decide +kernel, by decide +kernel⟩ ⟨by simp only [zR]; omega, by simp only [zR]; omega⟩ hK hE hS (ci := 6) rfl (zJ_l hx6) rfl hl.1 rfl (Nat.le_of_ble_eq_true rfl) dL_ask_8 ⟨by simp only [zR]; omega, by simp only [zR]; omega⟩ (fun E ce q9 H locs hpx hS k1 k2 k3 => ?_) (fun v9 w9 H locs hq hS => ?_)
  · subst hpx
    refine vx_catch (own := RL) (name := "java/lang/UnsupportedOperationException") hown [⟨0, 12, 15, 19⟩, ⟨0, 12, 19, 21⟩] ⟨0, 12, 23, 13⟩ [] (hT.trans rfl) (zall1 (Or.inr ⟨by decide, "java/lang/IndexOutOfBoundsException", hts (.classLink RL 19 "java/lang/IndexOutOfBoundsException") (by decide +kernel), hN _ (by decide) _ (by decide) (by decide)⟩) (zall1 (Or.inr ⟨by decide, "java/lang/IllegalArgumentException", hts (.classLink RL 21 "java/lang/IllegalArgumentException") (by decide +kernel), hN _ (by decide) _ (by decide) (by decide)⟩) zall0)) (by decide) (by decide) (hts (.classLink RL 13 "java/lang/UnsupportedOperationException") (by decide +kernel)) (va_Nw.use rfl (hE.2.2.2.2.2.2.2.1 _ (by decide))) k1 k2 k3 ?_
    refine lv_astore (lv' := [(6, .ref (q9)), (0, .ref (xo)), (1, .int (a0)), (2, .long (a1)), (4, .int (a2)), (5, .ref (out))]) hx hb dL_ask_23 hl (by decide) rfl (fun ls hl => ?_)
    refine lv_iconst (v := 3) hx hb dL_ask_25 (by decide) ?_
    exact z_iret hx hb hr hlocks hS (by omega) (by omega) dL_ask_26 ⟨rfl, rfl⟩
  · obtain ⟨u2, hf, _⟩ := hq
    exact hf.elim
set_option maxHeartbeats 4000000 in
set_option maxRecDepth 100000 in
theorem h_L_correct (l : Launch) (D : va_G) (cs : Nat → ClassId) {u v : zw} {sz xo out d mc ms : Nat} (a0 : Int32) (a1 : Int32) (a2 : Int64) {fs : List Value} {f : Nat → Int64} {post : Int32 → zw → Prop} (hc : zM l D cs yX6_correct wsX6_correct d mc ms u sz [.ref (xo), .int (a0), .int (a1), .long (a2)] (fun r u2 => ∃ z : Int32, r = some (.int z) ∧ post z u2)) (hx6 : u xo = some (.inr (6, fs))) (hd : zDj u v) (ho : v out = some (eJ cs 1 f)) : zML l D cs yL_correct wsL_correct (d + 1) mc ms (zJ u v) sz [.ref (xo), .int (a0), .int (a1), .long (a2), .ref (out)] (fun r w2 => r = some (.int 0) ∧ ∃ (z : Int32) (u2 : zw), post z u2 ∧ zDj u2 v ∧ w2 = zJ u2 (va_up v out (some (eJ cs 1 (vp_updL f 0 z.toInt64))))) := by
  refine z_metL (cc := cL_correct) (maxL := 7) (ret := (some .int)) (hh := [(0, 12, 15, 19), (0, 12, 19, 61), (0, 12, 23, 21)]) (by decide) rfl (Nat.le_of_ble_eq_true rfl) ?_
  intro p e s m below meth c hx hb hr hml hown hts hlocks hT hsz hK hE hN hS ls hl
  have hl : lv_has ls 7 [(0, .ref (xo)), (1, .int (a0)), (2, .int (a1)), (3, .long (a2)), (5, .ref (out))] := hl
  refine lv_aload hx hb dL_correct_0 (lv_at hl 4 rfl) ?_
  refine lv_iconst (v := 0) hx hb dL_correct_2 (by decide) ?_
  refine lv_aload_n hx hb dL_correct_3 rfl (lv_at hl 0 rfl) ?_
  refine lv_iload_n hx hb dL_correct_4 rfl (lv_at hl 1 rfl) ?_
  refine lv_iload_n hx hb dL_correct_5 rfl (lv_at hl 2 rfl) ?_
  refine lv_lload_n hx hb dL_correct_6 rfl (lv_at hl 3 rfl) ?_
  refine z_invV (b := xo) (As := [.int (a0), .int (a1), .long (a2)]) (rest := [.int (0), .ref (out)]) (n := 3) ⟨hx, hb, hml, hown, hts⟩ (by rw [hsz]; exact hc.frame hd) gL_correct_X6_correct rfl ⟨rfl, by decide +kernel, by decide +kernel, by decide +kernel⟩ ⟨by simp only [zR]; omega, by simp only [zR]; omega⟩ hK hE hS (ci := 6) rfl (zJ_l hx6) rfl hl.1 rfl (Nat.le_of_ble_eq_true rfl) dL_correct_7 ⟨by simp only [zR]; omega, by simp only [zR]; omega⟩ (fun v9 w9 H locs hq hS => ?_)
  obtain ⟨u2, ⟨z, rfl, hp⟩, hdj, rfl⟩ := hq
  refine W.eq (g2 := F0 m 10 ls [.int (z), .int (0), .ref (out)]) rfl ?_
  refine lv_i2l (v := z.toInt64) hx hb dL_correct_10 rfl ?_
  refine z_last hx hb hK hS (zJ_r hdj ho) (show ¬ ((0 : Int32) < 0 ∨ 1 ≤ (0 : Int32).toNatClampNeg) by decide) dL_correct_11 (fun H locs hS => ?_)
  have hS : zS (zA (zJ u v) sz) D (zJ u2 (va_up v out (some (eJ cs 1 (vp_updL f 0 z.toInt64))))) s.heap H locs := by rw [← zJ_up (hdj.n ho)]; exact hS
  refine lv_goto (tgt := 27) hx hb dL_correct_12 (by decide) ?_
  refine lv_iconst (v := 0) hx hb dL_correct_27 (by decide) ?_
  exact z_iret hx hb hr hlocks hS (by omega) (by omega) dL_correct_28 ⟨rfl, z, u2, hp, hdj, rfl⟩
set_option maxHeartbeats 4000000 in
set_option maxRecDepth 100000 in
theorem x1_L_correct (l : Launch) (D : va_G) (cs : Nat → ClassId) {u v : zw} {sz xo out d mc ms : Nat} (a0 : Int32) (a1 : Int32) (a2 : Int64) {fs : List Value} (hc : zMX l D cs yX6_correct wsX6_correct d mc ms u sz [.ref (xo), .int (a0), .int (a1), .long (a2)] (fun _ _ => False) (fun E9 => E9 = "java/lang/IndexOutOfBoundsException")) (hx6 : u xo = some (.inr (6, fs))) (hd : zDj u v) : zML l D cs yL_correct wsL_correct (d + 1) mc ms (zJ u v) sz [.ref (xo), .int (a0), .int (a1), .long (a2), .ref (out)] (fun r w2 => r = some (.int 1) ∧ w2 = zJ u v) := by
  refine z_metL (cc := cL_correct) (maxL := 7) (ret := (some .int)) (hh := [(0, 12, 15, 19), (0, 12, 19, 61), (0, 12, 23, 21)]) (by decide) rfl (Nat.le_of_ble_eq_true rfl) ?_
  intro p e s m below meth c hx hb hr hml hown hts hlocks hT hsz hK hE hN hS ls hl
  have hl : lv_has ls 7 [(0, .ref (xo)), (1, .int (a0)), (2, .int (a1)), (3, .long (a2)), (5, .ref (out))] := hl
  refine lv_aload hx hb dL_correct_0 (lv_at hl 4 rfl) ?_
  refine lv_iconst (v := 0) hx hb dL_correct_2 (by decide) ?_
  refine lv_aload_n hx hb dL_correct_3 rfl (lv_at hl 0 rfl) ?_
  refine lv_iload_n hx hb dL_correct_4 rfl (lv_at hl 1 rfl) ?_
  refine lv_iload_n hx hb dL_correct_5 rfl (lv_at hl 2 rfl) ?_
  refine lv_lload_n hx hb dL_correct_6 rfl (lv_at hl 3 rfl) ?_
  refine z_invVX (b := xo) (As := [.int (a0), .int (a1), .long (a2)]) (rest := [.int (0), .ref (out)]) (n := 3) ⟨hx, hb, hml, hown, hts⟩ (by rw [hsz]; exact hc.frame hd) gL_correct_X6_correct rfl ⟨rfl, by decide +kernel, by decide +kernel, by decide +kernel⟩ ⟨by simp only [zR]; omega, by simp only [zR]; omega⟩ hK hE hS (ci := 6) rfl (zJ_l hx6) rfl hl.1 rfl (Nat.le_of_ble_eq_true rfl) dL_correct_7 ⟨by simp only [zR]; omega, by simp only [zR]; omega⟩ (fun E ce q9 H locs hpx hS k1 k2 k3 => ?_) (fun v9 w9 H locs hq hS => ?_)
  · subst hpx
    refine vx_catch (own := RL) (name := "java/lang/IndexOutOfBoundsException") hown [] ⟨0, 12, 15, 19⟩ [⟨0, 12, 19, 61⟩, ⟨0, 12, 23, 21⟩] (hT.trans rfl) zall0 (by decide) (by decide) (hts (.classLink RL 19 "java/lang/IndexOutOfBoundsException") (by decide +kernel)) (va_Nw.use rfl (hE.2.2.2.2.2.2.2.1 _ (by decide))) k1 k2 k3 ?_
    refine lv_astore (lv' := [(6, .ref (q9)), (0, .ref (xo)), (1, .int (a0)), (2, .int (a1)), (3, .long (a2)), (5, .ref (out))]) hx hb dL_correct_15 hl (by decide) rfl (fun ls hl => ?_)
    refine lv_iconst (v := 1) hx hb dL_correct_17 (by decide) ?_
    exact z_iret hx hb hr hlocks hS (by omega) (by omega) dL_correct_18 ⟨rfl, rfl⟩
  · obtain ⟨u2, hf, _⟩ := hq
    exact hf.elim
set_option maxHeartbeats 4000000 in
set_option maxRecDepth 100000 in
theorem x2_L_correct (l : Launch) (D : va_G) (cs : Nat → ClassId) {u v : zw} {sz xo out d mc ms : Nat} (a0 : Int32) (a1 : Int32) (a2 : Int64) {fs : List Value} (hc : zMX l D cs yX6_correct wsX6_correct d mc ms u sz [.ref (xo), .int (a0), .int (a1), .long (a2)] (fun _ _ => False) (fun E9 => E9 = "java/util/NoSuchElementException")) (hx6 : u xo = some (.inr (6, fs))) (hd : zDj u v) : zML l D cs yL_correct wsL_correct (d + 1) mc ms (zJ u v) sz [.ref (xo), .int (a0), .int (a1), .long (a2), .ref (out)] (fun r w2 => r = some (.int 2) ∧ w2 = zJ u v) := by
  refine z_metL (cc := cL_correct) (maxL := 7) (ret := (some .int)) (hh := [(0, 12, 15, 19), (0, 12, 19, 61), (0, 12, 23, 21)]) (by decide) rfl (Nat.le_of_ble_eq_true rfl) ?_
  intro p e s m below meth c hx hb hr hml hown hts hlocks hT hsz hK hE hN hS ls hl
  have hl : lv_has ls 7 [(0, .ref (xo)), (1, .int (a0)), (2, .int (a1)), (3, .long (a2)), (5, .ref (out))] := hl
  refine lv_aload hx hb dL_correct_0 (lv_at hl 4 rfl) ?_
  refine lv_iconst (v := 0) hx hb dL_correct_2 (by decide) ?_
  refine lv_aload_n hx hb dL_correct_3 rfl (lv_at hl 0 rfl) ?_
  refine lv_iload_n hx hb dL_correct_4 rfl (lv_at hl 1 rfl) ?_
  refine lv_iload_n hx hb dL_correct_5 rfl (lv_at hl 2 rfl) ?_
  refine lv_lload_n hx hb dL_correct_6 rfl (lv_at hl 3 rfl) ?_
  refine z_invVX (b := xo) (As := [.int (a0), .int (a1), .long (a2)]) (rest := [.int (0), .ref (out)]) (n := 3) ⟨hx, hb, hml, hown, hts⟩ (by rw [hsz]; exact hc.frame hd) gL_correct_X6_correct rfl ⟨rfl, by decide +kernel, by decide +kernel, by decide +kernel⟩ ⟨by simp only [zR]; omega, by simp only [zR]; omega⟩ hK hE hS (ci := 6) rfl (zJ_l hx6) rfl hl.1 rfl (Nat.le_of_ble_eq_true rfl) dL_correct_7 ⟨by simp only [zR]; omega, by simp only [zR]; omega⟩ (fun E ce q9 H locs hpx hS k1 k2 k3 => ?_) (fun v9 w9 H locs hq hS => ?_)
  · subst hpx
    refine vx_catch (own := RL) (name := "java/util/NoSuchElementException") hown [⟨0, 12, 15, 19⟩] ⟨0, 12, 19, 61⟩ [⟨0, 12, 23, 21⟩] (hT.trans rfl) (zall1 (Or.inr ⟨by decide, "java/lang/IndexOutOfBoundsException", hts (.classLink RL 19 "java/lang/IndexOutOfBoundsException") (by decide +kernel), hN _ (by decide) _ (by decide) (by decide)⟩) zall0) (by decide) (by decide) (hts (.classLink RL 61 "java/util/NoSuchElementException") (by decide +kernel)) (va_Nw.use rfl (hE.2.2.2.2.2.2.2.1 _ (by decide))) k1 k2 k3 ?_
    refine lv_astore (lv' := [(6, .ref (q9)), (0, .ref (xo)), (1, .int (a0)), (2, .int (a1)), (3, .long (a2)), (5, .ref (out))]) hx hb dL_correct_19 hl (by decide) rfl (fun ls hl => ?_)
    refine lv_iconst (v := 2) hx hb dL_correct_21 (by decide) ?_
    exact z_iret hx hb hr hlocks hS (by omega) (by omega) dL_correct_22 ⟨rfl, rfl⟩
  · obtain ⟨u2, hf, _⟩ := hq
    exact hf.elim
set_option maxHeartbeats 4000000 in
set_option maxRecDepth 100000 in
theorem x3_L_correct (l : Launch) (D : va_G) (cs : Nat → ClassId) {u v : zw} {sz xo out d mc ms : Nat} (a0 : Int32) (a1 : Int32) (a2 : Int64) {fs : List Value} (hc : zMX l D cs yX6_correct wsX6_correct d mc ms u sz [.ref (xo), .int (a0), .int (a1), .long (a2)] (fun _ _ => False) (fun E9 => E9 = "java/lang/IllegalArgumentException")) (hx6 : u xo = some (.inr (6, fs))) (hd : zDj u v) : zML l D cs yL_correct wsL_correct (d + 1) mc ms (zJ u v) sz [.ref (xo), .int (a0), .int (a1), .long (a2), .ref (out)] (fun r w2 => r = some (.int 3) ∧ w2 = zJ u v) := by
  refine z_metL (cc := cL_correct) (maxL := 7) (ret := (some .int)) (hh := [(0, 12, 15, 19), (0, 12, 19, 61), (0, 12, 23, 21)]) (by decide) rfl (Nat.le_of_ble_eq_true rfl) ?_
  intro p e s m below meth c hx hb hr hml hown hts hlocks hT hsz hK hE hN hS ls hl
  have hl : lv_has ls 7 [(0, .ref (xo)), (1, .int (a0)), (2, .int (a1)), (3, .long (a2)), (5, .ref (out))] := hl
  refine lv_aload hx hb dL_correct_0 (lv_at hl 4 rfl) ?_
  refine lv_iconst (v := 0) hx hb dL_correct_2 (by decide) ?_
  refine lv_aload_n hx hb dL_correct_3 rfl (lv_at hl 0 rfl) ?_
  refine lv_iload_n hx hb dL_correct_4 rfl (lv_at hl 1 rfl) ?_
  refine lv_iload_n hx hb dL_correct_5 rfl (lv_at hl 2 rfl) ?_
  refine lv_lload_n hx hb dL_correct_6 rfl (lv_at hl 3 rfl) ?_
  refine z_invVX (b := xo) (As := [.int (a0), .int (a1), .long (a2)]) (rest := [.int (0), .ref (out)]) (n := 3) ⟨hx, hb, hml, hown, hts⟩ (by rw [hsz]; exact hc.frame hd) gL_correct_X6_correct rfl ⟨rfl, by decide +kernel, by decide +kernel, by decide +kernel⟩ ⟨by simp only [zR]; omega, by simp only [zR]; omega⟩ hK hE hS (ci := 6) rfl (zJ_l hx6) rfl hl.1 rfl (Nat.le_of_ble_eq_true rfl) dL_correct_7 ⟨by simp only [zR]; omega, by simp only [zR]; omega⟩ (fun E ce q9 H locs hpx hS k1 k2 k3 => ?_) (fun v9 w9 H locs hq hS => ?_)
  · subst hpx
    refine vx_catch (own := RL) (name := "java/lang/IllegalArgumentException") hown [⟨0, 12, 15, 19⟩, ⟨0, 12, 19, 61⟩] ⟨0, 12, 23, 21⟩ [] (hT.trans rfl) (zall1 (Or.inr ⟨by decide, "java/lang/IndexOutOfBoundsException", hts (.classLink RL 19 "java/lang/IndexOutOfBoundsException") (by decide +kernel), hN _ (by decide) _ (by decide) (by decide)⟩) (zall1 (Or.inr ⟨by decide, "java/util/NoSuchElementException", hts (.classLink RL 61 "java/util/NoSuchElementException") (by decide +kernel), hN _ (by decide) _ (by decide) (by decide)⟩) zall0)) (by decide) (by decide) (hts (.classLink RL 21 "java/lang/IllegalArgumentException") (by decide +kernel)) (va_Nw.use rfl (hE.2.2.2.2.2.2.2.1 _ (by decide))) k1 k2 k3 ?_
    refine lv_astore (lv' := [(6, .ref (q9)), (0, .ref (xo)), (1, .int (a0)), (2, .int (a1)), (3, .long (a2)), (5, .ref (out))]) hx hb dL_correct_23 hl (by decide) rfl (fun ls hl => ?_)
    refine lv_iconst (v := 3) hx hb dL_correct_25 (by decide) ?_
    exact z_iret hx hb hr hlocks hS (by omega) (by omega) dL_correct_26 ⟨rfl, rfl⟩
  · obtain ⟨u2, hf, _⟩ := hq
    exact hf.elim
set_option maxHeartbeats 4000000 in
set_option maxRecDepth 100000 in
theorem h_L_line (l : Launch) (D : va_G) (cs : Nat → ClassId) {u v : zw} {sz xo out d mc ms : Nat} (a0 : Int32) (a1 : Int32) (a2 : Int32) {fs : List Value} {f : Nat → Int64} {post : Int64 → zw → Prop} (hc : zM l D cs yX6_line wsX6_line d mc ms u sz [.ref (xo), .int (a0), .int (a1), .int (a2)] (fun r u2 => ∃ z : Int64, r = some (.long z) ∧ post z u2)) (hx6 : u xo = some (.inr (6, fs))) (hd : zDj u v) (ho : v out = some (eJ cs 1 f)) : zML l D cs yL_line wsL_line (d + 1) mc ms (zJ u v) sz [.ref (xo), .int (a0), .int (a1), .int (a2), .ref (out)] (fun r w2 => r = some (.int 0) ∧ ∃ (z : Int64) (u2 : zw), post z u2 ∧ zDj u2 v ∧ w2 = zJ u2 (va_up v out (some (eJ cs 1 (vp_updL f 0 z))))) := by
  refine z_metL (cc := cL_line) (maxL := 6) (ret := (some .int)) (hh := [(0, 11, 14, 19), (0, 11, 18, 61), (0, 11, 22, 21)]) (by decide) rfl (Nat.le_of_ble_eq_true rfl) ?_
  intro p e s m below meth c hx hb hr hml hown hts hlocks hT hsz hK hE hN hS ls hl
  have hl : lv_has ls 6 [(0, .ref (xo)), (1, .int (a0)), (2, .int (a1)), (3, .int (a2)), (4, .ref (out))] := hl
  refine lv_aload hx hb dL_line_0 (lv_at hl 4 rfl) ?_
  refine lv_iconst (v := 0) hx hb dL_line_2 (by decide) ?_
  refine lv_aload_n hx hb dL_line_3 rfl (lv_at hl 0 rfl) ?_
  refine lv_iload_n hx hb dL_line_4 rfl (lv_at hl 1 rfl) ?_
  refine lv_iload_n hx hb dL_line_5 rfl (lv_at hl 2 rfl) ?_
  refine lv_iload_n hx hb dL_line_6 rfl (lv_at hl 3 rfl) ?_
  refine z_invV (b := xo) (As := [.int (a0), .int (a1), .int (a2)]) (rest := [.int (0), .ref (out)]) (n := 3) ⟨hx, hb, hml, hown, hts⟩ (by rw [hsz]; exact hc.frame hd) gL_line_X6_line rfl ⟨rfl, by decide +kernel, by decide +kernel, by decide +kernel⟩ ⟨by simp only [zR]; omega, by simp only [zR]; omega⟩ hK hE hS (ci := 6) rfl (zJ_l hx6) rfl hl.1 rfl (Nat.le_of_ble_eq_true rfl) dL_line_7 ⟨by simp only [zR]; omega, by simp only [zR]; omega⟩ (fun v9 w9 H locs hq hS => ?_)
  obtain ⟨u2, ⟨z, rfl, hp⟩, hdj, rfl⟩ := hq
  refine W.eq (g2 := F0 m 10 ls [.long (z), .int (0), .ref (out)]) rfl ?_
  refine z_last hx hb hK hS (zJ_r hdj ho) (show ¬ ((0 : Int32) < 0 ∨ 1 ≤ (0 : Int32).toNatClampNeg) by decide) dL_line_10 (fun H locs hS => ?_)
  have hS : zS (zA (zJ u v) sz) D (zJ u2 (va_up v out (some (eJ cs 1 (vp_updL f 0 z))))) s.heap H locs := by rw [← zJ_up (hdj.n ho)]; exact hS
  refine lv_goto (tgt := 26) hx hb dL_line_11 (by decide) ?_
  refine lv_iconst (v := 0) hx hb dL_line_26 (by decide) ?_
  exact z_iret hx hb hr hlocks hS (by omega) (by omega) dL_line_27 ⟨rfl, z, u2, hp, hdj, rfl⟩
set_option maxHeartbeats 4000000 in
set_option maxRecDepth 100000 in
theorem x1_L_line (l : Launch) (D : va_G) (cs : Nat → ClassId) {u v : zw} {sz xo out d mc ms : Nat} (a0 : Int32) (a1 : Int32) (a2 : Int32) {fs : List Value} (hc : zMX l D cs yX6_line wsX6_line d mc ms u sz [.ref (xo), .int (a0), .int (a1), .int (a2)] (fun _ _ => False) (fun E9 => E9 = "java/lang/IndexOutOfBoundsException")) (hx6 : u xo = some (.inr (6, fs))) (hd : zDj u v) : zML l D cs yL_line wsL_line (d + 1) mc ms (zJ u v) sz [.ref (xo), .int (a0), .int (a1), .int (a2), .ref (out)] (fun r w2 => r = some (.int 1) ∧ w2 = zJ u v) := by
  refine z_metL (cc := cL_line) (maxL := 6) (ret := (some .int)) (hh := [(0, 11, 14, 19), (0, 11, 18, 61), (0, 11, 22, 21)]) (by decide) rfl (Nat.le_of_ble_eq_true rfl) ?_
  intro p e s m below meth c hx hb hr hml hown hts hlocks hT hsz hK hE hN hS ls hl
  have hl : lv_has ls 6 [(0, .ref (xo)), (1, .int (a0)), (2, .int (a1)), (3, .int (a2)), (4, .ref (out))] := hl
  refine lv_aload hx hb dL_line_0 (lv_at hl 4 rfl) ?_
  refine lv_iconst (v := 0) hx hb dL_line_2 (by decide) ?_
  refine lv_aload_n hx hb dL_line_3 rfl (lv_at hl 0 rfl) ?_
  refine lv_iload_n hx hb dL_line_4 rfl (lv_at hl 1 rfl) ?_
  refine lv_iload_n hx hb dL_line_5 rfl (lv_at hl 2 rfl) ?_
  refine lv_iload_n hx hb dL_line_6 rfl (lv_at hl 3 rfl) ?_
  refine z_invVX (b := xo) (As := [.int (a0), .int (a1), .int (a2)]) (rest := [.int (0), .ref (out)]) (n := 3) ⟨hx, hb, hml, hown, hts⟩ (by rw [hsz]; exact hc.frame hd) gL_line_X6_line rfl ⟨rfl, by decide +kernel, by decide +kernel, by decide +kernel⟩ ⟨by simp only [zR]; omega, by simp only [zR]; omega⟩ hK hE hS (ci := 6) rfl (zJ_l hx6) rfl hl.1 rfl (Nat.le_of_ble_eq_true rfl) dL_line_7 ⟨by simp only [zR]; omega, by simp only [zR]; omega⟩ (fun E ce q9 H locs hpx hS k1 k2 k3 => ?_) (fun v9 w9 H locs hq hS => ?_)
  · subst hpx
    refine vx_catch (own := RL) (name := "java/lang/IndexOutOfBoundsException") hown [] ⟨0, 11, 14, 19⟩ [⟨0, 11, 18, 61⟩, ⟨0, 11, 22, 21⟩] (hT.trans rfl) zall0 (by decide) (by decide) (hts (.classLink RL 19 "java/lang/IndexOutOfBoundsException") (by decide +kernel)) (va_Nw.use rfl (hE.2.2.2.2.2.2.2.1 _ (by decide))) k1 k2 k3 ?_
    refine lv_astore (lv' := [(5, .ref (q9)), (0, .ref (xo)), (1, .int (a0)), (2, .int (a1)), (3, .int (a2)), (4, .ref (out))]) hx hb dL_line_14 hl (by decide) rfl (fun ls hl => ?_)
    refine lv_iconst (v := 1) hx hb dL_line_16 (by decide) ?_
    exact z_iret hx hb hr hlocks hS (by omega) (by omega) dL_line_17 ⟨rfl, rfl⟩
  · obtain ⟨u2, hf, _⟩ := hq
    exact hf.elim
set_option maxHeartbeats 4000000 in
set_option maxRecDepth 100000 in
theorem x2_L_line (l : Launch) (D : va_G) (cs : Nat → ClassId) {u v : zw} {sz xo out d mc ms : Nat} (a0 : Int32) (a1 : Int32) (a2 : Int32) {fs : List Value} (hc : zMX l D cs yX6_line wsX6_line d mc ms u sz [.ref (xo), .int (a0), .int (a1), .int (a2)] (fun _ _ => False) (fun E9 => E9 = "java/util/NoSuchElementException")) (hx6 : u xo = some (.inr (6, fs))) (hd : zDj u v) : zML l D cs yL_line wsL_line (d + 1) mc ms (zJ u v) sz [.ref (xo), .int (a0), .int (a1), .int (a2), .ref (out)] (fun r w2 => r = some (.int 2) ∧ w2 = zJ u v) := by
  refine z_metL (cc := cL_line) (maxL := 6) (ret := (some .int)) (hh := [(0, 11, 14, 19), (0, 11, 18, 61), (0, 11, 22, 21)]) (by decide) rfl (Nat.le_of_ble_eq_true rfl) ?_
  intro p e s m below meth c hx hb hr hml hown hts hlocks hT hsz hK hE hN hS ls hl
  have hl : lv_has ls 6 [(0, .ref (xo)), (1, .int (a0)), (2, .int (a1)), (3, .int (a2)), (4, .ref (out))] := hl
  refine lv_aload hx hb dL_line_0 (lv_at hl 4 rfl) ?_
  refine lv_iconst (v := 0) hx hb dL_line_2 (by decide) ?_
  refine lv_aload_n hx hb dL_line_3 rfl (lv_at hl 0 rfl) ?_
  refine lv_iload_n hx hb dL_line_4 rfl (lv_at hl 1 rfl) ?_
  refine lv_iload_n hx hb dL_line_5 rfl (lv_at hl 2 rfl) ?_
  refine lv_iload_n hx hb dL_line_6 rfl (lv_at hl 3 rfl) ?_
  refine z_invVX (b := xo) (As := [.int (a0), .int (a1), .int (a2)]) (rest := [.int (0), .ref (out)]) (n := 3) ⟨hx, hb, hml, hown, hts⟩ (by rw [hsz]; exact hc.frame hd) gL_line_X6_line rfl ⟨rfl, by decide +kernel, by decide +kernel, by decide +kernel⟩ ⟨by simp only [zR]; omega, by simp only [zR]; omega⟩ hK hE hS (ci := 6) rfl (zJ_l hx6) rfl hl.1 rfl (Nat.le_of_ble_eq_true rfl) dL_line_7 ⟨by simp only [zR]; omega, by simp only [zR]; omega⟩ (fun E ce q9 H locs hpx hS k1 k2 k3 => ?_) (fun v9 w9 H locs hq hS => ?_)
  · subst hpx
    refine vx_catch (own := RL) (name := "java/util/NoSuchElementException") hown [⟨0, 11, 14, 19⟩] ⟨0, 11, 18, 61⟩ [⟨0, 11, 22, 21⟩] (hT.trans rfl) (zall1 (Or.inr ⟨by decide, "java/lang/IndexOutOfBoundsException", hts (.classLink RL 19 "java/lang/IndexOutOfBoundsException") (by decide +kernel), hN _ (by decide) _ (by decide) (by decide)⟩) zall0) (by decide) (by decide) (hts (.classLink RL 61 "java/util/NoSuchElementException") (by decide +kernel)) (va_Nw.use rfl (hE.2.2.2.2.2.2.2.1 _ (by decide))) k1 k2 k3 ?_
    refine lv_astore (lv' := [(5, .ref (q9)), (0, .ref (xo)), (1, .int (a0)), (2, .int (a1)), (3, .int (a2)), (4, .ref (out))]) hx hb dL_line_18 hl (by decide) rfl (fun ls hl => ?_)
    refine lv_iconst (v := 2) hx hb dL_line_20 (by decide) ?_
    exact z_iret hx hb hr hlocks hS (by omega) (by omega) dL_line_21 ⟨rfl, rfl⟩
  · obtain ⟨u2, hf, _⟩ := hq
    exact hf.elim
set_option maxHeartbeats 4000000 in
set_option maxRecDepth 100000 in
theorem x3_L_line (l : Launch) (D : va_G) (cs : Nat → ClassId) {u v : zw} {sz xo out d mc ms : Nat} (a0 : Int32) (a1 : Int32) (a2 : Int32) {fs : List Value} (hc : zMX l D cs yX6_line wsX6_line d mc ms u sz [.ref (xo), .int (a0), .int (a1), .int (a2)] (fun _ _ => False) (fun E9 => E9 = "java/lang/IllegalArgumentException")) (hx6 : u xo = some (.inr (6, fs))) (hd : zDj u v) : zML l D cs yL_line wsL_line (d + 1) mc ms (zJ u v) sz [.ref (xo), .int (a0), .int (a1), .int (a2), .ref (out)] (fun r w2 => r = some (.int 3) ∧ w2 = zJ u v) := by
  refine z_metL (cc := cL_line) (maxL := 6) (ret := (some .int)) (hh := [(0, 11, 14, 19), (0, 11, 18, 61), (0, 11, 22, 21)]) (by decide) rfl (Nat.le_of_ble_eq_true rfl) ?_
  intro p e s m below meth c hx hb hr hml hown hts hlocks hT hsz hK hE hN hS ls hl
  have hl : lv_has ls 6 [(0, .ref (xo)), (1, .int (a0)), (2, .int (a1)), (3, .int (a2)), (4, .ref (out))] := hl
  refine lv_aload hx hb dL_line_0 (lv_at hl 4 rfl) ?_
  refine lv_iconst (v := 0) hx hb dL_line_2 (by decide) ?_
  refine lv_aload_n hx hb dL_line_3 rfl (lv_at hl 0 rfl) ?_
  refine lv_iload_n hx hb dL_line_4 rfl (lv_at hl 1 rfl) ?_
  refine lv_iload_n hx hb dL_line_5 rfl (lv_at hl 2 rfl) ?_
  refine lv_iload_n hx hb dL_line_6 rfl (lv_at hl 3 rfl) ?_
  refine z_invVX (b := xo) (As := [.int (a0), .int (a1), .int (a2)]) (rest := [.int (0), .ref (out)]) (n := 3) ⟨hx, hb, hml, hown, hts⟩ (by rw [hsz]; exact hc.frame hd) gL_line_X6_line rfl ⟨rfl, by decide +kernel, by decide +kernel, by decide +kernel⟩ ⟨by simp only [zR]; omega, by simp only [zR]; omega⟩ hK hE hS (ci := 6) rfl (zJ_l hx6) rfl hl.1 rfl (Nat.le_of_ble_eq_true rfl) dL_line_7 ⟨by simp only [zR]; omega, by simp only [zR]; omega⟩ (fun E ce q9 H locs hpx hS k1 k2 k3 => ?_) (fun v9 w9 H locs hq hS => ?_)
  · subst hpx
    refine vx_catch (own := RL) (name := "java/lang/IllegalArgumentException") hown [⟨0, 11, 14, 19⟩, ⟨0, 11, 18, 61⟩] ⟨0, 11, 22, 21⟩ [] (hT.trans rfl) (zall1 (Or.inr ⟨by decide, "java/lang/IndexOutOfBoundsException", hts (.classLink RL 19 "java/lang/IndexOutOfBoundsException") (by decide +kernel), hN _ (by decide) _ (by decide) (by decide)⟩) (zall1 (Or.inr ⟨by decide, "java/util/NoSuchElementException", hts (.classLink RL 61 "java/util/NoSuchElementException") (by decide +kernel), hN _ (by decide) _ (by decide) (by decide)⟩) zall0)) (by decide) (by decide) (hts (.classLink RL 21 "java/lang/IllegalArgumentException") (by decide +kernel)) (va_Nw.use rfl (hE.2.2.2.2.2.2.2.1 _ (by decide))) k1 k2 k3 ?_
    refine lv_astore (lv' := [(5, .ref (q9)), (0, .ref (xo)), (1, .int (a0)), (2, .int (a1)), (3, .int (a2)), (4, .ref (out))]) hx hb dL_line_22 hl (by decide) rfl (fun ls hl => ?_)
    refine lv_iconst (v := 3) hx hb dL_line_24 (by decide) ?_
    exact z_iret hx hb hr hlocks hS (by omega) (by omega) dL_line_25 ⟨rfl, rfl⟩
  · obtain ⟨u2, hf, _⟩ := hq
    exact hf.elim
set_option maxHeartbeats 4000000 in
set_option maxRecDepth 100000 in
theorem h_L_part (l : Launch) (D : va_G) (cs : Nat → ClassId) {u v : zw} {sz xo out d mc ms : Nat} (a0 : Int32) (a1 : Int32) (a2 : Int32) {fs : List Value} {f : Nat → Int64} {post : Int64 → zw → Prop} (hc : zM l D cs yX6_part wsX6_part d mc ms u sz [.ref (xo), .int (a0), .int (a1), .int (a2)] (fun r u2 => ∃ z : Int64, r = some (.long z) ∧ post z u2)) (hx6 : u xo = some (.inr (6, fs))) (hd : zDj u v) (ho : v out = some (eJ cs 1 f)) : zML l D cs yL_part wsL_part (d + 1) mc ms (zJ u v) sz [.ref (xo), .int (a0), .int (a1), .int (a2), .ref (out)] (fun r w2 => r = some (.int 0) ∧ ∃ (z : Int64) (u2 : zw), post z u2 ∧ zDj u2 v ∧ w2 = zJ u2 (va_up v out (some (eJ cs 1 (vp_updL f 0 z))))) := by
  refine z_metL (cc := cL_part) (maxL := 6) (ret := (some .int)) (hh := [(0, 11, 14, 19), (0, 11, 18, 61)]) (by decide) rfl (Nat.le_of_ble_eq_true rfl) ?_
  intro p e s m below meth c hx hb hr hml hown hts hlocks hT hsz hK hE hN hS ls hl
  have hl : lv_has ls 6 [(0, .ref (xo)), (1, .int (a0)), (2, .int (a1)), (3, .int (a2)), (4, .ref (out))] := hl
  refine lv_aload hx hb dL_part_0 (lv_at hl 4 rfl) ?_
  refine lv_iconst (v := 0) hx hb dL_part_2 (by decide) ?_
  refine lv_aload_n hx hb dL_part_3 rfl (lv_at hl 0 rfl) ?_
  refine lv_iload_n hx hb dL_part_4 rfl (lv_at hl 1 rfl) ?_
  refine lv_iload_n hx hb dL_part_5 rfl (lv_at hl 2 rfl) ?_
  refine lv_iload_n hx hb dL_part_6 rfl (lv_at hl 3 rfl) ?_
  refine z_invV (b := xo) (As := [.int (a0), .int (a1), .int (a2)]) (rest := [.int (0), .ref (out)]) (n := 3) ⟨hx, hb, hml, hown, hts⟩ (by rw [hsz]; exact hc.frame hd) gL_part_X6_part rfl ⟨rfl, by decide +kernel, by decide +kernel, by decide +kernel⟩ ⟨by simp only [zR]; omega, by simp only [zR]; omega⟩ hK hE hS (ci := 6) rfl (zJ_l hx6) rfl hl.1 rfl (Nat.le_of_ble_eq_true rfl) dL_part_7 ⟨by simp only [zR]; omega, by simp only [zR]; omega⟩ (fun v9 w9 H locs hq hS => ?_)
  obtain ⟨u2, ⟨z, rfl, hp⟩, hdj, rfl⟩ := hq
  refine W.eq (g2 := F0 m 10 ls [.long (z), .int (0), .ref (out)]) rfl ?_
  refine z_last hx hb hK hS (zJ_r hdj ho) (show ¬ ((0 : Int32) < 0 ∨ 1 ≤ (0 : Int32).toNatClampNeg) by decide) dL_part_10 (fun H locs hS => ?_)
  have hS : zS (zA (zJ u v) sz) D (zJ u2 (va_up v out (some (eJ cs 1 (vp_updL f 0 z))))) s.heap H locs := by rw [← zJ_up (hdj.n ho)]; exact hS
  refine lv_goto (tgt := 22) hx hb dL_part_11 (by decide) ?_
  refine lv_iconst (v := 0) hx hb dL_part_22 (by decide) ?_
  exact z_iret hx hb hr hlocks hS (by omega) (by omega) dL_part_23 ⟨rfl, z, u2, hp, hdj, rfl⟩
set_option maxHeartbeats 4000000 in
set_option maxRecDepth 100000 in
theorem x1_L_part (l : Launch) (D : va_G) (cs : Nat → ClassId) {u v : zw} {sz xo out d mc ms : Nat} (a0 : Int32) (a1 : Int32) (a2 : Int32) {fs : List Value} (hc : zMX l D cs yX6_part wsX6_part d mc ms u sz [.ref (xo), .int (a0), .int (a1), .int (a2)] (fun _ _ => False) (fun E9 => E9 = "java/lang/IndexOutOfBoundsException")) (hx6 : u xo = some (.inr (6, fs))) (hd : zDj u v) : zML l D cs yL_part wsL_part (d + 1) mc ms (zJ u v) sz [.ref (xo), .int (a0), .int (a1), .int (a2), .ref (out)] (fun r w2 => r = some (.int 1) ∧ w2 = zJ u v) := by
  refine z_metL (cc := cL_part) (maxL := 6) (ret := (some .int)) (hh := [(0, 11, 14, 19), (0, 11, 18, 61)]) (by decide) rfl (Nat.le_of_ble_eq_true rfl) ?_
  intro p e s m below meth c hx hb hr hml hown hts hlocks hT hsz hK hE hN hS ls hl
  have hl : lv_has ls 6 [(0, .ref (xo)), (1, .int (a0)), (2, .int (a1)), (3, .int (a2)), (4, .ref (out))] := hl
  refine lv_aload hx hb dL_part_0 (lv_at hl 4 rfl) ?_
  refine lv_iconst (v := 0) hx hb dL_part_2 (by decide) ?_
  refine lv_aload_n hx hb dL_part_3 rfl (lv_at hl 0 rfl) ?_
  refine lv_iload_n hx hb dL_part_4 rfl (lv_at hl 1 rfl) ?_
  refine lv_iload_n hx hb dL_part_5 rfl (lv_at hl 2 rfl) ?_
  refine lv_iload_n hx hb dL_part_6 rfl (lv_at hl 3 rfl) ?_
  refine z_invVX (b := xo) (As := [.int (a0), .int (a1), .int (a2)]) (rest := [.int (0), .ref (out)]) (n := 3) ⟨hx, hb, hml, hown, hts⟩ (by rw [hsz]; exact hc.frame hd) gL_part_X6_part rfl ⟨rfl, by decide +kernel, by decide +kernel, by decide +kernel⟩ ⟨by simp only [zR]; omega, by simp only [zR]; omega⟩ hK hE hS (ci := 6) rfl (zJ_l hx6) rfl hl.1 rfl (Nat.le_of_ble_eq_true rfl) dL_part_7 ⟨by simp only [zR]; omega, by simp only [zR]; omega⟩ (fun E ce q9 H locs hpx hS k1 k2 k3 => ?_) (fun v9 w9 H locs hq hS => ?_)
  · subst hpx
    refine vx_catch (own := RL) (name := "java/lang/IndexOutOfBoundsException") hown [] ⟨0, 11, 14, 19⟩ [⟨0, 11, 18, 61⟩] (hT.trans rfl) zall0 (by decide) (by decide) (hts (.classLink RL 19 "java/lang/IndexOutOfBoundsException") (by decide +kernel)) (va_Nw.use rfl (hE.2.2.2.2.2.2.2.1 _ (by decide))) k1 k2 k3 ?_
    refine lv_astore (lv' := [(5, .ref (q9)), (0, .ref (xo)), (1, .int (a0)), (2, .int (a1)), (3, .int (a2)), (4, .ref (out))]) hx hb dL_part_14 hl (by decide) rfl (fun ls hl => ?_)
    refine lv_iconst (v := 1) hx hb dL_part_16 (by decide) ?_
    exact z_iret hx hb hr hlocks hS (by omega) (by omega) dL_part_17 ⟨rfl, rfl⟩
  · obtain ⟨u2, hf, _⟩ := hq
    exact hf.elim
set_option maxHeartbeats 4000000 in
set_option maxRecDepth 100000 in
theorem x2_L_part (l : Launch) (D : va_G) (cs : Nat → ClassId) {u v : zw} {sz xo out d mc ms : Nat} (a0 : Int32) (a1 : Int32) (a2 : Int32) {fs : List Value} (hc : zMX l D cs yX6_part wsX6_part d mc ms u sz [.ref (xo), .int (a0), .int (a1), .int (a2)] (fun _ _ => False) (fun E9 => E9 = "java/util/NoSuchElementException")) (hx6 : u xo = some (.inr (6, fs))) (hd : zDj u v) : zML l D cs yL_part wsL_part (d + 1) mc ms (zJ u v) sz [.ref (xo), .int (a0), .int (a1), .int (a2), .ref (out)] (fun r w2 => r = some (.int 2) ∧ w2 = zJ u v) := by
  refine z_metL (cc := cL_part) (maxL := 6) (ret := (some .int)) (hh := [(0, 11, 14, 19), (0, 11, 18, 61)]) (by decide) rfl (Nat.le_of_ble_eq_true rfl) ?_
  intro p e s m below meth c hx hb hr hml hown hts hlocks hT hsz hK hE hN hS ls hl
  have hl : lv_has ls 6 [(0, .ref (xo)), (1, .int (a0)), (2, .int (a1)), (3, .int (a2)), (4, .ref (out))] := hl
  refine lv_aload hx hb dL_part_0 (lv_at hl 4 rfl) ?_
  refine lv_iconst (v := 0) hx hb dL_part_2 (by decide) ?_
  refine lv_aload_n hx hb dL_part_3 rfl (lv_at hl 0 rfl) ?_
  refine lv_iload_n hx hb dL_part_4 rfl (lv_at hl 1 rfl) ?_
  refine lv_iload_n hx hb dL_part_5 rfl (lv_at hl 2 rfl) ?_
  refine lv_iload_n hx hb dL_part_6 rfl (lv_at hl 3 rfl) ?_
  refine z_invVX (b := xo) (As := [.int (a0), .int (a1), .int (a2)]) (rest := [.int (0), .ref (out)]) (n := 3) ⟨hx, hb, hml, hown, hts⟩ (by rw [hsz]; exact hc.frame hd) gL_part_X6_part rfl ⟨rfl, by decide +kernel, by decide +kernel, by decide +kernel⟩ ⟨by simp only [zR]; omega, by simp only [zR]; omega⟩ hK hE hS (ci := 6) rfl (zJ_l hx6) rfl hl.1 rfl (Nat.le_of_ble_eq_true rfl) dL_part_7 ⟨by simp only [zR]; omega, by simp only [zR]; omega⟩ (fun E ce q9 H locs hpx hS k1 k2 k3 => ?_) (fun v9 w9 H locs hq hS => ?_)
  · subst hpx
    refine vx_catch (own := RL) (name := "java/util/NoSuchElementException") hown [⟨0, 11, 14, 19⟩] ⟨0, 11, 18, 61⟩ [] (hT.trans rfl) (zall1 (Or.inr ⟨by decide, "java/lang/IndexOutOfBoundsException", hts (.classLink RL 19 "java/lang/IndexOutOfBoundsException") (by decide +kernel), hN _ (by decide) _ (by decide) (by decide)⟩) zall0) (by decide) (by decide) (hts (.classLink RL 61 "java/util/NoSuchElementException") (by decide +kernel)) (va_Nw.use rfl (hE.2.2.2.2.2.2.2.1 _ (by decide))) k1 k2 k3 ?_
    refine lv_astore (lv' := [(5, .ref (q9)), (0, .ref (xo)), (1, .int (a0)), (2, .int (a1)), (3, .int (a2)), (4, .ref (out))]) hx hb dL_part_18 hl (by decide) rfl (fun ls hl => ?_)
    refine lv_iconst (v := 2) hx hb dL_part_20 (by decide) ?_
    exact z_iret hx hb hr hlocks hS (by omega) (by omega) dL_part_21 ⟨rfl, rfl⟩
  · obtain ⟨u2, hf, _⟩ := hq
    exact hf.elim
set_option maxHeartbeats 4000000 in
set_option maxRecDepth 100000 in
theorem h_L_sum (l : Launch) (D : va_G) (cs : Nat → ClassId) {u v : zw} {sz xo out d mc ms : Nat} (a0 : Int32) (a1 : Int32) {fs : List Value} {f : Nat → Int64} {post : Int64 → zw → Prop} (hc : zM l D cs yX6_sum wsX6_sum d mc ms u sz [.ref (xo), .int (a0), .int (a1)] (fun r u2 => ∃ z : Int64, r = some (.long z) ∧ post z u2)) (hx6 : u xo = some (.inr (6, fs))) (hd : zDj u v) (ho : v out = some (eJ cs 1 f)) : zML l D cs yL_sum wsL_sum (d + 1) mc ms (zJ u v) sz [.ref (xo), .int (a0), .int (a1), .ref (out)] (fun r w2 => r = some (.int 0) ∧ ∃ (z : Int64) (u2 : zw), post z u2 ∧ zDj u2 v ∧ w2 = zJ u2 (va_up v out (some (eJ cs 1 (vp_updL f 0 z))))) := by
  refine z_metL (cc := cL_sum) (maxL := 5) (ret := (some .int)) (hh := [(0, 9, 12, 19), (0, 9, 16, 21)]) (by decide) rfl (Nat.le_of_ble_eq_true rfl) ?_
  intro p e s m below meth c hx hb hr hml hown hts hlocks hT hsz hK hE hN hS ls hl
  have hl : lv_has ls 5 [(0, .ref (xo)), (1, .int (a0)), (2, .int (a1)), (3, .ref (out))] := hl
  refine lv_aload_n hx hb dL_sum_0 rfl (lv_at hl 3 rfl) ?_
  refine lv_iconst (v := 0) hx hb dL_sum_1 (by decide) ?_
  refine lv_aload_n hx hb dL_sum_2 rfl (lv_at hl 0 rfl) ?_
  refine lv_iload_n hx hb dL_sum_3 rfl (lv_at hl 1 rfl) ?_
  refine lv_iload_n hx hb dL_sum_4 rfl (lv_at hl 2 rfl) ?_
  refine z_invV (b := xo) (As := [.int (a0), .int (a1)]) (rest := [.int (0), .ref (out)]) (n := 2) ⟨hx, hb, hml, hown, hts⟩ (by rw [hsz]; exact hc.frame hd) gL_sum_X6_sum rfl ⟨rfl, by decide +kernel, by decide +kernel, by decide +kernel⟩ ⟨by simp only [zR]; omega, by simp only [zR]; omega⟩ hK hE hS (ci := 6) rfl (zJ_l hx6) rfl hl.1 rfl (Nat.le_of_ble_eq_true rfl) dL_sum_5 ⟨by simp only [zR]; omega, by simp only [zR]; omega⟩ (fun v9 w9 H locs hq hS => ?_)
  obtain ⟨u2, ⟨z, rfl, hp⟩, hdj, rfl⟩ := hq
  refine W.eq (g2 := F0 m 8 ls [.long (z), .int (0), .ref (out)]) rfl ?_
  refine z_last hx hb hK hS (zJ_r hdj ho) (show ¬ ((0 : Int32) < 0 ∨ 1 ≤ (0 : Int32).toNatClampNeg) by decide) dL_sum_8 (fun H locs hS => ?_)
  have hS : zS (zA (zJ u v) sz) D (zJ u2 (va_up v out (some (eJ cs 1 (vp_updL f 0 z))))) s.heap H locs := by rw [← zJ_up (hdj.n ho)]; exact hS
  refine lv_goto (tgt := 20) hx hb dL_sum_9 (by decide) ?_
  refine lv_iconst (v := 0) hx hb dL_sum_20 (by decide) ?_
  exact z_iret hx hb hr hlocks hS (by omega) (by omega) dL_sum_21 ⟨rfl, z, u2, hp, hdj, rfl⟩
set_option maxHeartbeats 4000000 in
set_option maxRecDepth 100000 in
theorem x1_L_sum (l : Launch) (D : va_G) (cs : Nat → ClassId) {u v : zw} {sz xo out d mc ms : Nat} (a0 : Int32) (a1 : Int32) {fs : List Value} (hc : zMX l D cs yX6_sum wsX6_sum d mc ms u sz [.ref (xo), .int (a0), .int (a1)] (fun _ _ => False) (fun E9 => E9 = "java/lang/IndexOutOfBoundsException")) (hx6 : u xo = some (.inr (6, fs))) (hd : zDj u v) : zML l D cs yL_sum wsL_sum (d + 1) mc ms (zJ u v) sz [.ref (xo), .int (a0), .int (a1), .ref (out)] (fun r w2 => r = some (.int 1) ∧ w2 = zJ u v) := by
  refine z_metL (cc := cL_sum) (maxL := 5) (ret := (some .int)) (hh := [(0, 9, 12, 19), (0, 9, 16, 21)]) (by decide) rfl (Nat.le_of_ble_eq_true rfl) ?_
  intro p e s m below meth c hx hb hr hml hown hts hlocks hT hsz hK hE hN hS ls hl
  have hl : lv_has ls 5 [(0, .ref (xo)), (1, .int (a0)), (2, .int (a1)), (3, .ref (out))] := hl
  refine lv_aload_n hx hb dL_sum_0 rfl (lv_at hl 3 rfl) ?_
  refine lv_iconst (v := 0) hx hb dL_sum_1 (by decide) ?_
  refine lv_aload_n hx hb dL_sum_2 rfl (lv_at hl 0 rfl) ?_
  refine lv_iload_n hx hb dL_sum_3 rfl (lv_at hl 1 rfl) ?_
  refine lv_iload_n hx hb dL_sum_4 rfl (lv_at hl 2 rfl) ?_
  refine z_invVX (b := xo) (As := [.int (a0), .int (a1)]) (rest := [.int (0), .ref (out)]) (n := 2) ⟨hx, hb, hml, hown, hts⟩ (by rw [hsz]; exact hc.frame hd) gL_sum_X6_sum rfl ⟨rfl, by decide +kernel, by decide +kernel, by decide +kernel⟩ ⟨by simp only [zR]; omega, by simp only [zR]; omega⟩ hK hE hS (ci := 6) rfl (zJ_l hx6) rfl hl.1 rfl (Nat.le_of_ble_eq_true rfl) dL_sum_5 ⟨by simp only [zR]; omega, by simp only [zR]; omega⟩ (fun E ce q9 H locs hpx hS k1 k2 k3 => ?_) (fun v9 w9 H locs hq hS => ?_)
  · subst hpx
    refine vx_catch (own := RL) (name := "java/lang/IndexOutOfBoundsException") hown [] ⟨0, 9, 12, 19⟩ [⟨0, 9, 16, 21⟩] (hT.trans rfl) zall0 (by decide) (by decide) (hts (.classLink RL 19 "java/lang/IndexOutOfBoundsException") (by decide +kernel)) (va_Nw.use rfl (hE.2.2.2.2.2.2.2.1 _ (by decide))) k1 k2 k3 ?_
    refine lv_astore (lv' := [(4, .ref (q9)), (0, .ref (xo)), (1, .int (a0)), (2, .int (a1)), (3, .ref (out))]) hx hb dL_sum_12 hl (by decide) rfl (fun ls hl => ?_)
    refine lv_iconst (v := 1) hx hb dL_sum_14 (by decide) ?_
    exact z_iret hx hb hr hlocks hS (by omega) (by omega) dL_sum_15 ⟨rfl, rfl⟩
  · obtain ⟨u2, hf, _⟩ := hq
    exact hf.elim
set_option maxHeartbeats 4000000 in
set_option maxRecDepth 100000 in
theorem x2_L_sum (l : Launch) (D : va_G) (cs : Nat → ClassId) {u v : zw} {sz xo out d mc ms : Nat} (a0 : Int32) (a1 : Int32) {fs : List Value} (hc : zMX l D cs yX6_sum wsX6_sum d mc ms u sz [.ref (xo), .int (a0), .int (a1)] (fun _ _ => False) (fun E9 => E9 = "java/lang/IllegalArgumentException")) (hx6 : u xo = some (.inr (6, fs))) (hd : zDj u v) : zML l D cs yL_sum wsL_sum (d + 1) mc ms (zJ u v) sz [.ref (xo), .int (a0), .int (a1), .ref (out)] (fun r w2 => r = some (.int 2) ∧ w2 = zJ u v) := by
  refine z_metL (cc := cL_sum) (maxL := 5) (ret := (some .int)) (hh := [(0, 9, 12, 19), (0, 9, 16, 21)]) (by decide) rfl (Nat.le_of_ble_eq_true rfl) ?_
  intro p e s m below meth c hx hb hr hml hown hts hlocks hT hsz hK hE hN hS ls hl
  have hl : lv_has ls 5 [(0, .ref (xo)), (1, .int (a0)), (2, .int (a1)), (3, .ref (out))] := hl
  refine lv_aload_n hx hb dL_sum_0 rfl (lv_at hl 3 rfl) ?_
  refine lv_iconst (v := 0) hx hb dL_sum_1 (by decide) ?_
  refine lv_aload_n hx hb dL_sum_2 rfl (lv_at hl 0 rfl) ?_
  refine lv_iload_n hx hb dL_sum_3 rfl (lv_at hl 1 rfl) ?_
  refine lv_iload_n hx hb dL_sum_4 rfl (lv_at hl 2 rfl) ?_
  refine z_invVX (b := xo) (As := [.int (a0), .int (a1)]) (rest := [.int (0), .ref (out)]) (n := 2) ⟨hx, hb, hml, hown, hts⟩ (by rw [hsz]; exact hc.frame hd) gL_sum_X6_sum rfl ⟨rfl, by decide +kernel, by decide +kernel, by decide +kernel⟩ ⟨by simp only [zR]; omega, by simp only [zR]; omega⟩ hK hE hS (ci := 6) rfl (zJ_l hx6) rfl hl.1 rfl (Nat.le_of_ble_eq_true rfl) dL_sum_5 ⟨by simp only [zR]; omega, by simp only [zR]; omega⟩ (fun E ce q9 H locs hpx hS k1 k2 k3 => ?_) (fun v9 w9 H locs hq hS => ?_)
  · subst hpx
    refine vx_catch (own := RL) (name := "java/lang/IllegalArgumentException") hown [⟨0, 9, 12, 19⟩] ⟨0, 9, 16, 21⟩ [] (hT.trans rfl) (zall1 (Or.inr ⟨by decide, "java/lang/IndexOutOfBoundsException", hts (.classLink RL 19 "java/lang/IndexOutOfBoundsException") (by decide +kernel), hN _ (by decide) _ (by decide) (by decide)⟩) zall0) (by decide) (by decide) (hts (.classLink RL 21 "java/lang/IllegalArgumentException") (by decide +kernel)) (va_Nw.use rfl (hE.2.2.2.2.2.2.2.1 _ (by decide))) k1 k2 k3 ?_
    refine lv_astore (lv' := [(4, .ref (q9)), (0, .ref (xo)), (1, .int (a0)), (2, .int (a1)), (3, .ref (out))]) hx hb dL_sum_16 hl (by decide) rfl (fun ls hl => ?_)
    refine lv_iconst (v := 2) hx hb dL_sum_18 (by decide) ?_
    exact z_iret hx hb hr hlocks hS (by omega) (by omega) dL_sum_19 ⟨rfl, rfl⟩
  · obtain ⟨u2, hf, _⟩ := hq
    exact hf.elim
set_option maxHeartbeats 4000000 in
set_option maxRecDepth 100000 in
theorem h_L_deducted (l : Launch) (D : va_G) (cs : Nat → ClassId) {u v : zw} {sz xo out d mc ms : Nat} (a0 : Int32) (a1 : Int32) {fs : List Value} {f : Nat → Int64} {post : Int64 → zw → Prop} (hc : zM l D cs yX6_deducted wsX6_deducted d mc ms u sz [.ref (xo), .int (a0), .int (a1)] (fun r u2 => ∃ z : Int64, r = some (.long z) ∧ post z u2)) (hx6 : u xo = some (.inr (6, fs))) (hd : zDj u v) (ho : v out = some (eJ cs 1 f)) : zML l D cs yL_deducted wsL_deducted (d + 1) mc ms (zJ u v) sz [.ref (xo), .int (a0), .int (a1), .ref (out)] (fun r w2 => r = some (.int 0) ∧ ∃ (z : Int64) (u2 : zw), post z u2 ∧ zDj u2 v ∧ w2 = zJ u2 (va_up v out (some (eJ cs 1 (vp_updL f 0 z))))) := by
  refine z_metL (cc := cL_deducted) (maxL := 5) (ret := (some .int)) (hh := [(0, 9, 12, 19)]) (by decide) rfl (Nat.le_of_ble_eq_true rfl) ?_
  intro p e s m below meth c hx hb hr hml hown hts hlocks hT hsz hK hE hN hS ls hl
  have hl : lv_has ls 5 [(0, .ref (xo)), (1, .int (a0)), (2, .int (a1)), (3, .ref (out))] := hl
  refine lv_aload_n hx hb dL_deducted_0 rfl (lv_at hl 3 rfl) ?_
  refine lv_iconst (v := 0) hx hb dL_deducted_1 (by decide) ?_
  refine lv_aload_n hx hb dL_deducted_2 rfl (lv_at hl 0 rfl) ?_
  refine lv_iload_n hx hb dL_deducted_3 rfl (lv_at hl 1 rfl) ?_
  refine lv_iload_n hx hb dL_deducted_4 rfl (lv_at hl 2 rfl) ?_
  refine z_invV (b := xo) (As := [.int (a0), .int (a1)]) (rest := [.int (0), .ref (out)]) (n := 2) ⟨hx, hb, hml, hown, hts⟩ (by rw [hsz]; exact hc.frame hd) gL_deducted_X6_deducted rfl ⟨rfl, by decide +kernel, by decide +kernel, by decide +kernel⟩ ⟨by simp only [zR]; omega, by simp only [zR]; omega⟩ hK hE hS (ci := 6) rfl (zJ_l hx6) rfl hl.1 rfl (Nat.le_of_ble_eq_true rfl) dL_deducted_5 ⟨by simp only [zR]; omega, by simp only [zR]; omega⟩ (fun v9 w9 H locs hq hS => ?_)
  obtain ⟨u2, ⟨z, rfl, hp⟩, hdj, rfl⟩ := hq
  refine W.eq (g2 := F0 m 8 ls [.long (z), .int (0), .ref (out)]) rfl ?_
  refine z_last hx hb hK hS (zJ_r hdj ho) (show ¬ ((0 : Int32) < 0 ∨ 1 ≤ (0 : Int32).toNatClampNeg) by decide) dL_deducted_8 (fun H locs hS => ?_)
  have hS : zS (zA (zJ u v) sz) D (zJ u2 (va_up v out (some (eJ cs 1 (vp_updL f 0 z))))) s.heap H locs := by rw [← zJ_up (hdj.n ho)]; exact hS
  refine lv_goto (tgt := 16) hx hb dL_deducted_9 (by decide) ?_
  refine lv_iconst (v := 0) hx hb dL_deducted_16 (by decide) ?_
  exact z_iret hx hb hr hlocks hS (by omega) (by omega) dL_deducted_17 ⟨rfl, z, u2, hp, hdj, rfl⟩
set_option maxHeartbeats 4000000 in
set_option maxRecDepth 100000 in
theorem x1_L_deducted (l : Launch) (D : va_G) (cs : Nat → ClassId) {u v : zw} {sz xo out d mc ms : Nat} (a0 : Int32) (a1 : Int32) {fs : List Value} (hc : zMX l D cs yX6_deducted wsX6_deducted d mc ms u sz [.ref (xo), .int (a0), .int (a1)] (fun _ _ => False) (fun E9 => E9 = "java/lang/IndexOutOfBoundsException")) (hx6 : u xo = some (.inr (6, fs))) (hd : zDj u v) : zML l D cs yL_deducted wsL_deducted (d + 1) mc ms (zJ u v) sz [.ref (xo), .int (a0), .int (a1), .ref (out)] (fun r w2 => r = some (.int 1) ∧ w2 = zJ u v) := by
  refine z_metL (cc := cL_deducted) (maxL := 5) (ret := (some .int)) (hh := [(0, 9, 12, 19)]) (by decide) rfl (Nat.le_of_ble_eq_true rfl) ?_
  intro p e s m below meth c hx hb hr hml hown hts hlocks hT hsz hK hE hN hS ls hl
  have hl : lv_has ls 5 [(0, .ref (xo)), (1, .int (a0)), (2, .int (a1)), (3, .ref (out))] := hl
  refine lv_aload_n hx hb dL_deducted_0 rfl (lv_at hl 3 rfl) ?_
  refine lv_iconst (v := 0) hx hb dL_deducted_1 (by decide) ?_
  refine lv_aload_n hx hb dL_deducted_2 rfl (lv_at hl 0 rfl) ?_
  refine lv_iload_n hx hb dL_deducted_3 rfl (lv_at hl 1 rfl) ?_
  refine lv_iload_n hx hb dL_deducted_4 rfl (lv_at hl 2 rfl) ?_
  refine z_invVX (b := xo) (As := [.int (a0), .int (a1)]) (rest := [.int (0), .ref (out)]) (n := 2) ⟨hx, hb, hml, hown, hts⟩ (by rw [hsz]; exact hc.frame hd) gL_deducted_X6_deducted rfl ⟨rfl, by decide +kernel, by decide +kernel, by decide +kernel⟩ ⟨by simp only [zR]; omega, by simp only [zR]; omega⟩ hK hE hS (ci := 6) rfl (zJ_l hx6) rfl hl.1 rfl (Nat.le_of_ble_eq_true rfl) dL_deducted_5 ⟨by simp only [zR]; omega, by simp only [zR]; omega⟩ (fun E ce q9 H locs hpx hS k1 k2 k3 => ?_) (fun v9 w9 H locs hq hS => ?_)
  · subst hpx
    refine vx_catch (own := RL) (name := "java/lang/IndexOutOfBoundsException") hown [] ⟨0, 9, 12, 19⟩ [] (hT.trans rfl) zall0 (by decide) (by decide) (hts (.classLink RL 19 "java/lang/IndexOutOfBoundsException") (by decide +kernel)) (va_Nw.use rfl (hE.2.2.2.2.2.2.2.1 _ (by decide))) k1 k2 k3 ?_
    refine lv_astore (lv' := [(4, .ref (q9)), (0, .ref (xo)), (1, .int (a0)), (2, .int (a1)), (3, .ref (out))]) hx hb dL_deducted_12 hl (by decide) rfl (fun ls hl => ?_)
    refine lv_iconst (v := 1) hx hb dL_deducted_14 (by decide) ?_
    exact z_iret hx hb hr hlocks hS (by omega) (by omega) dL_deducted_15 ⟨rfl, rfl⟩
  · obtain ⟨u2, hf, _⟩ := hq
    exact hf.elim
set_option maxHeartbeats 4000000 in
set_option maxRecDepth 100000 in
theorem h_L_settle (l : Launch) (D : va_G) (cs : Nat → ClassId) {u v : zw} {sz xo out d mc ms : Nat} (a0 : Int32) {fs : List Value} {f : Nat → Int64} {post : Int64 → zw → Prop} (hc : zM l D cs yX6_settle wsX6_settle d mc ms u sz [.ref (xo), .int (a0)] (fun r u2 => ∃ z : Int64, r = some (.long z) ∧ post z u2)) (hx6 : u xo = some (.inr (6, fs))) (hd : zDj u v) (ho : v out = some (eJ cs 1 f)) : zML l D cs yL_settle wsL_settle (d + 1) mc ms (zJ u v) sz [.ref (xo), .int (a0), .ref (out)] (fun r w2 => r = some (.int 0) ∧ ∃ (z : Int64) (u2 : zw), post z u2 ∧ zDj u2 v ∧ w2 = zJ u2 (va_up v out (some (eJ cs 1 (vp_updL f 0 z))))) := by
  refine z_metL (cc := cL_settle) (maxL := 4) (ret := (some .int)) (hh := [(0, 8, 11, 19)]) (by decide) rfl (Nat.le_of_ble_eq_true rfl) ?_
  intro p e s m below meth c hx hb hr hml hown hts hlocks hT hsz hK hE hN hS ls hl
  have hl : lv_has ls 4 [(0, .ref (xo)), (1, .int (a0)), (2, .ref (out))] := hl
  refine lv_aload_n hx hb dL_settle_0 rfl (lv_at hl 2 rfl) ?_
  refine lv_iconst (v := 0) hx hb dL_settle_1 (by decide) ?_
  refine lv_aload_n hx hb dL_settle_2 rfl (lv_at hl 0 rfl) ?_
  refine lv_iload_n hx hb dL_settle_3 rfl (lv_at hl 1 rfl) ?_
  refine z_invV (b := xo) (As := [.int (a0)]) (rest := [.int (0), .ref (out)]) (n := 1) ⟨hx, hb, hml, hown, hts⟩ (by rw [hsz]; exact hc.frame hd) gL_settle_X6_settle rfl ⟨rfl, by decide +kernel, by decide +kernel, by decide +kernel⟩ ⟨by simp only [zR]; omega, by simp only [zR]; omega⟩ hK hE hS (ci := 6) rfl (zJ_l hx6) rfl hl.1 rfl (Nat.le_of_ble_eq_true rfl) dL_settle_4 ⟨by simp only [zR]; omega, by simp only [zR]; omega⟩ (fun v9 w9 H locs hq hS => ?_)
  obtain ⟨u2, ⟨z, rfl, hp⟩, hdj, rfl⟩ := hq
  refine W.eq (g2 := F0 m 7 ls [.long (z), .int (0), .ref (out)]) rfl ?_
  refine z_last hx hb hK hS (zJ_r hdj ho) (show ¬ ((0 : Int32) < 0 ∨ 1 ≤ (0 : Int32).toNatClampNeg) by decide) dL_settle_7 (fun H locs hS => ?_)
  have hS : zS (zA (zJ u v) sz) D (zJ u2 (va_up v out (some (eJ cs 1 (vp_updL f 0 z))))) s.heap H locs := by rw [← zJ_up (hdj.n ho)]; exact hS
  refine lv_goto (tgt := 14) hx hb dL_settle_8 (by decide) ?_
  refine lv_iconst (v := 0) hx hb dL_settle_14 (by decide) ?_
  exact z_iret hx hb hr hlocks hS (by omega) (by omega) dL_settle_15 ⟨rfl, z, u2, hp, hdj, rfl⟩
set_option maxHeartbeats 4000000 in
set_option maxRecDepth 100000 in
theorem x1_L_settle (l : Launch) (D : va_G) (cs : Nat → ClassId) {u v : zw} {sz xo out d mc ms : Nat} (a0 : Int32) {fs : List Value} (hc : zMX l D cs yX6_settle wsX6_settle d mc ms u sz [.ref (xo), .int (a0)] (fun _ _ => False) (fun E9 => E9 = "java/lang/IndexOutOfBoundsException")) (hx6 : u xo = some (.inr (6, fs))) (hd : zDj u v) : zML l D cs yL_settle wsL_settle (d + 1) mc ms (zJ u v) sz [.ref (xo), .int (a0), .ref (out)] (fun r w2 => r = some (.int 1) ∧ w2 = zJ u v) := by
  refine z_metL (cc := cL_settle) (maxL := 4) (ret := (some .int)) (hh := [(0, 8, 11, 19)]) (by decide) rfl (Nat.le_of_ble_eq_true rfl) ?_
  intro p e s m below meth c hx hb hr hml hown hts hlocks hT hsz hK hE hN hS ls hl
  have hl : lv_has ls 4 [(0, .ref (xo)), (1, .int (a0)), (2, .ref (out))] := hl
  refine lv_aload_n hx hb dL_settle_0 rfl (lv_at hl 2 rfl) ?_
  refine lv_iconst (v := 0) hx hb dL_settle_1 (by decide) ?_
  refine lv_aload_n hx hb dL_settle_2 rfl (lv_at hl 0 rfl) ?_
  refine lv_iload_n hx hb dL_settle_3 rfl (lv_at hl 1 rfl) ?_
  refine z_invVX (b := xo) (As := [.int (a0)]) (rest := [.int (0), .ref (out)]) (n := 1) ⟨hx, hb, hml, hown, hts⟩ (by rw [hsz]; exact hc.frame hd) gL_settle_X6_settle rfl ⟨rfl, by decide +kernel, by decide +kernel, by decide +kernel⟩ ⟨by simp only [zR]; omega, by simp only [zR]; omega⟩ hK hE hS (ci := 6) rfl (zJ_l hx6) rfl hl.1 rfl (Nat.le_of_ble_eq_true rfl) dL_settle_4 ⟨by simp only [zR]; omega, by simp only [zR]; omega⟩ (fun E ce q9 H locs hpx hS k1 k2 k3 => ?_) (fun v9 w9 H locs hq hS => ?_)
  · subst hpx
    refine vx_catch (own := RL) (name := "java/lang/IndexOutOfBoundsException") hown [] ⟨0, 8, 11, 19⟩ [] (hT.trans rfl) zall0 (by decide) (by decide) (hts (.classLink RL 19 "java/lang/IndexOutOfBoundsException") (by decide +kernel)) (va_Nw.use rfl (hE.2.2.2.2.2.2.2.1 _ (by decide))) k1 k2 k3 ?_
    refine lv_astore_n (lv' := [(3, .ref (q9)), (0, .ref (xo)), (1, .int (a0)), (2, .ref (out))]) hx hb dL_settle_11 rfl hl (by decide) rfl (fun ls hl => ?_)
    refine lv_iconst (v := 1) hx hb dL_settle_12 (by decide) ?_
    exact z_iret hx hb hr hlocks hS (by omega) (by omega) dL_settle_13 ⟨rfl, rfl⟩
  · obtain ⟨u2, hf, _⟩ := hq
    exact hf.elim
set_option maxHeartbeats 4000000 in
set_option maxRecDepth 100000 in
theorem h_L_duty (l : Launch) (D : va_G) (cs : Nat → ClassId) {u v : zw} {sz xo out d mc ms : Nat} (a0 : Int32) {fs : List Value} {f : Nat → Int64} {post : Int64 → zw → Prop} (hc : zM l D cs yX6_duty wsX6_duty d mc ms u sz [.ref (xo), .int (a0)] (fun r u2 => ∃ z : Int64, r = some (.long z) ∧ post z u2)) (hx6 : u xo = some (.inr (6, fs))) (hd : zDj u v) (ho : v out = some (eJ cs 1 f)) : zML l D cs yL_duty wsL_duty (d + 1) mc ms (zJ u v) sz [.ref (xo), .int (a0), .ref (out)] (fun r w2 => r = some (.int 0) ∧ ∃ (z : Int64) (u2 : zw), post z u2 ∧ zDj u2 v ∧ w2 = zJ u2 (va_up v out (some (eJ cs 1 (vp_updL f 0 z))))) := by
  refine z_metL (cc := cL_duty) (maxL := 4) (ret := (some .int)) (hh := [(0, 8, 11, 19)]) (by decide) rfl (Nat.le_of_ble_eq_true rfl) ?_
  intro p e s m below meth c hx hb hr hml hown hts hlocks hT hsz hK hE hN hS ls hl
  have hl : lv_has ls 4 [(0, .ref (xo)), (1, .int (a0)), (2, .ref (out))] := hl
  refine lv_aload_n hx hb dL_duty_0 rfl (lv_at hl 2 rfl) ?_
  refine lv_iconst (v := 0) hx hb dL_duty_1 (by decide) ?_
  refine lv_aload_n hx hb dL_duty_2 rfl (lv_at hl 0 rfl) ?_
  refine lv_iload_n hx hb dL_duty_3 rfl (lv_at hl 1 rfl) ?_
  refine z_invV (b := xo) (As := [.int (a0)]) (rest := [.int (0), .ref (out)]) (n := 1) ⟨hx, hb, hml, hown, hts⟩ (by rw [hsz]; exact hc.frame hd) gL_duty_X6_duty rfl ⟨rfl, by decide +kernel, by decide +kernel, by decide +kernel⟩ ⟨by simp only [zR]; omega, by simp only [zR]; omega⟩ hK hE hS (ci := 6) rfl (zJ_l hx6) rfl hl.1 rfl (Nat.le_of_ble_eq_true rfl) dL_duty_4 ⟨by simp only [zR]; omega, by simp only [zR]; omega⟩ (fun v9 w9 H locs hq hS => ?_)
  obtain ⟨u2, ⟨z, rfl, hp⟩, hdj, rfl⟩ := hq
  refine W.eq (g2 := F0 m 7 ls [.long (z), .int (0), .ref (out)]) rfl ?_
  refine z_last hx hb hK hS (zJ_r hdj ho) (show ¬ ((0 : Int32) < 0 ∨ 1 ≤ (0 : Int32).toNatClampNeg) by decide) dL_duty_7 (fun H locs hS => ?_)
  have hS : zS (zA (zJ u v) sz) D (zJ u2 (va_up v out (some (eJ cs 1 (vp_updL f 0 z))))) s.heap H locs := by rw [← zJ_up (hdj.n ho)]; exact hS
  refine lv_goto (tgt := 14) hx hb dL_duty_8 (by decide) ?_
  refine lv_iconst (v := 0) hx hb dL_duty_14 (by decide) ?_
  exact z_iret hx hb hr hlocks hS (by omega) (by omega) dL_duty_15 ⟨rfl, z, u2, hp, hdj, rfl⟩
set_option maxHeartbeats 4000000 in
set_option maxRecDepth 100000 in
theorem x1_L_duty (l : Launch) (D : va_G) (cs : Nat → ClassId) {u v : zw} {sz xo out d mc ms : Nat} (a0 : Int32) {fs : List Value} (hc : zMX l D cs yX6_duty wsX6_duty d mc ms u sz [.ref (xo), .int (a0)] (fun _ _ => False) (fun E9 => E9 = "java/lang/IndexOutOfBoundsException")) (hx6 : u xo = some (.inr (6, fs))) (hd : zDj u v) : zML l D cs yL_duty wsL_duty (d + 1) mc ms (zJ u v) sz [.ref (xo), .int (a0), .ref (out)] (fun r w2 => r = some (.int 1) ∧ w2 = zJ u v) := by
  refine z_metL (cc := cL_duty) (maxL := 4) (ret := (some .int)) (hh := [(0, 8, 11, 19)]) (by decide) rfl (Nat.le_of_ble_eq_true rfl) ?_
  intro p e s m below meth c hx hb hr hml hown hts hlocks hT hsz hK hE hN hS ls hl
  have hl : lv_has ls 4 [(0, .ref (xo)), (1, .int (a0)), (2, .ref (out))] := hl
  refine lv_aload_n hx hb dL_duty_0 rfl (lv_at hl 2 rfl) ?_
  refine lv_iconst (v := 0) hx hb dL_duty_1 (by decide) ?_
  refine lv_aload_n hx hb dL_duty_2 rfl (lv_at hl 0 rfl) ?_
  refine lv_iload_n hx hb dL_duty_3 rfl (lv_at hl 1 rfl) ?_
  refine z_invVX (b := xo) (As := [.int (a0)]) (rest := [.int (0), .ref (out)]) (n := 1) ⟨hx, hb, hml, hown, hts⟩ (by rw [hsz]; exact hc.frame hd) gL_duty_X6_duty rfl ⟨rfl, by decide +kernel, by decide +kernel, by decide +kernel⟩ ⟨by simp only [zR]; omega, by simp only [zR]; omega⟩ hK hE hS (ci := 6) rfl (zJ_l hx6) rfl hl.1 rfl (Nat.le_of_ble_eq_true rfl) dL_duty_4 ⟨by simp only [zR]; omega, by simp only [zR]; omega⟩ (fun E ce q9 H locs hpx hS k1 k2 k3 => ?_) (fun v9 w9 H locs hq hS => ?_)
  · subst hpx
    refine vx_catch (own := RL) (name := "java/lang/IndexOutOfBoundsException") hown [] ⟨0, 8, 11, 19⟩ [] (hT.trans rfl) zall0 (by decide) (by decide) (hts (.classLink RL 19 "java/lang/IndexOutOfBoundsException") (by decide +kernel)) (va_Nw.use rfl (hE.2.2.2.2.2.2.2.1 _ (by decide))) k1 k2 k3 ?_
    refine lv_astore_n (lv' := [(3, .ref (q9)), (0, .ref (xo)), (1, .int (a0)), (2, .ref (out))]) hx hb dL_duty_11 rfl hl (by decide) rfl (fun ls hl => ?_)
    refine lv_iconst (v := 1) hx hb dL_duty_12 (by decide) ?_
    exact z_iret hx hb hr hlocks hS (by omega) (by omega) dL_duty_13 ⟨rfl, rfl⟩
  · obtain ⟨u2, hf, _⟩ := hq
    exact hf.elim
set_option maxHeartbeats 4000000 in
set_option maxRecDepth 100000 in
theorem h_L_close (l : Launch) (D : va_G) (cs : Nat → ClassId) {u v : zw} {sz xo out d mc ms : Nat}  {fs : List Value} {f : Nat → Int64} {post : Int32 → zw → Prop} (hc : zM l D cs yX6_close wsX6_close d mc ms u sz [.ref (xo)] (fun r u2 => ∃ z : Int32, r = some (.int z) ∧ post z u2)) (hx6 : u xo = some (.inr (6, fs))) (hd : zDj u v) (ho : v out = some (eJ cs 1 f)) : zML l D cs yL_close wsL_close (d + 1) mc ms (zJ u v) sz [.ref (xo), .ref (out)] (fun r w2 => r = some (.int 0) ∧ ∃ (z : Int32) (u2 : zw), post z u2 ∧ zDj u2 v ∧ w2 = zJ u2 (va_up v out (some (eJ cs 1 (vp_updL f 0 z.toInt64))))) := by
  refine z_metL (cc := cL_close) (maxL := 3) (ret := (some .int)) (hh := [(0, 8, 11, 23), (0, 8, 14, 13)]) (by decide) rfl (Nat.le_of_ble_eq_true rfl) ?_
  intro p e s m below meth c hx hb hr hml hown hts hlocks hT hsz hK hE hN hS ls hl
  have hl : lv_has ls 3 [(0, .ref (xo)), (1, .ref (out))] := hl
  refine lv_aload_n hx hb dL_close_0 rfl (lv_at hl 1 rfl) ?_
  refine lv_iconst (v := 0) hx hb dL_close_1 (by decide) ?_
  refine lv_aload_n hx hb dL_close_2 rfl (lv_at hl 0 rfl) ?_
  refine z_invV (b := xo) (As := []) (rest := [.int (0), .ref (out)]) (n := 0) ⟨hx, hb, hml, hown, hts⟩ (by rw [hsz]; exact hc.frame hd) gL_close_X6_close rfl ⟨rfl, by decide +kernel, by decide +kernel, by decide +kernel⟩ ⟨by simp only [zR]; omega, by simp only [zR]; omega⟩ hK hE hS (ci := 6) rfl (zJ_l hx6) rfl hl.1 rfl (Nat.le_of_ble_eq_true rfl) dL_close_3 ⟨by simp only [zR]; omega, by simp only [zR]; omega⟩ (fun v9 w9 H locs hq hS => ?_)
  obtain ⟨u2, ⟨z, rfl, hp⟩, hdj, rfl⟩ := hq
  refine W.eq (g2 := F0 m 6 ls [.int (z), .int (0), .ref (out)]) rfl ?_
  refine lv_i2l (v := z.toInt64) hx hb dL_close_6 rfl ?_
  refine z_last hx hb hK hS (zJ_r hdj ho) (show ¬ ((0 : Int32) < 0 ∨ 1 ≤ (0 : Int32).toNatClampNeg) by decide) dL_close_7 (fun H locs hS => ?_)
  have hS : zS (zA (zJ u v) sz) D (zJ u2 (va_up v out (some (eJ cs 1 (vp_updL f 0 z.toInt64))))) s.heap H locs := by rw [← zJ_up (hdj.n ho)]; exact hS
  refine lv_goto (tgt := 17) hx hb dL_close_8 (by decide) ?_
  refine lv_iconst (v := 0) hx hb dL_close_17 (by decide) ?_
  exact z_iret hx hb hr hlocks hS (by omega) (by omega) dL_close_18 ⟨rfl, z, u2, hp, hdj, rfl⟩
set_option maxHeartbeats 4000000 in
set_option maxRecDepth 100000 in
theorem x1_L_close (l : Launch) (D : va_G) (cs : Nat → ClassId) {u v : zw} {sz xo out d mc ms : Nat}  {fs : List Value} (hc : zMX l D cs yX6_close wsX6_close d mc ms u sz [.ref (xo)] (fun _ _ => False) (fun E9 => E9 = "java/lang/IllegalStateException")) (hx6 : u xo = some (.inr (6, fs))) (hd : zDj u v) : zML l D cs yL_close wsL_close (d + 1) mc ms (zJ u v) sz [.ref (xo), .ref (out)] (fun r w2 => r = some (.int 1) ∧ w2 = zJ u v) := by
  refine z_metL (cc := cL_close) (maxL := 3) (ret := (some .int)) (hh := [(0, 8, 11, 23), (0, 8, 14, 13)]) (by decide) rfl (Nat.le_of_ble_eq_true rfl) ?_
  intro p e s m below meth c hx hb hr hml hown hts hlocks hT hsz hK hE hN hS ls hl
  have hl : lv_has ls 3 [(0, .ref (xo)), (1, .ref (out))] := hl
  refine lv_aload_n hx hb dL_close_0 rfl (lv_at hl 1 rfl) ?_
  refine lv_iconst (v := 0) hx hb dL_close_1 (by decide) ?_
  refine lv_aload_n hx hb dL_close_2 rfl (lv_at hl 0 rfl) ?_
  refine z_invVX (b := xo) (As := []) (rest := [.int (0), .ref (out)]) (n := 0) ⟨hx, hb, hml, hown, hts⟩ (by rw [hsz]; exact hc.frame hd) gL_close_X6_close rfl ⟨rfl, by decide +kernel, by decide +kernel, by decide +kernel⟩ ⟨by simp only [zR]; omega, by simp only [zR]; omega⟩ hK hE hS (ci := 6) rfl (zJ_l hx6) rfl hl.1 rfl (Nat.le_of_ble_eq_true rfl) dL_close_3 ⟨by simp only [zR]; omega, by simp only [zR]; omega⟩ (fun E ce q9 H locs hpx hS k1 k2 k3 => ?_) (fun v9 w9 H locs hq hS => ?_)
  · subst hpx
    refine vx_catch (own := RL) (name := "java/lang/IllegalStateException") hown [] ⟨0, 8, 11, 23⟩ [⟨0, 8, 14, 13⟩] (hT.trans rfl) zall0 (by decide) (by decide) (hts (.classLink RL 23 "java/lang/IllegalStateException") (by decide +kernel)) (va_Nw.use rfl (hE.2.2.2.2.2.2.2.1 _ (by decide))) k1 k2 k3 ?_
    refine lv_astore_n (lv' := [(2, .ref (q9)), (0, .ref (xo)), (1, .ref (out))]) hx hb dL_close_11 rfl hl (by decide) rfl (fun ls hl => ?_)
    refine lv_iconst (v := 1) hx hb dL_close_12 (by decide) ?_
    exact z_iret hx hb hr hlocks hS (by omega) (by omega) dL_close_13 ⟨rfl, rfl⟩
  · obtain ⟨u2, hf, _⟩ := hq
    exact hf.elim
set_option maxHeartbeats 4000000 in
set_option maxRecDepth 100000 in
theorem x2_L_close (l : Launch) (D : va_G) (cs : Nat → ClassId) {u v : zw} {sz xo out d mc ms : Nat}  {fs : List Value} (hc : zMX l D cs yX6_close wsX6_close d mc ms u sz [.ref (xo)] (fun _ _ => False) (fun E9 => E9 = "java/lang/UnsupportedOperationException")) (hx6 : u xo = some (.inr (6, fs))) (hd : zDj u v) : zML l D cs yL_close wsL_close (d + 1) mc ms (zJ u v) sz [.ref (xo), .ref (out)] (fun r w2 => r = some (.int 2) ∧ w2 = zJ u v) := by
  refine z_metL (cc := cL_close) (maxL := 3) (ret := (some .int)) (hh := [(0, 8, 11, 23), (0, 8, 14, 13)]) (by decide) rfl (Nat.le_of_ble_eq_true rfl) ?_
  intro p e s m below meth c hx hb hr hml hown hts hlocks hT hsz hK hE hN hS ls hl
  have hl : lv_has ls 3 [(0, .ref (xo)), (1, .ref (out))] := hl
  refine lv_aload_n hx hb dL_close_0 rfl (lv_at hl 1 rfl) ?_
  refine lv_iconst (v := 0) hx hb dL_close_1 (by decide) ?_
  refine lv_aload_n hx hb dL_close_2 rfl (lv_at hl 0 rfl) ?_
  refine z_invVX (b := xo) (As := []) (rest := [.int (0), .ref (out)]) (n := 0) ⟨hx, hb, hml, hown, hts⟩ (by rw [hsz]; exact hc.frame hd) gL_close_X6_close rfl ⟨rfl, by decide +kernel, by decide +kernel, by decide +kernel⟩ ⟨by simp only [zR]; omega, by simp only [zR]; omega⟩ hK hE hS (ci := 6) rfl (zJ_l hx6) rfl hl.1 rfl (Nat.le_of_ble_eq_true rfl) dL_close_3 ⟨by simp only [zR]; omega, by simp only [zR]; omega⟩ (fun E ce q9 H locs hpx hS k1 k2 k3 => ?_) (fun v9 w9 H locs hq hS => ?_)
  · subst hpx
    refine vx_catch (own := RL) (name := "java/lang/UnsupportedOperationException") hown [⟨0, 8, 11, 23⟩] ⟨0, 8, 14, 13⟩ [] (hT.trans rfl) (zall1 (Or.inr ⟨by decide, "java/lang/IllegalStateException", hts (.classLink RL 23 "java/lang/IllegalStateException") (by decide +kernel), hN _ (by decide) _ (by decide) (by decide)⟩) zall0) (by decide) (by decide) (hts (.classLink RL 13 "java/lang/UnsupportedOperationException") (by decide +kernel)) (va_Nw.use rfl (hE.2.2.2.2.2.2.2.1 _ (by decide))) k1 k2 k3 ?_
    refine lv_astore_n (lv' := [(2, .ref (q9)), (0, .ref (xo)), (1, .ref (out))]) hx hb dL_close_14 rfl hl (by decide) rfl (fun ls hl => ?_)
    refine lv_iconst (v := 2) hx hb dL_close_15 (by decide) ?_
    exact z_iret hx hb hr hlocks hS (by omega) (by omega) dL_close_16 ⟨rfl, rfl⟩
  · obtain ⟨u2, hf, _⟩ := hq
    exact hf.elim
set_option maxHeartbeats 4000000 in
set_option maxRecDepth 100000 in
theorem h_L_statement (l : Launch) (D : va_G) (cs : Nat → ClassId) {u v : zw} {sz xo out d mc ms : Nat} (a0 : Int32) (a1 : Int32) (a2 : Int32) {fs : List Value} {f : Nat → Int64} {post : Int64 → zw → Prop} (hc : zM l D cs yX6_statement wsX6_statement d mc ms u sz [.ref (xo), .int (a0), .int (a1), .int (a2)] (fun r u2 => ∃ z : Int64, r = some (.long z) ∧ post z u2)) (hx6 : u xo = some (.inr (6, fs))) (hd : zDj u v) (ho : v out = some (eJ cs 1 f)) : zML l D cs yL_statement wsL_statement (d + 1) mc ms (zJ u v) sz [.ref (xo), .int (a0), .int (a1), .int (a2), .ref (out)] (fun r w2 => r = some (.int 0) ∧ ∃ (z : Int64) (u2 : zw), post z u2 ∧ zDj u2 v ∧ w2 = zJ u2 (va_up v out (some (eJ cs 1 (vp_updL f 0 z))))) := by
  refine z_metL (cc := cL_statement) (maxL := 6) (ret := (some .int)) (hh := [(0, 11, 14, 19), (0, 11, 18, 61), (0, 11, 22, 21)]) (by decide) rfl (Nat.le_of_ble_eq_true rfl) ?_
  intro p e s m below meth c hx hb hr hml hown hts hlocks hT hsz hK hE hN hS ls hl
  have hl : lv_has ls 6 [(0, .ref (xo)), (1, .int (a0)), (2, .int (a1)), (3, .int (a2)), (4, .ref (out))] := hl
  refine lv_aload hx hb dL_statement_0 (lv_at hl 4 rfl) ?_
  refine lv_iconst (v := 0) hx hb dL_statement_2 (by decide) ?_
  refine lv_aload_n hx hb dL_statement_3 rfl (lv_at hl 0 rfl) ?_
  refine lv_iload_n hx hb dL_statement_4 rfl (lv_at hl 1 rfl) ?_
  refine lv_iload_n hx hb dL_statement_5 rfl (lv_at hl 2 rfl) ?_
  refine lv_iload_n hx hb dL_statement_6 rfl (lv_at hl 3 rfl) ?_
  refine z_invV (b := xo) (As := [.int (a0), .int (a1), .int (a2)]) (rest := [.int (0), .ref (out)]) (n := 3) ⟨hx, hb, hml, hown, hts⟩ (by rw [hsz]; exact hc.frame hd) gL_statement_X6_statement rfl ⟨rfl, by decide +kernel, by decide +kernel, by decide +kernel⟩ ⟨by simp only [zR]; omega, by simp only [zR]; omega⟩ hK hE hS (ci := 6) rfl (zJ_l hx6) rfl hl.1 rfl (Nat.le_of_ble_eq_true rfl) dL_statement_7 ⟨by simp only [zR]; omega, by simp only [zR]; omega⟩ (fun v9 w9 H locs hq hS => ?_)
  obtain ⟨u2, ⟨z, rfl, hp⟩, hdj, rfl⟩ := hq
  refine W.eq (g2 := F0 m 10 ls [.long (z), .int (0), .ref (out)]) rfl ?_
  refine z_last hx hb hK hS (zJ_r hdj ho) (show ¬ ((0 : Int32) < 0 ∨ 1 ≤ (0 : Int32).toNatClampNeg) by decide) dL_statement_10 (fun H locs hS => ?_)
  have hS : zS (zA (zJ u v) sz) D (zJ u2 (va_up v out (some (eJ cs 1 (vp_updL f 0 z))))) s.heap H locs := by rw [← zJ_up (hdj.n ho)]; exact hS
  refine lv_goto (tgt := 26) hx hb dL_statement_11 (by decide) ?_
  refine lv_iconst (v := 0) hx hb dL_statement_26 (by decide) ?_
  exact z_iret hx hb hr hlocks hS (by omega) (by omega) dL_statement_27 ⟨rfl, z, u2, hp, hdj, rfl⟩
set_option maxHeartbeats 4000000 in
set_option maxRecDepth 100000 in
theorem x1_L_statement (l : Launch) (D : va_G) (cs : Nat → ClassId) {u v : zw} {sz xo out d mc ms : Nat} (a0 : Int32) (a1 : Int32) (a2 : Int32) {fs : List Value} (hc : zMX l D cs yX6_statement wsX6_statement d mc ms u sz [.ref (xo), .int (a0), .int (a1), .int (a2)] (fun _ _ => False) (fun E9 => E9 = "java/lang/IndexOutOfBoundsException")) (hx6 : u xo = some (.inr (6, fs))) (hd : zDj u v) : zML l D cs yL_statement wsL_statement (d + 1) mc ms (zJ u v) sz [.ref (xo), .int (a0), .int (a1), .int (a2), .ref (out)] (fun r w2 => r = some (.int 1) ∧ w2 = zJ u v) := by
  refine z_metL (cc := cL_statement) (maxL := 6) (ret := (some .int)) (hh := [(0, 11, 14, 19), (0, 11, 18, 61), (0, 11, 22, 21)]) (by decide) rfl (Nat.le_of_ble_eq_true rfl) ?_
  intro p e s m below meth c hx hb hr hml hown hts hlocks hT hsz hK hE hN hS ls hl
  have hl : lv_has ls 6 [(0, .ref (xo)), (1, .int (a0)), (2, .int (a1)), (3, .int (a2)), (4, .ref (out))] := hl
  refine lv_aload hx hb dL_statement_0 (lv_at hl 4 rfl) ?_
  refine lv_iconst (v := 0) hx hb dL_statement_2 (by decide) ?_
  refine lv_aload_n hx hb dL_statement_3 rfl (lv_at hl 0 rfl) ?_
  refine lv_iload_n hx hb dL_statement_4 rfl (lv_at hl 1 rfl) ?_
  refine lv_iload_n hx hb dL_statement_5 rfl (lv_at hl 2 rfl) ?_
  refine lv_iload_n hx hb dL_statement_6 rfl (lv_at hl 3 rfl) ?_
  refine z_invVX (b := xo) (As := [.int (a0), .int (a1), .int (a2)]) (rest := [.int (0), .ref (out)]) (n := 3) ⟨hx, hb, hml, hown, hts⟩ (by rw [hsz]; exact hc.frame hd) gL_statement_X6_statement rfl ⟨rfl, by decide +kernel, by decide +kernel, by decide +kernel⟩ ⟨by simp only [zR]; omega, by simp only [zR]; omega⟩ hK hE hS (ci := 6) rfl (zJ_l hx6) rfl hl.1 rfl (Nat.le_of_ble_eq_true rfl) dL_statement_7 ⟨by simp only [zR]; omega, by simp only [zR]; omega⟩ (fun E ce q9 H locs hpx hS k1 k2 k3 => ?_) (fun v9 w9 H locs hq hS => ?_)
  · subst hpx
    refine vx_catch (own := RL) (name := "java/lang/IndexOutOfBoundsException") hown [] ⟨0, 11, 14, 19⟩ [⟨0, 11, 18, 61⟩, ⟨0, 11, 22, 21⟩] (hT.trans rfl) zall0 (by decide) (by decide) (hts (.classLink RL 19 "java/lang/IndexOutOfBoundsException") (by decide +kernel)) (va_Nw.use rfl (hE.2.2.2.2.2.2.2.1 _ (by decide))) k1 k2 k3 ?_
    refine lv_astore (lv' := [(5, .ref (q9)), (0, .ref (xo)), (1, .int (a0)), (2, .int (a1)), (3, .int (a2)), (4, .ref (out))]) hx hb dL_statement_14 hl (by decide) rfl (fun ls hl => ?_)
    refine lv_iconst (v := 1) hx hb dL_statement_16 (by decide) ?_
    exact z_iret hx hb hr hlocks hS (by omega) (by omega) dL_statement_17 ⟨rfl, rfl⟩
  · obtain ⟨u2, hf, _⟩ := hq
    exact hf.elim
set_option maxHeartbeats 4000000 in
set_option maxRecDepth 100000 in
theorem x2_L_statement (l : Launch) (D : va_G) (cs : Nat → ClassId) {u v : zw} {sz xo out d mc ms : Nat} (a0 : Int32) (a1 : Int32) (a2 : Int32) {fs : List Value} (hc : zMX l D cs yX6_statement wsX6_statement d mc ms u sz [.ref (xo), .int (a0), .int (a1), .int (a2)] (fun _ _ => False) (fun E9 => E9 = "java/util/NoSuchElementException")) (hx6 : u xo = some (.inr (6, fs))) (hd : zDj u v) : zML l D cs yL_statement wsL_statement (d + 1) mc ms (zJ u v) sz [.ref (xo), .int (a0), .int (a1), .int (a2), .ref (out)] (fun r w2 => r = some (.int 2) ∧ w2 = zJ u v) := by
  refine z_metL (cc := cL_statement) (maxL := 6) (ret := (some .int)) (hh := [(0, 11, 14, 19), (0, 11, 18, 61), (0, 11, 22, 21)]) (by decide) rfl (Nat.le_of_ble_eq_true rfl) ?_
  intro p e s m below meth c hx hb hr hml hown hts hlocks hT hsz hK hE hN hS ls hl
  have hl : lv_has ls 6 [(0, .ref (xo)), (1, .int (a0)), (2, .int (a1)), (3, .int (a2)), (4, .ref (out))] := hl
  refine lv_aload hx hb dL_statement_0 (lv_at hl 4 rfl) ?_
  refine lv_iconst (v := 0) hx hb dL_statement_2 (by decide) ?_
  refine lv_aload_n hx hb dL_statement_3 rfl (lv_at hl 0 rfl) ?_
  refine lv_iload_n hx hb dL_statement_4 rfl (lv_at hl 1 rfl) ?_
  refine lv_iload_n hx hb dL_statement_5 rfl (lv_at hl 2 rfl) ?_
  refine lv_iload_n hx hb dL_statement_6 rfl (lv_at hl 3 rfl) ?_
  refine z_invVX (b := xo) (As := [.int (a0), .int (a1), .int (a2)]) (rest := [.int (0), .ref (out)]) (n := 3) ⟨hx, hb, hml, hown, hts⟩ (by rw [hsz]; exact hc.frame hd) gL_statement_X6_statement rfl ⟨rfl, by decide +kernel, by decide +kernel, by decide +kernel⟩ ⟨by simp only [zR]; omega, by simp only [zR]; omega⟩ hK hE hS (ci := 6) rfl (zJ_l hx6) rfl hl.1 rfl (Nat.le_of_ble_eq_true rfl) dL_statement_7 ⟨by simp only [zR]; omega, by simp only [zR]; omega⟩ (fun E ce q9 H locs hpx hS k1 k2 k3 => ?_) (fun v9 w9 H locs hq hS => ?_)
  · subst hpx
    refine vx_catch (own := RL) (name := "java/util/NoSuchElementException") hown [⟨0, 11, 14, 19⟩] ⟨0, 11, 18, 61⟩ [⟨0, 11, 22, 21⟩] (hT.trans rfl) (zall1 (Or.inr ⟨by decide, "java/lang/IndexOutOfBoundsException", hts (.classLink RL 19 "java/lang/IndexOutOfBoundsException") (by decide +kernel), hN _ (by decide) _ (by decide) (by decide)⟩) zall0) (by decide) (by decide) (hts (.classLink RL 61 "java/util/NoSuchElementException") (by decide +kernel)) (va_Nw.use rfl (hE.2.2.2.2.2.2.2.1 _ (by decide))) k1 k2 k3 ?_
    refine lv_astore (lv' := [(5, .ref (q9)), (0, .ref (xo)), (1, .int (a0)), (2, .int (a1)), (3, .int (a2)), (4, .ref (out))]) hx hb dL_statement_18 hl (by decide) rfl (fun ls hl => ?_)
    refine lv_iconst (v := 2) hx hb dL_statement_20 (by decide) ?_
    exact z_iret hx hb hr hlocks hS (by omega) (by omega) dL_statement_21 ⟨rfl, rfl⟩
  · obtain ⟨u2, hf, _⟩ := hq
    exact hf.elim
set_option maxHeartbeats 4000000 in
set_option maxRecDepth 100000 in
theorem x3_L_statement (l : Launch) (D : va_G) (cs : Nat → ClassId) {u v : zw} {sz xo out d mc ms : Nat} (a0 : Int32) (a1 : Int32) (a2 : Int32) {fs : List Value} (hc : zMX l D cs yX6_statement wsX6_statement d mc ms u sz [.ref (xo), .int (a0), .int (a1), .int (a2)] (fun _ _ => False) (fun E9 => E9 = "java/lang/IllegalArgumentException")) (hx6 : u xo = some (.inr (6, fs))) (hd : zDj u v) : zML l D cs yL_statement wsL_statement (d + 1) mc ms (zJ u v) sz [.ref (xo), .int (a0), .int (a1), .int (a2), .ref (out)] (fun r w2 => r = some (.int 3) ∧ w2 = zJ u v) := by
  refine z_metL (cc := cL_statement) (maxL := 6) (ret := (some .int)) (hh := [(0, 11, 14, 19), (0, 11, 18, 61), (0, 11, 22, 21)]) (by decide) rfl (Nat.le_of_ble_eq_true rfl) ?_
  intro p e s m below meth c hx hb hr hml hown hts hlocks hT hsz hK hE hN hS ls hl
  have hl : lv_has ls 6 [(0, .ref (xo)), (1, .int (a0)), (2, .int (a1)), (3, .int (a2)), (4, .ref (out))] := hl
  refine lv_aload hx hb dL_statement_0 (lv_at hl 4 rfl) ?_
  refine lv_iconst (v := 0) hx hb dL_statement_2 (by decide) ?_
  refine lv_aload_n hx hb dL_statement_3 rfl (lv_at hl 0 rfl) ?_
  refine lv_iload_n hx hb dL_statement_4 rfl (lv_at hl 1 rfl) ?_
  refine lv_iload_n hx hb dL_statement_5 rfl (lv_at hl 2 rfl) ?_
  refine lv_iload_n hx hb dL_statement_6 rfl (lv_at hl 3 rfl) ?_
  refine z_invVX (b := xo) (As := [.int (a0), .int (a1), .int (a2)]) (rest := [.int (0), .ref (out)]) (n := 3) ⟨hx, hb, hml, hown, hts⟩ (by rw [hsz]; exact hc.frame hd) gL_statement_X6_statement rfl ⟨rfl, by decide +kernel, by decide +kernel, by decide +kernel⟩ ⟨by simp only [zR]; omega, by simp only [zR]; omega⟩ hK hE hS (ci := 6) rfl (zJ_l hx6) rfl hl.1 rfl (Nat.le_of_ble_eq_true rfl) dL_statement_7 ⟨by simp only [zR]; omega, by simp only [zR]; omega⟩ (fun E ce q9 H locs hpx hS k1 k2 k3 => ?_) (fun v9 w9 H locs hq hS => ?_)
  · subst hpx
    refine vx_catch (own := RL) (name := "java/lang/IllegalArgumentException") hown [⟨0, 11, 14, 19⟩, ⟨0, 11, 18, 61⟩] ⟨0, 11, 22, 21⟩ [] (hT.trans rfl) (zall1 (Or.inr ⟨by decide, "java/lang/IndexOutOfBoundsException", hts (.classLink RL 19 "java/lang/IndexOutOfBoundsException") (by decide +kernel), hN _ (by decide) _ (by decide) (by decide)⟩) (zall1 (Or.inr ⟨by decide, "java/util/NoSuchElementException", hts (.classLink RL 61 "java/util/NoSuchElementException") (by decide +kernel), hN _ (by decide) _ (by decide) (by decide)⟩) zall0)) (by decide) (by decide) (hts (.classLink RL 21 "java/lang/IllegalArgumentException") (by decide +kernel)) (va_Nw.use rfl (hE.2.2.2.2.2.2.2.1 _ (by decide))) k1 k2 k3 ?_
    refine lv_astore (lv' := [(5, .ref (q9)), (0, .ref (xo)), (1, .int (a0)), (2, .int (a1)), (3, .int (a2)), (4, .ref (out))]) hx hb dL_statement_22 hl (by decide) rfl (fun ls hl => ?_)
    refine lv_iconst (v := 3) hx hb dL_statement_24 (by decide) ?_
    exact z_iret hx hb hr hlocks hS (by omega) (by omega) dL_statement_25 ⟨rfl, rfl⟩
  · obtain ⟨u2, hf, _⟩ := hq
    exact hf.elim
set_option maxHeartbeats 4000000 in
set_option maxRecDepth 100000 in
theorem h_L_office (l : Launch) (D : va_G) (cs : Nat → ClassId) {u v : zw} {sz xo out d mc ms : Nat} (a0 : Int32) {fs : List Value} {f : Nat → Int64} {post : Int64 → zw → Prop} (hc : zM l D cs yX6_office wsX6_office d mc ms u sz [.ref (xo), .int (a0)] (fun r u2 => ∃ z : Int64, r = some (.long z) ∧ post z u2)) (hx6 : u xo = some (.inr (6, fs))) (hd : zDj u v) (ho : v out = some (eJ cs 1 f)) : zML l D cs yL_office wsL_office (d + 1) mc ms (zJ u v) sz [.ref (xo), .int (a0), .ref (out)] (fun r w2 => r = some (.int 0) ∧ ∃ (z : Int64) (u2 : zw), post z u2 ∧ zDj u2 v ∧ w2 = zJ u2 (va_up v out (some (eJ cs 1 (vp_updL f 0 z))))) := by
  refine z_metL (cc := cL_office) (maxL := 4) (ret := (some .int)) (hh := [(0, 8, 11, 21)]) (by decide) rfl (Nat.le_of_ble_eq_true rfl) ?_
  intro p e s m below meth c hx hb hr hml hown hts hlocks hT hsz hK hE hN hS ls hl
  have hl : lv_has ls 4 [(0, .ref (xo)), (1, .int (a0)), (2, .ref (out))] := hl
  refine lv_aload_n hx hb dL_office_0 rfl (lv_at hl 2 rfl) ?_
  refine lv_iconst (v := 0) hx hb dL_office_1 (by decide) ?_
  refine lv_aload_n hx hb dL_office_2 rfl (lv_at hl 0 rfl) ?_
  refine lv_iload_n hx hb dL_office_3 rfl (lv_at hl 1 rfl) ?_
  refine z_invV (b := xo) (As := [.int (a0)]) (rest := [.int (0), .ref (out)]) (n := 1) ⟨hx, hb, hml, hown, hts⟩ (by rw [hsz]; exact hc.frame hd) gL_office_X6_office rfl ⟨rfl, by decide +kernel, by decide +kernel, by decide +kernel⟩ ⟨by simp only [zR]; omega, by simp only [zR]; omega⟩ hK hE hS (ci := 6) rfl (zJ_l hx6) rfl hl.1 rfl (Nat.le_of_ble_eq_true rfl) dL_office_4 ⟨by simp only [zR]; omega, by simp only [zR]; omega⟩ (fun v9 w9 H locs hq hS => ?_)
  obtain ⟨u2, ⟨z, rfl, hp⟩, hdj, rfl⟩ := hq
  refine W.eq (g2 := F0 m 7 ls [.long (z), .int (0), .ref (out)]) rfl ?_
  refine z_last hx hb hK hS (zJ_r hdj ho) (show ¬ ((0 : Int32) < 0 ∨ 1 ≤ (0 : Int32).toNatClampNeg) by decide) dL_office_7 (fun H locs hS => ?_)
  have hS : zS (zA (zJ u v) sz) D (zJ u2 (va_up v out (some (eJ cs 1 (vp_updL f 0 z))))) s.heap H locs := by rw [← zJ_up (hdj.n ho)]; exact hS
  refine lv_goto (tgt := 14) hx hb dL_office_8 (by decide) ?_
  refine lv_iconst (v := 0) hx hb dL_office_14 (by decide) ?_
  exact z_iret hx hb hr hlocks hS (by omega) (by omega) dL_office_15 ⟨rfl, z, u2, hp, hdj, rfl⟩
set_option maxHeartbeats 4000000 in
set_option maxRecDepth 100000 in
theorem x1_L_office (l : Launch) (D : va_G) (cs : Nat → ClassId) {u v : zw} {sz xo out d mc ms : Nat} (a0 : Int32) {fs : List Value} (hc : zMX l D cs yX6_office wsX6_office d mc ms u sz [.ref (xo), .int (a0)] (fun _ _ => False) (fun E9 => E9 = "java/lang/IllegalArgumentException")) (hx6 : u xo = some (.inr (6, fs))) (hd : zDj u v) : zML l D cs yL_office wsL_office (d + 1) mc ms (zJ u v) sz [.ref (xo), .int (a0), .ref (out)] (fun r w2 => r = some (.int 1) ∧ w2 = zJ u v) := by
  refine z_metL (cc := cL_office) (maxL := 4) (ret := (some .int)) (hh := [(0, 8, 11, 21)]) (by decide) rfl (Nat.le_of_ble_eq_true rfl) ?_
  intro p e s m below meth c hx hb hr hml hown hts hlocks hT hsz hK hE hN hS ls hl
  have hl : lv_has ls 4 [(0, .ref (xo)), (1, .int (a0)), (2, .ref (out))] := hl
  refine lv_aload_n hx hb dL_office_0 rfl (lv_at hl 2 rfl) ?_
  refine lv_iconst (v := 0) hx hb dL_office_1 (by decide) ?_
  refine lv_aload_n hx hb dL_office_2 rfl (lv_at hl 0 rfl) ?_
  refine lv_iload_n hx hb dL_office_3 rfl (lv_at hl 1 rfl) ?_
  refine z_invVX (b := xo) (As := [.int (a0)]) (rest := [.int (0), .ref (out)]) (n := 1) ⟨hx, hb, hml, hown, hts⟩ (by rw [hsz]; exact hc.frame hd) gL_office_X6_office rfl ⟨rfl, by decide +kernel, by decide +kernel, by decide +kernel⟩ ⟨by simp only [zR]; omega, by simp only [zR]; omega⟩ hK hE hS (ci := 6) rfl (zJ_l hx6) rfl hl.1 rfl (Nat.le_of_ble_eq_true rfl) dL_office_4 ⟨by simp only [zR]; omega, by simp only [zR]; omega⟩ (fun E ce q9 H locs hpx hS k1 k2 k3 => ?_) (fun v9 w9 H locs hq hS => ?_)
  · subst hpx
    refine vx_catch (own := RL) (name := "java/lang/IllegalArgumentException") hown [] ⟨0, 8, 11, 21⟩ [] (hT.trans rfl) zall0 (by decide) (by decide) (hts (.classLink RL 21 "java/lang/IllegalArgumentException") (by decide +kernel)) (va_Nw.use rfl (hE.2.2.2.2.2.2.2.1 _ (by decide))) k1 k2 k3 ?_
    refine lv_astore_n (lv' := [(3, .ref (q9)), (0, .ref (xo)), (1, .int (a0)), (2, .ref (out))]) hx hb dL_office_11 rfl hl (by decide) rfl (fun ls hl => ?_)
    refine lv_iconst (v := 1) hx hb dL_office_12 (by decide) ?_
    exact z_iret hx hb hr hlocks hS (by omega) (by omega) dL_office_13 ⟨rfl, rfl⟩
  · obtain ⟨u2, hf, _⟩ := hq
    exact hf.elim
