/-! ===== correct, close ===== -/
theorem zOth_same {V V3 : Nat → Nat → Int64} : ∀ {j : Nat}, (∀ i : Nat, i < j → V3 i 6 = V i 6) → zOth V V3 0 j = 0
  | 0, _ => rfl
  | j + 1, h => by
    rw [zOth, Nat.zero_add, if_pos (h j (by omega))]
    exact zOth_same (fun i hi => h i (by omega))
theorem zOth_tie {V V1 V2 V3 : Nat → Nat → Int64} {i : Nat} (h1 : ∀ j : Nat, j < i → V3 j 6 = V j 6) : ∀ {m : Nat}, (∀ j : Nat, i ≤ j → j < i + m → V3 j 6 = V2 j 6 ∧ V1 j 6 = V j 6) → zOth V V3 0 (i + m) = zOth V1 V2 i m
  | 0, _ => zOth_same h1
  | m + 1, h => by
    have q := h (i + m) (by omega) (by omega)
    show zOth V V3 0 (i + m + 1) = _
    rw [zOth, zOth, Nat.zero_add, q.1, q.2, zOth_tie h1 (fun j a b => h j a (by omega))]
theorem nI_sub {n i : Nat} (h : i ≤ n) : nI n - nI i = nI (n - i) := by
  have e : nI (n - i) + nI i = nI n := by rw [nI_add, Nat.sub_add_cancel h]
  rw [← e]
  exact Int32.add_sub_cancel _ _
/-- what each pay is by those ahead of it, made one after the other -/
theorem zAgain (fV fP : Nat → (Nat → Nat → Int64) → (Nat → Nat → Int64) → Nat → Int64) (V P : Nat → Nat → Int64) (n : Nat) (hc : ∀ (j : Nat) (A B A2 B2 : Nat → Nat → Int64), (∀ m : Nat, m < j → A2 m = A m ∧ B2 m = B m) → fV j A2 B2 = fV j A B ∧ fP j A2 B2 = fP j A B) : ∃ V2 P2 : Nat → Nat → Int64, (∀ j : Nat, j < n → V2 j = V j ∧ P2 j = P j) ∧ ∀ j : Nat, n ≤ j → V2 j = fV j V2 P2 ∧ P2 j = fP j V2 P2 := by
  have h : ∀ m : Nat, ∃ A B : Nat → Nat → Int64, (∀ j : Nat, j < n → A j = V j ∧ B j = P j) ∧ (∀ j : Nat, n ≤ j → j < m → A j = fV j A B ∧ B j = fP j A B) := by
    intro m
    induction m with
    | zero => exact ⟨V, P, fun _ _ => ⟨rfl, rfl⟩, fun j _ h => absurd h (by omega)⟩
    | succ m ih =>
      obtain ⟨A, B, h1, h2⟩ := ih
      by_cases c : n ≤ m
      · refine ⟨va_up A m (fV m A B), va_up B m (fP m A B), fun j hj => ?_, fun j h3 h4 => ?_⟩
        · rw [va_up_ne _ _ (by omega), va_up_ne _ _ (by omega)]
          exact h1 j hj
        · have e := hc j A B (va_up A m (fV m A B)) (va_up B m (fP m A B)) (fun x hx => ⟨va_up_ne _ _ (by omega), va_up_ne _ _ (by omega)⟩)
          rw [e.1, e.2]
          by_cases c2 : j = m
          · rw [c2, va_up_self, va_up_self]
            exact ⟨rfl, rfl⟩
          · rw [va_up_ne _ _ c2, va_up_ne _ _ c2]
            exact h2 j h3 (by omega)
      · exact ⟨A, B, h1, fun j h3 h4 => absurd h4 (by omega)⟩
  have un : ∀ (m m' : Nat) (A B A2 B2 : Nat → Nat → Int64), (∀ j : Nat, j < n → A j = V j ∧ B j = P j) → (∀ j : Nat, n ≤ j → j < m → A j = fV j A B ∧ B j = fP j A B) → (∀ j : Nat, j < n → A2 j = V j ∧ B2 j = P j) → (∀ j : Nat, n ≤ j → j < m' → A2 j = fV j A2 B2 ∧ B2 j = fP j A2 B2) → ∀ j : Nat, j < m → j < m' → A2 j = A j ∧ B2 j = B j := by
    intro m m' A B A2 B2 h1 h2 h3 h4 j
    induction j using Nat.strongRecOn with
    | ind j ih =>
      intro hj hj'
      by_cases c : j < n
      · exact ⟨(h3 j c).1.trans (h1 j c).1.symm, (h3 j c).2.trans (h1 j c).2.symm⟩
      · have e := hc j A B A2 B2 (fun x hx => ih x hx (by omega) (by omega))
        rw [(h4 j (by omega) hj').1, (h4 j (by omega) hj').2, e.1, e.2]
        exact ⟨(h2 j (by omega) hj).1.symm, (h2 j (by omega) hj).2.symm⟩
  let A := fun m => (h m).choose
  let B := fun m => (h m).choose_spec.choose
  have hA : ∀ m : Nat, (∀ j : Nat, j < n → A m j = V j ∧ B m j = P j) ∧ (∀ j : Nat, n ≤ j → j < m → A m j = fV j (A m) (B m) ∧ B m j = fP j (A m) (B m)) := fun m => (h m).choose_spec.choose_spec
  have ag : ∀ j m : Nat, j < m → A (j + 1) j = A m j ∧ B (j + 1) j = B m j := fun j m hj => un m (j + 1) (A m) (B m) (A (j + 1)) (B (j + 1)) (hA m).1 (hA m).2 (hA (j + 1)).1 (hA (j + 1)).2 j hj (by omega)
  refine ⟨fun j => A (j + 1) j, fun j => B (j + 1) j, fun j hj => (hA (j + 1)).1 j hj, fun j hj => ?_⟩
  have e := hc j (A (j + 1)) (B (j + 1)) (fun j => A (j + 1) j) (fun j => B (j + 1) j) (fun x hx => ag x (j + 1) (by omega))
  rw [e.1, e.2]
  exact (hA (j + 1)).2 j hj (by omega)
theorem zAgain_eq (fV fP : Nat → (Nat → Nat → Int64) → (Nat → Nat → Int64) → Nat → Int64) {V P A B A2 B2 : Nat → Nat → Int64} {n m : Nat} (hc : ∀ (j : Nat) (A B A2 B2 : Nat → Nat → Int64), (∀ m : Nat, m < j → A2 m = A m ∧ B2 m = B m) → fV j A2 B2 = fV j A B ∧ fP j A2 B2 = fP j A B) (h3 : ∀ j : Nat, j < n → A2 j = V j ∧ B2 j = P j) (h1 : ∀ j : Nat, j < n → A j = V j ∧ B j = P j) (h4 : ∀ j : Nat, n ≤ j → j < m → A2 j = fV j A2 B2 ∧ B2 j = fP j A2 B2) (h2 : ∀ j : Nat, n ≤ j → j < m → A j = fV j A B ∧ B j = fP j A B) : ∀ j : Nat, j < m → A2 j = A j ∧ B2 j = B j := by
  intro j
  induction j using Nat.strongRecOn with
  | ind j ih =>
    intro hj
    by_cases c : j < n
    · exact ⟨(h3 j c).1.trans (h1 j c).1.symm, (h3 j c).2.trans (h1 j c).2.symm⟩
    · have e := hc j A B A2 B2 (fun x hx => ih x hx (by omega))
      rw [(h4 j (by omega) hj).1, (h4 j (by omega) hj).2, e.1, e.2]
      exact ⟨(h2 j (by omega) hj).1.symm, (h2 j (by omega) hj).2.symm⟩
set_option maxHeartbeats 4000000 in
theorem zOp_correct (l : Launch) (D : va_G) (cs : Nat → ClassId) (hlst : l.stackTraces = false) {xo mm : Nat} {uc um : zw} (h : zInv cs xo mm uc um) (x y : Int32) (gross : Int64) : zBoth (fun z : Int32 => some (.int z)) (fun z : Int32 => some (.int z)) (fun z : Int32 => z.toInt64) (fun z : Int32 => z.toInt64) l D cs yX6_correct wsX6_correct yX7_correct wsX7_correct xo mm uc um [.int x, .int y, .long gross] ["java/lang/IndexOutOfBoundsException", "java/util/NoSuchElementException", "java/lang/IllegalArgumentException"] := by
  obtain ⟨AD, ad, J, K, th, nb, tn, FF, GF, tt, nd, de, so, si, ca, bs, nw, tw, pw, mw, rl, cw, xw, ew, hd, al, se, bo, rb, pe, me, re, cr, xt, en, tx, V, P, ST, brt, ny, wd, ag, us, ai, ab, AP, hR, rfl, hm, hinj, hM, hr, hp⟩ := h
  have hW := hR.wks hp
  have hf := hR.1 _ _ cR_0
  have htr := hR.1 _ _ cR_1
  have hdr := hR.1 _ _ cR_2
  have hwr := hR.1 _ _ cR_3
  have ha := hR.1 _ _ cR_4
  have hapc := hR.1 _ _ cR_5
  have hT : zArrN 6 _ (fun k => AD (10, k, 0)) nb := zArrIf hp.1
  have hD : zArrN 8 _ (fun k => AD (20, k, 0)) nd := zArrIf hp.2.1
  have hWn : zArrN 10 _ (fun k => AD (30, k, 0)) nw := zArrIf hp.2.2.1
  have hDs := hR.deds hp
  have hTb := hR.tabs hp
  rcases zIdx x nw with ⟨k, hk, rfl⟩ | hx9
  · rcases zIdx y (hd k) with ⟨n, hn9, rfl⟩ | hy9
    · by_cases hg : zUpTo (gross) 1000000000 = 1
      · have hw := hp.2.2.2.2.2.2.2.1 k hk
        have hal : hd k ≤ al k := hw.2.2.2.2.2.2.2.1
        have hal2 : al k ≤ 60 := hw.2.2.2.2.2.2.2.2.1
        have hrows := hw.2.2.2.2.2.2.2.2.2.1
        have hu := zUpTo_1 hg
        rw [zT9] at hu
        have step : ∀ V2 P2 : Nat → Nat → Int64, (∀ j : Nat, j < n → V2 j = V k j ∧ P2 j = P k j) → (∀ j : Nat, n ≤ j → j < hd k → V2 j = zStV de so si ca bs nd (bo k) (rb k) (pe k) (me k) (re k) (cr k) (xt k) (en k) (fun i => FF (tx k i)) (fun i => GF (tx k i)) (fun i => tn (tx k i)) V2 P2 j ((va_up (V k) n (zL8 gross (V k n 1) (V k n 2) (V k n 3) (V k n 4) (V k n 5) (V k n 6) (V k n 7))) j) (P k j) ∧ P2 j = zStP de so si ca bs nd (bo k) (rb k) (pe k) (me k) (re k) (cr k) (xt k) (en k) (fun i => FF (tx k i)) (fun i => GF (tx k i)) (fun i => tn (tx k i)) V2 P2 j ((va_up (V k) n (zL8 gross (V k n 1) (V k n 2) (V k n 3) (V k n 4) (V k n 5) (V k n 6) (V k n 7))) j) (P k j)) → (∀ j : Nat, j < hd k → zWkd nd de so si ca bs (bo k) (rb k) (pe k) (me k) (re k) (cr k) (xt k) (en k) (tx k) tn FF GF (fun j => if j < hd k then V2 j else V k j) (fun j => if j < hd k then P2 j else P k j) j) ∧ (∀ j : Nat, j < hd k → mWkd nd de so si ca bs (bo k) (rb k) (pe k) (me k) (re k) (cr k) (xt k) (en k) (tx k) tn FF GF (fun j => if j < hd k then V2 j else V k j) (fun j => if j < hd k then P2 j else P k j) j) ∧ (∀ j : Nat, j < hd k → V2 j 0 = (if j = n then gross else V k j 0) ∧ V2 j 7 = V k j 7 ∧ ∀ d : Nat, nd ≤ d → d < 8 → P2 j d = 0) := by
          intro V2 P2 q1 q2
          have hv10 : (va_up (V k) n (zL8 gross (V k n 1) (V k n 2) (V k n 3) (V k n 4) (V k n 5) (V k n 6) (V k n 7))) n 0 = gross ∧ (va_up (V k) n (zL8 gross (V k n 1) (V k n 2) (V k n 3) (V k n 4) (V k n 5) (V k n 6) (V k n 7))) n 7 = V k n 7 := by rw [va_up_self]; exact ⟨rfl, rfl⟩
          have hz : ∀ j : Nat, j < hd k → zWkd nd de so si ca bs (bo k) (rb k) (pe k) (me k) (re k) (cr k) (xt k) (en k) (tx k) tn FF GF V2 P2 j ∧ V2 j 0 = (if j = n then gross else V k j 0) ∧ V2 j 7 = V k j 7 ∧ ∀ d : Nat, nd ≤ d → d < 8 → P2 j d = 0 := fun j hj => by
            have hr9 := (hrows j (by omega)).2.2.2.2.2.2.2.2.2
            by_cases c : j < n
            · rw [if_neg (by omega), (q1 j c).1, (q1 j c).2]
              exact ⟨(hw.2.2.2.2.2.2.2.2.2.2 j hj).congr (fun m hm => ⟨rfl, (q1 m (by omega)).1, (q1 m (by omega)).2⟩) rfl rfl rfl rfl rfl rfl rfl rfl (q1 j c).1 (q1 j c).2 rfl rfl rfl, rfl, rfl, fun d h1 h2 => (hr9 d h1 h2).2⟩
            · have z := zWkd.again (V := V k) (P := P k) (fun d hd9 => (hp.2.2.2.2.2.2.1 d hd9).2) (fun d h1 h2 => (hr9 d h1 h2).2) (q2 j (by omega) hj).1 (q2 j (by omega) hj).2
              refine ⟨z.1, ?_, ?_, z.2.2.2⟩
              · rw [z.2.1]
                by_cases c2 : j = n
                · rw [if_pos c2, c2, va_up_self]
                  rfl
                · rw [if_neg c2, va_up_ne _ _ c2]
              · rw [z.2.2.1]
                by_cases c2 : j = n
                · rw [c2, va_up_self]
                  rfl
                · rw [va_up_ne _ _ c2]
          have hz3 : ∀ j : Nat, j < hd k → zWkd nd de so si ca bs (bo k) (rb k) (pe k) (me k) (re k) (cr k) (xt k) (en k) (tx k) tn FF GF (fun j => if j < hd k then V2 j else V k j) (fun j => if j < hd k then P2 j else P k j) j := fun j hj => (hz j hj).1.congr (fun m hm => ⟨rfl, if_pos (by omega), if_pos (by omega)⟩) rfl rfl rfl rfl rfl rfl rfl rfl (if_pos hj) (if_pos hj) rfl rfl rfl
          have hgd : zGood nd de so si ca bs (bo k) (rb k) (pe k) (me k) (re k) (cr k) (xt k) (en k) (tx k) tn FF GF (fun j => if j < hd k then V2 j else V k j) (fun j => if j < hd k then P2 j else P k j) (hd k) := by
            refine ⟨fun m hm => ?_, hp.2.1, hp.2.2.2.2.2.2.1⟩
            have z := hrows m (by omega)
            refine ⟨?_, z.2.2.2.2.1, z.2.2.2.2.2.1, z.2.2.2.2.2.2.1, z.2.2.2.2.2.2.2.1, z.2.2.2.2.2.2.2.2.1, (hp.2.2.2.2.2.1 (tx k m) z.1).2.1⟩
            show 0 ≤ ((if m < hd k then V2 m else V k m) 0).toInt ∧ ((if m < hd k then V2 m else V k m) 0).toInt ≤ _
            rw [if_pos hm, (hz m hm).2.1]
            by_cases c : m = n
            · rw [if_pos c]
              exact hu
            · rw [if_neg c]
              exact z.2.2.2.1
          exact ⟨hz3, (zTie (by omega) hgd hz3 (hd k) (Nat.le_refl _)).2, fun j hj => (hz j hj).2⟩
        obtain ⟨V2, P2, hex⟩ : ∃ V2 P2 : Nat → Nat → Int64, (∀ j : Nat, j < n → V2 j = V k j ∧ P2 j = P k j) ∧ (∀ j : Nat, n ≤ j → V2 j = zStV de so si ca bs nd (bo k) (rb k) (pe k) (me k) (re k) (cr k) (xt k) (en k) (fun i => FF (tx k i)) (fun i => GF (tx k i)) (fun i => tn (tx k i)) V2 P2 j ((va_up (V k) n (zL8 gross (V k n 1) (V k n 2) (V k n 3) (V k n 4) (V k n 5) (V k n 6) (V k n 7))) j) (P k j) ∧ P2 j = zStP de so si ca bs nd (bo k) (rb k) (pe k) (me k) (re k) (cr k) (xt k) (en k) (fun i => FF (tx k i)) (fun i => GF (tx k i)) (fun i => tn (tx k i)) V2 P2 j ((va_up (V k) n (zL8 gross (V k n 1) (V k n 2) (V k n 3) (V k n 4) (V k n 5) (V k n 6) (V k n 7))) j) (P k j)) := zAgain (fun j A B => zStV de so si ca bs nd (bo k) (rb k) (pe k) (me k) (re k) (cr k) (xt k) (en k) (fun i => FF (tx k i)) (fun i => GF (tx k i)) (fun i => tn (tx k i)) A B j ((va_up (V k) n (zL8 gross (V k n 1) (V k n 2) (V k n 3) (V k n 4) (V k n 5) (V k n 6) (V k n 7))) j) (P k j)) (fun j A B => zStP de so si ca bs nd (bo k) (rb k) (pe k) (me k) (re k) (cr k) (xt k) (en k) (fun i => FF (tx k i)) (fun i => GF (tx k i)) (fun i => tn (tx k i)) A B j ((va_up (V k) n (zL8 gross (V k n 1) (V k n 2) (V k n 3) (V k n 4) (V k n 5) (V k n 6) (V k n 7))) j) (P k j)) (V k) (P k) n (fun j A B A2 B2 h => ⟨(zSt_congr h).1, (zSt_congr h).2⟩)
        have st := step V2 P2 hex.1 (fun j h1 _ => hex.2 j h1)
        obtain ⟨V3, eV3⟩ : ∃ z, z = (fun j => if j < hd k then V2 j else V k j) := ⟨_, rfl⟩
        obtain ⟨P3, eP3⟩ : ∃ z, z = (fun j => if j < hd k then P2 j else P k j) := ⟨_, rfl⟩
        rw [← eV3, ← eP3] at st
        have v3 : ∀ j : Nat, j < hd k → V3 j = V2 j := fun j hj => by rw [eV3]; exact if_pos hj
        have p3 : ∀ j : Nat, j < hd k → P3 j = P2 j := fun j hj => by rw [eP3]; exact if_pos hj
        have v3n : ∀ j : Nat, ¬ j < hd k → V3 j = V k j := fun j hj => by rw [eV3]; exact if_neg hj
        have p3n : ∀ j : Nat, ¬ j < hd k → P3 j = P k j := fun j hj => by rw [eP3]; exact if_neg hj
        have v30 : V3 n 0 = gross := by rw [v3 n hn9, (st.2.2 n hn9).1, if_pos rfl]
        have cM : ∀ sz : Nat, zM l D cs yX7_correct wsX7_correct 7 0 0 um sz [.ref mm, .int (nI k), .int (nI n), .long gross] (fun r w2 => r = some (.int (nI (zOth (V k) V3 0 (hd k)))) ∧ ∃ J' : Nat → Nat → Int64, J' 25 = vp_updL (J 25) (60 * k + n) gross ∧ (∀ s : Nat, s ∉ [25, 37, 38, 39, 40, 41, 42, 43, 44] → J' s = J s) ∧ zMQ cs um w2 ad mm (mo ad 0 (nI nb) (nI nd) (nI nw) brt (nI ny) (wd + (nI (hd k) - nI n))) J' K) := fun sz => by
          have c := (c_X7_correct l D cs um sz _ _ _ _ _ _ _ _ _ _ _ _ _ _ _ _ _ _ _ _ _ _ _ _ _ _ _ _ _ _ _ _ _ _ V3 P3 hinj hM ((zInv.wr hr hp hk).1) hp.2.2.1 hk hn9 ((by rw [v30]; exact hg)) ((fun j hj hne => by rw [v3 j hj, (st.2.2 j hj).1, if_neg hne])) st.2.1 hm)
          rw [v30] at c
          exact c
        refine Or.inl ⟨6, 0, 0, 7, fun z u2 => ∃ (V2 P2 : Nat → Nat → Int64) (GA : Nat → Int64), z = nI (zOth (va_up (V k) n (zL8 gross (V k n 1) (V k n 2) (V k n 3) (V k n 4) (V k n 5) (V k n 6) (V k n 7))) V2 n (hd k - n)) ∧ (∀ j : Nat, j < n → V2 j = V k j ∧ P2 j = P k j) ∧ (∀ j : Nat, n ≤ j → j < hd k → V2 j = zStV de so si ca bs nd (bo k) (rb k) (pe k) (me k) (re k) (cr k) (xt k) (en k) (fun i => FF (tx k i)) (fun i => GF (tx k i)) (fun i => tn (tx k i)) V2 P2 j ((va_up (V k) n (zL8 gross (V k n 1) (V k n 2) (V k n 3) (V k n 4) (V k n 5) (V k n 6) (V k n 7))) j) (P k j) ∧ P2 j = zStP de so si ca bs nd (bo k) (rb k) (pe k) (me k) (re k) (cr k) (xt k) (en k) (fun i => FF (tx k i)) (fun i => GF (tx k i)) (fun i => tn (tx k i)) V2 P2 j ((va_up (V k) n (zL8 gross (V k n 1) (V k n 2) (V k n 3) (V k n 4) (V k n 5) (V k n 6) (V k n 7))) j) (P k j)) ∧ zPays cs u2 (fun i => if i < al k then some (AD (40, k, i)) else none) (fun i => AD (40, k, i)) (fun i => AD (41, k, i)) (fun i => AD (42, k, i)) (bo k) (rb k) V2 P2 (hd k) ∧ (∀ q : Nat, q < 8 → GA q = zSum (fun j => P2 j q) (hd k)) ∧ u2 (AD (0, 0, 0)) = some (.inr (6, [.ref (AD (1, 0, 0)), .ref (AD (2, 0, 0)), .ref (AD (3, 0, 0)), .ref (AD (4, 0, 0)), .int (nI nb), .int (nI nd), .int (nI nw), .int brt, .int (nI ny), .int (wd + nI (hd k - n))])) ∧ u2 (AD (4, 0, 0)) = some (zAhE (AD (5, 0, 0)) (bo k) V2 (hd k)) ∧ u2 (AD (5, 0, 0)) = some (eJ cs 8 GA) ∧ ∀ a : Nat, a ≠ AD (0, 0, 0) → a ≠ AD (4, 0, 0) → a ≠ AD (5, 0, 0) → (∀ j : Nat, j < hd k → a ≠ AD (40, k, j) ∧ a ≠ AD (42, k, j)) → u2 a = uc a, fun b m2 => b = nI (zOth (V k) V3 0 (hd k)) ∧ ∃ J' : Nat → Nat → Int64, J' 25 = vp_updL (J 25) (60 * k + n) gross ∧ (∀ s : Nat, s ∉ [25, 37, 38, 39, 40, 41, 42, 43, 44] → J' s = J s) ∧ zMQ cs um m2 ad mm (mo ad 0 (nI nb) (nI nd) (nI nw) brt (nI ny) (wd + (nI (hd k) - nI n))) J' K, by decide, by decide, by decide, by decide, fun sz => ((c_X6_correct l D cs uc sz _ _ _ _ _ _ _ _ _ _ _ _ _ _ _ _ _ _ _ _ _ _ _ _ _ _ _ _ _ _ _ _ _ _ _ _ _ _ _ _ _ _ _ _ _ _ _ _ _ _ _ _ _ _ _ _ _ _ _ hW hk hn9 hg hDs ((hR.pterm hp hk)) hTb ((fun j hj z => absurd (show (42 : Nat) = 5 from congrArg Prod.fst (hR.2 _ _ _ _ (cR_42 hk (by omega)) cR_5 z)) (by decide))) ((fun i j hi hj z => congrArg (fun r : Nat × Nat × Nat => r.2.2) (hR.2 _ _ _ _ (cR_40 hk (by omega)) (cR_40 hk (by omega)) z))) ((fun i j hi hj z => congrArg (fun r : Nat × Nat × Nat => r.2.2) (hR.2 _ _ _ _ (cR_42 hk (by omega)) (cR_42 hk (by omega)) z))) hf hwr hdr ha hapc)).to (fun r w2 q => (by obtain ⟨V9, P9, GA, q0, q⟩ := q; exact ⟨_, q0, V9, P9, GA, rfl, q⟩)), fun sz => (cM sz).to (fun r w2 q => ⟨_, q.1, rfl, q.2⟩), ?_⟩
        rintro z u2 b m2 ⟨V9, P9, GA, rfl, f1, f2, fP, fG, k0, k4, k5, kout⟩ ⟨rfl, J', hJ25, hJo, hq⟩
        have same : ∀ j : Nat, j < hd k → V9 j = V2 j ∧ P9 j = P2 j := zAgain_eq (fun j A B => zStV de so si ca bs nd (bo k) (rb k) (pe k) (me k) (re k) (cr k) (xt k) (en k) (fun i => FF (tx k i)) (fun i => GF (tx k i)) (fun i => tn (tx k i)) A B j ((va_up (V k) n (zL8 gross (V k n 1) (V k n 2) (V k n 3) (V k n 4) (V k n 5) (V k n 6) (V k n 7))) j) (P k j)) (fun j A B => zStP de so si ca bs nd (bo k) (rb k) (pe k) (me k) (re k) (cr k) (xt k) (en k) (fun i => FF (tx k i)) (fun i => GF (tx k i)) (fun i => tn (tx k i)) A B j ((va_up (V k) n (zL8 gross (V k n 1) (V k n 2) (V k n 3) (V k n 4) (V k n 5) (V k n 6) (V k n 7))) j) (P k j)) (fun j A B A2 B2 h => ⟨(zSt_congr h).1, (zSt_congr h).2⟩) f1 hex.1 f2 (fun j h1 _ => hex.2 j h1)
        have hkeep : ∀ (r : Nat × Nat × Nat) (e : va_E), cR cs AD nb tn FF GF tt nd de so si ca bs nw tw pw mw rl cw xw ew hd al se bo rb pe me re cr xt en tx V P ST brt ny wd ag us ai ab AP r = some e → r ≠ (0, 0, 0) → r ≠ (4, 0, 0) → r ≠ (5, 0, 0) → (∀ j : Nat, j < hd k → r ≠ (40, k, j) ∧ r ≠ (42, k, j)) → u2 (AD r) = some e ∧ ∃ e0, cR cs AD nb tn FF GF tt nd de so si ca bs nw tw pw mw rl cw xw ew hd al se bo rb pe me re cr xt en tx V P ST brt ny wd ag us ai ab AP r = some e0 := fun r e q q1 q2 q3 q4 => by
          refine ⟨?_, e, q⟩
          rw [kout (AD r) (fun z => q1 (hR.2 _ _ _ _ q cR_0 z)) (fun z => q2 (hR.2 _ _ _ _ q cR_4 z)) (fun z => q3 (hR.2 _ _ _ _ q cR_5 z)) (fun j hj => ⟨fun z => (q4 j hj).1 (hR.2 _ _ _ _ q (cR_40 hk (by omega)) z), fun z => (q4 j hj).2 (hR.2 _ _ _ _ q (cR_42 hk (by omega)) z)⟩)]
          exact hR.1 r e q
        have hR2 : zRep u2 AD (cR cs AD nb tn FF GF tt nd de so si ca bs nw tw pw mw rl cw xw ew hd al se bo rb pe me re cr xt en tx (va_up V k V3) (va_up P k P3) ST brt ny (wd + nI (hd k - n)) (zSum (fun i => V9 i 0) (hd k)) (nI (zUs (bo k) (hd k))) (zSumU (bo k) (fun i => V9 i 2) (hd k)) (zSumU (bo k) (fun i => V9 i 3) (hd k)) (GA)) := by
          refine hR.gen (cR_cases ?_ ?_ ?_ ?_ ?_ ?_ ?_ ?_ ?_ ?_ ?_ ?_ ?_ ?_ ?_ ?_ ?_ ?_)
          · exact ⟨k0, _, cR_0⟩
          · exact hkeep _ _ cR_1 (fun z => absurd (show (1 : Nat) = 0 from congrArg Prod.fst z) (by decide)) (fun z => absurd (show (1 : Nat) = 4 from congrArg Prod.fst z) (by decide)) (fun z => absurd (show (1 : Nat) = 5 from congrArg Prod.fst z) (by decide)) (fun j hj => ⟨(fun z => absurd (show (1 : Nat) = 40 from congrArg Prod.fst z) (by decide)), (fun z => absurd (show (1 : Nat) = 42 from congrArg Prod.fst z) (by decide))⟩)
          · exact hkeep _ _ cR_2 (fun z => absurd (show (2 : Nat) = 0 from congrArg Prod.fst z) (by decide)) (fun z => absurd (show (2 : Nat) = 4 from congrArg Prod.fst z) (by decide)) (fun z => absurd (show (2 : Nat) = 5 from congrArg Prod.fst z) (by decide)) (fun j hj => ⟨(fun z => absurd (show (2 : Nat) = 40 from congrArg Prod.fst z) (by decide)), (fun z => absurd (show (2 : Nat) = 42 from congrArg Prod.fst z) (by decide))⟩)
          · exact hkeep _ _ cR_3 (fun z => absurd (show (3 : Nat) = 0 from congrArg Prod.fst z) (by decide)) (fun z => absurd (show (3 : Nat) = 4 from congrArg Prod.fst z) (by decide)) (fun z => absurd (show (3 : Nat) = 5 from congrArg Prod.fst z) (by decide)) (fun j hj => ⟨(fun z => absurd (show (3 : Nat) = 40 from congrArg Prod.fst z) (by decide)), (fun z => absurd (show (3 : Nat) = 42 from congrArg Prod.fst z) (by decide))⟩)
          · exact ⟨k4, _, cR_4⟩
          · exact ⟨k5, _, cR_5⟩
          · exact fun j hj => hkeep _ _ (cR_10 hj) (fun z => absurd (show (10 : Nat) = 0 from congrArg Prod.fst z) (by decide)) (fun z => absurd (show (10 : Nat) = 4 from congrArg Prod.fst z) (by decide)) (fun z => absurd (show (10 : Nat) = 5 from congrArg Prod.fst z) (by decide)) (fun j hj => ⟨(fun z => absurd (show (10 : Nat) = 40 from congrArg Prod.fst z) (by decide)), (fun z => absurd (show (10 : Nat) = 42 from congrArg Prod.fst z) (by decide))⟩)
          · exact fun j hj => hkeep _ _ (cR_11 hj) (fun z => absurd (show (11 : Nat) = 0 from congrArg Prod.fst z) (by decide)) (fun z => absurd (show (11 : Nat) = 4 from congrArg Prod.fst z) (by decide)) (fun z => absurd (show (11 : Nat) = 5 from congrArg Prod.fst z) (by decide)) (fun j hj => ⟨(fun z => absurd (show (11 : Nat) = 40 from congrArg Prod.fst z) (by decide)), (fun z => absurd (show (11 : Nat) = 42 from congrArg Prod.fst z) (by decide))⟩)
          · exact fun j hj => hkeep _ _ (cR_12 hj) (fun z => absurd (show (12 : Nat) = 0 from congrArg Prod.fst z) (by decide)) (fun z => absurd (show (12 : Nat) = 4 from congrArg Prod.fst z) (by decide)) (fun z => absurd (show (12 : Nat) = 5 from congrArg Prod.fst z) (by decide)) (fun j hj => ⟨(fun z => absurd (show (12 : Nat) = 40 from congrArg Prod.fst z) (by decide)), (fun z => absurd (show (12 : Nat) = 42 from congrArg Prod.fst z) (by decide))⟩)
          · exact fun j hj => hkeep _ _ (cR_20 hj) (fun z => absurd (show (20 : Nat) = 0 from congrArg Prod.fst z) (by decide)) (fun z => absurd (show (20 : Nat) = 4 from congrArg Prod.fst z) (by decide)) (fun z => absurd (show (20 : Nat) = 5 from congrArg Prod.fst z) (by decide)) (fun j hj => ⟨(fun z => absurd (show (20 : Nat) = 40 from congrArg Prod.fst z) (by decide)), (fun z => absurd (show (20 : Nat) = 42 from congrArg Prod.fst z) (by decide))⟩)
          · exact fun j hj => hkeep _ _ (cR_30 hj) (fun z => absurd (show (30 : Nat) = 0 from congrArg Prod.fst z) (by decide)) (fun z => absurd (show (30 : Nat) = 4 from congrArg Prod.fst z) (by decide)) (fun z => absurd (show (30 : Nat) = 5 from congrArg Prod.fst z) (by decide)) (fun j hj => ⟨(fun z => absurd (show (30 : Nat) = 40 from congrArg Prod.fst z) (by decide)), (fun z => absurd (show (30 : Nat) = 42 from congrArg Prod.fst z) (by decide))⟩)
          · exact fun j hj => hkeep _ _ (cR_31 hj) (fun z => absurd (show (31 : Nat) = 0 from congrArg Prod.fst z) (by decide)) (fun z => absurd (show (31 : Nat) = 4 from congrArg Prod.fst z) (by decide)) (fun z => absurd (show (31 : Nat) = 5 from congrArg Prod.fst z) (by decide)) (fun j hj => ⟨(fun z => absurd (show (31 : Nat) = 40 from congrArg Prod.fst z) (by decide)), (fun z => absurd (show (31 : Nat) = 42 from congrArg Prod.fst z) (by decide))⟩)
          · exact fun j hj => hkeep _ _ (cR_32 hj) (fun z => absurd (show (32 : Nat) = 0 from congrArg Prod.fst z) (by decide)) (fun z => absurd (show (32 : Nat) = 4 from congrArg Prod.fst z) (by decide)) (fun z => absurd (show (32 : Nat) = 5 from congrArg Prod.fst z) (by decide)) (fun j hj => ⟨(fun z => absurd (show (32 : Nat) = 40 from congrArg Prod.fst z) (by decide)), (fun z => absurd (show (32 : Nat) = 42 from congrArg Prod.fst z) (by decide))⟩)
          · exact fun j hj => hkeep _ _ (cR_33 hj) (fun z => absurd (show (33 : Nat) = 0 from congrArg Prod.fst z) (by decide)) (fun z => absurd (show (33 : Nat) = 4 from congrArg Prod.fst z) (by decide)) (fun z => absurd (show (33 : Nat) = 5 from congrArg Prod.fst z) (by decide)) (fun j hj => ⟨(fun z => absurd (show (33 : Nat) = 40 from congrArg Prod.fst z) (by decide)), (fun z => absurd (show (33 : Nat) = 42 from congrArg Prod.fst z) (by decide))⟩)
          · intro j y hj hy
            by_cases q : j = k
            · subst q
              rw [va_up_self]
              by_cases c2 : y < hd j
              · rw [v3 y c2, ← (same y c2).1]
                exact ⟨(fP y c2).2.1, _, cR_40 hj hy⟩
              · rw [v3n y c2]
                exact hkeep _ _ (cR_40 hj hy) (fun z => absurd (show (40 : Nat) = 0 from congrArg Prod.fst z) (by decide)) (fun z => absurd (show (40 : Nat) = 4 from congrArg Prod.fst z) (by decide)) (fun z => absurd (show (40 : Nat) = 5 from congrArg Prod.fst z) (by decide)) (fun m hm => ⟨fun z => absurd (show y = m from congrArg (fun r : Nat × Nat × Nat => r.2.2) z) (by omega), (fun z => absurd (show (40 : Nat) = 42 from congrArg Prod.fst z) (by decide))⟩)
            · rw [va_up_ne _ _ q]
              exact hkeep _ _ (cR_40 hj hy) (fun z => absurd (show (40 : Nat) = 0 from congrArg Prod.fst z) (by decide)) (fun z => absurd (show (40 : Nat) = 4 from congrArg Prod.fst z) (by decide)) (fun z => absurd (show (40 : Nat) = 5 from congrArg Prod.fst z) (by decide)) (fun m hm => ⟨fun z => q (congrArg (fun r : Nat × Nat × Nat => r.2.1) z), (fun z => absurd (show (40 : Nat) = 42 from congrArg Prod.fst z) (by decide))⟩)
          · exact fun j y hj hy => hkeep _ _ (cR_41 hj hy) (fun z => absurd (show (41 : Nat) = 0 from congrArg Prod.fst z) (by decide)) (fun z => absurd (show (41 : Nat) = 4 from congrArg Prod.fst z) (by decide)) (fun z => absurd (show (41 : Nat) = 5 from congrArg Prod.fst z) (by decide)) (fun j hj => ⟨(fun z => absurd (show (41 : Nat) = 40 from congrArg Prod.fst z) (by decide)), (fun z => absurd (show (41 : Nat) = 42 from congrArg Prod.fst z) (by decide))⟩)
          · intro j y hj hy
            by_cases q : j = k
            · subst q
              rw [va_up_self]
              by_cases c2 : y < hd j
              · rw [p3 y c2, ← (same y c2).2]
                exact ⟨(fP y c2).2.2, _, cR_42 hj hy⟩
              · rw [p3n y c2]
                exact hkeep _ _ (cR_42 hj hy) (fun z => absurd (show (42 : Nat) = 0 from congrArg Prod.fst z) (by decide)) (fun z => absurd (show (42 : Nat) = 4 from congrArg Prod.fst z) (by decide)) (fun z => absurd (show (42 : Nat) = 5 from congrArg Prod.fst z) (by decide)) (fun m hm => ⟨(fun z => absurd (show (42 : Nat) = 40 from congrArg Prod.fst z) (by decide)), fun z => absurd (show y = m from congrArg (fun r : Nat × Nat × Nat => r.2.2) z) (by omega)⟩)
            · rw [va_up_ne _ _ q]
              exact hkeep _ _ (cR_42 hj hy) (fun z => absurd (show (42 : Nat) = 0 from congrArg Prod.fst z) (by decide)) (fun z => absurd (show (42 : Nat) = 4 from congrArg Prod.fst z) (by decide)) (fun z => absurd (show (42 : Nat) = 5 from congrArg Prod.fst z) (by decide)) (fun m hm => ⟨(fun z => absurd (show (42 : Nat) = 40 from congrArg Prod.fst z) (by decide)), fun z => q (congrArg (fun r : Nat × Nat × Nat => r.2.1) z)⟩)
          · exact fun j y hj hy => hkeep _ _ (cR_43 hj hy) (fun z => absurd (show (43 : Nat) = 0 from congrArg Prod.fst z) (by decide)) (fun z => absurd (show (43 : Nat) = 4 from congrArg Prod.fst z) (by decide)) (fun z => absurd (show (43 : Nat) = 5 from congrArg Prod.fst z) (by decide)) (fun j hj => ⟨(fun z => absurd (show (43 : Nat) = 40 from congrArg Prod.fst z) (by decide)), (fun z => absurd (show (43 : Nat) = 42 from congrArg Prod.fst z) (by decide))⟩)
        have e1 : J' 1 = J 1 := hJo 1 (by decide)
        have e8 : J' 8 = J 8 := hJo 8 (by decide)
        have e9 : J' 9 = J 9 := hJo 9 (by decide)
        have e10 : J' 10 = J 10 := hJo 10 (by decide)
        have e16 : J' 16 = J 16 := hJo 16 (by decide)
        have e17 : J' 17 = J 17 := hJo 17 (by decide)
        have e18 : J' 18 = J 18 := hJo 18 (by decide)
        have e20 : J' 20 = J 20 := hJo 20 (by decide)
        have e32 : J' 32 = J 32 := hJo 32 (by decide)
        have e33 : J' 33 = J 33 := hJo 33 (by decide)
        have e34 : J' 34 = J 34 := hJo 34 (by decide)
        have e35 : J' 35 = J 35 := hJo 35 (by decide)
        have e36 : J' 36 = J 36 := hJo 36 (by decide)
        have z60 : ∀ j : Nat, j < nw → hd j ≤ 60 := fun j hj => Nat.le_trans (hp.2.2.2.2.2.2.2.1 j hj).2.2.2.2.2.2.2.1 (hp.2.2.2.2.2.2.2.1 j hj).2.2.2.2.2.2.2.2.1
        have hr2 : mRel J' K nb tn FF GF tt nd de so si ca bs nw tw pw mw rl cw xw ew hd al se bo rb pe me re cr xt en tx (va_up V k V3) (va_up P k P3) ST brt ny (wd + nI (hd k - n)) := by
          refine ⟨(hr.1).of e1 rfl rfl, (hr.2.1).of e8 e9 e10 rfl rfl, (fun j hj => by
            by_cases c : j = k
            · subst c
              rw [va_up_self]
              exact (hr.2.2.1 j hj).put (V2 := V3) (by rw [v30]; exact hJ25) e32 e33 e34 (fun m hm hne => by rw [v3 m hm, (st.2.2 m hm).1, if_neg hne])
            · rw [va_up_ne _ _ c]
              have := z60 j hj
              exact (hr.2.2.1 j hj).keep (x := 60 * k + n) (fun m hm => by have := z60 k hk; omega) (fun s hs y hy => by
                rcases List.mem_cons.mp hs with rfl | hs
                · rw [hJ25, vpL_ne _ _ hy]
                rcases List.mem_cons.mp hs with rfl | hs
                · rw [e32]
                rcases List.mem_cons.mp hs with rfl | hs
                · rw [e33]
                rcases List.mem_cons.mp hs with rfl | hs
                · rw [e34]
                cases hs) (fun _ _ _ _ => rfl)), (fun j hj => by
            rw [e35]
            by_cases c : j = k
            · subst c
              rw [va_up_self]
              exact ⟨(hr.2.2.2.1 j hj).1, fun m hm => by rw [v3 m hm, (st.2.2 m hm).2.1]; exact (hr.2.2.2.1 j hj).2 m hm⟩
            · rw [va_up_ne _ _ c]
              exact hr.2.2.2.1 j hj), hr.2.2.2.2.1, hr.2.2.2.2.2.1, ?_, ?_, ?_⟩
          · rw [e16, e17, e18, e20]
            exact hr.2.2.2.2.2.2.1
          · rw [e16, e17, e18, e20]
            exact hr.2.2.2.2.2.2.2.1
          · rw [e36]
            exact hr.2.2.2.2.2.2.2.2
        have hp2 : zPure nb tn FF GF tt nd de so si ca bs nw tw pw mw rl cw xw ew hd al se bo rb pe me re cr xt en tx (va_up V k V3) (va_up P k P3) ST brt ny (wd + nI (hd k - n)) := by
          refine ⟨hp.1, hp.2.1, hp.2.2.1, hp.2.2.2.1, hp.2.2.2.2.1, hp.2.2.2.2.2.1, hp.2.2.2.2.2.2.1, ?_, hp.2.2.2.2.2.2.2.2⟩
          intro j hj
          have q := hp.2.2.2.2.2.2.2.1 j hj
          by_cases c : j = k
          · subst c
            rw [va_up_self, va_up_self]
            refine ⟨q.1, q.2.1, q.2.2.1, q.2.2.2.1, q.2.2.2.2.1, q.2.2.2.2.2.1, q.2.2.2.2.2.2.1, q.2.2.2.2.2.2.2.1, q.2.2.2.2.2.2.2.2.1, fun m hm => ?_, st.1⟩
            have z := q.2.2.2.2.2.2.2.2.2.1 m hm
            by_cases c2 : m < hd j
            · rw [v3 m c2, p3 m c2, (st.2.2 m c2).1]
              refine ⟨z.1, z.2.1, z.2.2.1, ?_, z.2.2.2.2.1, z.2.2.2.2.2.1, z.2.2.2.2.2.2.1, z.2.2.2.2.2.2.2.1, z.2.2.2.2.2.2.2.2.1, fun d h1 h2 => ⟨(z.2.2.2.2.2.2.2.2.2 d h1 h2).1, (st.2.2 m c2).2.2 d h1 h2⟩⟩
              by_cases c3 : m = n
              · rw [if_pos c3]
                exact hu
              · rw [if_neg c3]
                exact z.2.2.2.1
            · rw [v3n m c2, p3n m c2]
              exact z
          · rw [va_up_ne _ _ c, va_up_ne _ _ c]
            exact q
        have ew9 : wd + (nI (hd k) - nI n) = wd + nI (hd k - n) := by rw [nI_sub (Nat.le_of_lt hn9)]
        rw [ew9] at hq
        have eo : zOth (V k) V3 0 (hd k) = zOth (va_up (V k) n (zL8 gross (V k n 1) (V k n 2) (V k n 3) (V k n 4) (V k n 5) (V k n 6) (V k n 7))) V9 n (hd k - n) := by
          have q := zOth_tie (V := V k) (V1 := (va_up (V k) n (zL8 gross (V k n 1) (V k n 2) (V k n 3) (V k n 4) (V k n 5) (V k n 6) (V k n 7)))) (V2 := V9) (V3 := V3) (i := n) (fun j hj => by rw [v3 j (by omega), (hex.1 j hj).1]) (m := hd k - n) (fun j h1 h2 => ⟨by rw [v3 j (by omega), (same j (by omega)).1], by
              by_cases c : j = n
              · rw [c, va_up_self]
                rfl
              · rw [va_up_ne _ _ c]⟩)
          rw [Nat.add_sub_cancel' (Nat.le_of_lt hn9)] at q
          exact q
        exact ⟨by rw [eo], ⟨_, _, _, _, _, _, _, hq.1⟩, zInv.mk hR2 rfl hq.1 hinj hq.2.1 hr2 hp2⟩
      · have hg : zUpTo (gross) 1000000000 = 0 := (zUpTo_01 _ _).resolve_right hg
        refine Or.inr ⟨2, _, 6, 1, 6, 3, fun _ m2 => zMQ cs um m2 ad mm (mo ad 3 (nI nb) (nI nd) (nI nw) brt (nI ny) wd) J K, by decide, by decide, by decide, by decide, rfl, fun sz => (t3_X6_correct l D cs uc sz _ _ _ _ _ _ _ _ _ _ _ _ _ _ _ _ _ _ _ _ _ _ _ _ _ _ _ _ _ _ hlst hW hk hn9 hg hf hwr), fun sz => ((t3_X7_correct l D cs um sz _ _ _ _ _ _ _ _ _ _ _ _ _ _ _ hinj hM hp.2.2.1 hk ((hr.2.2.2.1 k hk).1) ((Nat.le_trans (hp.2.2.2.2.2.2.2.1 k hk).2.2.2.2.2.2.2.1 (hp.2.2.2.2.2.2.2.1 k hk).2.2.2.2.2.2.2.2.1)) hn9 hg hm)).to (fun r w2 q => ⟨_, q.1, q.2⟩), ?_⟩
        rintro b m2 hq
        exact ⟨⟨_, _, _, _, _, _, _, hq.1⟩, zInv.m hR hinj hr hp hq mOut.refl⟩
    · refine Or.inr ⟨1, _, 6, 1, 6, 3, fun _ m2 => zMQ cs um m2 ad mm (mo ad 2 (nI nb) (nI nd) (nI nw) brt (nI ny) wd) J K, by decide, by decide, by decide, by decide, rfl, fun sz => (t2_X6_correct l D cs uc sz _ _ _ _ _ _ _ _ _ _ _ _ _ _ _ _ _ _ _ _ _ _ _ _ _ _ _ _ _ _ hlst hW hk hy9 hf hwr), fun sz => ((t2_X7_correct l D cs um sz _ _ _ _ _ _ _ _ _ _ _ _ _ _ _ hinj hM hp.2.2.1 hk ((hr.2.2.2.1 k hk).1) ((Nat.le_trans (hp.2.2.2.2.2.2.2.1 k hk).2.2.2.2.2.2.2.1 (hp.2.2.2.2.2.2.2.1 k hk).2.2.2.2.2.2.2.2.1)) hy9 hm)).to (fun r w2 q => ⟨_, q.1, q.2⟩), ?_⟩
      rintro b m2 hq
      exact ⟨⟨_, _, _, _, _, _, _, hq.1⟩, zInv.m hR hinj hr hp hq mOut.refl⟩
  · refine Or.inr ⟨0, _, 6, 1, 6, 3, fun _ m2 => zMQ cs um m2 ad mm (mo ad 1 (nI nb) (nI nd) (nI nw) brt (nI ny) wd) J K, by decide, by decide, by decide, by decide, rfl, fun sz => (t1_X6_correct l D cs uc sz _ _ _ _ _ _ _ _ _ _ _ _ _ _ _ _ _ _ _ _ _ _ _ _ _ _ _ _ _ _ hlst hW hx9 hf hwr), fun sz => ((t1_X7_correct l D cs um sz _ _ _ _ _ _ _ _ _ _ _ _ _ _ hinj hM hp.2.2.1 hx9 hm)).to (fun r w2 q => ⟨_, q.1, q.2⟩), ?_⟩
    rintro b m2 hq
    exact ⟨⟨_, _, _, _, _, _, _, hq.1⟩, zInv.m hR hinj hr hp hq mOut.refl⟩

set_option maxHeartbeats 4000000 in
theorem zOp_close (l : Launch) (D : va_G) (cs : Nat → ClassId) (hlst : l.stackTraces = false) {xo mm : Nat} {uc um : zw} (h : zInv cs xo mm uc um)  : zBoth (fun z : Int32 => some (.int z)) (fun z : Int32 => some (.int z)) (fun z : Int32 => z.toInt64) (fun z : Int32 => z.toInt64) l D cs yX6_close wsX6_close yX7_close wsX7_close xo mm uc um [] ["java/lang/IllegalStateException", "java/lang/UnsupportedOperationException"] := by
  obtain ⟨AD, ad, J, K, th, nb, tn, FF, GF, tt, nd, de, so, si, ca, bs, nw, tw, pw, mw, rl, cw, xw, ew, hd, al, se, bo, rb, pe, me, re, cr, xt, en, tx, V, P, ST, brt, ny, wd, ag, us, ai, ab, AP, hR, rfl, hm, hinj, hM, hr, hp⟩ := h
  have hW := hR.wks hp
  have hf := hR.1 _ _ cR_0
  have htr := hR.1 _ _ cR_1
  have hdr := hR.1 _ _ cR_2
  have hwr := hR.1 _ _ cR_3
  have ha := hR.1 _ _ cR_4
  have hapc := hR.1 _ _ cR_5
  have hT : zArrN 6 _ (fun k => AD (10, k, 0)) nb := zArrIf hp.1
  have hD : zArrN 8 _ (fun k => AD (20, k, 0)) nd := zArrIf hp.2.1
  have hWn : zArrN 10 _ (fun k => AD (30, k, 0)) nw := zArrIf hp.2.2.1
  have hDs := hR.deds hp
  have hTb := hR.tabs hp
  have e20 : ∀ k : Nat, k < nw → J 20 k = se k := fun k hk => (hr.2.2.2.2.2.2.1 k hk).2.2.2.2.2.2.2
  by_cases how : ∃ k : Nat, k < nw ∧ ¬ zTotal (bo k) (V k) (hd k) (se k) 10 = 0
  · refine Or.inr ⟨0, _, 5, 1, 6, 9, fun _ m2 => ∃ J' : Nat → Nat → Int64, mOut J J' ∧ zMQ cs um m2 ad mm (mo ad 1 (nI nb) (nI nd) (nI nw) brt (nI ny) wd) J' K, by decide, by decide, by decide, by decide, rfl, fun sz => (t1_X6_close l D cs uc sz _ _ _ _ _ _ _ _ _ _ _ _ _ _ _ _ _ _ _ _ _ _ _ _ _ _ _ hlst hW how hf hwr), fun sz => ((t1_X7_close l D cs um sz _ _ _ _ _ _ _ _ _ _ _ _ _ _ _ _ _ _ _ _ _ _ _ _ _ _ _ _ _ _ _ _ hinj hM (fun k hk => (zInv.wr hr hp hk).1) hp.2.2.1 hp.2.2.2.1 ((fun q => by obtain ⟨k, hk, z⟩ := how; exact z (by have := q k hk; rw [e20 k hk] at this; exact this))) hm)).to (fun r w2 q => ⟨_, q.1, q.2⟩), ?_⟩
    rintro b m2 ⟨J', ho, hq⟩
    exact ⟨⟨_, _, _, _, _, _, _, hq.1⟩, zInv.m hR hinj hr hp hq ho⟩
  · have hev : ∀ k : Nat, k < nw → zTotal (bo k) (V k) (hd k) (J 20 k) 10 = 0 := fun k hk => by
      rw [e20 k hk]
      by_cases c : zTotal (bo k) (V k) (hd k) (se k) 10 = 0
      · exact c
      · exact absurd ⟨k, hk, c⟩ how
    by_cases h6 : ny = 6
    · subst h6
      refine Or.inr ⟨1, _, 5, 1, 6, 9, fun _ m2 => ∃ J' : Nat → Nat → Int64, mOut J J' ∧ zMQ cs um m2 ad mm (mo ad 2 (nI nb) (nI nd) (nI nw) brt (nI 6) wd) J' K, by decide, by decide, by decide, by decide, rfl, fun sz => (t2_X6_close l D cs uc sz _ _ _ _ _ _ _ _ _ _ _ _ _ _ _ _ _ _ _ _ _ _ _ _ _ _ hlst hW how hf hwr), fun sz => ((t2_X7_close l D cs um sz _ _ _ _ _ _ _ _ _ _ _ _ _ _ _ _ _ _ _ _ _ _ _ _ _ _ _ _ _ _ _ _ hinj hM (fun k hk => (zInv.wr hr hp hk).1) hp.2.2.1 hp.2.2.2.1 hev rfl hm)).to (fun r w2 q => ⟨_, q.1, q.2⟩), ?_⟩
      rintro b m2 ⟨J', ho, hq⟩
      exact ⟨⟨_, _, _, _, _, _, _, hq.1⟩, zInv.m hR hinj hr hp hq ho⟩
    · have hy6 : ny < 6 := by have := hp.2.2.2.1; omega
      have hdu : ∀ k : Nat, k < nw → mDuty (FF (tw k)) (GF (tw k)) (tn (tw k)) (J 16 k) (J 17 k) (zTot (bo k) (V k) (hd k) 2) = zDuty (FF (tw k)) (GF (tw k)) (tn (tw k)) (rl k) (cw k) (zTot (bo k) (V k) (hd k) 2) := fun k hk => by
        have hb := zInv.wr hr hp hk
        have hw := hp.2.2.2.2.2.2.2.1 k hk
        have e6 := (hr.2.2.2.2.2.2.1 k hk)
        have ht := hp.2.2.2.2.2.1 (tw k) hw.1
        have hb2 := zSum_b (f := fun i => zLine 2 (bo k i) (V k i)) (Nat.le_trans (hp.2.2.2.2.2.2.2.1 k hk).2.2.2.2.2.2.2.1 (hp.2.2.2.2.2.2.2.1 k hk).2.2.2.2.2.2.2.2.1) (fun i hi => by show 0 ≤ (zLine 2 (bo k i) (V k i)).toInt ∧ (zLine 2 (bo k i) (V k i)).toInt ≤ _; rw [zLine_2]; exact (hb.2.1 i hi).1)
        rw [e6.2.2.2.2.1, e6.2.2.2.2.2.1]
        exact (mDuty_eq (F := FF (tw k)) (G := GF (tw k)) (n := tn (tw k)) (re := rl k) (cr := cw k) (y := zTot (bo k) (V k) (hd k) 2) ht.2.1 hw.2.2.2.1 hw.2.2.2.2.1 hb2.1 (Int.le_trans hb2.2 (by have := Nat.le_trans (hp.2.2.2.2.2.2.2.1 k hk).2.2.2.2.2.2.2.1 (hp.2.2.2.2.2.2.2.1 k hk).2.2.2.2.2.2.2.2.1; omega))).1
      refine Or.inl ⟨5, 0, 0, 10, fun z u2 => z = nI ny ∧ (∀ k : Nat, k < nw → u2 (AD (30, k, 0)) = some (.inr (5, [.ref (AD (31, k, 0)), .ref (AD (32, k, 0)), .ref (AD (33, k, 0)), .int 0, .long 0])) ∧ u2 (AD (43, k, ny)) = some (eJ cs 11 (zStm (bo k) (V k) (hd k) (se k) (zDuty (FF (tw k)) (GF (tw k)) (tn (tw k)) (rl k) (cw k) (zTot (bo k) (V k) (hd k) 2)) (ST k ny)))) ∧ u2 (AD (0, 0, 0)) = some (.inr (6, [.ref (AD (1, 0, 0)), .ref (AD (2, 0, 0)), .ref (AD (3, 0, 0)), .ref (AD (4, 0, 0)), .int (nI nb), .int (nI nd), .int (nI nw), .int brt, .int (nI (ny + 1)), .int wd])) ∧ ∀ a : Nat, a ≠ AD (0, 0, 0) → (∀ k : Nat, k < nw → a ≠ AD (30, k, 0) ∧ a ≠ AD (43, k, ny)) → u2 a = uc a, fun b m2 => b = nI ny ∧ ∃ (J' : Nat → Nat → Int64) (K' : Nat → Nat → Int32), (∀ s : Nat, s ∉ [20, 36, 37, 38, 39, 40, 41, 42, 43] → J' s = J s) ∧ (∀ s : Nat, s ≠ 19 → K' s = K s) ∧ (∀ k : Nat, k < nw → K' 19 k = 0 ∧ J' 20 k = 0) ∧ (∀ k : Nat, nw ≤ k → K' 19 k = K 19 k ∧ J' 20 k = J 20 k) ∧ mSts (J 36) (J' 36) ny nw (fun k q => mStm (bo k) (V k) (hd k) (J 20 k) (mDuty (FF (tw k)) (GF (tw k)) (tn (tw k)) (J 16 k) (J 17 k) (zTot (bo k) (V k) (hd k) 2)) q) nw 0 ∧ zMQ cs um m2 ad mm (mo ad 0 (nI nb) (nI nd) (nI nw) brt (nI (ny + 1)) wd) J' K', by decide, by decide, by decide, by decide, fun sz => ((c_X6_close l D cs uc sz _ _ _ _ _ _ _ _ _ _ _ _ _ _ _ _ _ _ _ _ _ _ _ _ _ _ _ _ _ _ _ _ _ _ _ _ _ _ _ _ _ _ _ _ _ hW hy6 how ((hR.wterm hp)) hTb ((fun k hk => ⟨hR.1 _ _ (cR_33 hk), if_pos hy6, hR.1 _ _ (cR_43 hk hy6), trivial⟩)) ((fun i j hi hj z => congrArg (fun r : Nat × Nat × Nat => r.2.1) (hR.2 _ _ _ _ (cR_30 hi) (cR_30 hj) z))) ((fun i j hi hj z => congrArg (fun r : Nat × Nat × Nat => r.2.1) (hR.2 _ _ _ _ (cR_43 hi hy6) (cR_43 hj hy6) z))) hf hwr)).to (fun r w2 q => ⟨_, q.1, rfl, q.2⟩), fun sz => ((c9_X7_close l D cs um sz _ _ _ _ _ _ _ _ _ _ _ _ _ _ _ _ _ _ _ _ _ _ _ _ _ _ _ _ _ _ _ _ tw hinj hM (fun k hk => (zInv.wr hr hp hk).1) hp.2.2.1 hp.2.2.2.1 hev hy6 ((fun k hk => ⟨(hr.2.2.2.2.2.2.1 k hk).1, (hp.2.2.2.2.2.2.2.1 k hk).1⟩)) hm)).to (fun r w2 q => ⟨_, q.1, rfl, q.2⟩), ?_⟩
      rintro z u2 b m2 ⟨rfl, kw, k0, kout⟩ ⟨rfl, J', K', hJo, hKo, hz, hz2, hst, hq⟩
      have hkeep : ∀ (r : Nat × Nat × Nat) (e : va_E), cR cs AD nb tn FF GF tt nd de so si ca bs nw tw pw mw rl cw xw ew hd al se bo rb pe me re cr xt en tx V P ST brt ny wd ag us ai ab AP r = some e → r ≠ (0, 0, 0) → (∀ k : Nat, k < nw → r ≠ (30, k, 0) ∧ r ≠ (43, k, ny)) → u2 (AD r) = some e ∧ ∃ e0, cR cs AD nb tn FF GF tt nd de so si ca bs nw tw pw mw rl cw xw ew hd al se bo rb pe me re cr xt en tx V P ST brt ny wd ag us ai ab AP r = some e0 := fun r e q q1 q2 => by
        refine ⟨?_, e, q⟩
        rw [kout (AD r) (fun z => q1 (hR.2 _ _ _ _ q cR_0 z)) (fun k hk => ⟨fun z => (q2 k hk).1 (hR.2 _ _ _ _ q (cR_30 hk) z), fun z => (q2 k hk).2 (hR.2 _ _ _ _ q (cR_43 hk hy6) z)⟩)]
        exact hR.1 r e q
      have hR2 : zRep u2 AD (cR cs AD nb tn FF GF tt nd de so si ca bs nw tw pw mw rl cw xw ew (fun _ => 0) al (fun _ => 0) bo rb pe me re cr xt en tx V P ((fun k y => if k < nw ∧ y = ny then zStm (bo k) (V k) (hd k) (se k) (zDuty (FF (tw k)) (GF (tw k)) (tn (tw k)) (rl k) (cw k) (zTot (bo k) (V k) (hd k) 2)) (ST k ny) else ST k y)) brt (ny + 1) wd ag us ai ab AP) := by
        refine hR.gen (cR_cases ?_ ?_ ?_ ?_ ?_ ?_ ?_ ?_ ?_ ?_ ?_ ?_ ?_ ?_ ?_ ?_ ?_ ?_)
        · exact ⟨k0, _, cR_0⟩
        · exact hkeep _ _ cR_1 (fun z => absurd (show (1 : Nat) = 0 from congrArg Prod.fst z) (by decide)) (fun j hj => ⟨(fun z => absurd (show (1 : Nat) = 30 from congrArg Prod.fst z) (by decide)), (fun z => absurd (show (1 : Nat) = 43 from congrArg Prod.fst z) (by decide))⟩)
        · exact hkeep _ _ cR_2 (fun z => absurd (show (2 : Nat) = 0 from congrArg Prod.fst z) (by decide)) (fun j hj => ⟨(fun z => absurd (show (2 : Nat) = 30 from congrArg Prod.fst z) (by decide)), (fun z => absurd (show (2 : Nat) = 43 from congrArg Prod.fst z) (by decide))⟩)
        · exact hkeep _ _ cR_3 (fun z => absurd (show (3 : Nat) = 0 from congrArg Prod.fst z) (by decide)) (fun j hj => ⟨(fun z => absurd (show (3 : Nat) = 30 from congrArg Prod.fst z) (by decide)), (fun z => absurd (show (3 : Nat) = 43 from congrArg Prod.fst z) (by decide))⟩)
        · exact hkeep _ _ cR_4 (fun z => absurd (show (4 : Nat) = 0 from congrArg Prod.fst z) (by decide)) (fun j hj => ⟨(fun z => absurd (show (4 : Nat) = 30 from congrArg Prod.fst z) (by decide)), (fun z => absurd (show (4 : Nat) = 43 from congrArg Prod.fst z) (by decide))⟩)
        · exact hkeep _ _ cR_5 (fun z => absurd (show (5 : Nat) = 0 from congrArg Prod.fst z) (by decide)) (fun j hj => ⟨(fun z => absurd (show (5 : Nat) = 30 from congrArg Prod.fst z) (by decide)), (fun z => absurd (show (5 : Nat) = 43 from congrArg Prod.fst z) (by decide))⟩)
        · exact fun j hj => hkeep _ _ (cR_10 hj) (fun z => absurd (show (10 : Nat) = 0 from congrArg Prod.fst z) (by decide)) (fun j hj => ⟨(fun z => absurd (show (10 : Nat) = 30 from congrArg Prod.fst z) (by decide)), (fun z => absurd (show (10 : Nat) = 43 from congrArg Prod.fst z) (by decide))⟩)
        · exact fun j hj => hkeep _ _ (cR_11 hj) (fun z => absurd (show (11 : Nat) = 0 from congrArg Prod.fst z) (by decide)) (fun j hj => ⟨(fun z => absurd (show (11 : Nat) = 30 from congrArg Prod.fst z) (by decide)), (fun z => absurd (show (11 : Nat) = 43 from congrArg Prod.fst z) (by decide))⟩)
        · exact fun j hj => hkeep _ _ (cR_12 hj) (fun z => absurd (show (12 : Nat) = 0 from congrArg Prod.fst z) (by decide)) (fun j hj => ⟨(fun z => absurd (show (12 : Nat) = 30 from congrArg Prod.fst z) (by decide)), (fun z => absurd (show (12 : Nat) = 43 from congrArg Prod.fst z) (by decide))⟩)
        · exact fun j hj => hkeep _ _ (cR_20 hj) (fun z => absurd (show (20 : Nat) = 0 from congrArg Prod.fst z) (by decide)) (fun j hj => ⟨(fun z => absurd (show (20 : Nat) = 30 from congrArg Prod.fst z) (by decide)), (fun z => absurd (show (20 : Nat) = 43 from congrArg Prod.fst z) (by decide))⟩)
        · exact fun j hj => ⟨(kw j hj).1, _, cR_30 hj⟩
        · exact fun j hj => hkeep _ _ (cR_31 hj) (fun z => absurd (show (31 : Nat) = 0 from congrArg Prod.fst z) (by decide)) (fun j hj => ⟨(fun z => absurd (show (31 : Nat) = 30 from congrArg Prod.fst z) (by decide)), (fun z => absurd (show (31 : Nat) = 43 from congrArg Prod.fst z) (by decide))⟩)
        · exact fun j hj => hkeep _ _ (cR_32 hj) (fun z => absurd (show (32 : Nat) = 0 from congrArg Prod.fst z) (by decide)) (fun j hj => ⟨(fun z => absurd (show (32 : Nat) = 30 from congrArg Prod.fst z) (by decide)), (fun z => absurd (show (32 : Nat) = 43 from congrArg Prod.fst z) (by decide))⟩)
        · exact fun j hj => hkeep _ _ (cR_33 hj) (fun z => absurd (show (33 : Nat) = 0 from congrArg Prod.fst z) (by decide)) (fun j hj => ⟨(fun z => absurd (show (33 : Nat) = 30 from congrArg Prod.fst z) (by decide)), (fun z => absurd (show (33 : Nat) = 43 from congrArg Prod.fst z) (by decide))⟩)
        · exact fun j y hj hy => hkeep _ _ (cR_40 hj hy) (fun z => absurd (show (40 : Nat) = 0 from congrArg Prod.fst z) (by decide)) (fun j hj => ⟨(fun z => absurd (show (40 : Nat) = 30 from congrArg Prod.fst z) (by decide)), (fun z => absurd (show (40 : Nat) = 43 from congrArg Prod.fst z) (by decide))⟩)
        · exact fun j y hj hy => hkeep _ _ (cR_41 hj hy) (fun z => absurd (show (41 : Nat) = 0 from congrArg Prod.fst z) (by decide)) (fun j hj => ⟨(fun z => absurd (show (41 : Nat) = 30 from congrArg Prod.fst z) (by decide)), (fun z => absurd (show (41 : Nat) = 43 from congrArg Prod.fst z) (by decide))⟩)
        · exact fun j y hj hy => hkeep _ _ (cR_42 hj hy) (fun z => absurd (show (42 : Nat) = 0 from congrArg Prod.fst z) (by decide)) (fun j hj => ⟨(fun z => absurd (show (42 : Nat) = 30 from congrArg Prod.fst z) (by decide)), (fun z => absurd (show (42 : Nat) = 43 from congrArg Prod.fst z) (by decide))⟩)
        · intro j y hj hy
          by_cases q : y = ny
          · rw [if_pos ⟨hj, q⟩, q]
            exact ⟨(kw j hj).2, _, cR_43 hj hy6⟩
          · rw [if_neg (fun z => q z.2)]
            exact hkeep _ _ (cR_43 hj hy) (fun z => absurd (show (43 : Nat) = 0 from congrArg Prod.fst z) (by decide)) (fun m hm => ⟨(fun z => absurd (show (43 : Nat) = 30 from congrArg Prod.fst z) (by decide)), fun z => q (congrArg (fun r : Nat × Nat × Nat => r.2.2) z)⟩)
      have e1 : J' 1 = J 1 := hJo 1 (by decide)
      have e8 : J' 8 = J 8 := hJo 8 (by decide)
      have e9 : J' 9 = J 9 := hJo 9 (by decide)
      have e10 : J' 10 = J 10 := hJo 10 (by decide)
      have e16 : J' 16 = J 16 := hJo 16 (by decide)
      have e17 : J' 17 = J 17 := hJo 17 (by decide)
      have e18 : J' 18 = J 18 := hJo 18 (by decide)
      have e35 : J' 35 = J 35 := hJo 35 (by decide)
      have f2 : K' 2 = K 2 := hKo 2 (by decide)
      have f3 : K' 3 = K 3 := hKo 3 (by decide)
      have f4 : K' 4 = K 4 := hKo 4 (by decide)
      have f6 : K' 6 = K 6 := hKo 6 (by decide)
      have f7 : K' 7 = K 7 := hKo 7 (by decide)
      have f12 : K' 12 = K 12 := hKo 12 (by decide)
      have f13 : K' 13 = K 13 := hKo 13 (by decide)
      have f14 : K' 14 = K 14 := hKo 14 (by decide)
      have f15 : K' 15 = K 15 := hKo 15 (by decide)
      have hr2 : mRel J' K' nb tn FF GF tt nd de so si ca bs nw tw pw mw rl cw xw ew (fun _ => 0) al (fun _ => 0) bo rb pe me re cr xt en tx V P ((fun k y => if k < nw ∧ y = ny then zStm (bo k) (V k) (hd k) (se k) (zDuty (FF (tw k)) (GF (tw k)) (tn (tw k)) (rl k) (cw k) (zTot (bo k) (V k) (hd k) 2)) (ST k ny) else ST k y)) brt (ny + 1) wd := by
        refine ⟨(hr.1).of e1 f2 f3, (hr.2.1).of e8 e9 e10 f6 f7, fun k hk x hx9 => absurd hx9 (Nat.not_lt_zero _), fun k hk => ⟨(hz k hk).1, fun x hx9 => absurd hx9 (Nat.not_lt_zero _)⟩, ?_, ?_, fun k hk => ?_, fun k h1 h2 => ?_, fun k y q hk hy hq9 => ?_⟩
        · rw [f4]
          exact hr.2.2.2.2.1
        · rw [f3, f4]
          exact hr.2.2.2.2.2.1
        · have z := hr.2.2.2.2.2.2.1 k hk
          rw [f12, f13, f14, f15, e16, e17, e18]
          exact ⟨z.1, z.2.1, z.2.2.1, z.2.2.2.1, z.2.2.2.2.1, z.2.2.2.2.2.1, z.2.2.2.2.2.2.1, (hz k hk).2⟩
        · have z := hr.2.2.2.2.2.2.2.1 k h1 h2
          rw [f15, e16, e17, e18, (hz2 k h1).1, (hz2 k h1).2]
          exact z
        · have z := hr.2.2.2.2.2.2.2.2 k y q hk hy hq9
          by_cases c : y = ny
          · by_cases c2 : k < nw
            · show J' 36 _ = (if k < nw ∧ y = ny then zStm (bo k) (V k) (hd k) (se k) (zDuty (FF (tw k)) (GF (tw k)) (tn (tw k)) (rl k) (cw k) (zTot (bo k) (V k) (hd k) 2)) (ST k ny) else ST k y) q
              rw [if_pos ⟨c2, c⟩, c, hst.1 k q c2 hq9]
              show mStm (bo k) (V k) (hd k) (J 20 k) (mDuty (FF (tw k)) (GF (tw k)) (tn (tw k)) (J 16 k) (J 17 k) (zTot (bo k) (V k) (hd k) 2)) q = _
              rw [hdu k c2, e20 k c2]
              unfold mStm
              rw [show ST k ny = (fun _ => 0) from funext (fun x => hp.2.2.2.2.2.2.2.2 k ny x (Or.inr (Nat.le_refl _)))]
            · show J' 36 _ = (if k < nw ∧ y = ny then zStm (bo k) (V k) (hd k) (se k) (zDuty (FF (tw k)) (GF (tw k)) (tn (tw k)) (rl k) (cw k) (zTot (bo k) (V k) (hd k) 2)) (ST k ny) else ST k y) q
              rw [if_neg (fun w => c2 w.1), hst.2.2 _ (Or.inr (by omega))]
              exact z
          · show J' 36 _ = (if k < nw ∧ y = ny then zStm (bo k) (V k) (hd k) (se k) (zDuty (FF (tw k)) (GF (tw k)) (tn (tw k)) (rl k) (cw k) (zTot (bo k) (V k) (hd k) 2)) (ST k ny) else ST k y) q
            rw [if_neg (fun w => c w.2), hst.2.2 _ (by have := hp.2.2.1; omega)]
            exact z
      have hp2 : zPure nb tn FF GF tt nd de so si ca bs nw tw pw mw rl cw xw ew (fun _ => 0) al (fun _ => 0) bo rb pe me re cr xt en tx V P ((fun k y => if k < nw ∧ y = ny then zStm (bo k) (V k) (hd k) (se k) (zDuty (FF (tw k)) (GF (tw k)) (tn (tw k)) (rl k) (cw k) (zTot (bo k) (V k) (hd k) 2)) (ST k ny) else ST k y)) brt (ny + 1) wd := by
        refine ⟨hp.1, hp.2.1, hp.2.2.1, (by omega), hp.2.2.2.2.1, hp.2.2.2.2.2.1, hp.2.2.2.2.2.2.1, (fun k hk => ?_), (fun k y q h9 => ?_)⟩
        · have q := hp.2.2.2.2.2.2.2.1 k hk
          exact ⟨q.1, q.2.1, q.2.2.1, q.2.2.2.1, q.2.2.2.2.1, q.2.2.2.2.2.1, q.2.2.2.2.2.2.1, Nat.zero_le _, q.2.2.2.2.2.2.2.2.1, q.2.2.2.2.2.2.2.2.2.1, fun x hx9 => absurd hx9 (Nat.not_lt_zero _)⟩
        · show (if k < nw ∧ y = ny then zStm (bo k) (V k) (hd k) (se k) (zDuty (FF (tw k)) (GF (tw k)) (tn (tw k)) (rl k) (cw k) (zTot (bo k) (V k) (hd k) 2)) (ST k ny) else ST k y) q = 0
          rw [if_neg (by omega)]
          exact hp.2.2.2.2.2.2.2.2 k y q (by omega)
      exact ⟨rfl, ⟨_, _, _, _, _, _, _, hq.1⟩, zInv.mk hR2 rfl hq.1 hinj hq.2.1 hr2 hp2⟩

