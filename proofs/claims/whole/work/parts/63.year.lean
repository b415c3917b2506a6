/-! ===== class and model reckon alike: a worker's year ===== -/
theorem zSum_b {f : Nat → Int64} : ∀ {n : Nat}, n ≤ 60 → (∀ i : Nat, i < n → 0 ≤ (f i).toInt ∧ (f i).toInt ≤ 1000000000) → 0 ≤ (zSum f n).toInt ∧ (zSum f n).toInt ≤ n * 1000000000
  | 0, _, _ => by
    show 0 ≤ (0 : Int64).toInt ∧ (0 : Int64).toInt ≤ ((0 : Nat) : Int) * 1000000000
    rw [zT0]
    exact ⟨Int.le_refl 0, by omega⟩
  | n + 1, hn, h => by
    have ih := zSum_b (f := f) (n := n) (by omega) (fun i hi => h i (by omega))
    have a := h n (by omega)
    show 0 ≤ (zSum f n + f n).toInt ∧ (zSum f n + f n).toInt ≤ ((n + 1 : Nat) : Int) * 1000000000
    rw [zA_add (by omega) (by omega)]
    omega
theorem zSum_s {f : Nat → Int64} {n : Nat} (hn : n < 60) (h : ∀ i : Nat, i < n + 1 → 0 ≤ (f i).toInt ∧ (f i).toInt ≤ 1000000000) : (zSum f (n + 1)).toInt = (zSum f n).toInt + (f n).toInt := by
  have ih := zSum_b (f := f) (n := n) (by omega) (fun i hi => h i (by omega))
  have a := h n (by omega)
  show (zSum f n + f n).toInt = _
  exact zA_add (by omega) (by omega)
theorem zSumU_b {bo : Nat → Int32} {f : Nat → Int64} : ∀ {n : Nat}, n ≤ 60 → (∀ i : Nat, i < n → 0 ≤ (f i).toInt ∧ (f i).toInt ≤ 1000000000) → 0 ≤ (zSumU bo f n).toInt ∧ (zSumU bo f n).toInt ≤ n * 1000000000
  | 0, _, _ => by
    show 0 ≤ (0 : Int64).toInt ∧ (0 : Int64).toInt ≤ ((0 : Nat) : Int) * 1000000000
    rw [zT0]
    exact ⟨Int.le_refl 0, by omega⟩
  | n + 1, hn, h => by
    have ih := zSumU_b (bo := bo) (f := f) (n := n) (by omega) (fun i hi => h i (by omega))
    have a := h n (by omega)
    show 0 ≤ (if bo n = 0 then zSumU bo f n + f n else zSumU bo f n).toInt ∧ (if bo n = 0 then zSumU bo f n + f n else zSumU bo f n).toInt ≤ ((n + 1 : Nat) : Int) * 1000000000
    split
    · rw [zA_add (by omega) (by omega)]
      omega
    · omega
theorem zTk_congr2 {sel has : Nat → Bool} {d1 d2 : Nat → Int64} {left : Int64} {f : Nat → Int64} : ∀ {n : Nat}, (∀ i : Nat, i < n → sel i = true → d1 i = d2 i) → zTk sel has d1 left f n = zTk sel has d2 left f n
  | 0, _ => rfl
  | n + 1, h => by
    rw [zTk, zTk, zTk_congr2 (fun i hi => h i (by omega))]
    by_cases c : sel n = true
    · rw [h n (by omega) c]
    · rw [if_neg c, if_neg c]
theorem zTk_ns {sel has : Nat → Bool} {due : Nat → Int64} {left : Int64} {f : Nat → Int64} {j : Nat} (hj : sel j = false) : ∀ {n : Nat}, (zTk sel has due left f n).2 j = f j
  | 0 => rfl
  | n + 1 => by
    rw [zTk]
    by_cases c : sel n = true
    · rw [if_pos c]
      show vp_updL _ n _ j = f j
      rw [vpL_ne _ _ (fun e => by rw [e, c] at hj; cases hj)]
      exact zTk_ns hj
    · rw [if_neg c]
      exact zTk_ns hj
theorem zTk_b {sel has : Nat → Bool} {due : Nat → Int64} {left : Int64} {f : Nat → Int64} (hl : 0 ≤ left.toInt ∧ left.toInt ≤ 1000000000) : ∀ {n : Nat}, (∀ i : Nat, i < n → sel i = true → has i = true → 0 ≤ (due i).toInt) → (0 ≤ (zTk sel has due left f n).1.toInt ∧ (zTk sel has due left f n).1.toInt ≤ left.toInt) ∧ ∀ j : Nat, j < n → sel j = true → 0 ≤ ((zTk sel has due left f n).2 j).toInt ∧ ((zTk sel has due left f n).2 j).toInt ≤ 1000000000 ∧ (has j = true → ((zTk sel has due left f n).2 j).toInt ≤ (due j).toInt) ∧ (has j = false → (zTk sel has due left f n).2 j = 0)
  | 0, _ => ⟨⟨hl.1, Int.le_refl _⟩, fun j hj => absurd hj (by omega)⟩
  | n + 1, h => by
    have ih := zTk_b (sel := sel) (has := has) (due := due) (f := f) hl (n := n) (fun i hi => h i (by omega))
    rw [zTk]
    obtain ⟨tk, etk⟩ : ∃ z, z = zTk sel has due left f n := ⟨_, rfl⟩
    rw [← etk] at ih ⊢
    by_cases c : sel n = true
    · rw [if_pos c]
      obtain ⟨X, eX⟩ : ∃ z, z = (if has n = true then zMin tk.1 (due n) else 0) := ⟨_, rfl⟩
      rw [← eX]
      obtain ⟨A, eA⟩ : ∃ z, z = tk.1 := ⟨_, rfl⟩
      rw [← eA] at ih eX ⊢
      have hp : 0 ≤ X.toInt ∧ X.toInt ≤ A.toInt ∧ (has n = true → X.toInt ≤ (due n).toInt) ∧ (has n = false → X = 0) := by
        by_cases c2 : has n = true
        · rw [if_pos c2] at eX
          have d := h n (by omega) c c2
          have m := zMin_i A (due n)
          rw [← eX] at m
          have i1 := ih.1
          clear ih h
          refine ⟨by split at m <;> omega, by split at m <;> omega, fun _ => by split at m <;> omega, fun e => by rw [e] at c2; cases c2⟩
        · rw [if_neg c2] at eX
          exact ⟨by rw [eX, zT0]; exact Int.le_refl 0, by rw [eX, zT0]; exact ih.1.1, fun e => absurd e c2, fun _ => eX⟩
      have i1 := ih.1
      refine ⟨?_, fun j hj hs => ?_⟩
      · show 0 ≤ (A - X).toInt ∧ (A - X).toInt ≤ _
        obtain ⟨p1, p2, -, -⟩ := hp
        rw [zA_sub (by omega) (by omega)]
        omega
      · show 0 ≤ (vp_updL _ n _ j).toInt ∧ (vp_updL _ n _ j).toInt ≤ 1000000000 ∧ (has j = true → (vp_updL _ n _ j).toInt ≤ (due j).toInt) ∧ (has j = false → vp_updL _ n _ j = 0)
        by_cases e : j = n
        · subst e
          rw [vpL_self]
          exact ⟨hp.1, Int.le_trans hp.2.1 (Int.le_trans i1.2 hl.2), hp.2.2.1, hp.2.2.2⟩
        · rw [vpL_ne _ _ e]
          exact ih.2 j (by omega) hs
    · rw [if_neg c]
      exact ⟨ih.1, fun j hj hs => ih.2 j (Nat.lt_of_le_of_ne (by omega) (fun e => c (by rw [← e]; exact hs))) hs⟩
theorem zLeft {t wv ex : Int64} {bo : Int32} (ht : 0 ≤ t.toInt ∧ t.toInt ≤ 1000000000) (hw : 0 ≤ wv.toInt) (he : 0 ≤ ex.toInt) : 0 ≤ (t - zMin t wv - (if bo = 0 then zMin (t - zMin t wv) ex else 0)).toInt ∧ (t - zMin t wv - (if bo = 0 then zMin (t - zMin t wv) ex else 0)).toInt ≤ 1000000000 := by
  have m := zMin_i t wv
  generalize zMin t wv = X at *
  have hX : 0 ≤ X.toInt ∧ X.toInt ≤ t.toInt := by split at m <;> omega
  have e : (t - X).toInt = t.toInt - X.toInt := zA_sub (by omega) (by omega)
  generalize t - X = Y at *
  by_cases c : bo = 0
  · rw [if_pos c]
    have m2 := zMin_i Y ex
    generalize zMin Y ex = Z at *
    have hZ : 0 ≤ Z.toInt ∧ Z.toInt ≤ Y.toInt := by split at m2 <;> omega
    clear m m2
    rw [zA_sub (by omega) (by omega)]
    omega
  · rw [if_neg c, zA_sub (by rw [zT0]; omega) (by rw [zT0]; omega), zT0]
    omega
theorem zK60 {x : Int} {k n : Nat} (h : 0 ≤ x ∧ x ≤ k * 1000000000) (hk : k < n) (hn : n ≤ 60) : 0 ≤ x ∧ x ≤ 60000000000 := by omega
theorem zLe2 {S P C : Int} (h : P ≤ C - S) : S + P ≤ C := by omega
theorem zWk_tie {selE selL has : Nat → Bool} {d1 d2 : Nat → Int64} {wh1 wh2 : Int64 → Int64} {ex : Int64} {bo : Int32} {V PT : Nat → Int64} (h : ∀ i : Nat, i < 8 → selE i = true ∨ selL i = true → d1 i = d2 i) (hw : wh1 (zTk selE has d2 (V 0) PT 8).1 = wh2 (zTk selE has d2 (V 0) PT 8).1) : zWkV selE selL has d1 wh1 ex bo V PT = zWkV selE selL has d2 wh2 ex bo V PT ∧ zWkL selE selL has d1 wh1 ex bo V PT = zWkL selE selL has d2 wh2 ex bo V PT := by
  have e1 : ∀ (left : Int64) (f : Nat → Int64), zTk selE has d1 left f 8 = zTk selE has d2 left f 8 := fun left f => zTk_congr2 (fun i hi c => h i hi (Or.inl c))
  have e2 : ∀ (left : Int64) (f : Nat → Int64), zTk selL has d1 left f 8 = zTk selL has d2 left f 8 := fun left f => zTk_congr2 (fun i hi c => h i hi (Or.inr c))
  constructor
  · funext k
    simp only [zWkV, zWkL, e1, e2, hw]
  · simp only [zWkL, e1, e2, hw]
/-- the class's pay k is worked -/
def zWkd (nd : Nat) (de so : Nat → Int32) (si ca bs : Nat → Int64) (bo rb pe me : Nat → Int32) (re cr ex : Nat → Int64) (en : Nat → Int32) (tx : Nat → Nat) (tn : Nat → Nat) (FF : Nat → Nat → Int64) (GF : Nat → Nat → Int32) (V P : Nat → Nat → Int64) (k : Nat) : Prop :=
  (∀ c : Nat, 1 ≤ c → c ≤ 6 → V k c = zStV de so si ca bs nd bo rb pe me re cr ex en (fun i => FF (tx i)) (fun i => GF (tx i)) (fun i => tn (tx i)) V P k (V k) (fun _ => 0) c) ∧ ∀ d : Nat, d < 8 → P k d = zStP de so si ca bs nd bo rb pe me re cr ex en (fun i => FF (tx i)) (fun i => GF (tx i)) (fun i => tn (tx i)) V P k (V k) (fun _ => 0) d
/-- what a worker's pays are worked with is good -/
def zGood (nd : Nat) (de so : Nat → Int32) (si ca bs : Nat → Int64) (bo rb pe me : Nat → Int32) (re cr ex : Nat → Int64) (en : Nat → Int32) (tx : Nat → Nat) (tn : Nat → Nat) (FF : Nat → Nat → Int64) (GF : Nat → Nat → Int32) (V P : Nat → Nat → Int64) (n : Nat) : Prop :=
  (∀ k : Nat, k < n → (0 ≤ (V k 0).toInt ∧ (V k 0).toInt ≤ 1000000000) ∧ (0 ≤ (rb k).toInt ∧ (rb k).toInt ≤ 1000000) ∧ (1 ≤ (pe k).toInt ∧ (pe k).toInt ≤ 52) ∧ (0 ≤ (re k).toInt ∧ (re k).toInt ≤ 1000000000000) ∧ (0 ≤ (cr k).toInt ∧ (cr k).toInt ≤ 1000000000000) ∧ (0 ≤ (ex k).toInt ∧ (ex k).toInt ≤ 1000000000) ∧ zFl (FF (tx k)) (GF (tx k)) (tn (tx k))) ∧ nd ≤ 8 ∧ ∀ d : Nat, d < nd → zDok (so d) (si d) (ca d) (bs d) ∧ (de d = 0 ∨ de d = 1)
def zBd (nd : Nat) (ca : Nat → Int64) (V P : Nat → Nat → Int64) (k : Nat) : Prop := (∀ j : Nat, j < k → (0 ≤ (V j 2).toInt ∧ (V j 2).toInt ≤ 1000000000) ∧ ∀ d : Nat, d < 8 → 0 ≤ (P j d).toInt ∧ (P j d).toInt ≤ 1000000000) ∧ ∀ d : Nat, d < nd → 0 ≤ (ca d).toInt → (zSum (fun j => P j d) k).toInt ≤ (ca d).toInt
theorem zSel_t {de : Nat → Int32} {nd : Nat} {e : Int32} {i : Nat} (h : zSel de nd e i = true) : i < nd ∧ de i = e := of_decide_eq_true h
theorem zSel_i {de : Nat → Int32} {nd : Nat} {e : Int32} {i : Nat} (h1 : i < nd) (h2 : de i = e) : zSel de nd e i = true := decide_eq_true ⟨h1, h2⟩
theorem zSel_n {de : Nat → Int32} {nd : Nat} {e : Int32} {i : Nat} (h : ¬ (i < nd ∧ de i = e)) : zSel de nd e i = false := decide_eq_false h
set_option maxHeartbeats 2000000 in
theorem zTie1 {nd : Nat} {de so : Nat → Int32} {si ca bs : Nat → Int64} {bo rb pe me : Nat → Int32} {re cr ex : Nat → Int64} {en : Nat → Int32} {tx : Nat → Nat} {tn : Nat → Nat} {FF : Nat → Nat → Int64} {GF : Nat → Nat → Int32} {V P : Nat → Nat → Int64} {n k : Nat} (hn : n ≤ 60) (hk : k < n) (hg : zGood nd de so si ca bs bo rb pe me re cr ex en tx tn FF GF V P n) (hF : zWkd nd de so si ca bs bo rb pe me re cr ex en tx tn FF GF V P k) (hB : zBd nd ca V P k) : zBd nd ca V P (k + 1) ∧ mWkd nd de so si ca bs bo rb pe me re cr ex en tx tn FF GF V P k := by
  obtain ⟨hg1, hnd, hg2⟩ := hg
  obtain ⟨g0, grb, gpe, gre, gcr, gex, gfl⟩ := hg1 k hk
  have had : ∀ d : Nat, d < 8 → 0 ≤ (zSum (fun j => P j d) k).toInt ∧ (zSum (fun j => P j d) k).toInt ≤ k * 1000000000 := fun d hd => zSum_b (by omega) (fun i hi => (hB.1 i hi).2 d hd)
  have hag : 0 ≤ (zSum (fun j => V j 0) k).toInt ∧ (zSum (fun j => V j 0) k).toInt ≤ k * 1000000000 := zSum_b (by omega) (fun i hi => (hg1 i (by omega)).1)
  have hai : 0 ≤ (zSumU bo (fun j => V j 2) k).toInt ∧ (zSumU bo (fun j => V j 2) k).toInt ≤ k * 1000000000 := zSumU_b (by omega) (fun i hi => (hB.1 i hi).1)
  have hus := zUs_le bo k
  have hd : ∀ d : Nat, d < nd → mDueF so si ca bs (bo k) (V k 0) (zSum (fun j => V j 0) k) (fun d => zSum (fun j => P j d) k) d = zDueF so si ca bs (bo k) (V k 0) (zSum (fun j => V j 0) k) (fun d => zSum (fun j => P j d) k) d ∧ 0 ≤ (zDueF so si ca bs (bo k) (V k 0) (zSum (fun j => V j 0) k) (fun d => zSum (fun j => P j d) k) d).toInt ∧ (0 ≤ (ca d).toInt → (zDueF so si ca bs (bo k) (V k 0) (zSum (fun j => V j 0) k) (fun d => zSum (fun j => P j d) k) d).toInt ≤ (ca d).toInt - (zSum (fun j => P j d) k).toInt) := fun d hd => mDue_eq (hg2 d hd).1 g0 (zK60 hag hk hn) (had d (Nat.lt_of_lt_of_le hd hnd)).1 (fun c => hB.2 d hd c)
  obtain ⟨due, edue⟩ : ∃ z, z = zDueF so si ca bs (bo k) (V k 0) (zSum (fun j => V j 0) k) (fun d => zSum (fun j => P j d) k) := ⟨_, rfl⟩
  rw [← edue] at hd
  have b1 := zTk_b (sel := zSel de nd 1) (has := zHasF (en k)) (due := due) (left := V k 0) (f := fun _ => 0) g0 (n := 8) (fun i hi c _ => (hd i (zSel_t c).1).2.1)
  obtain ⟨tk1, et1⟩ : ∃ z, z = zTk (zSel de nd 1) (zHasF (en k)) due (V k 0) (fun _ => 0) 8 := ⟨_, rfl⟩
  rw [← et1] at b1
  have hw := mWh_eq (F := FF (tx k)) (G := GF (tx k)) (n := tn (tx k)) (pe := pe k) (me := me k) (re := re k) (cr := cr k) (bo := bo k) (br := rb k) (k := zUs bo k) (ai := zSumU bo (fun j => V j 2) k) (ab := zSumU bo (fun j => V j 3) k) (inc := tk1.1) gfl gre gcr gpe grb (Nat.lt_of_le_of_lt hus (Nat.lt_of_lt_of_le hk hn)) (zK60 hai hk hn) ⟨b1.1.1, Int.le_trans b1.1.2 g0.2⟩
  have tie := zWk_tie (selE := zSel de nd 1) (selL := zSel de nd 0) (has := zHasF (en k)) (d1 := mDueF so si ca bs (bo k) (V k 0) (zSum (fun j => V j 0) k) (fun d => zSum (fun j => P j d) k)) (d2 := due) (wh1 := mWh (FF (tx k)) (GF (tx k)) (tn (tx k)) (pe k) (me k) (re k) (cr k) (bo k) (rb k) (zUs bo k) (zSumU bo (fun j => V j 2) k) (zSumU bo (fun j => V j 3) k)) (wh2 := zWh (FF (tx k)) (GF (tx k)) (tn (tx k)) (pe k) (me k) (re k) (cr k) (bo k) (rb k) (zUs bo k) (zSumU bo (fun j => V j 2) k) (zSumU bo (fun j => V j 3) k)) (ex := ex k) (bo := bo k) (V := V k) (PT := fun _ => 0) (fun i _ c => (hd i (c.elim (fun q => (zSel_t q).1) (fun q => (zSel_t q).1))).1) (by rw [← et1]; exact hw.1)
  have hz : ∀ c : Nat, mStV de so si ca bs nd bo rb pe me re cr ex en (fun i => FF (tx i)) (fun i => GF (tx i)) (fun i => tn (tx i)) V P k (V k) (fun _ => 0) c = zStV de so si ca bs nd bo rb pe me re cr ex en (fun i => FF (tx i)) (fun i => GF (tx i)) (fun i => tn (tx i)) V P k (V k) (fun _ => 0) c := fun c => by
    unfold mStV zStV
    rw [← edue]
    exact congrFun tie.1 c
  have hzp : ∀ d : Nat, mStP de so si ca bs nd bo rb pe me re cr ex en (fun i => FF (tx i)) (fun i => GF (tx i)) (fun i => tn (tx i)) V P k (V k) (fun _ => 0) d = zStP de so si ca bs nd bo rb pe me re cr ex en (fun i => FF (tx i)) (fun i => GF (tx i)) (fun i => tn (tx i)) V P k (V k) (fun _ => 0) d := fun d => by
    unfold mStP zStP
    rw [← edue]
    exact congrFun (congrArg Prod.snd tie.2) d
  have v2 : V k 2 = tk1.1 := by
    rw [hF.1 2 (by omega) (by omega), et1, edue]
    rfl
  obtain ⟨wh, ewh⟩ : ∃ z, z = zWh (FF (tx k)) (GF (tx k)) (tn (tx k)) (pe k) (me k) (re k) (cr k) (bo k) (rb k) (zUs bo k) (zSumU bo (fun j => V j 2) k) (zSumU bo (fun j => V j 3) k) := ⟨_, rfl⟩
  rw [← ewh] at hw
  have q3 := zLeft (t := tk1.1) (wv := wh tk1.1) (ex := ex k) (bo := bo k) ⟨b1.1.1, Int.le_trans b1.1.2 g0.2⟩ hw.2 gex.1
  have b2 := zTk_b (sel := zSel de nd 0) (has := zHasF (en k)) (due := due) (f := tk1.2) q3 (n := 8) (fun i hi c _ => (hd i (zSel_t c).1).2.1)
  have hP : ∀ d : Nat, d < 8 → P k d = (zTk (zSel de nd 0) (zHasF (en k)) due (tk1.1 - zMin tk1.1 (wh tk1.1) - (if bo k = 0 then zMin (tk1.1 - zMin tk1.1 (wh tk1.1)) (ex k) else 0)) tk1.2 8).2 d := fun d hd8 => by
    rw [hF.2 d hd8, et1, edue, ewh]
    rfl
  have hPb : ∀ d : Nat, d < 8 → (0 ≤ (P k d).toInt ∧ (P k d).toInt ≤ 1000000000) ∧ (d < nd → 0 ≤ (ca d).toInt → (P k d).toInt ≤ (ca d).toInt - (zSum (fun j => P j d) k).toInt) := fun d hd8 => by
    rw [hP d hd8]
    by_cases c : d < nd
    · have fin : ∀ x : Int64, (0 ≤ x.toInt ∧ x.toInt ≤ 1000000000 ∧ (zHasF (en k) d = true → x.toInt ≤ (due d).toInt) ∧ (zHasF (en k) d = false → x = 0)) → (0 ≤ x.toInt ∧ x.toInt ≤ 1000000000) ∧ (d < nd → 0 ≤ (ca d).toInt → x.toInt ≤ (ca d).toInt - (zSum (fun j => P j d) k).toInt) := fun x hx => by
        refine ⟨⟨hx.1, hx.2.1⟩, fun _ hc => ?_⟩
        have a1 := (hd d c).2.2 hc
        have a2 := hB.2 d c hc
        cases hh : zHasF (en k) d with
        | true =>
          exact Int.le_trans (hx.2.2.1 hh) a1
        | false =>
          rw [hx.2.2.2 hh, zT0]
          exact Int.sub_nonneg_of_le a2
      rcases (hg2 d c).2 with q | q
      · exact fin _ (b2.2 d hd8 (zSel_i c q))
      · rw [zTk_ns (zSel_n (fun z => by rw [q] at z; exact absurd z.2 (by decide)))]
        exact fin _ (b1.2 d hd8 (zSel_i c q))
    · rw [zTk_ns (zSel_n (fun z => c z.1)), et1, zTk_ns (zSel_n (fun z => c z.1))]
      exact ⟨by rw [zT0]; exact ⟨Int.le_refl 0, by decide⟩, fun q => absurd q c⟩
  refine ⟨⟨fun j hj => ?_, fun d hd9 hc => ?_⟩, fun c h1 h2 => by rw [hz c]; exact hF.1 c h1 h2, fun d h1 => by rw [hzp d]; exact hF.2 d h1⟩
  · by_cases e : j = k
    · subst e
      rw [v2]
      exact ⟨⟨b1.1.1, Int.le_trans b1.1.2 g0.2⟩, fun d h8 => (hPb d h8).1⟩
    · exact hB.1 j (by omega)
  · rw [zSum_s (f := fun j => P j d) (by omega) (fun i hi => by
      by_cases e : i = k
      · subst e
        exact (hPb d (by omega)).1
      · exact (hB.1 i (by omega)).2 d (by omega))]
    have a := (hPb d (by omega)).2 hd9 hc
    exact zLe2 a
theorem zTie {nd : Nat} {de so : Nat → Int32} {si ca bs : Nat → Int64} {bo rb pe me : Nat → Int32} {re cr ex : Nat → Int64} {en : Nat → Int32} {tx : Nat → Nat} {tn : Nat → Nat} {FF : Nat → Nat → Int64} {GF : Nat → Nat → Int32} {V P : Nat → Nat → Int64} {n : Nat} (hn : n ≤ 60) (hg : zGood nd de so si ca bs bo rb pe me re cr ex en tx tn FF GF V P n) (hF : ∀ k : Nat, k < n → zWkd nd de so si ca bs bo rb pe me re cr ex en tx tn FF GF V P k) : ∀ k : Nat, k ≤ n → zBd nd ca V P k ∧ ∀ j : Nat, j < k → mWkd nd de so si ca bs bo rb pe me re cr ex en tx tn FF GF V P j
  | 0, _ => ⟨⟨fun j hj => absurd hj (by omega), fun d _ hc => by show (0 : Int64).toInt ≤ _; rw [zT0]; exact hc⟩, fun j hj => absurd hj (by omega)⟩
  | k + 1, hk => by
    have ih := zTie hn hg hF k (by omega)
    have s := zTie1 hn (by omega : k < n) hg (hF k (by omega)) ih.1
    refine ⟨s.1, fun j hj => ?_⟩
    by_cases e : j = k
    · rw [e]
      exact s.2
    · exact ih.2 j (by omega)
