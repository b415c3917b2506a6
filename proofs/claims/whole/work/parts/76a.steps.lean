/-! ===== how a worker's year goes on ===== -/
theorem zb1 : ∀ i : Nat, i < 32 → bt 1 i = decide (i = 0) := by decide +kernel
theorem zHas_z {x : Int32} {d : Nat} (hd : d < 32) : ((x >>> (nI d &&& 31)) &&& 1) = 0 ↔ bt x d = false := by
  constructor
  · intro h
    have q := congrArg (fun y => bt y 0) h
    have q : bt ((x >>> (nI d &&& 31)) &&& 1) 0 = bt 0 0 := q
    rw [b_and, b_sshr d hd x (by decide), zb1 0 (by decide), b_0, if_pos (by omega), Nat.add_zero] at q
    simpa using q
  · intro h
    refine b_ext (fun i hi => ?_)
    rw [b_and, b_0, zb1 i hi]
    by_cases c : i = 0
    · subst c
      rw [b_sshr d hd x (by decide), if_pos (by omega), Nat.add_zero, h]
      rfl
    · rw [decide_eq_false c, Bool.and_false]
theorem zHas_0 {x : Int32} {d : Nat} (hd : d < 32) : zHas x (nI d) = 0 ↔ bt x d = false := by
  unfold zHas
  by_cases c : ((x >>> (nI d &&& 31)) &&& 1) = 0
  · rw [zB_f (fun q => q c)]
    exact ⟨fun _ => (zHas_z hd).mp c, fun _ => rfl⟩
  · rw [zB_t c]
    exact ⟨fun q => absurd q (by decide), fun q => absurd ((zHas_z hd).mpr q) c⟩
theorem zHas_xor {x : Int32} {d e : Nat} (hd : d < 32) (he : e < 32) (hne : d ≠ e) (h : zHas x (nI e) = 0) : zHas (x ^^^ (1 <<< (nI d &&& 31))) (nI e) = 0 := by
  rw [zHas_0 he] at h ⊢
  rw [b_xor, h, b_shl d hd 1 he]
  by_cases c : d ≤ e
  · rw [zb1 (e - d) (by omega), decide_eq_false (by omega : ¬ e - d = 0), Bool.and_false]
    rfl
  · rw [decide_eq_false c, Bool.false_and]
    rfl
theorem zHas_none {d : Nat} (hd : d < 32) : zHas 0 (nI d) = 0 := (zHas_0 hd).mpr (b_0 d)
theorem zTk_fst {sel has : Nat → Bool} {due : Nat → Int64} {left : Int64} {f g : Nat → Int64} : ∀ {n : Nat}, (zTk sel has due left f n).1 = (zTk sel has due left g n).1
  | 0 => rfl
  | n + 1 => by
    rw [zTk, zTk]
    by_cases c : sel n = true
    · rw [if_pos c, if_pos c]
      show (zTk sel has due left f n).1 - _ = (zTk sel has due left g n).1 - _
      rw [zTk_fst (f := f) (g := g) (n := n)]
    · rw [if_neg c, if_neg c]
      exact zTk_fst
theorem zTk_snd {sel has : Nat → Bool} {due : Nat → Int64} {left : Int64} {f g : Nat → Int64} {d : Nat} (h : sel d = true ∨ f d = g d) : ∀ {n : Nat}, d < n ∨ f d = g d → (zTk sel has due left f n).2 d = (zTk sel has due left g n).2 d
  | 0, q => q.elim (fun z => absurd z (by omega)) (fun z => z)
  | n + 1, q => by
    rw [zTk, zTk]
    by_cases c : sel n = true
    · rw [if_pos c, if_pos c]
      show vp_updL _ n _ d = vp_updL _ n _ d
      by_cases e : d = n
      · subst e
        rw [vpL_self, vpL_self, zTk_fst (f := f) (g := g)]
      · rw [vpL_ne _ _ e, vpL_ne _ _ e]
        exact zTk_snd h (q.elim (fun z => Or.inl (by omega)) Or.inr)
    · rw [if_neg c, if_neg c]
      refine zTk_snd h (q.elim (fun z => ?_) Or.inr)
      by_cases e : d = n
      · exact Or.inr (h.resolve_left (fun k => c (by rw [← e]; exact k)))
      · exact Or.inl (by omega)
theorem zWk_pt {selE selL has : Nat → Bool} {due : Nat → Int64} {wh : Int64 → Int64} {ex : Int64} {bo : Int32} {V V' PT PT' : Nat → Int64} (hV : V 0 = V' 0) : (∀ c : Nat, c ≤ 6 → zWkV selE selL has due wh ex bo V PT c = zWkV selE selL has due wh ex bo V' PT' c) ∧ ∀ d : Nat, d < 8 → (selE d = true ∨ selL d = true ∨ PT d = PT' d) → (zWkL selE selL has due wh ex bo V PT).2 d = (zWkL selE selL has due wh ex bo V' PT').2 d := by
  have e1 : ∀ left : Int64, (zTk selE has due left PT 8).1 = (zTk selE has due left PT' 8).1 := fun left => zTk_fst
  have e2 : ∀ left : Int64, (zTk selL has due left (zTk selE has due (V' 0) PT 8).2 8).1 = (zTk selL has due left (zTk selE has due (V' 0) PT' 8).2 8).1 := fun left => zTk_fst
  refine ⟨fun c hc => ?_, fun d hd hs => ?_⟩
  · unfold zWkV zWkL
    rw [hV, e1, e2]
    have h7 : ¬ c = 7 := by omega
    split
    · rfl
    · split
      · rfl
      · split
        · rfl
        · split
          · rfl
          · split
            · rfl
            · split
              · rfl
              · split
                · rfl
                · omega
  · unfold zWkL
    rw [hV, e1]
    by_cases c : selL d = true
    · exact zTk_snd (Or.inl c) (Or.inl hd)
    · refine zTk_snd (Or.inr ?_) (Or.inl hd)
      exact zTk_snd (hs.elim Or.inl (fun q => Or.inr (q.resolve_left c))) (Or.inl hd)
theorem zUs_congr {bo bo' : Nat → Int32} : ∀ {n : Nat}, (∀ i : Nat, i < n → bo' i = bo i) → zUs bo' n = zUs bo n
  | 0, _ => rfl
  | n + 1, h => by
    rw [zUs, zUs, h n (by omega), zUs_congr (fun i hi => h i (by omega))]
theorem zSumU_congr2 {bo bo' : Nat → Int32} {f g : Nat → Int64} : ∀ {n : Nat}, (∀ i : Nat, i < n → bo' i = bo i ∧ f i = g i) → zSumU bo' f n = zSumU bo g n
  | 0, _ => rfl
  | n + 1, h => by
    show (if bo' n = 0 then zSumU bo' f n + f n else zSumU bo' f n) = (if bo n = 0 then zSumU bo g n + g n else zSumU bo g n)
    rw [(h n (by omega)).1, (h n (by omega)).2, zSumU_congr2 (fun i hi => h i (by omega))]
/-- a pay is worked as it was, where nothing ahead of it changed -/
theorem zWkd.congr {nd : Nat} {de so : Nat → Int32} {si ca bs : Nat → Int64} {bo rb pe me : Nat → Int32} {re cr ex : Nat → Int64} {en : Nat → Int32} {tx : Nat → Nat} {tn : Nat → Nat} {FF : Nat → Nat → Int64} {GF : Nat → Nat → Int32} {V P : Nat → Nat → Int64} {bo' rb' pe' me' : Nat → Int32} {re' cr' ex' : Nat → Int64} {en' : Nat → Int32} {tx' : Nat → Nat} {tn' : Nat → Nat} {FF' : Nat → Nat → Int64} {GF' : Nat → Nat → Int32} {V' P' : Nat → Nat → Int64} {k : Nat} (h : zWkd nd de so si ca bs bo rb pe me re cr ex en tx tn FF GF V P k) (hb : ∀ j : Nat, j < k → bo' j = bo j ∧ V' j = V j ∧ P' j = P j) (h1 : bo' k = bo k) (h2 : rb' k = rb k) (h3 : pe' k = pe k) (h4 : me' k = me k) (h5 : re' k = re k) (h6 : cr' k = cr k) (h7 : ex' k = ex k) (h8 : en' k = en k) (h9 : V' k = V k) (h10 : P' k = P k) (h11 : FF' (tx' k) = FF (tx k)) (h12 : GF' (tx' k) = GF (tx k)) (h13 : tn' (tx' k) = tn (tx k)) : zWkd nd de so si ca bs bo' rb' pe' me' re' cr' ex' en' tx' tn' FF' GF' V' P' k := by
  have e0 : zSum (fun j => V' j 0) k = zSum (fun j => V j 0) k := zSum_congr (fun j hj => by rw [(hb j hj).2.1])
  have e1 : (fun d => zSum (fun j => P' j d) k) = (fun d => zSum (fun j => P j d) k) := funext (fun d => zSum_congr (fun j hj => by rw [(hb j hj).2.2]))
  have e2 : zSumU bo' (fun j => V' j 2) k = zSumU bo (fun j => V j 2) k := zSumU_congr2 (fun j hj => ⟨(hb j hj).1, by rw [(hb j hj).2.1]⟩)
  have e3 : zSumU bo' (fun j => V' j 3) k = zSumU bo (fun j => V j 3) k := zSumU_congr2 (fun j hj => ⟨(hb j hj).1, by rw [(hb j hj).2.1]⟩)
  have e4 : zUs bo' k = zUs bo k := zUs_congr (fun j hj => (hb j hj).1)
  unfold zWkd zStV zStP at h ⊢
  rw [h1, h2, h3, h4, h5, h6, h7, h8, h9, h10, e0, e1, e2, e3, e4]
  simp only [h11, h12, h13]
  exact h
/-- one deduction more, that no pay has -/
theorem zTk_more {sel sel' has : Nat → Bool} {due due' : Nat → Int64} {left : Int64} {f : Nat → Int64} {m : Nat} (hm : has m = false) (h0 : f m = 0) (hs : sel m = false) (h : ∀ i : Nat, i ≠ m → sel' i = sel i ∧ due' i = due i) : ∀ {n : Nat}, zTk sel' has due' left f n = zTk sel has due left f n
  | 0 => rfl
  | n + 1 => by
    rw [zTk, zTk, zTk_more hm h0 hs h (n := n)]
    by_cases c : n = m
    · subst c
      rw [if_neg (c := sel n = true) (by rw [hs]; decide)]
      by_cases c2 : sel' n = true
      · rw [if_pos c2, if_neg (c := has n = true) (by rw [hm]; decide)]
        refine Prod.ext ?_ ?_
        · show (zTk sel has due left f n).1 - 0 = _
          exact Int64.sub_zero _
        · funext j
          show vp_updL _ n 0 j = _
          by_cases e : j = n
          · subst e
            rw [vpL_self, zTk_ge (Nat.le_refl _), h0]
          · rw [vpL_ne _ _ e]
      · rw [if_neg c2]
    · rw [(h n c).1, (h n c).2]
theorem zWkd.more {nd : Nat} {de so : Nat → Int32} {si ca bs : Nat → Int64} {bo rb pe me : Nat → Int32} {re cr ex : Nat → Int64} {en : Nat → Int32} {tx : Nat → Nat} {tn : Nat → Nat} {FF : Nat → Nat → Int64} {GF : Nat → Nat → Int32} {V P : Nat → Nat → Int64} {k m : Nat} {de' so' : Nat → Int32} {si' ca' bs' : Nat → Int64} (h : zWkd nd de so si ca bs bo rb pe me re cr ex en tx tn FF GF V P k) (hm : m = nd) (hn : zHasF (en k) m = false) (he : ∀ i : Nat, i ≠ m → de' i = de i ∧ so' i = so i ∧ si' i = si i ∧ ca' i = ca i ∧ bs' i = bs i) : zWkd (nd + 1) de' so' si' ca' bs' bo rb pe me re cr ex en tx tn FF GF V P k := by
  have hsel : ∀ (e : Int32) (i : Nat), i ≠ m → zSel de' (nd + 1) e i = zSel de nd e i := fun e i hi => by
    unfold zSel
    rw [(he i hi).1]
    exact decide_eq_decide.mpr ⟨fun q => ⟨by omega, q.2⟩, fun q => ⟨by omega, q.2⟩⟩
  have hs0 : ∀ e : Int32, zSel de nd e m = false := fun e => zSel_n (fun q => by omega)
  have hd : ∀ i : Nat, i ≠ m → zDueF so' si' ca' bs' (bo k) (V k 0) (zSum (fun j => V j 0) k) (fun d => zSum (fun j => P j d) k) i = zDueF so si ca bs (bo k) (V k 0) (zSum (fun j => V j 0) k) (fun d => zSum (fun j => P j d) k) i := fun i hi => by
    unfold zDueF
    rw [(he i hi).2.1, (he i hi).2.2.1, (he i hi).2.2.2.1, (he i hi).2.2.2.2]
  have t : ∀ (e : Int32) (left : Int64) (f : Nat → Int64), f m = 0 → zTk (zSel de' (nd + 1) e) (zHasF (en k)) (zDueF so' si' ca' bs' (bo k) (V k 0) (zSum (fun j => V j 0) k) (fun d => zSum (fun j => P j d) k)) left f 8 = zTk (zSel de nd e) (zHasF (en k)) (zDueF so si ca bs (bo k) (V k 0) (zSum (fun j => V j 0) k) (fun d => zSum (fun j => P j d) k)) left f 8 := fun e left f hf => zTk_more hn hf (hs0 e) (fun i hi => ⟨hsel e i hi, hd i hi⟩)
  have t2 : (zTk (zSel de nd 1) (zHasF (en k)) (zDueF so si ca bs (bo k) (V k 0) (zSum (fun j => V j 0) k) (fun d => zSum (fun j => P j d) k)) (V k 0) (fun _ => 0) 8).2 m = 0 := zTk_ns (hs0 1)
  unfold zWkd zStV zStP zWkV zWkL at h ⊢
  rw [t 1 _ _ rfl]
  simp only [t 0 _ _ t2]
  exact h
