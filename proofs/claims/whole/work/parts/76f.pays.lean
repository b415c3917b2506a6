/-! ===== a pay more, a pay put right ===== -/
theorem zWkd.new {nd : Nat} {de so : Nat → Int32} {si ca bs : Nat → Int64} {bo rb pe me : Nat → Int32} {re cr ex : Nat → Int64} {en : Nat → Int32} {tx : Nat → Nat} {tn : Nat → Nat} {FF : Nat → Nat → Int64} {GF : Nat → Nat → Int32} {V P : Nat → Nat → Int64} {n : Nat} {bon brt pe0 me0 : Int32} {re0 cr0 ex0 gross : Int64} {en0 : Int32} {t : Nat} {VN PN v0 PT0 GG : Nat → Int64} (hde : ∀ d : Nat, d < nd → de d = 0 ∨ de d = 1) (hv0 : v0 0 = gross) (hV0 : VN 0 = gross) (hG : ∀ d : Nat, d < 8 → GG d = zSum (fun i => P i d) n) (hPT : ∀ d : Nat, nd ≤ d → d < 8 → PT0 d = 0)
    (hV : ∀ c : Nat, 1 ≤ c → c ≤ 6 → VN c = zWkV (zSel de nd 1) (zSel de nd 0) (zHasF en0) (zDueF so si ca bs bon gross (zSum (fun i => V i 0) n) GG) (zWh (FF t) (GF t) (tn t) pe0 me0 re0 cr0 bon brt (zUs bo n) (zSumU bo (fun i => V i 2) n) (zSumU bo (fun i => V i 3) n)) ex0 bon v0 PT0 c) (hP : ∀ d : Nat, d < 8 → PN d = (zWkL (zSel de nd 1) (zSel de nd 0) (zHasF en0) (zDueF so si ca bs bon gross (zSum (fun i => V i 0) n) GG) (zWh (FF t) (GF t) (tn t) pe0 me0 re0 cr0 bon brt (zUs bo n) (zSumU bo (fun i => V i 2) n) (zSumU bo (fun i => V i 3) n)) ex0 bon v0 PT0).2 d) : zWkd nd de so si ca bs (va_up bo n bon) (va_up rb n brt) (va_up pe n pe0) (va_up me n me0) (va_up re n re0) (va_up cr n cr0) (va_up ex n ex0) (va_up en n en0) (va_up tx n t) tn FF GF (va_up V n VN) (va_up P n PN) n := by
  have e0 : zSum (fun j => va_up V n VN j 0) n = zSum (fun j => V j 0) n := zSum_congr (fun j hj => by rw [zUp_lt hj])
  have e1 : (fun d => zSum (fun j => va_up P n PN j d) n) = (fun d => zSum (fun j => P j d) n) := funext (fun d => zSum_congr (fun j hj => by rw [zUp_lt hj]))
  have e2 : zSumU (va_up bo n bon) (fun j => va_up V n VN j 2) n = zSumU bo (fun j => V j 2) n := zSumU_congr2 (fun j hj => ⟨zUp_lt hj, by rw [zUp_lt hj]⟩)
  have e3 : zSumU (va_up bo n bon) (fun j => va_up V n VN j 3) n = zSumU bo (fun j => V j 3) n := zSumU_congr2 (fun j hj => ⟨zUp_lt hj, by rw [zUp_lt hj]⟩)
  have e4 : zUs (va_up bo n bon) n = zUs bo n := zUs_congr (fun j hj => zUp_lt hj)
  have t1 := zWk_congr (selE := zSel de nd 1) (selL := zSel de nd 0) (has := zHasF en0) (d1 := (zDueF so si ca bs bon gross (zSum (fun i => V i 0) n) GG)) (d2 := zDueF so si ca bs bon gross (zSum (fun i => V i 0) n) (fun d => zSum (fun j => P j d) n)) (wh := (zWh (FF t) (GF t) (tn t) pe0 me0 re0 cr0 bon brt (zUs bo n) (zSumU bo (fun i => V i 2) n) (zSumU bo (fun i => V i 3) n))) (ex := ex0) (bo := bon) (V := v0) (PT := PT0) (fun i hi => by unfold zDueF; rw [hG i hi])
  have s1 := zWk_pt (selE := zSel de nd 1) (selL := zSel de nd 0) (has := zHasF en0) (due := zDueF so si ca bs bon gross (zSum (fun i => V i 0) n) (fun d => zSum (fun j => P j d) n)) (wh := (zWh (FF t) (GF t) (tn t) pe0 me0 re0 cr0 bon brt (zUs bo n) (zSumU bo (fun i => V i 2) n) (zSumU bo (fun i => V i 3) n))) (ex := ex0) (bo := bon) (V := v0) (V' := VN) (PT := PT0) (PT' := fun _ => 0) (hv0.trans hV0.symm)
  unfold zWkd zStV zStP
  simp only [va_up_self]
  rw [e0, e1, e2, e3, e4, hV0]
  refine ⟨fun c h1 h2 => ?_, fun d hd => ?_⟩
  · rw [hV c h1 h2]
    exact (congrFun t1.1 c).trans (s1.1 c h2)
  · rw [hP d hd, t1.2]
    refine s1.2 d hd ?_
    by_cases c : d < nd
    · rcases hde d c with q | q
      · exact Or.inr (Or.inl (zSel_i c q))
      · exact Or.inl (zSel_i c q)
    · exact Or.inr (Or.inr (hPT d (by omega) hd))
/-- .. and those ahead of it -/
theorem zWkd.ahead {nd : Nat} {de so : Nat → Int32} {si ca bs : Nat → Int64} {bo rb pe me : Nat → Int32} {re cr ex : Nat → Int64} {en : Nat → Int32} {tx : Nat → Nat} {tn : Nat → Nat} {FF : Nat → Nat → Int64} {GF : Nat → Nat → Int32} {V P : Nat → Nat → Int64} {n k : Nat} {bon brt pe0 me0 : Int32} {re0 cr0 ex0 : Int64} {en0 : Int32} {t : Nat} {VN PN : Nat → Int64} (h : zWkd nd de so si ca bs bo rb pe me re cr ex en tx tn FF GF V P k) (hk : k < n) : zWkd nd de so si ca bs (va_up bo n bon) (va_up rb n brt) (va_up pe n pe0) (va_up me n me0) (va_up re n re0) (va_up cr n cr0) (va_up ex n ex0) (va_up en n en0) (va_up tx n t) tn FF GF (va_up V n VN) (va_up P n PN) k :=
  h.congr (fun j hj => ⟨zUp_lt (by omega), zUp_lt (by omega), zUp_lt (by omega)⟩) (zUp_lt hk) (zUp_lt hk) (zUp_lt hk) (zUp_lt hk) (zUp_lt hk) (zUp_lt hk) (zUp_lt hk) (zUp_lt hk) (zUp_lt hk) (zUp_lt hk) (by rw [zUp_lt hk]) (by rw [zUp_lt hk]) (by rw [zUp_lt hk])
/-- a pay put right: all behind it worked anew -/
theorem zWkd.again {nd : Nat} {de so : Nat → Int32} {si ca bs : Nat → Int64} {bo rb pe me : Nat → Int32} {re cr ex : Nat → Int64} {en : Nat → Int32} {tx : Nat → Nat} {tn : Nat → Nat} {FF : Nat → Nat → Int64} {GF : Nat → Nat → Int32} {V P : Nat → Nat → Int64} {k : Nat} {V2 P2 : Nat → Nat → Int64} {v0 PT0 : Nat → Int64} (hde : ∀ d : Nat, d < nd → de d = 0 ∨ de d = 1) (hPT : ∀ d : Nat, nd ≤ d → d < 8 → PT0 d = 0) (hV : V2 k = zStV de so si ca bs nd bo rb pe me re cr ex en (fun i => FF (tx i)) (fun i => GF (tx i)) (fun i => tn (tx i)) V2 P2 k v0 PT0) (hP : P2 k = zStP de so si ca bs nd bo rb pe me re cr ex en (fun i => FF (tx i)) (fun i => GF (tx i)) (fun i => tn (tx i)) V2 P2 k v0 PT0) : zWkd nd de so si ca bs bo rb pe me re cr ex en tx tn FF GF V2 P2 k ∧ V2 k 0 = v0 0 ∧ V2 k 7 = v0 7 ∧ ∀ d : Nat, nd ≤ d → d < 8 → P2 k d = 0 := by
  have h0 : V2 k 0 = v0 0 := by
    rw [hV]
    rfl
  have h7 : V2 k 7 = v0 7 := by
    rw [hV]
    rfl
  refine ⟨⟨fun c h1 h2 => ?_, fun d hd => ?_⟩, h0, h7, fun d h1 h2 => ?_⟩
  · rw [congrFun hV c]
    unfold zStV
    rw [h0]
    exact (zWk_pt h0.symm).1 c h2
  · rw [congrFun hP d]
    unfold zStP
    rw [h0]
    refine (zWk_pt h0.symm).2 d hd ?_
    by_cases c : d < nd
    · rcases hde d c with q | q
      · exact Or.inr (Or.inl (zSel_i c q))
      · exact Or.inl (zSel_i c q)
    · exact Or.inr (Or.inr (hPT d (by omega) hd))
  · rw [congrFun hP d]
    unfold zStP zWkL
    rw [zTk_ns (zSel_n (fun q => by omega)), zTk_ns (zSel_n (fun q => by omega))]
    exact hPT d h1 h2
theorem zWkL_0 {de : Nat → Int32} {nd : Nat} {has : Nat → Bool} {due : Nat → Int64} {wh : Int64 → Int64} {ex : Int64} {bo : Int32} {V PT : Nat → Int64} {d : Nat} (hd : nd ≤ d) (h : PT d = 0) : (zWkL (zSel de nd 1) (zSel de nd 0) has due wh ex bo V PT).2 d = 0 := by
  unfold zWkL
  rw [zTk_ns (zSel_n (fun q => by omega)), zTk_ns (zSel_n (fun q => by omega))]
  exact h
/-- another worker's pays, or another row -/
theorem mPy.keep {J J' : Nat → Nat → Int64} {K K' : Nat → Nat → Int32} {wi n x : Nat} {bo br pe me : Nat → Int32} {re cr ex : Nat → Int64} {en : Nat → Int32} {tx : Nat → Nat} {V : Nat → Nat → Int64} {nb : Nat} (h : mPy J K wi n bo br pe me re cr ex en tx V nb) (hx : ∀ i : Nat, i < n → 60 * wi + i ≠ x) (eJ9 : ∀ s ∈ [25, 32, 33, 34], ∀ y : Nat, y ≠ x → J' s y = J s y) (eK9 : ∀ s ∈ [26, 27, 28, 29, 30, 31], ∀ y : Nat, y ≠ x → K' s y = K s y) : mPy J' K' wi n bo br pe me re cr ex en tx V nb := by
  intro i hi
  have q := hx i hi
  rw [eJ9 25 (by decide) _ q, eJ9 32 (by decide) _ q, eJ9 33 (by decide) _ q, eJ9 34 (by decide) _ q, eK9 26 (by decide) _ q, eK9 27 (by decide) _ q, eK9 28 (by decide) _ q, eK9 29 (by decide) _ q, eK9 30 (by decide) _ q, eK9 31 (by decide) _ q]
  exact h i hi
/-- the same pays by other names -/
theorem mPy.as {J : Nat → Nat → Int64} {K : Nat → Nat → Int32} {wi n : Nat} {bo br pe me bo' br' pe' me' : Nat → Int32} {re cr ex re' cr' ex' : Nat → Int64} {en en' : Nat → Int32} {tx tx' : Nat → Nat} {V V' : Nat → Nat → Int64} {nb : Nat} (h : mPy J K wi n bo br pe me re cr ex en tx V nb) (e : ∀ i : Nat, i < n → bo' i = bo i ∧ br' i = br i ∧ pe' i = pe i ∧ me' i = me i ∧ re' i = re i ∧ cr' i = cr i ∧ ex' i = ex i ∧ en' i = en i ∧ tx' i = tx i ∧ V' i 0 = V i 0) : mPy J K wi n bo' br' pe' me' re' cr' ex' en' tx' V' nb := by
  intro i hi
  obtain ⟨e1, e2, e3, e4, e5, e6, e7, e8, e9, e10⟩ := e i hi
  rw [e1, e2, e3, e4, e5, e6, e7, e8, e9, e10]
  exact h i hi
