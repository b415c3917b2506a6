/-! ===== the model: its object, its arrays, what it reckons ===== -/
abbrev mo (ad : Nat → Nat) (th tb dd wk br yr wd : Int32) : va_E := .inr (7, [.int th, .ref (ad 1), .ref (ad 2), .ref (ad 3), .ref (ad 4), .int tb, .ref (ad 6), .ref (ad 7), .ref (ad 8), .ref (ad 9), .ref (ad 10), .int dd, .ref (ad 12), .ref (ad 13), .ref (ad 14), .ref (ad 15), .ref (ad 16), .ref (ad 17), .ref (ad 18), .ref (ad 19), .ref (ad 20), .int wk, .int br, .int yr, .int wd, .ref (ad 25), .ref (ad 26), .ref (ad 27), .ref (ad 28), .ref (ad 29), .ref (ad 30), .ref (ad 31), .ref (ad 32), .ref (ad 33), .ref (ad 34), .ref (ad 35), .ref (ad 36), .ref (ad 37), .ref (ad 38), .ref (ad 39), .ref (ad 40), .ref (ad 41), .ref (ad 42), .ref (ad 43), .ref (ad 44)])
def mSl : List Nat := [1, 2, 3, 4, 6, 7, 8, 9, 10, 12, 13, 14, 15, 16, 17, 18, 19, 20, 25, 26, 27, 28, 29, 30, 31, 32, 33, 34, 35, 36, 37, 38, 39, 40, 41, 42, 43, 44]
def mcell (cs : Nat → ClassId) (J : Nat → Nat → Int64) (K : Nat → Nat → Int32) : Nat → va_E
  | 1 => eJ cs 72 (J 1)
  | 2 => eI cs 72 (K 2)
  | 3 => eI cs 6 (K 3)
  | 4 => eZ cs 6 (K 4)
  | 6 => eZ cs 8 (K 6)
  | 7 => eI cs 8 (K 7)
  | 8 => eJ cs 8 (J 8)
  | 9 => eJ cs 8 (J 9)
  | 10 => eJ cs 8 (J 10)
  | 12 => eI cs 10 (K 12)
  | 13 => eI cs 10 (K 13)
  | 14 => eI cs 10 (K 14)
  | 15 => eI cs 10 (K 15)
  | 16 => eJ cs 10 (J 16)
  | 17 => eJ cs 10 (J 17)
  | 18 => eJ cs 10 (J 18)
  | 19 => eI cs 10 (K 19)
  | 20 => eJ cs 10 (J 20)
  | 25 => eJ cs 600 (J 25)
  | 26 => eZ cs 600 (K 26)
  | 27 => eI cs 600 (K 27)
  | 28 => eI cs 600 (K 28)
  | 29 => eI cs 600 (K 29)
  | 30 => eI cs 600 (K 30)
  | 31 => eI cs 600 (K 31)
  | 32 => eJ cs 600 (J 32)
  | 33 => eJ cs 600 (J 33)
  | 34 => eJ cs 600 (J 34)
  | 35 => eJ cs 600 (J 35)
  | 36 => eJ cs 660 (J 36)
  | 37 => eJ cs 480 (J 37)
  | 38 => eJ cs 60 (J 38)
  | 39 => eJ cs 60 (J 39)
  | 40 => eJ cs 60 (J 40)
  | 41 => eJ cs 60 (J 41)
  | 42 => eJ cs 60 (J 42)
  | 43 => eJ cs 60 (J 43)
  | s => eJ cs 60 (J s)
theorem mcell_congr {cs : Nat → ClassId} {J J' : Nat → Nat → Int64} {K K' : Nat → Nat → Int32} {s : Nat} (h1 : J' s = J s) (h2 : K' s = K s) : mcell cs J' K' s = mcell cs J K s := by
  unfold mcell
  split <;> first | rw [h1] | rw [h2]
theorem mcell_inl {cs : Nat → ClassId} {J : Nat → Nat → Int64} {K : Nat → Nat → Int32} {s : Nat} : ∃ x, mcell cs J K s = .inl x := by
  unfold mcell
  split <;> exact ⟨_, rfl⟩
/-- the model's arrays, by their slots: longs J, ints and truths K -/
def zMA (cs : Nat → ClassId) (w : zw) (ad : Nat → Nat) (J : Nat → Nat → Int64) (K : Nat → Nat → Int32) : Prop := ∀ s ∈ mSl, w (ad s) = some (mcell cs J K s)
abbrev zMZ (cs : Nat → ClassId) (w w2 : zw) (ad : Nat → Nat) (SL : List Nat) (J : Nat → Nat → Int64) (K : Nat → Nat → Int32) : Prop := zEx w w2 (SL.map (fun s => (ad s, mcell cs J K s)))
theorem zMA.mz {cs : Nat → ClassId} {w w2 : zw} {ad : Nat → Nat} {SL : List Nat} {J J' : Nat → Nat → Int64} {K K' : Nat → Nat → Int32} (hM : zMA cs w ad J K) (hinj : ∀ i j : Nat, i ≠ j → ad i ≠ ad j) (hx : zMZ cs w w2 ad SL J' K') (hJ : ∀ s : Nat, s ∉ SL → J' s = J s) (hK : ∀ s : Nat, s ∉ SL → K' s = K s) : zMA cs w2 ad J' K' := by
  intro s hs
  by_cases h : s ∈ SL
  · exact hx.1 (ad s, mcell cs J' K' s) (List.mem_map.mpr ⟨s, h, rfl⟩)
  · rw [mcell_congr (hJ s h) (hK s h)]
    refine hx.old (hM s hs) (fun q hq => ?_)
    obtain ⟨t, ht, rfl⟩ := List.mem_map.mp hq
    exact hinj s t (fun e => h (e ▸ ht))
theorem zMA.ne {cs : Nat → ClassId} {w : zw} {ad : Nat → Nat} {J : Nat → Nat → Int64} {K : Nat → Nat → Int32} {m s : Nat} {o : Nat × List Value} (hM : zMA cs w ad J K) (hm : w m = some (.inr o)) (hs : s ∈ mSl) : ad s ≠ m := fun e => by
  have h := hM s hs
  obtain ⟨x, hx⟩ := mcell_inl (cs := cs) (J := J) (K := K) (s := s)
  rw [e, hm, hx] at h
  cases h
/-- .. with the object's own cell changed too -/
theorem zMA.mo {cs : Nat → ClassId} {w w2 : zw} {ad : Nat → Nat} {SL : List Nat} {J J' : Nat → Nat → Int64} {K K' : Nat → Nat → Int32} {m : Nat} {o : Nat × List Value} {e : va_E} (hM : zMA cs w ad J K) (hm : w m = some (.inr o)) (hinj : ∀ i j : Nat, i ≠ j → ad i ≠ ad j) (hx : zEx w w2 ((m, e) :: SL.map (fun s => (ad s, mcell cs J' K' s)))) (hJ : ∀ s : Nat, s ∉ SL → J' s = J s) (hK : ∀ s : Nat, s ∉ SL → K' s = K s) : zMA cs w2 ad J' K' := by
  intro s hs
  by_cases h : s ∈ SL
  · exact hx.1 (ad s, mcell cs J' K' s) (List.mem_cons.mpr (Or.inr (List.mem_map.mpr ⟨s, h, rfl⟩)))
  · rw [mcell_congr (hJ s h) (hK s h)]
    refine hx.old (hM s hs) (fun q hq => ?_)
    rcases List.mem_cons.mp hq with rfl | hq
    · exact hM.ne hm hs
    · obtain ⟨t, ht, rfl⟩ := List.mem_map.mp hq
      exact hinj s t (fun e => h (e ▸ ht))
theorem zI_mul (a b : Nat) : nI a * nI b = nI (a * b) := (Int32.ofNat_mul a b).symm
theorem zMin_comm (x y : Int64) : zMin x y = zMin y x := by
  unfold zMin
  by_cases h1 : y < x
  · rw [if_pos h1, if_neg (fun h2 => by rw [Int64.lt_iff_toInt_lt] at h1 h2; omega)]
  · by_cases h2 : x < y
    · rw [if_neg h1, if_pos h2]
    · rw [if_neg h1, if_neg h2]
      apply Int64.toInt_inj.mp
      rw [Int64.lt_iff_toInt_lt] at h1 h2
      omega
/-- PayLedgerModel.round -/
def mRound (a b : Int64) : Int64 := (if 2 * (a - a / b * b) < b then 0 else 1) + a / b
def mWas (G : Nat → Int32) : Nat → Int64
  | 0 => 0
  | i + 1 => (G i).toInt64
/-- PayLedgerModel.taxed -/
def mTs (F : Nat → Int64) (G : Nat → Int32) (x : Int64) : Nat → Int64
  | 0 => 0
  | i + 1 => mTs F G x i + zMax0 (x - F i) * ((G i).toInt64 - mWas G i)
def mTax (F : Nat → Int64) (G : Nat → Int32) (n : Nat) (x : Int64) : Int64 := mRound (mTs F G x n) 1000000
def mDuty (F : Nat → Int64) (G : Nat → Int32) (n : Nat) (relief credit yearly : Int64) : Int64 := zMax0 (mTax F G n (zMax0 (yearly - relief)) - credit)
/-- PayLedgerModel.wanted -/
def mWant (sort : Int32) (size base : Int64) (bonus : Int32) (gross ahead : Int64) : Int64 := if sort = 0 then (if bonus = 0 then size else 0) else mRound ((if sort = 2 then zMin (ahead + gross) base - zMin ahead base else gross) * size) 1000000
def mDue (sort : Int32) (size cap base : Int64) (bonus : Int32) (gross ahead had : Int64) : Int64 := if cap < 0 then mWant sort size base bonus gross ahead else zMin (cap - had) (mWant sort size base bonus gross ahead)
def mDueF (so : Nat → Int32) (si ca bs : Nat → Int64) (bo : Int32) (gr ag : Int64) (AP : Nat → Int64) : Nat → Int64 := fun i => mDue (so i) (si i) (ca i) (bs i) bo gr ag (AP i)
/-- PayLedgerModel.basic, and a bonus's tax -/
def mBas (F : Nat → Int64) (G : Nat → Int32) (nt : Nat) (pe me : Int32) (re cr : Int64) (k : Nat) (ai ab : Int64) (inc : Int64) : Int64 :=
  if me = 0 then mRound (mDuty F G nt re cr (inc * pe.toInt64)) pe.toInt64 else zMax0 (mRound (mDuty F G nt re cr ((ai + inc) * pe.toInt64 / lN (k + 1)) * lN (k + 1)) pe.toInt64 - ab)
def mWh (F : Nat → Int64) (G : Nat → Int32) (nt : Nat) (pe me : Int32) (re cr : Int64) (bo br : Int32) (k : Nat) (ai ab : Int64) (inc : Int64) : Int64 :=
  if bo = 0 then mBas F G nt pe me re cr k ai ab inc else mRound (inc * br.toInt64) 1000000
def mStV (de so : Nat → Int32) (si ca bs : Nat → Int64) (nd : Nat) (bo br pe me : Nat → Int32) (re cr ex : Nat → Int64) (en : Nat → Int32) (F : Nat → Nat → Int64) (G : Nat → Nat → Int32) (nt : Nat → Nat) (V P : Nat → Nat → Int64) (i : Nat) (v pt : Nat → Int64) : Nat → Int64 :=
  zWkV (zSel de nd 1) (zSel de nd 0) (zHasF (en i)) (mDueF so si ca bs (bo i) (v 0) (zSum (fun j => V j 0) i) (fun k => zSum (fun j => P j k) i)) (mWh (F i) (G i) (nt i) (pe i) (me i) (re i) (cr i) (bo i) (br i) (zUs bo i) (zSumU bo (fun j => V j 2) i) (zSumU bo (fun j => V j 3) i)) (ex i) (bo i) v pt
def mStP (de so : Nat → Int32) (si ca bs : Nat → Int64) (nd : Nat) (bo br pe me : Nat → Int32) (re cr ex : Nat → Int64) (en : Nat → Int32) (F : Nat → Nat → Int64) (G : Nat → Nat → Int32) (nt : Nat → Nat) (V P : Nat → Nat → Int64) (i : Nat) (v pt : Nat → Int64) : Nat → Int64 :=
  (zWkL (zSel de nd 1) (zSel de nd 0) (zHasF (en i)) (mDueF so si ca bs (bo i) (v 0) (zSum (fun j => V j 0) i) (fun k => zSum (fun j => P j k) i)) (mWh (F i) (G i) (nt i) (pe i) (me i) (re i) (cr i) (bo i) (br i) (zUs bo i) (zSumU bo (fun j => V j 2) i) (zSumU bo (fun j => V j 3) i)) (ex i) (bo i) v pt).2
/-- eight parts of a pay, among all -/
def zRow (f : Nat → Int64) (k : Nat) (g : Nat → Int64) : Nat → Int64 := fun x => if 8 * k ≤ x ∧ x < 8 * k + 8 then g (x - 8 * k) else f x
theorem zRow_upd {f g : Nat → Int64} {k d : Nat} {v : Int64} (hd : d < 8) : vp_updL (zRow f k g) (8 * k + d) v = zRow f k (vp_updL g d v) := by
  funext x
  unfold vp_updL zRow
  by_cases h1 : x = 8 * k + d
  · rw [if_pos h1, if_pos (by omega)]
    exact (if_pos (by omega)).symm
  · rw [if_neg h1]
    by_cases h2 : 8 * k ≤ x ∧ x < 8 * k + 8
    · rw [if_pos h2, if_pos h2]
      exact (if_neg (by omega)).symm
    · rw [if_neg h2, if_neg h2]
theorem zRow_at {f g : Nat → Int64} {k d : Nat} (hd : d < 8) : zRow f k g (8 * k + d) = g d := by
  unfold zRow
  rw [if_pos (by omega), Nat.add_sub_cancel_left]
theorem zRow_lt {f g : Nat → Int64} {k i d : Nat} (hi : i < k) (hd : d < 8) : zRow f k g (8 * i + d) = f (8 * i + d) := by
  unfold zRow
  rw [if_neg (by omega)]
theorem zRow_id (f : Nat → Int64) (k : Nat) : zRow f k (fun d => f (8 * k + d)) = f := by
  funext x
  unfold zRow
  split
  · rename_i h
    exact congrArg f (by omega)
  · rfl
theorem zRow_congr {f g g' : Nat → Int64} {k : Nat} (h : ∀ d : Nat, d < 8 → g d = g' d) : zRow f k g = zRow f k g' := by
  funext x
  unfold zRow
  split
  · exact h _ (by omega)
  · rfl
theorem zTk_ge {sel has : Nat → Bool} {due : Nat → Int64} {left : Int64} {f : Nat → Int64} : ∀ {i j : Nat}, i ≤ j → (zTk sel has due left f i).2 j = f j
  | 0, _, _ => rfl
  | i + 1, j, h => by
    rw [zTk]
    split
    · show vp_updL _ _ _ _ = _
      unfold vp_updL
      rw [if_neg (by omega)]
      exact zTk_ge (by omega)
    · exact zTk_ge (by omega)
theorem zTk_un {sel has : Nat → Bool} {due : Nat → Int64} {left : Int64} {f : Nat → Int64} {j : Nat} (hj : sel j = false) : ∀ {i : Nat}, (zTk sel has due left f i).2 j = f j
  | 0 => rfl
  | i + 1 => by
    rw [zTk]
    split
    · rename_i h
      show vp_updL _ _ _ _ = _
      unfold vp_updL
      rw [if_neg (fun e => by rw [← e, hj] at h; cases h)]
      exact zTk_un hj
    · exact zTk_un hj
theorem zTk_end {sel has : Nat → Bool} {due : Nat → Int64} {left : Int64} {f : Nat → Int64} {n : Nat} (h : ∀ i : Nat, n ≤ i → sel i = false) : ∀ k : Nat, zTk sel has due left f (n + k) = zTk sel has due left f n
  | 0 => rfl
  | k + 1 => by
    rw [← Nat.add_assoc, zTk, if_neg (by rw [h (n + k) (by omega)]; decide)]
    exact zTk_end h k
theorem zTk_end8 {sel has : Nat → Bool} {due : Nat → Int64} {left : Int64} {f : Nat → Int64} {n : Nat} (hn : n ≤ 8) (h : ∀ i : Nat, n ≤ i → sel i = false) : zTk sel has due left f 8 = zTk sel has due left f n := by
  have q := zTk_end (has := has) (due := due) (left := left) (f := f) h (8 - n)
  rw [show n + (8 - n) = 8 by omega] at q
  exact q
theorem zSel_ge {de : Nat → Int32} {nd : Nat} {e : Int32} : ∀ i : Nat, nd ≤ i → zSel de nd e i = false := fun i hi => by
  unfold zSel
  rw [decide_eq_false_iff_not]
  omega
/-- a pay that has no part of it: nothing changes -/
theorem zTk_not0 {sel has : Nat → Bool} {due : Nat → Int64} {left : Int64} {f : Nat → Int64} {i : Nat} {rs : Int64} {ff : Nat → Int64} (h : zTk sel has due left f i = (rs, ff)) (hs : sel i = true) (hh : has i = false) (h0 : f i = 0) : zTk sel has due left f (i + 1) = (rs, ff) := by
  rw [zTk_not h hs hh]
  have e : ff i = 0 := by
    have := zTk_ge (sel := sel) (has := has) (due := due) (left := left) (f := f) (Nat.le_refl i)
    rw [h] at this
    exact this.trans h0
  refine Prod.ext (Int64.sub_zero rs) ?_
  funext x
  show vp_updL ff i 0 x = ff x
  unfold vp_updL
  split
  · rename_i q
    rw [q, e]
  · rfl
/-- the pays of worker wi in the model's arrays -/
def mPy (J : Nat → Nat → Int64) (K : Nat → Nat → Int32) (wi n : Nat) (bo br pe me : Nat → Int32) (re cr ex : Nat → Int64) (en : Nat → Int32) (tx : Nat → Nat) (V : Nat → Nat → Int64) (nb : Nat) : Prop := ∀ i : Nat, i < n → J 25 (60 * wi + i) = V i 0 ∧ K 26 (60 * wi + i) = bo i ∧ K 27 (60 * wi + i) = nI (tx i) ∧ K 28 (60 * wi + i) = pe i ∧ K 29 (60 * wi + i) = me i ∧ K 30 (60 * wi + i) = en i ∧ K 31 (60 * wi + i) = br i ∧ J 32 (60 * wi + i) = re i ∧ J 33 (60 * wi + i) = cr i ∧ J 34 (60 * wi + i) = ex i ∧ tx i < nb ∧ (pe i).toInt64 ≠ 0
def mTb (J : Nat → Nat → Int64) (K : Nat → Nat → Int32) (nb : Nat) (tn : Nat → Nat) (FF : Nat → Nat → Int64) (GF : Nat → Nat → Int32) : Prop := nb ≤ 6 ∧ ∀ k : Nat, k < nb → K 3 k = nI (tn k) ∧ tn k ≤ 12 ∧ ∀ i : Nat, i < tn k → J 1 (12 * k + i) = FF k i ∧ K 2 (12 * k + i) = GF k i
def mDd (J : Nat → Nat → Int64) (K : Nat → Nat → Int32) (nd : Nat) (de so : Nat → Int32) (si ca bs : Nat → Int64) : Prop := nd ≤ 8 ∧ ∀ d : Nat, d < nd → K 6 d = de d ∧ K 7 d = so d ∧ J 8 d = si d ∧ J 9 d = ca d ∧ J 10 d = bs d
/-- the first k pays have been worked -/
def mAh (J : Nat → Nat → Int64) (k : Nat) (V P : Nat → Nat → Int64) : Prop := ∀ i : Nat, i < k → (J 38 i = V i 1 ∧ J 39 i = V i 2 ∧ J 40 i = V i 3 ∧ J 41 i = V i 4 ∧ J 42 i = V i 5 ∧ J 43 i = V i 6) ∧ ∀ d : Nat, d < 8 → J 37 (8 * i + d) = P i d
/-- but the arrays of the work itself -/
def mOut (J J' : Nat → Nat → Int64) : Prop := ∀ s : Nat, s ∉ [37, 38, 39, 40, 41, 42, 43] → J' s = J s
theorem mPy.out {J J' : Nat → Nat → Int64} {K : Nat → Nat → Int32} {wi n : Nat} {bo br pe me : Nat → Int32} {re cr ex : Nat → Int64} {en : Nat → Int32} {tx : Nat → Nat} {V : Nat → Nat → Int64} {nb : Nat} (h : mPy J K wi n bo br pe me re cr ex en tx V nb) (ho : mOut J J') : mPy J' K wi n bo br pe me re cr ex en tx V nb := by
  intro i hi
  rw [ho 25 (by decide), ho 32 (by decide), ho 33 (by decide), ho 34 (by decide)]
  exact h i hi
theorem mTb.out {J J' : Nat → Nat → Int64} {K : Nat → Nat → Int32} {nb : Nat} {tn : Nat → Nat} {FF : Nat → Nat → Int64} {GF : Nat → Nat → Int32} (h : mTb J K nb tn FF GF) (ho : mOut J J') : mTb J' K nb tn FF GF := by
  unfold mTb
  rw [ho 1 (by decide)]
  exact h
theorem mDd.out {J J' : Nat → Nat → Int64} {K : Nat → Nat → Int32} {nd : Nat} {de so : Nat → Int32} {si ca bs : Nat → Int64} (h : mDd J K nd de so si ca bs) (ho : mOut J J') : mDd J' K nd de so si ca bs := by
  unfold mDd
  rw [ho 8 (by decide), ho 9 (by decide), ho 10 (by decide)]
  exact h
theorem mOut.refl {J : Nat → Nat → Int64} : mOut J J := fun _ _ => rfl
theorem mOut.trans {J J' J2 : Nat → Nat → Int64} (h : mOut J J') (h2 : mOut J' J2) : mOut J J2 := fun s hs => (h2 s hs).trans (h s hs)
def mMay (what : Int32) (v : Int64) : Int32 := if what = 4 then 1 else zCanB what v
theorem mMay_01 (what : Int32) (v : Int64) : mMay what v = 0 ∨ mMay what v = 1 := by
  unfold mMay
  split
  · exact Or.inr rfl
  · exact zCanB_01 _ _
def mIn (v low high : Int64) : Int32 := zB (low ≤ v ∧ v ≤ high)
theorem mIn_01 (v low high : Int64) : mIn v low high = 0 ∨ mIn v low high = 1 := zB_01 _
