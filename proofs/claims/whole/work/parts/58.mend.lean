/-! ===== the model: a year's end ===== -/
theorem mWr.of {J J' : Nat → Nat → Int64} {K : Nat → Nat → Int32} {wi : Nat} {bo rb pe me : Nat → Int32} {re cr ex : Nat → Int64} {en : Nat → Int32} {tx : Nat → Nat} {V P : Nat → Nat → Int64} {nb : Nat} {tn : Nat → Nat} {FF : Nat → Nat → Int64} {GF : Nat → Nat → Int32} {nd : Nat} {de so : Nat → Int32} {si ca bs : Nat → Int64} {n : Nat} (h : mWr J K wi bo rb pe me re cr ex en tx V P nb tn FF GF nd de so si ca bs n) (e : ∀ s ∈ [1, 8, 9, 10, 25, 32, 33, 34, 35], J' s = J s) : mWr J' K wi bo rb pe me re cr ex en tx V P nb tn FF GF nd de so si ca bs n := by
  have e1 := e 1 (by decide)
  have e8 := e 8 (by decide)
  have e9 := e 9 (by decide)
  have e10 := e 10 (by decide)
  have e25 := e 25 (by decide)
  have e32 := e 32 (by decide)
  have e33 := e 33 (by decide)
  have e34 := e 34 (by decide)
  have e35 := e 35 (by decide)
  unfold mWr mTb mDd mPy at h ⊢
  rw [e1, e8, e9, e10, e25, e32, e33, e34, e35]
  exact h
/-- a sum of whole numbers -/
def zSN (f : Nat → Nat) : Nat → Nat
  | 0 => 0
  | i + 1 => zSN f i + f i
/-- line q of worker k's statement -/
def mStm (bo : Nat → Int32) (V : Nat → Nat → Int64) (n : Nat) (se duty : Int64) : Nat → Int64 := zStm bo V n se duty (fun _ => 0)
theorem mStm_lt {bo : Nat → Int32} {V : Nat → Nat → Int64} {n : Nat} {se duty : Int64} {q : Nat} (h : q < 9) : mStm bo V n se duty q = zTotal bo V n se (nI q) := by
  unfold mStm zStm vp_updL zFill
  rw [if_neg (by omega), if_neg (by omega), if_pos h]
theorem mStm_9 {bo : Nat → Int32} {V : Nat → Nat → Int64} {n : Nat} {se duty : Int64} : mStm bo V n se duty 9 = duty := by
  unfold mStm zStm vp_updL
  rw [if_neg (by decide), if_pos rfl]
theorem mStm_10 {bo : Nat → Int32} {V : Nat → Nat → Int64} {n : Nat} {se duty : Int64} : mStm bo V n se duty 10 = zTotal bo V n se 3 + zTotal bo V n se 4 - duty := by
  unfold mStm zStm vp_updL
  rw [if_pos rfl]
/-- the statements of the first i workers of the year y are laid, and q lines of the next -/
def mSts (f a : Nat → Int64) (y nw : Nat) (T : Nat → Nat → Int64) (i q : Nat) : Prop := (∀ k r : Nat, k < i → r < 11 → a (11 * (10 * y + k) + r) = T k r) ∧ (∀ r : Nat, r < q → a (11 * (10 * y + i) + r) = T i r) ∧ ∀ x : Nat, (x < 110 * y ∨ 110 * y + 11 * nw ≤ x) → a x = f x
theorem mSts.put {f a : Nat → Int64} {y nw : Nat} {T : Nat → Nat → Int64} {i q : Nat} {v : Int64} (h : mSts f a y nw T i q) (hi : i < nw) (hq : q < 11) (e : v = T i q) : mSts f (vp_updL a (11 * (10 * y + i) + q) v) y nw T i (q + 1) := by
  refine ⟨fun k r hk hr => ?_, fun r hr => ?_, fun x hx => ?_⟩
  · rw [vpL_ne _ _ (by omega)]
    exact h.1 k r hk hr
  · by_cases c : r = q
    · subst c
      rw [vpL_self]
      exact e
    · rw [vpL_ne _ _ (by omega)]
      exact h.2.1 r (by omega)
  · rw [vpL_ne _ _ (by omega)]
    exact h.2.2 x hx
theorem mSts.next {f a : Nat → Int64} {y nw : Nat} {T : Nat → Nat → Int64} {i : Nat} (h : mSts f a y nw T i 11) : mSts f a y nw T (i + 1) 0 := by
  refine ⟨fun k r hk hr => ?_, fun r hr => absurd hr (by omega), h.2.2⟩
  by_cases c : k = i
  · subst c
    exact h.2.1 r hr
  · exact h.1 k r (by omega) hr
theorem mSts.zero {f : Nat → Int64} {y nw : Nat} {T : Nat → Nat → Int64} : mSts f f y nw T 0 0 := ⟨fun k r hk _ => absurd hk (by omega), fun r hr => absurd hr (by omega), fun _ _ => rfl⟩
theorem zUpdUpto {a f : Nat → Int64} {k : Nat} (h : ∀ j : Nat, j < k → a j = f j) : ∀ j : Nat, j < k + 1 → vp_updL a k (f k) j = f j := by
  intro j hj
  by_cases c : j = k
  · subst c
    exact vpL_self _ _ _
  · rw [vpL_ne _ _ c]
    exact h j (by omega)
theorem zUpdUptoI {a f : Nat → Int32} {k : Nat} (h : ∀ j : Nat, j < k → a j = f j) : ∀ j : Nat, j < k + 1 → upd a k (f k) j = f j := by
  intro j hj
  by_cases c : j = k
  · subst c
    exact up_self _ _ _
  · rw [up_ne _ _ c]
    exact h j (by omega)
