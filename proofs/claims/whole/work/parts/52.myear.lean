/-! ===== the model: a worker's year ===== -/
def mWr (J : Nat → Nat → Int64) (K : Nat → Nat → Int32) (wi : Nat) (bo rb pe me : Nat → Int32) (re cr ex : Nat → Int64) (en : Nat → Int32) (tx : Nat → Nat) (V P : Nat → Nat → Int64) (nb : Nat) (tn : Nat → Nat) (FF : Nat → Nat → Int64) (GF : Nat → Nat → Int32) (nd : Nat) (de so : Nat → Int32) (si ca bs : Nat → Int64) (n : Nat) : Prop :=
  mTb J K nb tn FF GF ∧ mDd J K nd de so si ca bs ∧ mPy J K wi n bo rb pe me re cr ex en tx V nb ∧ wi < 10 ∧ n ≤ 60 ∧ (∀ k : Nat, k < n → mWkd nd de so si ca bs bo rb pe me re cr ex en tx tn FF GF V P k) ∧ K 19 wi = nI n ∧ ∀ i : Nat, i < n → J 35 (60 * wi + i) = V i 7
theorem mWr.out {J J' : Nat → Nat → Int64} {K : Nat → Nat → Int32} {wi : Nat} {bo rb pe me : Nat → Int32} {re cr ex : Nat → Int64} {en : Nat → Int32} {tx : Nat → Nat} {V P : Nat → Nat → Int64} {nb : Nat} {tn : Nat → Nat} {FF : Nat → Nat → Int64} {GF : Nat → Nat → Int32} {nd : Nat} {de so : Nat → Int32} {si ca bs : Nat → Int64} {n : Nat} (h : mWr J K wi bo rb pe me re cr ex en tx V P nb tn FF GF nd de so si ca bs n) (ho : mOut J J') : mWr J' K wi bo rb pe me re cr ex en tx V P nb tn FF GF nd de so si ca bs n :=
  ⟨h.1.out ho, h.2.1.out ho, h.2.2.1.out ho, h.2.2.2.1, h.2.2.2.2.1, h.2.2.2.2.2.1, h.2.2.2.2.2.2.1, by rw [ho 35 (by decide)]; exact h.2.2.2.2.2.2.2⟩
theorem zTotal_x {bo : Nat → Int32} {V : Nat → Nat → Int64} {n : Nat} {s : Int64} {what : Int32} (h1 : ¬ what = 8) (h2 : ¬ what = 9) (h3 : ¬ what = 10) : zTotal bo V n s what = zTot bo V n what := by
  unfold zTotal
  rw [if_neg h1, if_neg h2, if_neg h3]
theorem zTotal_10 {bo : Nat → Int32} {V : Nat → Nat → Int64} {n : Nat} {s : Int64} : zTotal bo V n s 10 = zTot bo V n 6 - zTot bo V n 7 - s := by
  unfold zTotal
  rw [if_neg (by decide), if_neg (by decide), if_pos rfl]
theorem zMA.w {cs : Nat → ClassId} {w w2 : zw} {ad : Nat → Nat} {J J' : Nat → Nat → Int64} {K : Nat → Nat → Int32} (hM : zMA cs w ad J K) (hinj : ∀ i j : Nat, i ≠ j → ad i ≠ ad j) (hx : zMZ cs w w2 ad mSW J' K) (ho : mOut J J') : zMA cs w2 ad J' K := hM.mz hinj hx ho (fun _ _ => rfl)
