/-! ===== the model: a new pay, a pay put right ===== -/
theorem mTb.of {J J' : Nat → Nat → Int64} {K K' : Nat → Nat → Int32} {nb : Nat} {tn : Nat → Nat} {FF : Nat → Nat → Int64} {GF : Nat → Nat → Int32} (h : mTb J K nb tn FF GF) (e1 : J' 1 = J 1) (e2 : K' 2 = K 2) (e3 : K' 3 = K 3) : mTb J' K' nb tn FF GF := by
  unfold mTb
  rw [e1, e2, e3]
  exact h
theorem mDd.of {J J' : Nat → Nat → Int64} {K K' : Nat → Nat → Int32} {nd : Nat} {de so : Nat → Int32} {si ca bs : Nat → Int64} (h : mDd J K nd de so si ca bs) (e1 : J' 8 = J 8) (e2 : J' 9 = J 9) (e3 : J' 10 = J 10) (e4 : K' 6 = K 6) (e5 : K' 7 = K 7) : mDd J' K' nd de so si ca bs := by
  unfold mDd
  rw [e1, e2, e3, e4, e5]
  exact h
theorem mPy.new {J J' : Nat → Nat → Int64} {K K' : Nat → Nat → Int32} {wi n : Nat} {bo br pe me : Nat → Int32} {re cr ex : Nat → Int64} {en : Nat → Int32} {tx : Nat → Nat} {V : Nat → Nat → Int64} {nb : Nat} (h : mPy J K wi n bo br pe me re cr ex en tx V nb) (e25 : J' 25 = vp_updL (J 25) (60 * wi + n) (V n 0)) (e26 : K' 26 = upd (K 26) (60 * wi + n) (bo n)) (e27 : K' 27 = upd (K 27) (60 * wi + n) (nI (tx n))) (e28 : K' 28 = upd (K 28) (60 * wi + n) (pe n)) (e29 : K' 29 = upd (K 29) (60 * wi + n) (me n)) (e30 : K' 30 = upd (K 30) (60 * wi + n) (en n)) (e31 : K' 31 = upd (K 31) (60 * wi + n) (br n)) (e32 : J' 32 = vp_updL (J 32) (60 * wi + n) (re n)) (e33 : J' 33 = vp_updL (J 33) (60 * wi + n) (cr n)) (e34 : J' 34 = vp_updL (J 34) (60 * wi + n) (ex n)) (ht : tx n < nb) (hp : (pe n).toInt64 ≠ 0) : mPy J' K' wi (n + 1) bo br pe me re cr ex en tx V nb := by
  intro i hi
  rw [e25, e26, e27, e28, e29, e30, e31, e32, e33, e34]
  by_cases q : i = n
  · subst q
    rw [vpL_self, vpL_self, vpL_self, vpL_self, up_self, up_self, up_self, up_self, up_self, up_self]
    exact ⟨rfl, rfl, rfl, rfl, rfl, rfl, rfl, rfl, rfl, rfl, ht, hp⟩
  · have hne : 60 * wi + i ≠ 60 * wi + n := by omega
    rw [vpL_ne _ _ hne, vpL_ne _ _ hne, vpL_ne _ _ hne, vpL_ne _ _ hne, up_ne _ _ hne, up_ne _ _ hne, up_ne _ _ hne, up_ne _ _ hne, up_ne _ _ hne, up_ne _ _ hne]
    exact h i (by omega)
/-- another gross in pay i -/
theorem mPy.put {J J' : Nat → Nat → Int64} {K : Nat → Nat → Int32} {wi n i : Nat} {bo br pe me : Nat → Int32} {re cr ex : Nat → Int64} {en : Nat → Int32} {tx : Nat → Nat} {V V2 : Nat → Nat → Int64} {nb : Nat} (h : mPy J K wi n bo br pe me re cr ex en tx V nb) (e25 : J' 25 = vp_updL (J 25) (60 * wi + i) (V2 i 0)) (e32 : J' 32 = J 32) (e33 : J' 33 = J 33) (e34 : J' 34 = J 34) (hV : ∀ k : Nat, k < n → k ≠ i → V2 k 0 = V k 0) : mPy J' K wi n bo br pe me re cr ex en tx V2 nb := by
  intro k hk
  rw [e25, e32, e33, e34]
  refine ⟨?_, (h k hk).2⟩
  by_cases q : k = i
  · subst q
    exact vpL_self _ _ _
  · rw [vpL_ne _ _ (by omega), hV k hk q]
    exact (h k hk).1
