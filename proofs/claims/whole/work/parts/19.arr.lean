/-! ===== rows of references of which the first n are there ===== -/
def zArrN (N : Nat) (Rf : Nat → Option Nat) (Af : Nat → Nat) (n : Nat) : Prop := n ≤ N ∧ (∀ i : Nat, i < n → Rf i = some (Af i)) ∧ ∀ i : Nat, n ≤ i → i < N → Rf i = none
theorem zI32_of {x : Int32} {N : Nat} (h0 : ¬ x < 0) (h1 : x < nI N) (hN : N < 2 ^ 31) : ∃ k : Nat, k < N ∧ x = nI k := by
  obtain ⟨j, hj, rfl⟩ := nI_of h0
  exact ⟨j, (nI_ltI hj hN).mp h1, rfl⟩
theorem zI64_of {x : Int64} {N : Nat} (h0 : ¬ x < 0) (h1 : x < lN N) (hN : N < 2 ^ 63) : ∃ k : Nat, k < N ∧ x = lN k := by
  obtain ⟨j, hj, rfl⟩ := pk_lOf h0
  exact ⟨j, (pk_lLT hj hN).mp h1, rfl⟩
theorem zlN_nneg {k : Nat} (h : k < 2 ^ 63) : ¬ lN k < 0 := by
  rw [show (0 : Int64) = lN 0 from rfl, pk_lLT h (by decide)]
  omega
