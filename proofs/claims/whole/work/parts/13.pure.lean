/-! ===== what the methods reckon, in the machine's own numbers ===== -/
def zB (q : Prop) [Decidable q] : Int32 := if q then 1 else 0
theorem zB_01 (q : Prop) [Decidable q] : zB q = 0 ∨ zB q = 1 := by
  unfold zB
  split
  · exact Or.inr rfl
  · exact Or.inl rfl
theorem zB_t {q : Prop} [Decidable q] (h : q) : zB q = 1 := if_pos h
theorem zB_f {q : Prop} [Decidable q] (h : ¬ q) : zB q = 0 := if_neg h
/-- PayLedger.round -/
def zRound (a b : Int64) : Int64 := if 1 ≤ b then (a + b / 2) / b else 0
def zUpTo (v most : Int64) : Int32 := zB (0 ≤ v ∧ v ≤ most)
theorem zUpTo_01 (v most : Int64) : zUpTo v most = 0 ∨ zUpTo v most = 1 := zB_01 _
def zPerB (v : Int64) : Int32 := zB (∃ j : Nat, j < 8 ∧ (zPer j).toInt64 = v)
theorem zPerB_01 (v : Int64) : zPerB v = 0 ∨ zPerB v = 1 := zB_01 _
def zSizeB (sort : Int32) (size : Int64) : Int32 := if sort = 0 then zUpTo size 1000000000 else if sort = 1 ∨ sort = 2 then zUpTo size 1000000 else 0
theorem zSizeB_01 (sort : Int32) (size : Int64) : zSizeB sort size = 0 ∨ zSizeB sort size = 1 := by
  unfold zSizeB
  split
  · exact zUpTo_01 _ _
  · split
    · exact zUpTo_01 _ _
    · exact Or.inl rfl
def zCanB (what : Int32) (v : Int64) : Int32 := if what = 0 then zUpTo v 1 else if what = 1 ∨ what = 2 then zUpTo v 1000000000000 else if what = 3 then zUpTo v 1000000000 else if what = 5 then zPerB v else 0
theorem zCanB_01 (what : Int32) (v : Int64) : zCanB what v = 0 ∨ zCanB what v = 1 := by
  unfold zCanB
  split
  · exact zUpTo_01 _ _
  · split
    · exact zUpTo_01 _ _
    · split
      · exact zUpTo_01 _ _
      · split
        · exact zPerB_01 _
        · exact Or.inl rfl
theorem zI64_nle {x y : Int64} (h : ¬ x ≤ y) : y < x := by
  rw [Int64.le_iff_toInt_le] at h
  rw [Int64.lt_iff_toInt_lt]
  omega
theorem zI64_nlt {x y : Int64} (h : ¬ x < y) : y ≤ x := by
  rw [Int64.lt_iff_toInt_lt] at h
  rw [Int64.le_iff_toInt_le]
  omega
/-- Table.taxOf: from the highest stage down -/
def zTaxs (F : Nat → Int64) (G : Nat → Int32) : Nat → Int64 → Int64 → Int64
  | 0, _, acc => acc
  | n + 1, rest, acc => if F n < rest then zTaxs F G n (F n) (acc + (rest - F n) * (G n).toInt64) else zTaxs F G n rest acc
def zTax (F : Nat → Int64) (G : Nat → Int32) (n : Nat) (amount : Int64) : Int64 := zRound (zTaxs F G n amount 0) 1000000
theorem zD1 (n : Nat) : nI (n + 1) - 1 = nI n := nI_pred n
