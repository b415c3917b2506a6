/-! ===== class and model reckon alike: rounds, taxes ===== -/
theorem zT0 : (0 : Int64).toInt = 0 := Int64.toInt_ofNat_of_lt (n := 0) (Nat.le_of_ble_eq_true rfl)
theorem zT1 : (1 : Int64).toInt = 1 := Int64.toInt_ofNat_of_lt (n := 1) (Nat.le_of_ble_eq_true rfl)
theorem zT2 : (2 : Int64).toInt = 2 := Int64.toInt_ofNat_of_lt (n := 2) (Nat.le_of_ble_eq_true rfl)
theorem zT6 : (1000000 : Int64).toInt = 1000000 := Int64.toInt_ofNat_of_lt (n := 1000000) (Nat.le_of_ble_eq_true rfl)
theorem zT9 : (1000000000 : Int64).toInt = 1000000000 := Int64.toInt_ofNat_of_lt (n := 1000000000) (Nat.le_of_ble_eq_true rfl)
theorem zT12 : (1000000000000 : Int64).toInt = 1000000000000 := Int64.toInt_ofNat_of_lt (n := 1000000000000) (Nat.le_of_ble_eq_true rfl)
theorem zA_add {a b : Int64} (h1 : -9223372036854775808 ≤ a.toInt + b.toInt) (h2 : a.toInt + b.toInt < 9223372036854775808) : (a + b).toInt = a.toInt + b.toInt := by
  rw [Int64.toInt_add]
  exact Int.bmod_eq_of_le_mul_two (by omega) (by omega)
theorem zA_sub {a b : Int64} (h1 : -9223372036854775808 ≤ a.toInt - b.toInt) (h2 : a.toInt - b.toInt < 9223372036854775808) : (a - b).toInt = a.toInt - b.toInt := by
  rw [Int64.toInt_sub]
  exact Int.bmod_eq_of_le_mul_two (by omega) (by omega)
theorem zA_mul {a b : Int64} (h1 : -9223372036854775808 ≤ a.toInt * b.toInt) (h2 : a.toInt * b.toInt < 9223372036854775808) : (a * b).toInt = a.toInt * b.toInt := by
  rw [Int64.toInt_mul]
  exact Int.bmod_eq_of_le_mul_two (by omega) (by omega)
theorem zA_div {a b : Int64} (h1 : 0 ≤ a.toInt) (h2 : 0 < b.toInt) : (a / b).toInt = a.toInt / b.toInt := by
  rw [Int64.toInt_div_of_ne_right a b (fun e => by rw [e] at h2; rw [show (-1 : Int64).toInt = -1 from rfl] at h2; omega)]
  exact Int.tdiv_eq_ediv_of_nonneg h1
theorem zDivEq {x B v : Int} (hB : 0 < B) (h1 : v * B ≤ x) (h2 : x < (v + 1) * B) : x / B = v := by
  have a1 := (Int.le_ediv_iff_mul_le hB).mpr h1
  have a2 := (Int.ediv_lt_iff_lt_mul hB).mpr h2
  omega
theorem zPair {a b A B : Int} (h1 : 0 ≤ a) (h2 : a ≤ A) (h3 : 0 ≤ b) (h4 : b ≤ B) : 0 ≤ a * b ∧ a * b ≤ A * B := by
  refine ⟨Int.mul_nonneg h1 h3, Int.le_trans (Int.mul_le_mul_of_nonneg_left h4 h1) ?_⟩
  rw [Int.mul_comm a B, Int.mul_comm A B]
  exact Int.mul_le_mul_of_nonneg_left h2 (by omega)
theorem zRound_i {a b : Int64} (ha : 0 ≤ a.toInt) (ha2 : a.toInt ≤ 9000000000000000000) (hb : 1 ≤ b.toInt) (hb2 : b.toInt ≤ 1000000000) : (zRound a b).toInt = (a.toInt + b.toInt / 2) / b.toInt := by
  unfold zRound
  have t2 : (2 : Int64).toInt = 2 := zT2
  have t1 : (1 : Int64).toInt = 1 := zT1
  rw [if_pos (by rw [Int64.le_iff_toInt_le, t1]; exact hb)]
  have e1 : (b / 2).toInt = b.toInt / 2 := by rw [zA_div (by omega) (by rw [t2]; omega), t2]
  have e2 : (a + b / 2).toInt = a.toInt + b.toInt / 2 := by rw [zA_add (by rw [e1]; omega) (by rw [e1]; omega), e1]
  rw [zA_div (by rw [e2]; omega) (by omega), e2]
theorem zRound_eq {a b : Int64} (ha : 0 ≤ a.toInt) (ha2 : a.toInt ≤ 9000000000000000000) (hb : 1 ≤ b.toInt) (hb2 : b.toInt ≤ 1000000000) : mRound a b = zRound a b := by
  apply Int64.toInt_inj.mp
  rw [zRound_i ha ha2 hb hb2]
  have t2 : (2 : Int64).toInt = 2 := zT2
  have t1 : (1 : Int64).toInt = 1 := zT1
  have t0 : (0 : Int64).toInt = 0 := zT0
  have e1 : (a / b).toInt = a.toInt / b.toInt := zA_div ha (by omega)
  have q0 : 0 ≤ a.toInt / b.toInt := Int.ediv_nonneg ha (by omega)
  have q1 : a.toInt / b.toInt ≤ a.toInt := Int.ediv_le_self _ ha
  have q2 : a.toInt / b.toInt * b.toInt ≤ a.toInt := Int.ediv_mul_le _ (by omega)
  have q3 : a.toInt < (a.toInt / b.toInt + 1) * b.toInt := Int.lt_ediv_add_one_mul_self _ (by omega)
  rw [Int.add_mul, Int.one_mul] at q3
  have q4 : 0 ≤ a.toInt / b.toInt * b.toInt := Int.mul_nonneg q0 (by omega)
  have e2 : (a / b * b).toInt = a.toInt / b.toInt * b.toInt := by rw [zA_mul (by rw [e1]; omega) (by rw [e1]; omega), e1]
  have e3 : (a - a / b * b).toInt = a.toInt - a.toInt / b.toInt * b.toInt := by rw [zA_sub (by rw [e2]; omega) (by rw [e2]; omega), e2]
  have e4 : (2 * (a - a / b * b)).toInt = 2 * (a.toInt - a.toInt / b.toInt * b.toInt) := by rw [zA_mul (by rw [e3, t2]; omega) (by rw [e3, t2]; omega), e3, t2]
  unfold mRound
  by_cases c : 2 * (a - a / b * b) < b
  · rw [if_pos c]
    rw [Int64.lt_iff_toInt_lt, e4] at c
    rw [zA_add (by rw [e1, t0]; omega) (by rw [e1, t0]; omega), e1, t0, Int.zero_add]
    refine (zDivEq (by omega) (by omega) ?_).symm
    rw [Int.add_mul, Int.one_mul]
    omega
  · rw [if_neg c]
    rw [Int64.lt_iff_toInt_lt, e4] at c
    rw [zA_add (by rw [e1, t1]; omega) (by rw [e1, t1]; omega), e1, t1]
    refine (zDivEq (by omega) ?_ ?_).symm
    · rw [Int.add_mul, Int.one_mul]
      omega
    · rw [Int.add_mul, Int.add_mul, Int.one_mul]
      omega
theorem zRound_nn {a b : Int64} (ha : 0 ≤ a.toInt) (ha2 : a.toInt ≤ 9000000000000000000) (hb : 1 ≤ b.toInt) (hb2 : b.toInt ≤ 1000000000) : 0 ≤ (zRound a b).toInt := by
  rw [zRound_i ha ha2 hb hb2]
  exact Int.ediv_nonneg (by omega) (by omega)
theorem zMax0_i (x : Int64) : (zMax0 x).toInt = if x.toInt < 0 then 0 else x.toInt := by
  unfold zMax0
  by_cases c : x < 0
  · rw [if_pos c]
    rw [Int64.lt_iff_toInt_lt, zT0] at c
    rw [if_pos c, zT0]
  · rw [if_neg c]
    rw [Int64.lt_iff_toInt_lt, zT0] at c
    rw [if_neg c]
theorem zMax0_nn (x : Int64) : 0 ≤ (zMax0 x).toInt := by
  rw [zMax0_i]
  split <;> omega
theorem zMin_i (x y : Int64) : (zMin x y).toInt = if y.toInt < x.toInt then y.toInt else x.toInt := by
  unfold zMin
  by_cases c : y < x
  · rw [if_pos c]
    rw [Int64.lt_iff_toInt_lt] at c
    rw [if_pos c]
  · rw [if_neg c]
    rw [Int64.lt_iff_toInt_lt] at c
    rw [if_neg c]
theorem zUpTo_1 {v m : Int64} (h : zUpTo v m = 1) : 0 ≤ v.toInt ∧ v.toInt ≤ m.toInt := by
  unfold zUpTo at h
  by_cases c : 0 ≤ v ∧ v ≤ m
  · rw [Int64.le_iff_toInt_le, Int64.le_iff_toInt_le] at c
    exact c
  · rw [zB_f c] at h
    cases h
/-- a good table: floors that rise, rates -/
def zFl (F : Nat → Int64) (G : Nat → Int32) (n : Nat) : Prop := (∀ i : Nat, i < n → 0 ≤ (F i).toInt ∧ (F i).toInt ≤ 1000000000000 ∧ 0 ≤ (G i).toInt ∧ (G i).toInt ≤ 1000000) ∧ ∀ i : Nat, i + 1 < n → (F i).toInt < (F (i + 1)).toInt
theorem zFl.le {F : Nat → Int64} {G : Nat → Int32} {n : Nat} (h : zFl F G n) : ∀ {j i : Nat}, i ≤ j → j < n → (F i).toInt ≤ (F j).toInt
  | 0, i, h1, _ => by
    rw [show i = 0 by omega]
    exact Int.le_refl _
  | j + 1, i, h1, h2 => by
    by_cases c : i = j + 1
    · rw [c]
      exact Int.le_refl _
    · have a1 := zFl.le h (j := j) (i := i) (by omega) (by omega)
      have a2 := h.2 j h2
      omega
theorem zFl.pre {F : Nat → Int64} {G : Nat → Int32} {n : Nat} (h : zFl F G (n + 1)) : zFl F G n := ⟨fun i hi => h.1 i (by omega), fun i hi => h.2 i (by omega)⟩
theorem zRg1 (x r s f g v : Int64) : x + (r - s) * v + (r - f) * (g - v) = x + (s - f) * (g - v) + (r - s) * g := by grind
theorem zRg2 (acc x r f g v : Int64) : acc + (r - f) * g + x = acc + (x + (r - f) * v + (r - f) * (g - v)) := by grind
theorem zMax0_pos {x : Int64} (h : 0 ≤ x.toInt) : zMax0 x = x := by
  unfold zMax0
  rw [if_neg (fun c => by rw [Int64.lt_iff_toInt_lt] at c; rw [zT0] at c; omega)]
theorem zMax0_neg {x : Int64} (h : x.toInt ≤ 0) : zMax0 x = 0 := by
  apply Int64.toInt_inj.mp
  rw [zMax0_i]
  rw [zT0]
  split <;> omega
theorem mTs_shift {F : Nat → Int64} {G : Nat → Int32} {r s : Int64} (hs : 0 ≤ s.toInt) (hr : s.toInt ≤ r.toInt) (hr2 : r.toInt ≤ 4000000000000) : ∀ {n : Nat}, (∀ i : Nat, i < n → 0 ≤ (F i).toInt ∧ (F i).toInt ≤ s.toInt) → mTs F G r n = mTs F G s n + (r - s) * mWas G n
  | 0, _ => by
    show (0 : Int64) = 0 + (r - s) * 0
    grind
  | n + 1, h => by
    have a := h n (by omega)
    show mTs F G r n + zMax0 (r - F n) * ((G n).toInt64 - mWas G n) = mTs F G s n + zMax0 (s - F n) * ((G n).toInt64 - mWas G n) + (r - s) * (G n).toInt64
    rw [mTs_shift hs hr hr2 (fun i hi => h i (by omega)), zMax0_pos (x := r - F n) (by rw [zA_sub (by omega) (by omega)]; omega), zMax0_pos (x := s - F n) (by rw [zA_sub (by omega) (by omega)]; omega)]
    exact zRg1 _ _ _ _ _ _
theorem zTaxs_eq {F : Nat → Int64} {G : Nat → Int32} : ∀ {n : Nat} {rest acc : Int64}, zFl F G n → 0 ≤ rest.toInt → rest.toInt ≤ 4000000000000 → zTaxs F G n rest acc = acc + mTs F G rest n
  | 0, rest, acc, _, _, _ => by
    show acc = acc + 0
    grind
  | n + 1, rest, acc, h, h1, h2 => by
    have a := h.1 n (by omega)
    show (if F n < rest then zTaxs F G n (F n) (acc + (rest - F n) * (G n).toInt64) else zTaxs F G n rest acc) = acc + (mTs F G rest n + zMax0 (rest - F n) * ((G n).toInt64 - mWas G n))
    by_cases c : F n < rest
    · rw [if_pos c]
      rw [Int64.lt_iff_toInt_lt] at c
      rw [zTaxs_eq h.pre a.1 (by omega), mTs_shift (r := rest) (s := F n) a.1 (by omega) h2 (fun i hi => ⟨(h.1 i (by omega)).1, h.le (by omega) (by omega)⟩), zMax0_pos (by rw [zA_sub (by omega) (by omega)]; omega)]
      exact zRg2 _ _ _ _ _ _
    · rw [if_neg c]
      rw [Int64.lt_iff_toInt_lt] at c
      rw [zTaxs_eq h.pre h1 h2, zMax0_neg (by rw [zA_sub (by omega) (by omega)]; omega)]
      grind
theorem zTaxs_b {F : Nat → Int64} {G : Nat → Int32} : ∀ {n : Nat} {rest acc : Int64}, zFl F G n → 0 ≤ rest.toInt → rest.toInt ≤ 4000000000000 → 0 ≤ acc.toInt → acc.toInt + rest.toInt * 1000000 ≤ 4000000000000000000 → 0 ≤ (zTaxs F G n rest acc).toInt ∧ (zTaxs F G n rest acc).toInt ≤ acc.toInt + rest.toInt * 1000000
  | 0, rest, acc, _, h1, _, h3, _ => by
    show 0 ≤ acc.toInt ∧ acc.toInt ≤ acc.toInt + rest.toInt * 1000000
    omega
  | n + 1, rest, acc, h, h1, h2, h3, h4 => by
    have a := h.1 n (by omega)
    show 0 ≤ (if F n < rest then zTaxs F G n (F n) (acc + (rest - F n) * (G n).toInt64) else zTaxs F G n rest acc).toInt ∧ (if F n < rest then zTaxs F G n (F n) (acc + (rest - F n) * (G n).toInt64) else zTaxs F G n rest acc).toInt ≤ acc.toInt + rest.toInt * 1000000
    by_cases c : F n < rest
    · rw [if_pos c]
      rw [Int64.lt_iff_toInt_lt] at c
      have e1 : (rest - F n).toInt = rest.toInt - (F n).toInt := zA_sub (by omega) (by omega)
      have pr := zPair (a := rest.toInt - (F n).toInt) (b := (G n).toInt) (A := rest.toInt - (F n).toInt) (B := 1000000) (by omega) (Int.le_refl _) a.2.2.1 a.2.2.2
      have e2 : ((rest - F n) * (G n).toInt64).toInt = (rest.toInt - (F n).toInt) * (G n).toInt := by rw [zA_mul (by rw [e1, Int32.toInt_toInt64]; omega) (by rw [e1, Int32.toInt_toInt64]; omega), e1, Int32.toInt_toInt64]
      have e3 : (acc + (rest - F n) * (G n).toInt64).toInt = acc.toInt + (rest.toInt - (F n).toInt) * (G n).toInt := by rw [zA_add (by rw [e2]; omega) (by rw [e2]; omega), e2]
      have ih := zTaxs_b (n := n) (rest := F n) (acc := acc + (rest - F n) * (G n).toInt64) h.pre a.1 (by omega) (by rw [e3]; omega) (by rw [e3]; omega)
      rw [e3] at ih
      omega
    · rw [if_neg c]
      exact zTaxs_b h.pre h1 h2 h3 h4
