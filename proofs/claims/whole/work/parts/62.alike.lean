/-! ===== class and model reckon alike: rounds, taxes ===== -/
theorem zA_add {a b : Int64} (h1 : -9223372036854775808 ≤ a.toInt + b.toInt) (h2 : a.toInt + b.toInt < 9223372036854775808) : (a + b).toInt = a.toInt + b.toInt := by
  rw [Int64.toInt_add]
  exact Int.bmod_eq_of_le_mul_two (by omega) (by omega)
theorem zA_sub {a b : Int64} (h1 : -9223372036854775808 ≤ a.toInt - b.toInt) (h2 : a.toInt - b.toInt < 9223372036854775808) : (a - b).toInt = a.toInt - b.toInt := by
  rw [Int64.toInt_sub]
  exact Int.bmod_eq_of_le_mul_two (by omega) (by omega)
theorem zA_mul {a b : Int64} (h1 : -9223372036854775808 ≤ a.toInt * b.toInt) (h2 : a.toInt * b.toInt < 9223372036854775808) : (a * b).toInt = a.toInt * b.toInt := by
  rw [Int64.toInt_mul]
  exact Int.bmod_eq_of_le_mul_two (by omega) (by omega)
theorem zA_div {a b : Int64} (h1 : 0 ≤ a.toInt) (h2 : 0 < b.toInt) : (a / b).toInt = a.toInt / b.toInt := by
  rw [Int64.toInt_div_of_ne_right a b (fun e => by rw [e] at h2; exact absurd h2 (by decide))]
  exact Int.tdiv_eq_ediv_of_nonneg h1
theorem zDivEq {x B v : Int} (hB : 0 < B) (h1 : v * B ≤ x) (h2 : x < (v + 1) * B) : x / B = v := by
  have a1 := (Int.le_ediv_iff_mul_le hB).mpr h1
  have a2 := (Int.ediv_lt_iff_lt_mul hB).mpr h2
  omega
theorem zPair {a b A B : Int} (h1 : 0 ≤ a) (h2 : a ≤ A) (h3 : 0 ≤ b) (h4 : b ≤ B) : 0 ≤ a * b ∧ a * b ≤ A * B := by
  refine ⟨Int.mul_nonneg h1 h3, Int.le_trans (Int.mul_le_mul_of_nonneg_left h4 h1) ?_⟩
  rw [Int.mul_comm a B, Int.mul_comm A B]
  exact Int.mul_le_mul_of_nonneg_left h2 (by omega)
theorem zRound_i {a b : Int64} (ha : 0 ≤ a.toInt) (ha2 : a.toInt ≤ 9000000000000000000) (hb : 1 ≤ b.toInt) (hb2 : b.toInt ≤ 1000000000) : (zRound a b).toInt = (a.toInt + b.toInt / 2) / b.toInt := by
  unfold zRound
  have t2 : (2 : Int64).toInt = 2 := rfl
  have t1 : (1 : Int64).toInt = 1 := rfl
  rw [if_pos (by rw [Int64.le_iff_toInt_le, t1]; exact hb)]
  have e1 : (b / 2).toInt = b.toInt / 2 := by rw [zA_div (by omega) (by rw [t2]; omega), t2]
  have e2 : (a + b / 2).toInt = a.toInt + b.toInt / 2 := by rw [zA_add (by rw [e1]; omega) (by rw [e1]; omega), e1]
  rw [zA_div (by rw [e2]; omega) (by omega), e2]
theorem zRound_eq {a b : Int64} (ha : 0 ≤ a.toInt) (ha2 : a.toInt ≤ 9000000000000000000) (hb : 1 ≤ b.toInt) (hb2 : b.toInt ≤ 1000000000) : mRound a b = zRound a b := by
  apply Int64.toInt_inj.mp
  rw [zRound_i ha ha2 hb hb2]
  have t2 : (2 : Int64).toInt = 2 := rfl
  have t1 : (1 : Int64).toInt = 1 := rfl
  have t0 : (0 : Int64).toInt = 0 := rfl
  have e1 : (a / b).toInt = a.toInt / b.toInt := zA_div ha (by omega)
  have q0 : 0 ≤ a.toInt / b.toInt := Int.ediv_nonneg ha (by omega)
  have q1 : a.toInt / b.toInt ≤ a.toInt := Int.ediv_le_self _ ha
  have q2 : a.toInt / b.toInt * b.toInt ≤ a.toInt := Int.ediv_mul_le _ (by omega)
  have q3 : a.toInt < (a.toInt / b.toInt + 1) * b.toInt := Int.lt_ediv_add_one_mul_self _ (by omega)
  rw [Int.add_mul, Int.one_mul] at q3
  have q4 : 0 ≤ a.toInt / b.toInt * b.toInt := Int.mul_nonneg q0 (by omega)
  have e2 : (a / b * b).toInt = a.toInt / b.toInt * b.toInt := by rw [zA_mul (by rw [e1]; omega) (by rw [e1]; omega), e1]
  have e3 : (a - a / b * b).toInt = a.toInt - a.toInt / b.toInt * b.toInt := by rw [zA_sub (by rw [e2]; omega) (by rw [e2]; omega), e2]
  have e4 : (2 * (a - a / b * b)).toInt = 2 * (a.toInt - a.toInt / b.toInt * b.toInt) := by rw [zA_mul (by rw [e3, t2]; omega) (by rw [e3, t2]; omega), e3, t2]
  unfold mRound
  by_cases c : 2 * (a - a / b * b) < b
  · rw [if_pos c]
    rw [Int64.lt_iff_toInt_lt, e4] at c
    rw [zA_add (by rw [e1, t0]; omega) (by rw [e1, t0]; omega), e1, t0, Int.zero_add]
    refine (zDivEq (by omega) (by omega) ?_).symm
    rw [Int.add_mul, Int.one_mul]
    omega
  · rw [if_neg c]
    rw [Int64.lt_iff_toInt_lt, e4] at c
    rw [zA_add (by rw [e1, t1]; omega) (by rw [e1, t1]; omega), e1, t1]
    refine (zDivEq (by omega) ?_ ?_).symm
    · rw [Int.add_mul, Int.one_mul]
      omega
    · rw [Int.add_mul, Int.add_mul, Int.one_mul]
      omega
theorem zRound_nn {a b : Int64} (ha : 0 ≤ a.toInt) (ha2 : a.toInt ≤ 9000000000000000000) (hb : 1 ≤ b.toInt) (hb2 : b.toInt ≤ 1000000000) : 0 ≤ (zRound a b).toInt := by
  rw [zRound_i ha ha2 hb hb2]
  exact Int.ediv_nonneg (by omega) (by omega)
theorem zMax0_i (x : Int64) : (zMax0 x).toInt = if x.toInt < 0 then 0 else x.toInt := by
  unfold zMax0
  by_cases c : x < 0
  · rw [if_pos c]
    rw [Int64.lt_iff_toInt_lt] at c
    rw [if_pos c]
    rfl
  · rw [if_neg c]
    rw [Int64.lt_iff_toInt_lt] at c
    rw [if_neg c]
theorem zMax0_nn (x : Int64) : 0 ≤ (zMax0 x).toInt := by
  rw [zMax0_i]
  split <;> omega
theorem zMin_i (x y : Int64) : (zMin x y).toInt = if y.toInt < x.toInt then y.toInt else x.toInt := by
  unfold zMin
  by_cases c : y < x
  · rw [if_pos c]
    rw [Int64.lt_iff_toInt_lt] at c
    rw [if_pos c]
  · rw [if_neg c]
    rw [Int64.lt_iff_toInt_lt] at c
    rw [if_neg c]
theorem zUpTo_1 {v m : Int64} (h : zUpTo v m = 1) : 0 ≤ v.toInt ∧ v.toInt ≤ m.toInt := by
  unfold zUpTo at h
  by_cases c : 0 ≤ v ∧ v ≤ m
  · rw [Int64.le_iff_toInt_le, Int64.le_iff_toInt_le] at c
    exact c
  · rw [zB_f c] at h
    cases h
/-- a good table: floors that rise, rates -/
def zFl (F : Nat → Int64) (G : Nat → Int32) (n : Nat) : Prop := (∀ i : Nat, i < n → 0 ≤ (F i).toInt ∧ (F i).toInt ≤ 1000000000000 ∧ 0 ≤ (G i).toInt ∧ (G i).toInt ≤ 1000000) ∧ ∀ i : Nat, i + 1 < n → (F i).toInt < (F (i + 1)).toInt
theorem zFl.le {F : Nat → Int64} {G : Nat → Int32} {n : Nat} (h : zFl F G n) : ∀ {j i : Nat}, i ≤ j → j < n → (F i).toInt ≤ (F j).toInt
  | 0, i, h1, _ => by
    rw [show i = 0 by omega]
    exact Int.le_refl _
  | j + 1, i, h1, h2 => by
    by_cases c : i = j + 1
    · rw [c]
      exact Int.le_refl _
    · have a1 := zFl.le h (j := j) (i := i) (by omega) (by omega)
      have a2 := h.2 j h2
      omega
theorem zFl.pre {F : Nat → Int64} {G : Nat → Int32} {n : Nat} (h : zFl F G (n + 1)) : zFl F G n := ⟨fun i hi => h.1 i (by omega), fun i hi => h.2 i (by omega)⟩
theorem zRg1 (x r s f g v : Int64) : x + (r - s) * v + (r - f) * (g - v) = x + (s - f) * (g - v) + (r - s) * g := by grind
theorem zRg2 (acc x r f g v : Int64) : acc + (r - f) * g + x = acc + (x + (r - f) * v + (r - f) * (g - v)) := by grind
theorem zMax0_pos {x : Int64} (h : 0 ≤ x.toInt) : zMax0 x = x := by
  unfold zMax0
  rw [if_neg (fun c => by rw [Int64.lt_iff_toInt_lt] at c; rw [show (0 : Int64).toInt = 0 from rfl] at c; omega)]
theorem zMax0_neg {x : Int64} (h : x.toInt ≤ 0) : zMax0 x = 0 := by
  apply Int64.toInt_inj.mp
  rw [zMax0_i]
  rw [show (0 : Int64).toInt = 0 from rfl]
  split <;> omega
theorem mTs_shift {F : Nat → Int64} {G : Nat → Int32} {r s : Int64} (hs : 0 ≤ s.toInt) (hr : s.toInt ≤ r.toInt) (hr2 : r.toInt ≤ 4000000000000) : ∀ {n : Nat}, (∀ i : Nat, i < n → 0 ≤ (F i).toInt ∧ (F i).toInt ≤ s.toInt) → mTs F G r n = mTs F G s n + (r - s) * mWas G n
  | 0, _ => by
    show (0 : Int64) = 0 + (r - s) * 0
    grind
  | n + 1, h => by
    have a := h n (by omega)
    show mTs F G r n + zMax0 (r - F n) * ((G n).toInt64 - mWas G n) = mTs F G s n + zMax0 (s - F n) * ((G n).toInt64 - mWas G n) + (r - s) * (G n).toInt64
    rw [mTs_shift hs hr hr2 (fun i hi => h i (by omega)), zMax0_pos (x := r - F n) (by rw [zA_sub (by omega) (by omega)]; omega), zMax0_pos (x := s - F n) (by rw [zA_sub (by omega) (by omega)]; omega)]
    exact zRg1 _ _ _ _ _ _
theorem zTaxs_eq {F : Nat → Int64} {G : Nat → Int32} : ∀ {n : Nat} {rest acc : Int64}, zFl F G n → 0 ≤ rest.toInt → rest.toInt ≤ 4000000000000 → zTaxs F G n rest acc = acc + mTs F G rest n
  | 0, rest, acc, _, _, _ => by
    show acc = acc + 0
    grind
  | n + 1, rest, acc, h, h1, h2 => by
    have a := h.1 n (by omega)
    show (if F n < rest then zTaxs F G n (F n) (acc + (rest - F n) * (G n).toInt64) else zTaxs F G n rest acc) = acc + (mTs F G rest n + zMax0 (rest - F n) * ((G n).toInt64 - mWas G n))
    by_cases c : F n < rest
    · rw [if_pos c]
      rw [Int64.lt_iff_toInt_lt] at c
      rw [zTaxs_eq h.pre a.1 (by omega), mTs_shift (r := rest) (s := F n) a.1 (by omega) h2 (fun i hi => ⟨(h.1 i (by omega)).1, h.le (by omega) (by omega)⟩), zMax0_pos (by rw [zA_sub (by omega) (by omega)]; omega)]
      exact zRg2 _ _ _ _ _ _
    · rw [if_neg c]
      rw [Int64.lt_iff_toInt_lt] at c
      rw [zTaxs_eq h.pre h1 h2, zMax0_neg (by rw [zA_sub (by omega) (by omega)]; omega)]
      grind
theorem zTaxs_b {F : Nat → Int64} {G : Nat → Int32} : ∀ {n : Nat} {rest acc : Int64}, zFl F G n → 0 ≤ rest.toInt → rest.toInt ≤ 4000000000000 → 0 ≤ acc.toInt → acc.toInt + rest.toInt * 1000000 ≤ 4000000000000000000 → 0 ≤ (zTaxs F G n rest acc).toInt ∧ (zTaxs F G n rest acc).toInt ≤ acc.toInt + rest.toInt * 1000000
  | 0, rest, acc, _, h1, _, h3, _ => by
    show 0 ≤ acc.toInt ∧ acc.toInt ≤ acc.toInt + rest.toInt * 1000000
    omega
  | n + 1, rest, acc, h, h1, h2, h3, h4 => by
    have a := h.1 n (by omega)
    show 0 ≤ (if F n < rest then zTaxs F G n (F n) (acc + (rest - F n) * (G n).toInt64) else zTaxs F G n rest acc).toInt ∧ (if F n < rest then zTaxs F G n (F n) (acc + (rest - F n) * (G n).toInt64) else zTaxs F G n rest acc).toInt ≤ acc.toInt + rest.toInt * 1000000
    by_cases c : F n < rest
    · rw [if_pos c]
      rw [Int64.lt_iff_toInt_lt] at c
      have e1 : (rest - F n).toInt = rest.toInt - (F n).toInt := zA_sub (by omega) (by omega)
      have pr := zPair (a := rest.toInt - (F n).toInt) (b := (G n).toInt) (A := rest.toInt - (F n).toInt) (B := 1000000) (by omega) (Int.le_refl _) a.2.2.1 a.2.2.2
      have e2 : ((rest - F n) * (G n).toInt64).toInt = (rest.toInt - (F n).toInt) * (G n).toInt := by rw [zA_mul (by rw [e1, Int32.toInt_toInt64]; omega) (by rw [e1, Int32.toInt_toInt64]; omega), e1, Int32.toInt_toInt64]
      have e3 : (acc + (rest - F n) * (G n).toInt64).toInt = acc.toInt + (rest.toInt - (F n).toInt) * (G n).toInt := by rw [zA_add (by rw [e2]; omega) (by rw [e2]; omega), e2]
      have ih := zTaxs_b (n := n) (rest := F n) (acc := acc + (rest - F n) * (G n).toInt64) h.pre a.1 (by omega) (by rw [e3]; omega) (by rw [e3]; omega)
      rw [e3] at ih
      omega
    · rw [if_neg c]
      exact zTaxs_b h.pre h1 h2 h3 h4
theorem mTax_eq {F : Nat → Int64} {G : Nat → Int32} {n : Nat} {x : Int64} (h : zFl F G n) (h1 : 0 ≤ x.toInt) (h2 : x.toInt ≤ 4000000000000) : mTax F G n x = zTax F G n x ∧ 0 ≤ (zTax F G n x).toInt ∧ (zTax F G n x).toInt ≤ x.toInt := by
  have t0 : (0 : Int64).toInt = 0 := rfl
  have tm : (1000000 : Int64).toInt = 1000000 := rfl
  have e : mTs F G x n = zTaxs F G n x 0 := by
    rw [zTaxs_eq h h1 h2]
    grind
  have b := zTaxs_b (n := n) (rest := x) (acc := 0) h h1 h2 (by rw [t0]; omega) (by rw [t0]; omega)
  rw [t0] at b
  unfold mTax zTax
  rw [e]
  refine ⟨zRound_eq b.1 (by omega) (by decide) (by decide), zRound_nn b.1 (by omega) (by decide) (by decide), ?_⟩
  rw [zRound_i b.1 (by omega) (by decide) (by decide), tm]
  omega
theorem mDuty_eq {F : Nat → Int64} {G : Nat → Int32} {n : Nat} {re cr y : Int64} (h : zFl F G n) (hr : 0 ≤ re.toInt ∧ re.toInt ≤ 1000000000000) (hc : 0 ≤ cr.toInt ∧ cr.toInt ≤ 1000000000000) (h1 : 0 ≤ y.toInt) (h2 : y.toInt ≤ 4000000000000) : mDuty F G n re cr y = zDuty F G n re cr y ∧ 0 ≤ (zDuty F G n re cr y).toInt ∧ (zDuty F G n re cr y).toInt ≤ y.toInt := by
  have e1 : (y - re).toInt = y.toInt - re.toInt := zA_sub (by omega) (by omega)
  have e2 := zMax0_i (y - re)
  rw [e1] at e2
  have b : 0 ≤ (zMax0 (y - re)).toInt ∧ (zMax0 (y - re)).toInt ≤ y.toInt := by
    rw [e2]
    split <;> omega
  have t := mTax_eq (x := zMax0 (y - re)) h b.1 (by omega)
  unfold mDuty zDuty
  rw [t.1]
  refine ⟨rfl, zMax0_nn _, ?_⟩
  rw [zMax0_i, zA_sub (by omega) (by omega)]
  split <;> omega
theorem mWh_eq {F : Nat → Int64} {G : Nat → Int32} {n : Nat} {pe me : Int32} {re cr : Int64} {bo br : Int32} {k : Nat} {ai ab inc : Int64} (h : zFl F G n) (hr : 0 ≤ re.toInt ∧ re.toInt ≤ 1000000000000) (hc : 0 ≤ cr.toInt ∧ cr.toInt ≤ 1000000000000) (hp : 1 ≤ pe.toInt ∧ pe.toInt ≤ 52) (hb : 0 ≤ br.toInt ∧ br.toInt ≤ 1000000) (hk : k < 60) (ha : 0 ≤ ai.toInt ∧ ai.toInt ≤ 60000000000) (hi : 0 ≤ inc.toInt ∧ inc.toInt ≤ 1000000000) : mWh F G n pe me re cr bo br k ai ab inc = zWh F G n pe me re cr bo br k ai ab inc ∧ 0 ≤ (zWh F G n pe me re cr bo br k ai ab inc).toInt := by
  have ep : pe.toInt64.toInt = pe.toInt := Int32.toInt_toInt64 _
  have eb : br.toInt64.toInt = br.toInt := Int32.toInt_toInt64 _
  have en : (lN (k + 1)).toInt = ((k + 1 : Nat) : Int) := lN_toInt (by omega)
  unfold mWh zWh mBas
  by_cases c : bo = 0
  · rw [if_pos c, if_pos c]
    by_cases c2 : me = 0
    · rw [if_pos c2, if_pos c2]
      have p1 := zPair hi.1 hi.2 (show 0 ≤ pe.toInt by omega) hp.2
      have e1 : (inc * pe.toInt64).toInt = inc.toInt * pe.toInt := by rw [zA_mul (by rw [ep]; omega) (by rw [ep]; omega), ep]
      have d := mDuty_eq (y := inc * pe.toInt64) h hr hc (by rw [e1]; omega) (by rw [e1]; omega)
      rw [e1] at d
      rw [d.1]
      exact ⟨zRound_eq d.2.1 (by omega) (by omega) (by omega), zRound_nn d.2.1 (by omega) (by omega) (by omega)⟩
    · rw [if_neg c2, if_neg c2]
      have e0 : (ai + inc).toInt = ai.toInt + inc.toInt := zA_add (by omega) (by omega)
      have p1 := zPair (a := ai.toInt + inc.toInt) (A := 61000000000) (by omega) (by omega) (show 0 ≤ pe.toInt by omega) hp.2
      have e1 : ((ai + inc) * pe.toInt64).toInt = (ai.toInt + inc.toInt) * pe.toInt := by rw [zA_mul (by rw [ep, e0]; omega) (by rw [ep, e0]; omega), ep, e0]
      have e2 : ((ai + inc) * pe.toInt64 / lN (k + 1)).toInt = (ai.toInt + inc.toInt) * pe.toInt / ((k + 1 : Nat) : Int) := by rw [zA_div (by rw [e1]; omega) (by rw [en]; omega), e1, en]
      have q0 : 0 ≤ (ai.toInt + inc.toInt) * pe.toInt / ((k + 1 : Nat) : Int) := Int.ediv_nonneg p1.1 (by omega)
      have q1 : (ai.toInt + inc.toInt) * pe.toInt / ((k + 1 : Nat) : Int) ≤ (ai.toInt + inc.toInt) * pe.toInt := Int.ediv_le_self _ p1.1
      have d := mDuty_eq (y := (ai + inc) * pe.toInt64 / lN (k + 1)) h hr hc (by rw [e2]; exact q0) (by rw [e2]; omega)
      rw [e2] at d
      rw [d.1]
      have p2 := zPair (b := (lN (k + 1)).toInt) (B := 60) d.2.1 (show _ ≤ (4000000000000 : Int) by omega) (by rw [en]; omega) (by rw [en]; omega)
      have e3 := zA_mul (a := zDuty F G n re cr ((ai + inc) * pe.toInt64 / lN (k + 1))) (b := lN (k + 1)) (by omega) (by omega)
      refine ⟨?_, zMax0_nn _⟩
      rw [zRound_eq (by rw [e3]; exact p2.1) (by rw [e3]; omega) (by omega) (by omega)]
  · rw [if_neg c, if_neg c]
    have p1 := zPair hi.1 hi.2 hb.1 hb.2
    have e1 : (inc * br.toInt64).toInt = inc.toInt * br.toInt := by rw [zA_mul (by rw [eb]; omega) (by rw [eb]; omega), eb]
    exact ⟨zRound_eq (by rw [e1]; exact p1.1) (by rw [e1]; omega) (by decide) (by decide), zRound_nn (by rw [e1]; exact p1.1) (by rw [e1]; omega) (by decide) (by decide)⟩
/-- a good deduction -/
def zDok (so : Int32) (si ca bs : Int64) : Prop := zSizeB so si = 1 ∧ (ca = -1 ∨ zUpTo ca 1000000000000 = 1) ∧ zUpTo bs 1000000000000 = 1
theorem mWant_eq {so : Int32} {si ca bs : Int64} {bo : Int32} {gr ag : Int64} (h : zDok so si ca bs) (hg : 0 ≤ gr.toInt ∧ gr.toInt ≤ 1000000000) (ha : 0 ≤ ag.toInt ∧ ag.toInt ≤ 60000000000) : mWant so si bs bo gr ag = zWant so si bs bo gr ag ∧ 0 ≤ (zWant so si bs bo gr ag).toInt := by
  obtain ⟨h1, -, h3⟩ := h
  have t1 : (1000000000 : Int64).toInt = 1000000000 := rfl
  have t2 : (1000000 : Int64).toInt = 1000000 := rfl
  have t3 : (1000000000000 : Int64).toInt = 1000000000000 := rfl
  have b3 := zUpTo_1 h3
  rw [t3] at b3
  unfold zSizeB at h1
  unfold mWant zWant
  by_cases c0 : so = 0
  · rw [if_pos c0] at h1
    rw [if_pos c0, if_pos c0]
    have b1 := zUpTo_1 h1
    refine ⟨rfl, ?_⟩
    split
    · exact b1.1
    · decide
  · rw [if_neg c0] at h1
    rw [if_neg c0, if_neg c0]
    by_cases c1 : so = 1 ∨ so = 2
    · rw [if_pos c1] at h1
      have b1 := zUpTo_1 h1
      rw [t2] at b1
      rcases c1 with c1 | c1
      · rw [if_neg (by rw [c1]; decide), if_pos c1]
        have p := zPair hg.1 hg.2 b1.1 b1.2
        have e := zA_mul (a := gr) (b := si) (by omega) (by omega)
        exact ⟨zRound_eq (by rw [e]; exact p.1) (by rw [e]; omega) (by decide) (by decide), zRound_nn (by rw [e]; exact p.1) (by rw [e]; omega) (by decide) (by decide)⟩
      · rw [if_pos c1, if_neg (by rw [c1]; decide), zMin_comm (ag + gr) bs, zMin_comm ag bs]
        have e0 : (ag + gr).toInt = ag.toInt + gr.toInt := zA_add (by omega) (by omega)
        have m1 := zMin_i bs (ag + gr)
        have m2 := zMin_i bs ag
        rw [e0] at m1
        have b : 0 ≤ (zMin bs (ag + gr)).toInt - (zMin bs ag).toInt ∧ (zMin bs (ag + gr)).toInt - (zMin bs ag).toInt ≤ 1000000000 ∧ 0 ≤ (zMin bs ag).toInt ∧ (zMin bs (ag + gr)).toInt ≤ 1000000000000 := by
          rw [m1, m2]
          split <;> split <;> omega
        have e1 : (zMin bs (ag + gr) - zMin bs ag).toInt = (zMin bs (ag + gr)).toInt - (zMin bs ag).toInt := zA_sub (by omega) (by omega)
        have p := zPair b.1 b.2.1 b1.1 b1.2
        have e := zA_mul (a := zMin bs (ag + gr) - zMin bs ag) (b := si) (by rw [e1]; omega) (by rw [e1]; omega)
        rw [e1] at e
        exact ⟨zRound_eq (by rw [e]; exact p.1) (by rw [e]; omega) (by decide) (by decide), zRound_nn (by rw [e]; exact p.1) (by rw [e]; omega) (by decide) (by decide)⟩
    · rw [if_neg c1] at h1
      cases h1
theorem mDue_eq {so : Int32} {si ca bs : Int64} {bo : Int32} {gr ag had : Int64} (h : zDok so si ca bs) (hg : 0 ≤ gr.toInt ∧ gr.toInt ≤ 1000000000) (ha : 0 ≤ ag.toInt ∧ ag.toInt ≤ 60000000000) (h0 : 0 ≤ had.toInt) (hh : 0 ≤ ca.toInt → had.toInt ≤ ca.toInt) : mDue so si ca bs bo gr ag had = zDue so si ca bs bo gr ag had ∧ 0 ≤ (zDue so si ca bs bo gr ag had).toInt ∧ (0 ≤ ca.toInt → (zDue so si ca bs bo gr ag had).toInt ≤ ca.toInt - had.toInt) := by
  have q := mWant_eq (bo := bo) (gr := gr) (ag := ag) h hg ha
  have t3 : (1000000000000 : Int64).toInt = 1000000000000 := rfl
  unfold mDue zDue
  rcases h.2.1 with c | c
  · rw [if_pos (by rw [c]; decide), if_pos c]
    refine ⟨q.1, q.2, fun k => ?_⟩
    rw [c] at k
    exact absurd k (by decide)
  · have b := zUpTo_1 c
    rw [t3] at b
    have hc := hh b.1
    rw [if_neg (fun k => by rw [Int64.lt_iff_toInt_lt, show (0 : Int64).toInt = 0 from rfl] at k; omega), if_neg (fun k => by rw [k] at b; exact absurd b.1 (by decide)), q.1, zMin_comm]
    have e : (ca - had).toInt = ca.toInt - had.toInt := zA_sub (by omega) (by omega)
    have m := zMin_i (zWant so si bs bo gr ag) (ca - had)
    rw [e] at m
    refine ⟨rfl, ?_, fun _ => ?_⟩
    · rw [m]
      split <;> omega
    · rw [m]
      split <;> omega
