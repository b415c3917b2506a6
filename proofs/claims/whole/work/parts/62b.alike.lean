/-! ===== duties, deductions ===== -/
theorem mTax_eq {F : Nat → Int64} {G : Nat → Int32} {n : Nat} {x : Int64} (h : zFl F G n) (h1 : 0 ≤ x.toInt) (h2 : x.toInt ≤ 4000000000000) : mTax F G n x = zTax F G n x ∧ 0 ≤ (zTax F G n x).toInt ∧ (zTax F G n x).toInt ≤ x.toInt := by
  have t0 : (0 : Int64).toInt = 0 := zT0
  have tm : (1000000 : Int64).toInt = 1000000 := zT6
  have e : mTs F G x n = zTaxs F G n x 0 := by
    rw [zTaxs_eq h h1 h2]
    grind
  have b := zTaxs_b (n := n) (rest := x) (acc := 0) h h1 h2 (by rw [t0]; omega) (by rw [t0]; omega)
  rw [t0] at b
  unfold mTax zTax
  rw [e]
  refine ⟨zRound_eq b.1 (by omega) (by rw [zT6]; omega) (by rw [zT6]; omega), zRound_nn b.1 (by omega) (by rw [zT6]; omega) (by rw [zT6]; omega), ?_⟩
  rw [zRound_i b.1 (by omega) (by rw [zT6]; omega) (by rw [zT6]; omega), tm]
  omega
theorem zSubB {x y : Int64} (hx : 0 ≤ x.toInt ∧ x.toInt ≤ 4000000000000) (hy : 0 ≤ y.toInt ∧ y.toInt ≤ 4000000000000) : (x - y).toInt = x.toInt - y.toInt := zA_sub (by omega) (by omega)
theorem zLe1 {a b : Int} (h : 0 ≤ b) : a - b ≤ a := by omega
theorem zMax0B {x : Int64} {B : Int} (h : x.toInt ≤ B) (hB : 0 ≤ B) : 0 ≤ (zMax0 x).toInt ∧ (zMax0 x).toInt ≤ B := by
  rw [zMax0_i]
  generalize x.toInt = X at *
  split <;> omega
theorem zMulB {x y : Int64} {A B : Int} (hx : 0 ≤ x.toInt ∧ x.toInt ≤ A) (hy : 0 ≤ y.toInt ∧ y.toInt ≤ B) (hAB : A * B ≤ 9000000000000000000) : 0 ≤ (x * y).toInt ∧ (x * y).toInt ≤ A * B := by
  have p := zPair hx.1 hx.2 hy.1 hy.2
  rw [zA_mul (Int.le_trans (by decide) p.1) (Int.lt_of_le_of_lt (Int.le_trans p.2 hAB) (by decide))]
  exact p
theorem zAddB {x y : Int64} {A B : Int} (hx : 0 ≤ x.toInt ∧ x.toInt ≤ A) (hy : 0 ≤ y.toInt ∧ y.toInt ≤ B) (hAB : A + B ≤ 9000000000000000000) : 0 ≤ (x + y).toInt ∧ (x + y).toInt ≤ A + B := by
  rw [zA_add (by omega) (by omega)]
  omega
theorem zDivB {x y : Int64} {A : Int} (hx : 0 ≤ x.toInt ∧ x.toInt ≤ A) (hy : 1 ≤ y.toInt) : 0 ≤ (x / y).toInt ∧ (x / y).toInt ≤ A := by
  rw [zA_div hx.1 hy]
  exact ⟨Int.ediv_nonneg hx.1 (Int.le_trans (by decide) hy), Int.le_trans (Int.ediv_le_self _ hx.1) hx.2⟩
theorem zRoundB {a b : Int64} {A : Int} (ha : 0 ≤ a.toInt ∧ a.toInt ≤ A) (hA : A ≤ 9000000000000000000) (hb : 1 ≤ b.toInt ∧ b.toInt ≤ 1000000000) : mRound a b = zRound a b ∧ 0 ≤ (zRound a b).toInt := ⟨zRound_eq ha.1 (Int.le_trans ha.2 hA) hb.1 hb.2, zRound_nn ha.1 (Int.le_trans ha.2 hA) hb.1 hb.2⟩
theorem zT6b : 1 ≤ (1000000 : Int64).toInt ∧ (1000000 : Int64).toInt ≤ 1000000000 := by
  rw [zT6]
  exact ⟨by decide, by decide⟩
theorem mDuty_eq {F : Nat → Int64} {G : Nat → Int32} {n : Nat} {re cr y : Int64} (h : zFl F G n) (hr : 0 ≤ re.toInt ∧ re.toInt ≤ 1000000000000) (hc : 0 ≤ cr.toInt ∧ cr.toInt ≤ 1000000000000) (h1 : 0 ≤ y.toInt) (h2 : y.toInt ≤ 4000000000000) : mDuty F G n re cr y = zDuty F G n re cr y ∧ 0 ≤ (zDuty F G n re cr y).toInt ∧ (zDuty F G n re cr y).toInt ≤ y.toInt := by
  have e1 := zSubB (x := y) (y := re) ⟨h1, h2⟩ ⟨hr.1, Int.le_trans hr.2 (by decide)⟩
  have b := zMax0B (x := y - re) (B := y.toInt) (by rw [e1]; exact zLe1 hr.1) h1
  have t := mTax_eq (x := zMax0 (y - re)) h b.1 (Int.le_trans b.2 h2)
  unfold mDuty zDuty
  rw [t.1]
  have e2 := zSubB (x := zTax F G n (zMax0 (y - re))) (y := cr) ⟨t.2.1, Int.le_trans t.2.2 (Int.le_trans b.2 h2)⟩ ⟨hc.1, Int.le_trans hc.2 (by decide)⟩
  exact ⟨rfl, zMax0B (by rw [e2]; exact Int.le_trans (zLe1 hc.1) (Int.le_trans t.2.2 b.2)) h1⟩
theorem mWh_eq {F : Nat → Int64} {G : Nat → Int32} {n : Nat} {pe me : Int32} {re cr : Int64} {bo br : Int32} {k : Nat} {ai ab inc : Int64} (h : zFl F G n) (hr : 0 ≤ re.toInt ∧ re.toInt ≤ 1000000000000) (hc : 0 ≤ cr.toInt ∧ cr.toInt ≤ 1000000000000) (hp : 1 ≤ pe.toInt ∧ pe.toInt ≤ 52) (hb : 0 ≤ br.toInt ∧ br.toInt ≤ 1000000) (hk : k < 60) (ha : 0 ≤ ai.toInt ∧ ai.toInt ≤ 60000000000) (hi : 0 ≤ inc.toInt ∧ inc.toInt ≤ 1000000000) : mWh F G n pe me re cr bo br k ai ab inc = zWh F G n pe me re cr bo br k ai ab inc ∧ 0 ≤ (zWh F G n pe me re cr bo br k ai ab inc).toInt := by
  have ep : 1 ≤ pe.toInt64.toInt ∧ pe.toInt64.toInt ≤ 52 := by
    rw [Int32.toInt_toInt64]
    exact hp
  have ep0 : 0 ≤ pe.toInt64.toInt ∧ pe.toInt64.toInt ≤ 52 := ⟨Int.le_trans (by decide) ep.1, ep.2⟩
  have ep9 : 1 ≤ pe.toInt64.toInt ∧ pe.toInt64.toInt ≤ 1000000000 := ⟨ep.1, Int.le_trans ep.2 (by decide)⟩
  have eb : 0 ≤ br.toInt64.toInt ∧ br.toInt64.toInt ≤ 1000000 := by
    rw [Int32.toInt_toInt64]
    exact hb
  have en : 1 ≤ (lN (k + 1)).toInt ∧ (lN (k + 1)).toInt ≤ 60 := by
    rw [lN_toInt (by omega)]
    omega
  unfold mWh zWh mBas
  by_cases c : bo = 0
  · rw [if_pos c, if_pos c]
    by_cases c2 : me = 0
    · rw [if_pos c2, if_pos c2]
      have q := zMulB hi ep0 (by decide)
      have d := mDuty_eq (y := inc * pe.toInt64) h hr hc q.1 (Int.le_trans q.2 (by decide))
      rw [d.1]
      exact zRoundB ⟨d.2.1, Int.le_trans d.2.2 q.2⟩ (by decide) ep9
    · rw [if_neg c2, if_neg c2]
      have q0 := zAddB ha hi (by decide)
      have q1 := zMulB q0 ep0 (by decide)
      have q2 := zDivB (y := lN (k + 1)) q1 en.1
      have d := mDuty_eq (y := (ai + inc) * pe.toInt64 / lN (k + 1)) h hr hc q2.1 (Int.le_trans q2.2 (by decide))
      rw [d.1]
      have q3 := zMulB (y := lN (k + 1)) (B := 60) ⟨d.2.1, Int.le_trans d.2.2 q2.2⟩ ⟨Int.le_trans (by decide) en.1, en.2⟩ (by decide)
      rw [(zRoundB q3 (by decide) ep9).1]
      exact ⟨rfl, zMax0_nn _⟩
  · rw [if_neg c, if_neg c]
    have q := zMulB hi eb (by decide)
    exact zRoundB q (by decide) zT6b
/-- a good deduction -/
def zDok (so : Int32) (si ca bs : Int64) : Prop := zSizeB so si = 1 ∧ (ca = -1 ∨ zUpTo ca 1000000000000 = 1) ∧ zUpTo bs 1000000000000 = 1
theorem zMinD {b a g : Int64} (hb : 0 ≤ b.toInt ∧ b.toInt ≤ 1000000000000) (ha : 0 ≤ a.toInt ∧ a.toInt ≤ 60000000000) (hg : 0 ≤ g.toInt ∧ g.toInt ≤ 1000000000) : 0 ≤ (zMin b (a + g) - zMin b a).toInt ∧ (zMin b (a + g) - zMin b a).toInt ≤ 1000000000 := by
  have e0 : (a + g).toInt = a.toInt + g.toInt := zA_add (by omega) (by omega)
  have m1 := zMin_i b (a + g)
  have m2 := zMin_i b a
  rw [e0] at m1
  generalize zMin b (a + g) = X at *
  generalize zMin b a = Y at *
  clear e0
  rw [zA_sub (by split at m1 <;> split at m2 <;> omega) (by split at m1 <;> split at m2 <;> omega)]
  split at m1 <;> split at m2 <;> omega
theorem mWant_eq {so : Int32} {si ca bs : Int64} {bo : Int32} {gr ag : Int64} (h : zDok so si ca bs) (hg : 0 ≤ gr.toInt ∧ gr.toInt ≤ 1000000000) (ha : 0 ≤ ag.toInt ∧ ag.toInt ≤ 60000000000) : mWant so si bs bo gr ag = zWant so si bs bo gr ag ∧ 0 ≤ (zWant so si bs bo gr ag).toInt := by
  obtain ⟨h1, -, h3⟩ := h
  have b3 := zUpTo_1 h3
  rw [zT12] at b3
  unfold zSizeB at h1
  unfold mWant zWant
  by_cases c0 : so = 0
  · rw [if_pos c0] at h1
    rw [if_pos c0, if_pos c0]
    refine ⟨rfl, ?_⟩
    split
    · exact (zUpTo_1 h1).1
    · rw [zT0]
      exact Int.le_refl 0
  · rw [if_neg c0] at h1
    rw [if_neg c0, if_neg c0]
    by_cases c1 : so = 1 ∨ so = 2
    · rw [if_pos c1] at h1
      have b1 := zUpTo_1 h1
      rw [zT6] at b1
      rcases c1 with c1 | c1
      · rw [if_neg (by rw [c1]; decide), if_pos c1]
        exact zRoundB (zMulB hg b1 (by decide)) (by decide) zT6b
      · rw [if_pos c1, if_neg (by rw [c1]; decide), zMin_comm (ag + gr) bs, zMin_comm ag bs]
        exact zRoundB (zMulB (zMinD b3 ha hg) b1 (by decide)) (by decide) zT6b
    · rw [if_neg c1] at h1
      cases h1
theorem mDue_eq {so : Int32} {si ca bs : Int64} {bo : Int32} {gr ag had : Int64} (h : zDok so si ca bs) (hg : 0 ≤ gr.toInt ∧ gr.toInt ≤ 1000000000) (ha : 0 ≤ ag.toInt ∧ ag.toInt ≤ 60000000000) (h0 : 0 ≤ had.toInt) (hh : 0 ≤ ca.toInt → had.toInt ≤ ca.toInt) : mDue so si ca bs bo gr ag had = zDue so si ca bs bo gr ag had ∧ 0 ≤ (zDue so si ca bs bo gr ag had).toInt ∧ (0 ≤ ca.toInt → (zDue so si ca bs bo gr ag had).toInt ≤ ca.toInt - had.toInt) := by
  have q := mWant_eq (bo := bo) (gr := gr) (ag := ag) h hg ha
  unfold mDue zDue
  rw [q.1]
  generalize zWant so si bs bo gr ag = X at *
  rcases h.2.1 with c | c
  · rw [if_pos (by rw [c]; decide), if_pos c]
    refine ⟨rfl, q.2, fun k => ?_⟩
    rw [c, show (-1 : Int64).toInt = -1 from rfl] at k
    exact absurd k (by decide)
  · have b := zUpTo_1 c
    rw [zT12] at b
    have hc := hh b.1
    rw [if_neg (fun k => by rw [Int64.lt_iff_toInt_lt, zT0] at k; omega), if_neg (fun k => by rw [k, show (-1 : Int64).toInt = -1 from rfl] at b; exact absurd b.1 (by decide)), zMin_comm]
    have e : (ca - had).toInt = ca.toInt - had.toInt := zA_sub (by omega) (by omega)
    have m := zMin_i X (ca - had)
    rw [e] at m
    clear e
    generalize zMin X (ca - had) = Y at *
    have q2 := q.2
    exact ⟨rfl, by split at m <;> omega, fun _ => by split at m <;> omega⟩
