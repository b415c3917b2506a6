/-! ===== the model: what a call leaves ===== -/
/-- w2: the model's object is o, its arrays J, K; the rest is as it was in w -/
def zMQ (cs : Nat → ClassId) (w w2 : zw) (ad : Nat → Nat) (mm : Nat) (o : va_E) (J : Nat → Nat → Int64) (K : Nat → Nat → Int32) : Prop := w2 mm = some o ∧ zMA cs w2 ad J K ∧ ∀ a : Nat, a ≠ mm → (∀ s ∈ mSl, a ≠ ad s) → w2 a = w a
theorem zMQ.of {cs : Nat → ClassId} {w w2 : zw} {ad : Nat → Nat} {J J' : Nat → Nat → Int64} {K K' : Nat → Nat → Int32} {mm : Nat} {o : Nat × List Value} {e : va_E} (SL : List Nat) (hSL : ∀ s ∈ SL, s ∈ mSl) (hM : zMA cs w ad J K) (hm : w mm = some (.inr o)) (hinj : ∀ i j : Nat, i ≠ j → ad i ≠ ad j) (hx : zEx w w2 ((mm, e) :: SL.map (fun s => (ad s, mcell cs J' K' s)))) (hJ : ∀ s : Nat, s ∉ SL → J' s = J s) (hK : ∀ s : Nat, s ∉ SL → K' s = K s) : zMQ cs w w2 ad mm e J' K' := by
  refine ⟨hx.at 0 rfl, hM.mo hm hinj hx hJ hK, fun a h1 h2 => hx.2 a (fun q hq => ?_)⟩
  rcases List.mem_cons.mp hq with rfl | hq
  · exact h1
  · obtain ⟨t, ht, rfl⟩ := List.mem_map.mp hq
    exact h2 t (hSL t ht)
theorem zMQ.o {cs : Nat → ClassId} {w w2 : zw} {ad : Nat → Nat} {J : Nat → Nat → Int64} {K : Nat → Nat → Int32} {mm : Nat} {o : Nat × List Value} {e : va_E} (hM : zMA cs w ad J K) (hm : w mm = some (.inr o)) (hinj : ∀ i j : Nat, i ≠ j → ad i ≠ ad j) (hx : zEx w w2 [(mm, e)]) : zMQ cs w w2 ad mm e J K := zMQ.of [] (fun _ h => nomatch h) hM hm hinj hx (fun _ _ => rfl) (fun _ _ => rfl)
theorem zMQ.trans {cs : Nat → ClassId} {w w1 w2 : zw} {ad : Nat → Nat} {J J' : Nat → Nat → Int64} {K K' : Nat → Nat → Int32} {mm : Nat} {e e' : va_E} (h : zMQ cs w w1 ad mm e J K) (h2 : zMQ cs w1 w2 ad mm e' J' K') : zMQ cs w w2 ad mm e' J' K' := ⟨h2.1, h2.2.1, fun a q1 q2 => (h2.2.2 a q1 q2).trans (h.2.2 a q1 q2)⟩
theorem zMQ.z {cs : Nat → ClassId} {w w2 : zw} {ad : Nat → Nat} {SL : List Nat} {J J' : Nat → Nat → Int64} {K K' : Nat → Nat → Int32} {mm : Nat} {o : Nat × List Value} (hSL : ∀ s ∈ SL, s ∈ mSl) (hM : zMA cs w ad J K) (hm : w mm = some (.inr o)) (hinj : ∀ i j : Nat, i ≠ j → ad i ≠ ad j) (hx : zMZ cs w w2 ad SL J' K') (hJ : ∀ s : Nat, s ∉ SL → J' s = J s) (hK : ∀ s : Nat, s ∉ SL → K' s = K s) : zMQ cs w w2 ad mm (.inr o) J' K' := by
  refine ⟨hx.mm hM hm hSL, hM.mz hinj hx hJ hK, fun a h1 h2 => hx.2 a (fun q hq => ?_)⟩
  obtain ⟨t, ht, rfl⟩ := List.mem_map.mp hq
  exact h2 t (hSL t ht)
theorem zMQ.w {cs : Nat → ClassId} {w w2 : zw} {ad : Nat → Nat} {J J' : Nat → Nat → Int64} {K : Nat → Nat → Int32} {mm : Nat} {o : Nat × List Value} (hM : zMA cs w ad J K) (hm : w mm = some (.inr o)) (hinj : ∀ i j : Nat, i ≠ j → ad i ≠ ad j) (hx : zMZ cs w w2 ad mSW J' K) (ho : mOut J J') : zMQ cs w w2 ad mm (.inr o) J' K := zMQ.z (SL := mSW) (by decide) hM hm hinj hx ho (fun _ _ => rfl)
theorem zUpTo_ne {v most : Int64} (h : ¬ zUpTo v most = 0) : zUpTo v most = 1 := (zUpTo_01 v most).resolve_left h
theorem zMay_1 {F : Nat → Int64} {n : Nat} {floor : Int64} (h : zMay F n floor = 1) : ¬ (1000000000000 : Int64) < floor ∧ (n = 0 → floor = 0) ∧ (n ≠ 0 → ¬ floor ≤ F (n - 1)) := by
  unfold zMay at h
  by_cases q : (n = 0 ∧ floor = 0) ∨ (n ≠ 0 ∧ F (n - 1) < floor ∧ floor ≤ 1000000000000)
  · rcases q with q | q
    · exact ⟨by rw [q.2]; decide, fun _ => q.2, fun h9 => absurd q.1 h9⟩
    · exact ⟨fun h9 => by have h8 := q.2.2; rw [Int64.le_iff_toInt_le] at h8; rw [Int64.lt_iff_toInt_lt] at h9; omega, fun h9 => absurd h9 q.1, fun _ h9 => by have h8 := q.2.1; rw [Int64.lt_iff_toInt_lt] at h8; rw [Int64.le_iff_toInt_le] at h9; omega⟩
  · rw [zB_f q] at h
    cases h
theorem zMay_z {F : Nat → Int64} {n : Nat} {floor : Int64} (h1 : n = 0) (h2 : floor = 0) : zMay F n floor = 1 := zB_t (Or.inl ⟨h1, h2⟩)
theorem zMay_p {F : Nat → Int64} {n : Nat} {floor : Int64} (h1 : n ≠ 0) (h2 : ¬ floor ≤ F (n - 1)) (h3 : ¬ (1000000000000 : Int64) < floor) : zMay F n floor = 1 := zB_t (Or.inr ⟨h1, zI64_nle h2, zI64_nlt h3⟩)
theorem zI_pred1 {t n : Nat} (h : n ≠ 0) : nI (12 * t + n) - 1 = nI (12 * t + (n - 1)) := by
  obtain ⟨k, rfl⟩ := Nat.exists_eq_succ_of_ne_zero h
  exact nI_pred (12 * t + k)
theorem nI_0e {n : Nat} (hn : n < 2 ^ 31) (h : nI n = 0) : n = 0 := (nI_eq hn (by decide)).mp h
/-- what a deduction can be: as the class says it, as the model says it -/
theorem mGood {so : Int32} {si ca bs : Int64} : (zSizeB so si = 1 ∧ (ca = -1 ∨ zUpTo ca 1000000000000 = 1) ∧ zUpTo bs 1000000000000 = 1) ↔ (mIn so.toInt64 0 2 = 1 ∧ mIn si 0 (if so = 0 then 1000000000 else 1000000) = 1 ∧ mIn ca (-1) 1000000000000 = 1 ∧ mIn bs 0 1000000000000 = 1) := by
  have e1 : mIn so.toInt64 0 2 = 1 ↔ (so = 0 ∨ so = 1 ∨ so = 2) := by
    unfold mIn
    constructor
    · intro h
      by_cases q : (0 : Int64) ≤ so.toInt64 ∧ so.toInt64 ≤ 2
      · rw [Int64.le_iff_toInt_le, Int64.le_iff_toInt_le, Int32.toInt_toInt64] at q
        have h0 : (0 : Int64).toInt = 0 := rfl
        have h2 : (2 : Int64).toInt = 2 := rfl
        have k0 : (0 : Int32).toInt = 0 := rfl
        have k1 : (1 : Int32).toInt = 1 := rfl
        have k2 : (2 : Int32).toInt = 2 := rfl
        rw [h0, h2] at q
        rcases (show so.toInt = 0 ∨ so.toInt = 1 ∨ so.toInt = 2 by omega) with q1 | q1 | q1
        · exact Or.inl (Int32.toInt_inj.mp (q1.trans k0.symm))
        · exact Or.inr (Or.inl (Int32.toInt_inj.mp (q1.trans k1.symm)))
        · exact Or.inr (Or.inr (Int32.toInt_inj.mp (q1.trans k2.symm)))
      · rw [zB_f q] at h
        cases h
    · rintro (rfl | rfl | rfl) <;> decide
  have e2 : mIn ca (-1) 1000000000000 = 1 ↔ (ca = -1 ∨ zUpTo ca 1000000000000 = 1) := by
    unfold mIn zUpTo
    have hm : (-1 : Int64).toInt = -1 := rfl
    have h0 : (0 : Int64).toInt = 0 := rfl
    constructor
    · intro h
      by_cases q : (-1 : Int64) ≤ ca ∧ ca ≤ 1000000000000
      · by_cases q2 : ca = -1
        · exact Or.inl q2
        · refine Or.inr (zB_t ⟨?_, q.2⟩)
          have q1 := q.1
          rw [Int64.le_iff_toInt_le, hm] at q1
          rw [Int64.le_iff_toInt_le, h0]
          have q3 : ca.toInt ≠ -1 := fun e => q2 (Int64.toInt_inj.mp (e.trans hm.symm))
          omega
      · rw [zB_f q] at h
        cases h
    · rintro (rfl | h)
      · decide
      · by_cases q : (0 : Int64) ≤ ca ∧ ca ≤ 1000000000000
        · refine zB_t ⟨?_, q.2⟩
          have q1 := q.1
          rw [Int64.le_iff_toInt_le, h0] at q1
          rw [Int64.le_iff_toInt_le, hm]
          omega
        · rw [zB_f q] at h
          cases h
  rw [e1, e2]
  unfold zSizeB
  constructor
  · rintro ⟨h1, h2, h3⟩
    by_cases q0 : so = 0
    · rw [if_pos q0] at h1
      exact ⟨Or.inl q0, by rw [if_pos q0]; exact h1, h2, h3⟩
    · rw [if_neg q0] at h1
      by_cases q1 : so = 1 ∨ so = 2
      · rw [if_pos q1] at h1
        exact ⟨Or.inr q1, by rw [if_neg q0]; exact h1, h2, h3⟩
      · rw [if_neg q1] at h1
        cases h1
  · rintro ⟨h1, h2, h3, h4⟩
    by_cases q0 : so = 0
    · rw [if_pos q0] at h2 ⊢
      exact ⟨h2, h3, h4⟩
    · rw [if_neg q0] at h2 ⊢
      rw [if_pos (h1.resolve_left q0)]
      exact ⟨h2, h3, h4⟩
theorem mIn_ne {v a b : Int64} (h : ¬ mIn v a b = 0) : mIn v a b = 1 := (mIn_01 v a b).resolve_left h
/-- a bit is 0 or 1 -/
theorem zBit01 (x : Int32) : x &&& 1 = 0 ∨ x &&& 1 = 1 := by
  have h : (x &&& 1).toBitVec.toNat = x.toBitVec.toNat % 2 := by
    rw [Int32.toBitVec_and]
    exact (BitVec.toNat_and _ _).trans (Nat.and_one_is_mod _)
  rcases Nat.mod_two_eq_zero_or_one x.toBitVec.toNat with q | q
  · exact Or.inl (Int32.toBitVec_inj.mp (BitVec.eq_of_toNat_eq (by rw [h, q]; rfl)))
  · exact Or.inr (Int32.toBitVec_inj.mp (BitVec.eq_of_toNat_eq (by rw [h, q]; rfl)))
