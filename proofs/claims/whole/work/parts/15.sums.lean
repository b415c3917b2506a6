/-! ===== sums over the pays ===== -/
theorem zEx.none {w w2 : zw} {L : List (Nat × va_E)} (h : zEx w w2 L) {q : Nat} (hq : w2 q = none) : w q = none ∧ ∀ x ∈ L, q ≠ x.1 := by
  have hn : ∀ x ∈ L, q ≠ x.1 := fun x hx e => by
    rw [e, h.1 x hx] at hq
    cases hq
  exact ⟨(h.2 q hn).symm.trans hq, hn⟩
def zSum (f : Nat → Int64) : Nat → Int64
  | 0 => 0
  | n + 1 => zSum f n + f n
/-- how many of the first n are usual ones, and sums over these -/
def zUs (bo : Nat → Int32) : Nat → Nat
  | 0 => 0
  | n + 1 => if bo n = 0 then zUs bo n + 1 else zUs bo n
def zSumU (bo : Nat → Int32) (f : Nat → Int64) : Nat → Int64
  | 0 => 0
  | n + 1 => if bo n = 0 then zSumU bo f n + f n else zSumU bo f n
theorem zUs_le (bo : Nat → Int32) : ∀ n : Nat, zUs bo n ≤ n
  | 0 => Nat.le_refl 0
  | n + 1 => by
    have h := zUs_le bo n
    unfold zUs
    split <;> omega
def zClr (f : Nat → Int64) (i : Nat) : Nat → Int64 := fun k => if k < i then 0 else f k
theorem zClr_0 (f : Nat → Int64) : zClr f 0 = f := by
  funext k
  simp [zClr]
theorem zClr_s (f : Nat → Int64) (i : Nat) : vp_updL (zClr f i) i 0 = zClr f (i + 1) := by
  funext k
  unfold vp_updL zClr
  by_cases h1 : k = i
  · simp [h1]
  · by_cases h2 : k < i
    · simp [h1, h2, Nat.lt_succ_of_lt h2]
    · simp [h1, h2, show ¬ k < i + 1 by omega]
/-- the first i of f have g added -/
def zAdd (f g : Nat → Int64) (i : Nat) : Nat → Int64 := fun k => if k < i then f k + g k else f k
theorem zAdd_0 (f g : Nat → Int64) : zAdd f g 0 = f := by
  funext k
  simp [zAdd]
theorem zAdd_s (f g : Nat → Int64) (i : Nat) : vp_updL (zAdd f g i) i (zAdd f g i i + g i) = zAdd f g (i + 1) := by
  funext k
  unfold vp_updL zAdd
  by_cases h1 : k = i
  · simp [h1]
  · by_cases h2 : k < i
    · simp [h1, h2, Nat.lt_succ_of_lt h2]
    · simp [h1, h2, show ¬ k < i + 1 by omega]
/-- Worker.payAt -/
def zPayAt (PR : Nat → Option Nat) (n : Nat) (k : Int32) : Option Nat := if 0 ≤ k ∧ k < nI n then PR k.toNatClampNeg else none
theorem zPayAt_in {PR : Nat → Option Nat} {n i : Nat} (hi : i < n) (hn : n < 2 ^ 31) : zPayAt PR n (nI i) = PR i := by
  unfold zPayAt
  rw [if_pos ⟨nI_pos' (by omega), nI_lt hi hn⟩, nI_clamp (by omega)]
/-- one pay's cell: V 0 .. 7 its lines -/
abbrev zPayE (te pp : Nat) (bo br : Int32) (V : Nat → Int64) : va_E := .inr (2, [.ref te, .ref pp, .int bo, .int br, .long (V 0), .long (V 1), .long (V 2), .long (V 3), .long (V 4), .long (V 5), .long (V 6), .long (V 7)])
/-- the rows of a worker's first n pays -/
def zPays (cs : Nat → ClassId) (w : zw) (PR : Nat → Option Nat) (PA TE PP : Nat → Nat) (bo br : Nat → Int32) (V PT : Nat → Nat → Int64) (n : Nat) : Prop := ∀ i : Nat, i < n → PR i = some (PA i) ∧ w (PA i) = some (zPayE (TE i) (PP i) (bo i) (br i) (V i)) ∧ w (PP i) = some (eJ cs 8 (PT i))
/-- Pay.tell by its number -/
def zLine (what bo : Int32) (V : Nat → Int64) : Int64 := zTell what bo (V 0) (V 1) (V 2) (V 3) (V 4) (V 5) (V 6) (V 7)
/-- Worker.totalLine -/
def zTot (bo : Nat → Int32) (V : Nat → Nat → Int64) (n : Nat) (what : Int32) : Int64 := zSum (fun i => zLine what (bo i) (V i)) n
/-- Worker.total -/
def zTotal (bo : Nat → Int32) (V : Nat → Nat → Int64) (n : Nat) (settled : Int64) (what : Int32) : Int64 := if what = 8 then (nI n).toInt64 else if what = 9 then settled else if what = 10 then zTot bo V n 6 - zTot bo V n 7 - settled else zTot bo V n what
/-- Ahead's cell over the first n pays -/
abbrev zAhE (ap : Nat) (bo : Nat → Int32) (V : Nat → Nat → Int64) (n : Nat) : va_E := .inr (0, [.ref ap, .long (zSum (fun i => V i 0) n), .int (nI (zUs bo n)), .long (zSumU bo (fun i => V i 2) n), .long (zSumU bo (fun i => V i 3) n)])
theorem zI32_nlt {x y : Int32} (h : ¬ x < y) : y ≤ x := by
  rw [Int32.lt_iff_toInt_lt] at h
  rw [Int32.le_iff_toInt_le]
  omega
theorem zI32_nle {x y : Int32} (h : ¬ x ≤ y) : y < x := by
  rw [Int32.le_iff_toInt_le] at h
  rw [Int32.lt_iff_toInt_lt]
  omega
theorem zin_of {k : Int32} {n N : Nat} (h0 : ¬ k < 0) (h1 : k < nI n) (hn : n ≤ N) (hN : N < 2 ^ 31) : vp_in k N := by
  rw [vp_in_iff]
  rw [Int32.lt_iff_toInt_lt, nI_toInt (by omega)] at h1
  rw [Int32.lt_iff_toInt_lt, Int32.toInt_zero] at h0
  omega
theorem zlt_of {k : Int32} {n N : Nat} (h1 : k < nI n) (hn : n ≤ N) (hN : N < 2 ^ 31) : k < nI N := by
  rw [Int32.lt_iff_toInt_lt, nI_toInt (by omega)] at h1 ⊢
  omega
theorem zUs_s (bo : Nat → Int32) (i : Nat) : (if bo i = 0 then nI (zUs bo i) + 1 else nI (zUs bo i)) = nI (zUs bo (i + 1)) := by
  have e : zUs bo (i + 1) = if bo i = 0 then zUs bo i + 1 else zUs bo i := rfl
  rw [e]
  split
  · exact nI_1 _
  · rfl
theorem zSumU_s (bo : Nat → Int32) (f : Nat → Int64) (i : Nat) : (if bo i = 0 then zSumU bo f i + f i else zSumU bo f i) = zSumU bo f (i + 1) := rfl
