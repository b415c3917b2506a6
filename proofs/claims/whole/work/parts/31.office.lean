/-! ===== the office's workers as a family ===== -/
theorem zi2l_of {x : Int32} {k : Nat} (hk : k < 2 ^ 31) (h : x.toInt64 = lN k) : x = nI k := by
  apply Int32.toInt_inj.mp
  rw [nI_toInt hk, ← Int32.toInt_toInt64, h, lN_toInt hk]
theorem zi2l_ne {x : Int32} {n : Nat} (hn : n < 2 ^ 31) (h : ∀ k : Nat, k < n → x ≠ nI k) : ∀ k : Nat, k < n → x.toInt64 ≠ lN k := fun k hk q => h k hk (zi2l_of (by omega) q)
/-- the workers: the first nw of 10, each with its pays -/
def zWks (cs : Nat → ClassId) (w : zw) (WR : Nat → Option Nat) (WA WT WP WS hd : Nat → Nat) (se : Nat → Int64) (PR : Nat → Nat → Option Nat) (PA TE PP : Nat → Nat → Nat) (bo br : Nat → Nat → Int32) (V PT : Nat → Nat → Nat → Int64) (nw : Nat) : Prop :=
  nw ≤ 10 ∧ (∀ k : Nat, k < nw → WR k = some (WA k) ∧ w (WA k) = some (.inr (5, [.ref (WT k), .ref (WP k), .ref (WS k), .int (nI (hd k)), .long (se k)])) ∧ w (WP k) = some (eR cs 4 60 (PR k)) ∧ hd k ≤ 60 ∧ zPays cs w (PR k) (PA k) (TE k) (PP k) (bo k) (br k) (V k) (PT k) (hd k)) ∧ ∀ k : Nat, nw ≤ k → k < 10 → WR k = none
theorem zSum_min {f : Nat → Int64} {i n : Nat} (h : i < n) : zSum f (min (i + 1) n) = zSum f (min i n) + f i := by
  rw [Nat.min_eq_left (by omega), Nat.min_eq_left (by omega)]
  rfl
theorem zSum_min2 {f : Nat → Int64} {i n : Nat} (h : n ≤ i) : zSum f (min (i + 1) n) = zSum f (min i n) := by
  rw [Nat.min_eq_right (by omega), Nat.min_eq_right (by omega)]
