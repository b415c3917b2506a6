/-! ===== the model: how its arrays go on ===== -/
theorem vpL_self (f : Nat → Int64) (k : Nat) (v : Int64) : vp_updL f k v k = v := if_pos rfl
theorem vpL_ne (f : Nat → Int64) {k j : Nat} (v : Int64) (h : j ≠ k) : vp_updL f k v j = f j := if_neg h
theorem up_self (f : Nat → Int32) (k : Nat) (v : Int32) : upd f k v k = v := if_pos rfl
theorem up_ne (f : Nat → Int32) {k j : Nat} (v : Int32) (h : j ≠ k) : upd f k v j = f j := if_neg h
def mSW : List Nat := [37, 38, 39, 40, 41, 42, 43]
def mJ7 (J : Nat → Nat → Int64) (a b c d e f g : Nat → Int64) : Nat → Nat → Int64
  | 37 => a
  | 38 => b
  | 39 => c
  | 40 => d
  | 41 => e
  | 42 => f
  | 43 => g
  | s => J s
theorem mJ7_out {J : Nat → Nat → Int64} {a b c d e f g : Nat → Int64} : mOut J (mJ7 J a b c d e f g) := by
  intro s hs
  unfold mJ7
  split <;> first | exact absurd (by decide) hs | rfl
theorem zMZ.trans {cs : Nat → ClassId} {w u u2 : zw} {ad : Nat → Nat} {SL : List Nat} {J J' : Nat → Nat → Int64} {K K' : Nat → Nat → Int32} (h1 : zMZ cs w u ad SL J K) (h2 : zMZ cs u u2 ad SL J' K') : zMZ cs w u2 ad SL J' K' := by
  refine ⟨h2.1, fun a ha => ?_⟩
  rw [h2.2 a ha]
  refine h1.2 a (fun q hq => ?_)
  obtain ⟨t, ht, rfl⟩ := List.mem_map.mp hq
  exact ha (ad t, mcell cs J' K' t) (List.mem_map.mpr ⟨t, ht, rfl⟩)
theorem zMZ.refl {cs : Nat → ClassId} {w : zw} {ad : Nat → Nat} {SL : List Nat} {J : Nat → Nat → Int64} {K : Nat → Nat → Int32} (hM : zMA cs w ad J K) (h : ∀ s ∈ SL, s ∈ mSl) : zMZ cs w w ad SL J K := by
  refine ⟨fun q hq => ?_, fun a _ => rfl⟩
  obtain ⟨t, ht, rfl⟩ := List.mem_map.mp hq
  exact hM t (h t ht)
theorem zMZ.mm {cs : Nat → ClassId} {w u : zw} {ad : Nat → Nat} {SL : List Nat} {J J' : Nat → Nat → Int64} {K K' : Nat → Nat → Int32} {mm : Nat} {o : Nat × List Value} (h : zMZ cs w u ad SL J' K') (hM : zMA cs w ad J K) (hm : w mm = some (.inr o)) (hs : ∀ s ∈ SL, s ∈ mSl) : u mm = some (.inr o) := by
  refine h.old hm (fun q hq => ?_)
  obtain ⟨t, ht, rfl⟩ := List.mem_map.mp hq
  exact (hM.ne hm (hs t ht)).symm
theorem mAh_step {J J' : Nat → Nat → Int64} {k : Nat} {V P : Nat → Nat → Int64} {g : Nat → Int64} (hA : mAh J k V P) (h1 : J' 38 = vp_updL (J 38) k (V k 1)) (h2 : J' 39 = vp_updL (J 39) k (V k 2)) (h3 : J' 40 = vp_updL (J 40) k (V k 3)) (h4 : J' 41 = vp_updL (J 41) k (V k 4)) (h5 : J' 42 = vp_updL (J 42) k (V k 5)) (h6 : J' 43 = vp_updL (J 43) k (V k 6)) (h7 : J' 37 = zRow (J 37) k g) (hg : ∀ d : Nat, d < 8 → P k d = g d) : mAh J' (k + 1) V P := by
  intro i hi
  rw [h1, h2, h3, h4, h5, h6, h7]
  by_cases hk : i = k
  · subst hk
    exact ⟨⟨vpL_self _ _ _, vpL_self _ _ _, vpL_self _ _ _, vpL_self _ _ _, vpL_self _ _ _, vpL_self _ _ _⟩, fun d hd => (zRow_at hd).trans (hg d hd).symm⟩
  · have h := hA i (by omega)
    refine ⟨?_, fun d hd => (zRow_lt (by omega) hd).trans (h.2 d hd)⟩
    rw [vpL_ne _ _ hk, vpL_ne _ _ hk, vpL_ne _ _ hk, vpL_ne _ _ hk, vpL_ne _ _ hk, vpL_ne _ _ hk]
    exact h.1
/-- the lines of one pay by its steps -/
theorem mWk_E {selE selL has : Nat → Bool} {due : Nat → Int64} {wh : Int64 → Int64} {ex : Int64} {bo : Int32} {V PT : Nat → Int64} {tk1 tk2 : Int64 × (Nat → Int64)} {b1 m1 : Int64} (h1 : tk1 = zTk selE has due (V 0) PT 8) (h2 : b1 = zMin tk1.1 (wh tk1.1)) (h3 : m1 = if bo = 0 then zMin (tk1.1 - b1) ex else 0) (h4 : tk2 = zTk selL has due (tk1.1 - b1 - m1) tk1.2 8) :
    zWkV selE selL has due wh ex bo V PT 1 = V 0 - tk1.1 ∧ zWkV selE selL has due wh ex bo V PT 2 = tk1.1 ∧ zWkV selE selL has due wh ex bo V PT 3 = b1 ∧ zWkV selE selL has due wh ex bo V PT 4 = m1 ∧ zWkV selE selL has due wh ex bo V PT 5 = tk1.1 - b1 - m1 - tk2.1 ∧ zWkV selE selL has due wh ex bo V PT 6 = tk2.1 ∧ (zWkL selE selL has due wh ex bo V PT).2 = tk2.2 := by
  subst h1
  subst h2
  subst h3
  subst h4
  exact ⟨rfl, rfl, rfl, rfl, rfl, rfl, rfl⟩
/-- the model's pay k is worked -/
def mWkd (nd : Nat) (de so : Nat → Int32) (si ca bs : Nat → Int64) (bo rb pe me : Nat → Int32) (re cr ex : Nat → Int64) (en : Nat → Int32) (tx : Nat → Nat) (tn : Nat → Nat) (FF : Nat → Nat → Int64) (GF : Nat → Nat → Int32) (V P : Nat → Nat → Int64) (k : Nat) : Prop :=
  (∀ c : Nat, 1 ≤ c → c ≤ 6 → V k c = mStV de so si ca bs nd bo rb pe me re cr ex en (fun i => FF (tx i)) (fun i => GF (tx i)) (fun i => tn (tx i)) V P k (V k) (fun _ => 0) c) ∧ ∀ d : Nat, d < 8 → P k d = mStP de so si ca bs nd bo rb pe me re cr ex en (fun i => FF (tx i)) (fun i => GF (tx i)) (fun i => tn (tx i)) V P k (V k) (fun _ => 0) d
theorem zlN_ne0 {n : Nat} (h0 : 1 ≤ n) (h : n < 2 ^ 31) : lN n ≠ 0 := fun q => by
  have h2 := lN_toInt h
  rw [q] at h2
  rw [show (0 : Int64).toInt = 0 from rfl] at h2
  omega
