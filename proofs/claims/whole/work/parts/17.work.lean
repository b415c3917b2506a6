/-! ===== how a pay is worked, in the machine's numbers ===== -/
def zTk (sel has : Nat → Bool) (due : Nat → Int64) (left : Int64) (f : Nat → Int64) : Nat → Int64 × (Nat → Int64)
  | 0 => (left, f)
  | i + 1 => if sel i = true then ((zTk sel has due left f i).1 - (if has i = true then zMin (zTk sel has due left f i).1 (due i) else 0), vp_updL (zTk sel has due left f i).2 i (if has i = true then zMin (zTk sel has due left f i).1 (due i) else 0)) else zTk sel has due left f i
theorem zTk_skip {sel has : Nat → Bool} {due : Nat → Int64} {left : Int64} {f : Nat → Int64} {i : Nat} {rs : Int64} {ff : Nat → Int64} (h : zTk sel has due left f i = (rs, ff)) (hs : sel i = false) : zTk sel has due left f (i + 1) = (rs, ff) := by
  rw [zTk, if_neg (by rw [hs]; decide), h]
theorem zTk_has {sel has : Nat → Bool} {due : Nat → Int64} {left : Int64} {f : Nat → Int64} {i : Nat} {rs : Int64} {ff : Nat → Int64} (h : zTk sel has due left f i = (rs, ff)) (hs : sel i = true) (hh : has i = true) : zTk sel has due left f (i + 1) = (rs - zMin rs (due i), vp_updL ff i (zMin rs (due i))) := by
  rw [zTk, if_pos hs, if_pos hh, h]
theorem zTk_not {sel has : Nat → Bool} {due : Nat → Int64} {left : Int64} {f : Nat → Int64} {i : Nat} {rs : Int64} {ff : Nat → Int64} (h : zTk sel has due left f i = (rs, ff)) (hs : sel i = true) (hh : has i = false) : zTk sel has due left f (i + 1) = (rs - 0, vp_updL ff i 0) := by
  rw [zTk, if_pos hs, if_neg (by rw [hh]; decide), h]
/-- the office's deductions: the first nd of 8 -/
def zDeds (w : zw) (DR : Nat → Option Nat) (DA : Nat → Nat) (de so : Nat → Int32) (si ca bs : Nat → Int64) (nd : Nat) : Prop := nd ≤ 8 ∧ (∀ i : Nat, i < nd → DR i = some (DA i) ∧ w (DA i) = some (.inr (1, [.int (de i), .int (so i), .long (si i), .long (ca i), .long (bs i)]))) ∧ ∀ i : Nat, nd ≤ i → i < 8 → DR i = none
def zSel (de : Nat → Int32) (nd : Nat) (early : Int32) : Nat → Bool := fun i => decide (i < nd ∧ de i = early)
def zHasF (en : Int32) : Nat → Bool := fun i => decide (¬ zHas en (nI i) = 0)
def zDueF (so : Nat → Int32) (si ca bs : Nat → Int64) (bo : Int32) (gr ag : Int64) (AP : Nat → Int64) : Nat → Int64 := fun i => zDue (so i) (si i) (ca i) (bs i) bo gr ag (AP i)
/-- PayLedger.withheld, of income; k usual pays ahead -/
def zWh (F : Nat → Int64) (G : Nat → Int32) (nt : Nat) (pe me : Int32) (re cr : Int64) (bo br : Int32) (k : Nat) (ai ab : Int64) (inc : Int64) : Int64 :=
  if bo = 0 then (if me = 0 then zRound (zDuty F G nt re cr (inc * pe.toInt64)) pe.toInt64 else zMax0 (zRound (zDuty F G nt re cr ((ai + inc) * pe.toInt64 / lN (k + 1)) * lN (k + 1)) pe.toInt64 - ab)) else zRound (inc * br.toInt64) 1000000
/-- PayLedger.work: the lines, the parts -/
def zWkL (selE selL has : Nat → Bool) (due : Nat → Int64) (wh : Int64 → Int64) (ex : Int64) (bo : Int32) (V PT : Nat → Int64) : Int64 × (Nat → Int64) := zTk selL has due ((zTk selE has due (V 0) PT 8).1 - zMin (zTk selE has due (V 0) PT 8).1 (wh (zTk selE has due (V 0) PT 8).1) - (if bo = 0 then zMin ((zTk selE has due (V 0) PT 8).1 - zMin (zTk selE has due (V 0) PT 8).1 (wh (zTk selE has due (V 0) PT 8).1)) ex else 0)) (zTk selE has due (V 0) PT 8).2 8
def zWkV (selE selL has : Nat → Bool) (due : Nat → Int64) (wh : Int64 → Int64) (ex : Int64) (bo : Int32) (V PT : Nat → Int64) : Nat → Int64 := fun k =>
  if k = 0 then V 0 else if k = 1 then V 0 - (zTk selE has due (V 0) PT 8).1 else if k = 2 then (zTk selE has due (V 0) PT 8).1 else if k = 3 then zMin (zTk selE has due (V 0) PT 8).1 (wh (zTk selE has due (V 0) PT 8).1) else
  if k = 4 then (if bo = 0 then zMin ((zTk selE has due (V 0) PT 8).1 - zMin (zTk selE has due (V 0) PT 8).1 (wh (zTk selE has due (V 0) PT 8).1)) ex else 0) else
  if k = 5 then (zTk selE has due (V 0) PT 8).1 - zMin (zTk selE has due (V 0) PT 8).1 (wh (zTk selE has due (V 0) PT 8).1) - (if bo = 0 then zMin ((zTk selE has due (V 0) PT 8).1 - zMin (zTk selE has due (V 0) PT 8).1 (wh (zTk selE has due (V 0) PT 8).1)) ex else 0) - (zWkL selE selL has due wh ex bo V PT).1 else
  if k = 6 then (zWkL selE selL has due wh ex bo V PT).1 else V 7
theorem zPays.ex {cs : Nat → ClassId} {w u : zw} {PR : Nat → Option Nat} {PA TE PP : Nat → Nat} {bo br : Nat → Int32} {V PT : Nat → Nat → Int64} {n : Nat} {L : List (Nat × va_E)} (h : zPays cs w PR PA TE PP bo br V PT n) (hx : zEx w u L) (hn : ∀ j : Nat, j < n → (∀ q ∈ L, PA j ≠ q.1) ∧ ∀ q ∈ L, PP j ≠ q.1) : zPays cs u PR PA TE PP bo br V PT n := fun j hj => ⟨(h j hj).1, hx.old (h j hj).2.1 (hn j hj).1, hx.old (h j hj).2.2 (hn j hj).2⟩
theorem zDeds.ex {w u : zw} {DR : Nat → Option Nat} {DA : Nat → Nat} {de so : Nat → Int32} {si ca bs : Nat → Int64} {nd : Nat} {L : List (Nat × va_E)} (h : zDeds w DR DA de so si ca bs nd) (hx : zEx w u L) (hn : ∀ j : Nat, j < nd → ∀ q ∈ L, DA j ≠ q.1) : zDeds u DR DA de so si ca bs nd := ⟨h.1, fun j hj => ⟨(h.2.1 j hj).1, hx.old (h.2.1 j hj).2 (hn j hj)⟩, h.2.2⟩
theorem zWk_E {selE selL has : Nat → Bool} {due : Nat → Int64} {wh : Int64 → Int64} {ex : Int64} {bo : Int32} {V PT : Nat → Int64} {tk1 tk2 : Int64 × (Nat → Int64)} {b1 m1 : Int64} (te pp : Nat) (br : Int32) (h1 : tk1 = zTk selE has due (V 0) PT 8) (h2 : b1 = zMin tk1.1 (wh tk1.1)) (h3 : m1 = if bo = 0 then zMin (tk1.1 - b1) ex else 0) (h4 : tk2 = zTk selL has due (tk1.1 - b1 - m1) tk1.2 8) :
    zPayE te pp bo br (zWkV selE selL has due wh ex bo V PT) = .inr (2, [.ref te, .ref pp, .int bo, .int br, .long (V 0), .long (V 0 - tk1.1), .long tk1.1, .long b1, .long m1, .long (tk1.1 - b1 - m1 - tk2.1), .long tk2.1, .long (V 7)]) ∧ (zWkL selE selL has due wh ex bo V PT).2 = tk2.2 := by
  subst h1
  subst h2
  subst h3
  subst h4
  exact ⟨rfl, rfl⟩
/-- eight lines -/
def zL8 (a0 a1 a2 a3 a4 a5 a6 a7 : Int64) : Nat → Int64
  | 0 => a0
  | 1 => a1
  | 2 => a2
  | 3 => a3
  | 4 => a4
  | 5 => a5
  | 6 => a6
  | _ => a7
theorem zTk_congr {sel has : Nat → Bool} {d1 d2 : Nat → Int64} {left : Int64} {f : Nat → Int64} (n : Nat) (h : ∀ i : Nat, i < n → d1 i = d2 i) : ∀ i : Nat, i ≤ n → zTk sel has d1 left f i = zTk sel has d2 left f i
  | 0, _ => rfl
  | i + 1, hi => by
    rw [zTk, zTk, zTk_congr n h i (by omega), h i (by omega)]
