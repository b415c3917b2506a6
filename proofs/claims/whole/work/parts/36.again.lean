/-! ===== pays worked anew, one after the other ===== -/
theorem zSum_congr {f g : Nat → Int64} : ∀ {n : Nat}, (∀ i : Nat, i < n → f i = g i) → zSum f n = zSum g n
  | 0, _ => rfl
  | n + 1, h => by
    show zSum f n + f n = zSum g n + g n
    rw [zSum_congr (fun i hi => h i (by omega)), h n (by omega)]
theorem zSumU_congr {bo : Nat → Int32} {f g : Nat → Int64} : ∀ {n : Nat}, (∀ i : Nat, i < n → f i = g i) → zSumU bo f n = zSumU bo g n
  | 0, _ => rfl
  | n + 1, h => by
    show (if bo n = 0 then zSumU bo f n + f n else zSumU bo f n) = (if bo n = 0 then zSumU bo g n + g n else zSumU bo g n)
    rw [zSumU_congr (fun i hi => h i (by omega)), h n (by omega)]
theorem zWk_congr {selE selL has : Nat → Bool} {d1 d2 : Nat → Int64} {wh : Int64 → Int64} {ex : Int64} {bo : Int32} {V PT : Nat → Int64} (h : ∀ i : Nat, i < 8 → d1 i = d2 i) : zWkV selE selL has d1 wh ex bo V PT = zWkV selE selL has d2 wh ex bo V PT ∧ zWkL selE selL has d1 wh ex bo V PT = zWkL selE selL has d2 wh ex bo V PT := by
  have e1 : ∀ (sel : Nat → Bool) (left : Int64) (f : Nat → Int64), zTk sel has d1 left f 8 = zTk sel has d2 left f 8 := fun sel left f => zTk_congr 8 h 8 (Nat.le_refl _)
  constructor
  · funext k
    simp only [zWkV, zWkL, e1]
  · simp only [zWkL, e1]
/-- one pay's lines, by those ahead of it: V, P all lines and parts; v, pt its own as they were -/
def zStV (de so : Nat → Int32) (si ca bs : Nat → Int64) (nd : Nat) (bo br pe me : Nat → Int32) (re cr ex : Nat → Int64) (en : Nat → Int32) (F : Nat → Nat → Int64) (G : Nat → Nat → Int32) (nt : Nat → Nat) (V P : Nat → Nat → Int64) (i : Nat) (v pt : Nat → Int64) : Nat → Int64 :=
  zWkV (zSel de nd 1) (zSel de nd 0) (zHasF (en i)) (zDueF so si ca bs (bo i) (v 0) (zSum (fun j => V j 0) i) (fun k => zSum (fun j => P j k) i)) (zWh (F i) (G i) (nt i) (pe i) (me i) (re i) (cr i) (bo i) (br i) (zUs bo i) (zSumU bo (fun j => V j 2) i) (zSumU bo (fun j => V j 3) i)) (ex i) (bo i) v pt
def zStP (de so : Nat → Int32) (si ca bs : Nat → Int64) (nd : Nat) (bo br pe me : Nat → Int32) (re cr ex : Nat → Int64) (en : Nat → Int32) (F : Nat → Nat → Int64) (G : Nat → Nat → Int32) (nt : Nat → Nat) (V P : Nat → Nat → Int64) (i : Nat) (v pt : Nat → Int64) : Nat → Int64 :=
  (zWkL (zSel de nd 1) (zSel de nd 0) (zHasF (en i)) (zDueF so si ca bs (bo i) (v 0) (zSum (fun j => V j 0) i) (fun k => zSum (fun j => P j k) i)) (zWh (F i) (G i) (nt i) (pe i) (me i) (re i) (cr i) (bo i) (br i) (zUs bo i) (zSumU bo (fun j => V j 2) i) (zSumU bo (fun j => V j 3) i)) (ex i) (bo i) v pt).2
section ZAG
variable {de so : Nat → Int32} {si ca bs : Nat → Int64} {nd : Nat} {bo br pe me : Nat → Int32} {re cr ex : Nat → Int64} {en : Nat → Int32} {F : Nat → Nat → Int64} {G : Nat → Nat → Int32} {nt : Nat → Nat} {V P V2 P2 : Nat → Nat → Int64}
theorem zSt_congr {i : Nat} {v pt : Nat → Int64} (h : ∀ j : Nat, j < i → V2 j = V j ∧ P2 j = P j) : zStV de so si ca bs nd bo br pe me re cr ex en F G nt V2 P2 i v pt = zStV de so si ca bs nd bo br pe me re cr ex en F G nt V P i v pt ∧ zStP de so si ca bs nd bo br pe me re cr ex en F G nt V2 P2 i v pt = zStP de so si ca bs nd bo br pe me re cr ex en F G nt V P i v pt := by
  have e0 : zSum (fun j => V2 j 0) i = zSum (fun j => V j 0) i := zSum_congr (fun j hj => by rw [(h j hj).1])
  have e1 : (fun k => zSum (fun j => P2 j k) i) = (fun k => zSum (fun j => P j k) i) := funext (fun k => zSum_congr (fun j hj => by rw [(h j hj).2]))
  have e2 : zSumU bo (fun j => V2 j 2) i = zSumU bo (fun j => V j 2) i := zSumU_congr (fun j hj => by rw [(h j hj).1])
  have e3 : zSumU bo (fun j => V2 j 3) i = zSumU bo (fun j => V j 3) i := zSumU_congr (fun j hj => by rw [(h j hj).1])
  unfold zStV zStP
  rw [e0, e1, e2, e3]
  exact ⟨rfl, rfl⟩
end ZAG
theorem zPays.upd {cs : Nat → ClassId} {w u : zw} {PR : Nat → Option Nat} {PA TE PP : Nat → Nat} {bo br : Nat → Int32} {V PT : Nat → Nat → Int64} {n i : Nat} {L : List (Nat × va_E)} {nv np : Nat → Int64} (h : zPays cs w PR PA TE PP bo br V PT n) (hx : zEx w u L) (h1 : u (PA i) = some (zPayE (TE i) (PP i) (bo i) (br i) nv)) (h2 : u (PP i) = some (eJ cs 8 np)) (hn : ∀ j : Nat, j < n → j ≠ i → (∀ q ∈ L, PA j ≠ q.1) ∧ ∀ q ∈ L, PP j ≠ q.1) : zPays cs u PR PA TE PP bo br (va_up V i nv) (va_up PT i np) n := by
  intro j hj
  by_cases hji : j = i
  · subst hji
    rw [va_up_self, va_up_self]
    exact ⟨(h j hj).1, h1, h2⟩
  · rw [va_up_ne _ _ hji, va_up_ne _ _ hji]
    exact ⟨(h j hj).1, hx.old (h j hj).2.1 (hn j hj hji).1, hx.old (h j hj).2.2 (hn j hj hji).2⟩
/-- how many nets are others, of those from m on -/
def zOth (V V2 : Nat → Nat → Int64) (m : Nat) : Nat → Nat
  | 0 => 0
  | j + 1 => if V2 (m + j) 6 = V (m + j) 6 then zOth V V2 m j else zOth V V2 m j + 1
theorem zOth_congr {V V2 V3 : Nat → Nat → Int64} {m : Nat} : ∀ {j : Nat}, (∀ i : Nat, i < m + j → V3 i = V2 i) → zOth V V3 m j = zOth V V2 m j
  | 0, _ => rfl
  | j + 1, h => by
    show (if V3 (m + j) 6 = V (m + j) 6 then zOth V V3 m j else zOth V V3 m j + 1) = (if V2 (m + j) 6 = V (m + j) 6 then zOth V V2 m j else zOth V V2 m j + 1)
    rw [zOth_congr (fun i hi => h i (by omega)), h (m + j) (by omega)]
theorem zUp_lt {α : Type} {f : Nat → α} {i k : Nat} {v : α} (h : i < k) : va_up f k v i = f i := va_up_ne _ _ (by omega)
theorem zSum_up {V : Nat → Nat → Int64} {i : Nat} {nv : Nat → Int64} (k : Nat) : zSum (fun x => V x k) i + nv k = zSum (fun x => va_up V i nv x k) (i + 1) := by
  show _ = zSum (fun x => va_up V i nv x k) i + va_up V i nv i k
  rw [va_up_self, zSum_congr (f := fun x => va_up V i nv x k) (g := fun x => V x k) (fun x hx => by rw [zUp_lt hx])]
theorem zSumU_up {bo : Nat → Int32} {V : Nat → Nat → Int64} {i : Nat} {nv : Nat → Int64} (k : Nat) : (if bo i = 0 then zSumU bo (fun x => V x k) i + nv k else zSumU bo (fun x => V x k) i) = zSumU bo (fun x => va_up V i nv x k) (i + 1) := by
  show _ = (if bo i = 0 then zSumU bo (fun x => va_up V i nv x k) i + va_up V i nv i k else zSumU bo (fun x => va_up V i nv x k) i)
  rw [va_up_self, zSumU_congr (f := fun x => va_up V i nv x k) (g := fun x => V x k) (fun x hx => by rw [zUp_lt hx])]
theorem nI_addc (x : Int32) (j : Nat) : x + nI j + 1 = x + nI (j + 1) := by
  rw [Int32.add_assoc, nI_1]
/-- the tables, the pays' terms -/
def zTabs (cs : Nat → ClassId) (w : zw) (TA TF TG tn : Nat → Nat) (FF : Nat → Nat → Int64) (GF : Nat → Nat → Int32) (tt : Nat → Int32) (nb : Nat) : Prop := ∀ k : Nat, k < nb → w (TA k) = some (.inr (3, [.ref (TF k), .ref (TG k), .int (nI (tn k)), .int (tt k)])) ∧ w (TF k) = some (eJ cs 12 (FF k)) ∧ w (TG k) = some (eI cs 12 (GF k)) ∧ tn k ≤ 12
def zTerm (w : zw) (TE tx TA : Nat → Nat) (pe me : Nat → Int32) (re cr ex : Nat → Int64) (en : Nat → Int32) (nb n : Nat) : Prop := ∀ i : Nat, i < n → tx i < nb ∧ w (TE i) = some (.inr (4, [.ref (TA (tx i)), .int (pe i), .int (me i), .long (re i), .long (cr i), .long (ex i), .int (en i)]))
