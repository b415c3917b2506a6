/-! ===== a world that is another but for some cells; new arrays; numbers ===== -/
def zEx (w w2 : zw) (L : List (Nat × va_E)) : Prop := (∀ q ∈ L, w2 q.1 = some q.2) ∧ ∀ a : Nat, (∀ q ∈ L, a ≠ q.1) → w2 a = w a
theorem zEx.at {w w2 : zw} {L : List (Nat × va_E)} (h : zEx w w2 L) (k : Nat) {a : Nat} {e : va_E} (hk : L[k]? = some (a, e)) : w2 a = some e := h.1 (a, e) (List.mem_of_getElem? hk)
theorem zEx.old {w w2 : zw} {L : List (Nat × va_E)} (h : zEx w w2 L) {a : Nat} {e : Option va_E} (ha : w a = e) (hn : ∀ q ∈ L, a ≠ q.1) : w2 a = e := (h.2 a hn).trans ha
theorem zEx.refl {w : zw} : zEx w w [] := ⟨fun _ h => (nomatch h), fun _ _ => rfl⟩
theorem zm0 {p : Nat × va_E → Prop} : ∀ q ∈ ([] : List (Nat × va_E)), p q := fun _ h => nomatch h
theorem zm1 {p : Nat × va_E → Prop} {x : Nat × va_E} {L : List (Nat × va_E)} (h : p x) (t : ∀ q ∈ L, p q) : ∀ q ∈ x :: L, p q := List.forall_mem_cons.mpr ⟨h, t⟩
theorem zup_none {w : zw} {a q : Nat} {e : va_E} (h : va_up w a (some e) q = none) : q ≠ a ∧ w q = none := by
  by_cases hq : q = a
  · subst hq
    rw [va_up_self] at h
    cases h
  · rw [va_up_ne _ _ hq] at h
    exact ⟨hq, h⟩
theorem znone_ne {w : zw} {a b : Nat} {e : va_E} (ha : w a = none) (hb : w b = some e) : b ≠ a := fun q => by rw [q, ha] at hb; cases hb
section ZN
variable {p : Program} {l : Launch} {e : Env} {R : Room} {s : State} {m : MethodId} {args : Array Value} {below : List Frame} {meth : Method} {c : Code} {H : Heap} {locs : List Loc} {cells slots : Nat} {Q : State → Prop}
variable {cc : ByteArray} {pc : Nat} {ls : Array Slot} {rest st0 : List Value} {D : va_G} {A : Nat → Prop} {w w0 : zw} {H0 : Heap} {cs : Nat → ClassId}
theorem zK_uniq {tys : List (ClassId × FieldType)} {cA c1 : ClassId} {ty : FieldType} {i : Nat} (hK : va_K D vwCl tys s) (hi : tys[i]? = some (c1, ty)) (hK2 : va_K D vwCl (tys ++ [(cA, ty)]) s) : cA = c1 := by
  have h1 := (hK.2 i _ hi).2
  have h2 := (hK2.2 tys.length (cA, ty) (by rw [List.getElem?_append_right (Nat.le_refl _), Nat.sub_self]; rfl)).2
  cases ty with
  | object C =>
    obtain ⟨_, _, -, -, -, f1⟩ := h1
    obtain ⟨_, _, -, -, -, f2⟩ := h2
    exact Option.some.inj (f2.symm.trans f1)
  | _ => exact Option.some.inj (Eq.trans (Eq.symm (show s.vm.findClass _ = some cA from h2)) (show s.vm.findClass _ = some c1 from h1))
theorem z_newJ (hexec : p.tables.exec = Jvm.exec) (hb : c.code = cc) (harr : (Cond.arrayClass .long).before args s = true) (hK : va_K D vwCl (zTy cs) s) (hS : zS A D w H0 H locs) {n : Int32} (N : Nat) (hn : ¬ n < 0) (hN : n.toNatClampNeg = N) (hbytes : N * componentBytes .long ≤ 536870912) (hcells : cells + 1 ≤ R.cells) (hslots : slots + N ≤ R.slots) (hdg : decode cc pc = .ok (.newarray .long, 2))
    (kk : ∀ (q : Nat) (H1 : Heap), w q = none → zS A D (va_up w q (some (eJ cs N (fun _ => 0)))) H0 H1 locs → W p l e R s m args below meth c H1 locs (cells + 1) (slots + N) Q (F0 m (pc + 2) ls (.ref q :: rest))) : W p l e R s m args below meth c H locs cells slots Q (F0 m pc ls (.int n :: rest)) := by
  obtain ⟨ws, hP, hD, hw⟩ := hS.list
  refine va_newa (atype := .long) (N' := N) (n := n) (ty := .long) (a0 := (N, .inr (.inl (fun _ => 0)))) hexec hb harr rfl hK hP hD hS.2.2.1 hS.2.2.2 (fun _ => rfl) hn hN hbytes hcells hslots hdg (fun q cA H1 hK2 h1 h2 h3 => ?_)
  have hc := zK_uniq hK (i := 1) rfl hK2
  subst hc
  exact kk q H1 (hS.push hw h1 h2 h3).2 (hS.push hw h1 h2 h3).1
theorem z_newI (hexec : p.tables.exec = Jvm.exec) (hb : c.code = cc) (harr : (Cond.arrayClass .int).before args s = true) (hK : va_K D vwCl (zTy cs) s) (hS : zS A D w H0 H locs) {n : Int32} (N : Nat) (hn : ¬ n < 0) (hN : n.toNatClampNeg = N) (hbytes : N * componentBytes .int ≤ 536870912) (hcells : cells + 1 ≤ R.cells) (hslots : slots + N ≤ R.slots) (hdg : decode cc pc = .ok (.newarray .int, 2))
    (kk : ∀ (q : Nat) (H1 : Heap), w q = none → zS A D (va_up w q (some (eI cs N (fun _ => 0)))) H0 H1 locs → W p l e R s m args below meth c H1 locs (cells + 1) (slots + N) Q (F0 m (pc + 2) ls (.ref q :: rest))) : W p l e R s m args below meth c H locs cells slots Q (F0 m pc ls (.int n :: rest)) := by
  obtain ⟨ws, hP, hD, hw⟩ := hS.list
  refine va_newa (atype := .int) (N' := N) (n := n) (ty := .int) (a0 := (N, .inl (fun _ => 0))) hexec hb harr rfl hK hP hD hS.2.2.1 hS.2.2.2 (fun _ => rfl) hn hN hbytes hcells hslots hdg (fun q cA H1 hK2 h1 h2 h3 => ?_)
  have hc := zK_uniq hK (i := 0) rfl hK2
  subst hc
  exact kk q H1 (hS.push hw h1 h2 h3).2 (hS.push hw h1 h2 h3).1
theorem z_newZ (hexec : p.tables.exec = Jvm.exec) (hb : c.code = cc) (harr : (Cond.arrayClass .boolean).before args s = true) (hK : va_K D vwCl (zTy cs) s) (hS : zS A D w H0 H locs) {n : Int32} (N : Nat) (hn : ¬ n < 0) (hN : n.toNatClampNeg = N) (hbytes : N * componentBytes .boolean ≤ 536870912) (hcells : cells + 1 ≤ R.cells) (hslots : slots + N ≤ R.slots) (hdg : decode cc pc = .ok (.newarray .boolean, 2))
    (kk : ∀ (q : Nat) (H1 : Heap), w q = none → zS A D (va_up w q (some (eZ cs N (fun _ => 0)))) H0 H1 locs → W p l e R s m args below meth c H1 locs (cells + 1) (slots + N) Q (F0 m (pc + 2) ls (.ref q :: rest))) : W p l e R s m args below meth c H locs cells slots Q (F0 m pc ls (.int n :: rest)) := by
  obtain ⟨ws, hP, hD, hw⟩ := hS.list
  refine va_newa (atype := .boolean) (N' := N) (n := n) (ty := .boolean) (a0 := (N, .inl (fun _ => 0))) hexec hb harr rfl hK hP hD hS.2.2.1 hS.2.2.2 (fun _ => rfl) hn hN hbytes hcells hslots hdg (fun q cA H1 hK2 h1 h2 h3 => ?_)
  have hc := zK_uniq hK (i := 2) rfl hK2
  subst hc
  exact kk q H1 (hS.push hw h1 h2 h3).2 (hS.push hw h1 h2 h3).1
theorem z_newR (hexec : p.tables.exec = Jvm.exec) (hb : c.code = cc) {own C : String} {index t0 : Nat} (hown : s.vm.findClass own = some m.cls) (hclink : (Cond.classLink own index C).before args s = true) (hover : va_AO C s) (ht : (zTy cs)[t0]? = some (cs t0, .object C)) (hK : va_K D vwCl (zTy cs) s) (hS : zS A D w H0 H locs) {n : Int32} (N : Nat) (hn : ¬ n < 0) (hN : n.toNatClampNeg = N) (hbytes : N * 4 ≤ 536870912) (hcells : cells + 1 ≤ R.cells) (hslots : slots + N ≤ R.slots) (hdg : decode cc pc = .ok (.anewarray index, 3))
    (kk : ∀ (q : Nat) (H1 : Heap), w q = none → zS A D (va_up w q (some (eR cs t0 N (fun _ => none)))) H0 H1 locs → W p l e R s m args below meth c H1 locs (cells + 1) (slots + N) Q (F0 m (pc + 3) ls (.ref q :: rest))) : W p l e R s m args below meth c H locs cells slots Q (F0 m pc ls (.int n :: rest)) := by
  obtain ⟨ws, hP, hD, hw⟩ := hS.list
  refine va_newq hexec hb hown hclink hover hK hP hD hS.2.2.1 hS.2.2.2 hn hN hbytes hcells hslots hdg (fun q cA H1 hK2 h1 h2 h3 => ?_)
  have hc := zK_uniq hK (i := t0) ht hK2
  subst hc
  exact kk q H1 (hS.push hw h1 h2 h3).2 (hS.push hw h1 h2 h3).1
end ZN
theorem zsub1 (x : Int32) : x + Int32.ofInt (-1) = x - 1 := by
  rw [Int32.sub_eq_add_neg]
  rfl
theorem zpred_neg {n : Nat} (hn : n < 2 ^ 30) : (nI n - 1 < 0) ↔ n = 0 := by
  cases n with
  | zero => exact ⟨fun _ => rfl, fun _ => by decide⟩
  | succ k => exact ⟨fun h => by rw [nI_pred] at h; exact absurd h (nI_pos (by omega)), fun h => absurd h (by omega)⟩
theorem zbit (x y : Int32) : zB ((x >>> (y &&& 31)) &&& 1 ≠ 0) = 0 ∨ zB ((x >>> (y &&& 31)) &&& 1 ≠ 0) = 1 := zB_01 _
/-- Table.mayFollow -/
def zMay (F : Nat → Int64) (n : Nat) (floor : Int64) : Int32 := zB ((n = 0 ∧ floor = 0) ∨ (n ≠ 0 ∧ F (n - 1) < floor ∧ floor ≤ 1000000000000))
theorem zMay_01 (F : Nat → Int64) (n : Nat) (floor : Int64) : zMay F n floor = 0 ∨ zMay F n floor = 1 := zB_01 _
/-- Terms.has -/
def zHas (bits : Int32) (k : Int32) : Int32 := zB (¬ ((bits >>> (k &&& 31)) &&& 1) = 0)
theorem zHas_01 (bits k : Int32) : zHas bits k = 0 ∨ zHas bits k = 1 := zB_01 _
def zMax0 (x : Int64) : Int64 := if x < 0 then 0 else x
def zMin (x y : Int64) : Int64 := if y < x then y else x
def zDuty (F : Nat → Int64) (G : Nat → Int32) (n : Nat) (relief credit yearly : Int64) : Int64 := zMax0 (zTax F G n (zMax0 (yearly - relief)) - credit)
/-- Deduction.withoutCap -/
def zWant (sort : Int32) (size base : Int64) (bonus : Int32) (gross ahead : Int64) : Int64 := if sort = 0 then (if bonus = 0 then size else 0) else if sort = 1 then zRound (gross * size) 1000000 else zRound ((zMin base (ahead + gross) - zMin base ahead) * size) 1000000
/-- Deduction.dueOf -/
def zDue (sort : Int32) (size cap base : Int64) (bonus : Int32) (gross ahead had : Int64) : Int64 := if cap = -1 then zWant sort size base bonus gross ahead else zMin (zWant sort size base bonus gross ahead) (cap - had)
/-- Terms.put -/
def zPutT (t : Value) (pe me : Int32) (re cr ex : Int64) (en what : Int32) (v : Int64) : List Value := [t, .int (if what = 5 then v.toInt32 else pe), .int (if what = 0 then v.toInt32 else me), .long (if what = 1 then v else re), .long (if what = 2 then v else cr), .long (if what = 3 then v else ex), .int en]
/-- Pay.tell -/
def zTell (what bonus : Int32) (gr ea inc ba mo la ne pa : Int64) : Int64 := if what = 0 then gr else if what = 1 then ea else if what = 2 then inc else if what = 3 then ba else if what = 4 then mo else if what = 5 then la else if what = 6 then ne else if what = 7 then pa else if bonus = 0 then 0 else 1
