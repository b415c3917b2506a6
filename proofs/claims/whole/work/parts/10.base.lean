/-! ===== worlds as functions: an address, what lies there ===== -/
section ZB
abbrev zw : Type := Nat → Option va_E
/-- the heap holds the world w -/
def zP (D : va_G) (w : zw) (H : Heap) : Prop := ∀ (a : Nat) (e : va_E), w a = some e → va_at D vwCl (a, e) H
/-- the cells of w, and all from sz on -/
def zA (w : zw) (sz : Nat) : Nat → Prop := fun q => (∃ e, w q = some e) ∨ sz ≤ q
/-- the world w now, in A; since H0 nothing outside A has changed -/
def zS (A : Nat → Prop) (D : va_G) (w : zw) (H0 H : Heap) (locs : List Loc) : Prop := zP D w H ∧ (∀ (a : Nat) (e : va_E), w a = some e → A a) ∧ va_S A H0 H locs ∧ ∀ q : Nat, H0.size ≤ q → A q
theorem zP.one {D : va_G} {w : zw} {H : Heap} {a : Nat} {e : va_E} (h : zP D w H) (ha : w a = some e) : va_P D vwCl [(a, e)] H := by
  intro k q hk
  have h1 := (List.getElem?_eq_some_iff.mp hk).1
  have h2 : k = 0 := by simp at h1; omega
  subst h2
  cases hk
  exact h a e ha
theorem zP.lt {D : va_G} {w : zw} {H : Heap} {a : Nat} {e : va_E} (h : zP D w H) (ha : w a = some e) : a < H.size := (h a e ha).lt
theorem zP.fresh {D : va_G} {w : zw} {H : Heap} {a : Nat} (h : zP D w H) (ha : H.size ≤ a) : w a = none := by
  cases he : w a with
  | none => rfl
  | some e => exact absurd (h.lt he) (by omega)
/-- the world as a list -/
def zl (w : zw) : Nat → va_W
  | 0 => []
  | n + 1 => zl w n ++ (match w n with | some e => [(n, e)] | none => [])
theorem zl_in {w : zw} : ∀ (n : Nat) (q : Nat × va_E), q ∈ zl w n ↔ q.1 < n ∧ w q.1 = some q.2 := by
  intro n
  induction n with
  | zero => intro q; simp [zl]
  | succ n ih =>
    intro q
    simp only [zl, List.mem_append, ih]
    constructor
    · rintro (h | h)
      · exact ⟨by omega, h.2⟩
      · cases hw : w n with
        | none => rw [hw] at h; cases h
        | some e =>
          rw [hw] at h
          have := List.mem_singleton.mp h
          subst this
          exact ⟨Nat.lt_succ_self n, hw⟩
    · rintro ⟨h1, h2⟩
      by_cases hq : q.1 < n
      · exact Or.inl ⟨hq, h2⟩
      · have hq : q.1 = n := by omega
        rw [hq] at h2
        rw [h2]
        exact Or.inr (List.mem_singleton.mpr (by rw [← hq]))
theorem zl_nd {w : zw} : ∀ (n i j : Nat) (p q : Nat × va_E), (zl w n)[i]? = some p → (zl w n)[j]? = some q → p.1 = q.1 → i = j := by
  intro n
  induction n with
  | zero => intro i j p q h; simp [zl] at h
  | succ n ih =>
    intro i j p q hi hj hpq
    have key : ∀ (k : Nat) (x : Nat × va_E), (zl w (n + 1))[k]? = some x → ((zl w n)[k]? = some x ∧ x.1 < n) ∨ (k = (zl w n).length ∧ x.1 = n) := by
      intro k x hk
      simp only [zl] at hk
      by_cases hl : k < (zl w n).length
      · rw [List.getElem?_append_left hl] at hk
        exact Or.inl ⟨hk, ((zl_in n x).mp (List.mem_of_getElem? hk)).1⟩
      · rw [List.getElem?_append_right (by omega)] at hk
        cases hw : w n with
        | none => rw [hw] at hk; simp at hk
        | some e =>
          rw [hw] at hk
          have h1 : k - (zl w n).length < 1 := (List.getElem?_eq_some_iff.mp hk).1
          have h2 : k - (zl w n).length = 0 := by omega
          rw [h2] at hk
          cases hk
          exact Or.inr ⟨by omega, rfl⟩
    rcases key i p hi with ⟨h1, l1⟩ | ⟨h1, l1⟩ <;> rcases key j q hj with ⟨h2, l2⟩ | ⟨h2, l2⟩
    · exact ih i j p q h1 h2 hpq
    · omega
    · omega
    · omega
theorem zS.list {A : Nat → Prop} {D : va_G} {w : zw} {H0 H : Heap} {locs : List Loc} (h : zS A D w H0 H locs) : ∃ ws : va_W, va_P D vwCl ws H ∧ va_D A ws ∧ ∀ (a : Nat) (e : va_E), w a = some e ↔ ∃ k : Nat, ws[k]? = some (a, e) := by
  refine ⟨zl w H.size, fun k q hk => ?_, ⟨fun i j p q => zl_nd H.size i j p q, fun k q hk => ?_⟩, fun a e => ⟨fun ha => ?_, fun ⟨k, hk⟩ => ?_⟩⟩
  · exact h.1 q.1 q.2 ((zl_in _ q).mp (List.mem_of_getElem? hk)).2
  · exact h.2.1 q.1 q.2 ((zl_in _ q).mp (List.mem_of_getElem? hk)).2
  · exact List.getElem?_of_mem ((zl_in H.size (a, e)).mpr ⟨h.1.lt ha, ha⟩)
  · exact ((zl_in _ (a, e)).mp (List.mem_of_getElem? hk)).2
theorem zS.set {A : Nat → Prop} {D : va_G} {w : zw} {H0 H H1 : Heap} {locs locs1 : List Loc} {ws : va_W} {k a : Nat} {e0 e : va_E} (h : zS A D w H0 H locs) (hw : ∀ (a : Nat) (e : va_E), w a = some e ↔ ∃ k : Nat, ws[k]? = some (a, e)) (hk : ws[k]? = some (a, e0)) (hD0 : va_D A ws) (hP : va_P D vwCl (ws.set k (a, e)) H1) (hD : va_D A (ws.set k (a, e))) (hS : va_S A H0 H1 locs1) : zS A D (va_up w a (some e)) H0 H1 locs1 := by
  have hl := (List.getElem?_eq_some_iff.mp hk).1
  have key : ∀ (b : Nat) (x : va_E), va_up w a (some e) b = some x → ∃ j : Nat, (ws.set k (a, e))[j]? = some (b, x) := by
    intro b x hb
    by_cases hba : b = a
    · subst hba
      rw [va_up_self] at hb
      cases hb
      exact ⟨k, List.getElem?_set_self hl⟩
    · rw [va_up_ne _ _ hba] at hb
      obtain ⟨j, hj⟩ := (hw b x).mp hb
      refine ⟨j, ?_⟩
      rw [List.getElem?_set_ne (fun q => hba ?_)]
      · exact hj
      · subst q
        rw [hk] at hj
        cases hj
        rfl
  refine ⟨fun b x hb => ?_, fun b x hb => ?_, hS, h.2.2.2⟩
  · obtain ⟨j, hj⟩ := key b x hb
    exact hP j _ hj
  · obtain ⟨j, hj⟩ := key b x hb
    exact hD.2 j _ hj
theorem zS.push {A : Nat → Prop} {D : va_G} {w : zw} {H0 H H1 : Heap} {locs locs1 : List Loc} {ws : va_W} {a : Nat} {e : va_E} (h : zS A D w H0 H locs) (hw : ∀ (a : Nat) (e : va_E), w a = some e ↔ ∃ k : Nat, ws[k]? = some (a, e)) (hP : va_P D vwCl (ws ++ [(a, e)]) H1) (hD : va_D A (ws ++ [(a, e)])) (hS : va_S A H0 H1 locs1) : zS A D (va_up w a (some e)) H0 H1 locs1 ∧ w a = none := by
  have hn : w a = none := by
    cases hz : w a with
    | none => rfl
    | some x =>
      obtain ⟨j, hj⟩ := (hw a x).mp hz
      have hl := (List.getElem?_eq_some_iff.mp hj).1
      have h1 := hD.1 j ws.length (a, x) (a, e) (by rw [List.getElem?_append_left hl]; exact hj) (by rw [List.getElem?_append_right (Nat.le_refl _), Nat.sub_self]; rfl) rfl
      omega
  have key : ∀ (b : Nat) (x : va_E), va_up w a (some e) b = some x → ∃ j : Nat, (ws ++ [(a, e)])[j]? = some (b, x) := by
    intro b x hb
    by_cases hba : b = a
    · subst hba
      rw [va_up_self] at hb
      cases hb
      exact ⟨ws.length, by rw [List.getElem?_append_right (Nat.le_refl _), Nat.sub_self]; rfl⟩
    · rw [va_up_ne _ _ hba] at hb
      obtain ⟨j, hj⟩ := (hw b x).mp hb
      exact ⟨j, by rw [List.getElem?_append_left (List.getElem?_eq_some_iff.mp hj).1]; exact hj⟩
  refine ⟨⟨fun b x hb => ?_, fun b x hb => ?_, hS, h.2.2.2⟩, hn⟩
  · obtain ⟨j, hj⟩ := key b x hb
    exact hP j _ hj
  · obtain ⟨j, hj⟩ := key b x hb
    exact hD.2 j _ hj
theorem zne {w : zw} {a b : Nat} {x y : va_E} (ha : w a = some x) (hb : w b = some y) (h : x ≠ y) : a ≠ b := fun e => h (by subst e; exact Option.some.inj (ha.symm.trans hb))
end ZB
/-! ===== the rows of instructions, over function worlds ===== -/
/-- the array classes: int, long, boolean, Deduction, Pay, Table, Worker, long[] -/
abbrev zTy (cs : Nat → ClassId) : List (ClassId × FieldType) := [(cs 0, .int), (cs 1, .long), (cs 2, .boolean), (cs 3, .object "PayLedger$Deduction"), (cs 4, .object "PayLedger$Pay"), (cs 5, .object "PayLedger$Table"), (cs 6, .object "PayLedger$Worker"), (cs 7, .array .long)]
abbrev eI (cs : Nat → ClassId) (n : Nat) (f : Nat → Int32) : va_E := .inl (cs 0, n, .inl f)
abbrev eJ (cs : Nat → ClassId) (n : Nat) (f : Nat → Int64) : va_E := .inl (cs 1, n, .inr (.inl f))
abbrev eZ (cs : Nat → ClassId) (n : Nat) (f : Nat → Int32) : va_E := .inl (cs 2, n, .inl f)
abbrev eR (cs : Nat → ClassId) (k n : Nat) (f : Nat → Option Nat) : va_E := .inl (cs k, n, .inr (.inr (.inr (.inr f))))
section ZR
variable {p : Program} {l : Launch} {e : Env} {R : Room} {s : State} {m : MethodId} {args : Array Value} {below : List Frame} {meth : Method} {c : Code} {H : Heap} {locs : List Loc} {cells slots : Nat} {Q : State → Prop}
variable {cc : ByteArray} {pc : Nat} {ls : Array Slot} {rest : List Value} {D : va_G} {A : Nat → Prop} {a : Nat} {tys : List (ClassId × FieldType)} {w : zw} {H0 : Heap} {cs : Nat → ClassId}
theorem z_get (hexec : p.tables.exec = Jvm.exec) (hb : c.code = cc) {own C : String} {T : u_T} {N ci index : Nat} {Ts : List Cond} (hts : ∀ w ∈ Ts, w.before args s = true) (hin : ∀ w ∈ u_ws C T N, w ∈ Ts) (hown : s.vm.findClass own = some m.cls) (hK : va_K D vwCl tys s) (hS : zS A D w H0 H locs) {fs : List Value} (he : w a = some (.inr (ci, fs))) (hc : vwCl[ci]? = some (C, T, N)) (k : Nat) (hk : k < N) (hlink : (Cond.fieldLink own index (T k).1 (T k).2.1 (T k).2.2.1).before args s = true) {v : Value} (hv : fs[k]? = some v) (hdg : decode cc pc = .ok (.getfield index, 3))
    (kk : W p l e R s m args below meth c H locs cells slots Q (F0 m (pc + 3) ls (v :: rest))) : W p l e R s m args below meth c H locs cells slots Q (F0 m pc ls (.ref a :: rest)) :=
  va_get hexec hb hts hin hown hK (hS.1.one he) 0 rfl hc k hk hlink (fun _ h => h) hv hdg kk
theorem z_put (hexec : p.tables.exec = Jvm.exec) (hb : c.code = cc) {own C : String} {T : u_T} {N ci index : Nat} {Ts : List Cond} (hts : ∀ w ∈ Ts, w.before args s = true) (hin : ∀ w ∈ u_ws C T N, w ∈ Ts) (ty0 : Nat → FieldType) (hty : ∀ k, k < N → parseFieldDescriptor (T k).2.2.1 = some (ty0 k)) (hnm : ∀ a, a < N → ∀ b, b < N → a ≠ b → (T a).2.1 ≠ (T b).2.1) (hown : s.vm.findClass own = some m.cls) (hK : va_K D vwCl tys s) (hS : zS A D w H0 H locs) {fs : List Value} (he : w a = some (.inr (ci, fs))) (hc : vwCl[ci]? = some (C, T, N)) (k : Nat) (hk : k < N) (hlink : (Cond.fieldLink own index (T k).1 (T k).2.1 (T k).2.2.1).before args s = true) (hfin : (T k).2.2.2 = false) {v : Value} (hn : narrow (ty0 k) v = v) (hfit : fits (ty0 k) v = true) (hl : k < fs.length)
    (hdg : decode cc pc = .ok (.putfield index, 3)) (kk : ∀ (H1 : Heap) (locs1 : List Loc), zS A D (va_up w a (some (.inr (ci, fs.set k v)))) H0 H1 locs1 → W p l e R s m args below meth c H1 locs1 cells slots Q (F0 m (pc + 3) ls rest)) : W p l e R s m args below meth c H locs cells slots Q (F0 m pc ls (v :: .ref a :: rest)) := by
  obtain ⟨ws, hP, hD, hw⟩ := hS.list
  obtain ⟨q0, hq⟩ := (hw a _).mp he
  exact va_put hexec hb hts hin ty0 hty hnm hown hK hP hD hS.2.2.1 q0 hq hc k hk hlink (fun _ h => h) hfin (hty k hk) hn hfit hl hdg (fun H1 locs1 h1 h2 h3 => kk H1 locs1 (hS.set hw hq hD h1 h2 h3))
theorem z_putF (hexec : p.tables.exec = Jvm.exec) (hb : c.code = cc) {own C : String} {T : u_T} {N ci index : Nat} {Ts : List Cond} (hts : ∀ w ∈ Ts, w.before args s = true) (hin : ∀ w ∈ u_ws C T N, w ∈ Ts) (ty0 : Nat → FieldType) (hty : ∀ k, k < N → parseFieldDescriptor (T k).2.2.1 = some (ty0 k)) (hnm : ∀ a, a < N → ∀ b, b < N → a ≠ b → (T a).2.1 ≠ (T b).2.1) (hown : s.vm.findClass own = some m.cls) (hK : va_K D vwCl tys s) (hS : zS A D w H0 H locs) {fs : List Value} (he : w a = some (.inr (ci, fs))) (hc : vwCl[ci]? = some (C, T, N)) (k : Nat) (hk : k < N) (hlink : (Cond.fieldLink own index (T k).1 (T k).2.1 (T k).2.2.1).before args s = true) (hfin : (T k).2.2.2 = true) (hin2 : meth.name = "<init>") (hdecl : (T k).1 = own) {v : Value} (hn : narrow (ty0 k) v = v) (hfit : fits (ty0 k) v = true) (hl : k < fs.length)
    (hdg : decode cc pc = .ok (.putfield index, 3)) (kk : ∀ (H1 : Heap) (locs1 : List Loc), zS A D (va_up w a (some (.inr (ci, fs.set k v)))) H0 H1 locs1 → W p l e R s m args below meth c H1 locs1 cells slots Q (F0 m (pc + 3) ls rest)) : W p l e R s m args below meth c H locs cells slots Q (F0 m pc ls (v :: .ref a :: rest)) := by
  obtain ⟨ws, hP, hD, hw⟩ := hS.list
  obtain ⟨q0, hq⟩ := (hw a _).mp he
  exact va_putF hexec hb hts hin ty0 hty hnm hown hK hP hD hS.2.2.1 q0 hq hc k hk hlink (fun _ h => h) hfin hin2 hdecl (hty k hk) hn hfit hl hdg (fun H1 locs1 h1 h2 h3 => kk H1 locs1 (hS.set hw hq hD h1 h2 h3))
theorem z_iald (hexec : p.tables.exec = Jvm.exec) (hb : c.code = cc) (hK : va_K D vwCl (zTy cs) s) (hS : zS A D w H0 H locs) {n : Nat} {f : Nat → Int32} (ha : w a = some (eI cs n f)) {i : Int32} (hin : vp_in i n) (hdg : decode cc pc = .ok (.iaload, 1))
    (kk : W p l e R s m args below meth c H locs cells slots Q (F0 m (pc + 1) ls (.int (f i.toNatClampNeg) :: rest))) : W p l e R s m args below meth c H locs cells slots Q (F0 m pc ls (.int i :: .ref a :: rest)) := va_iald hexec hb hK (hS.1.one ha) 0 0 rfl rfl hin hdg kk
theorem z_lald (hexec : p.tables.exec = Jvm.exec) (hb : c.code = cc) (hK : va_K D vwCl (zTy cs) s) (hS : zS A D w H0 H locs) {n : Nat} {f : Nat → Int64} (ha : w a = some (eJ cs n f)) {i : Int32} (hin : vp_in i n) (hdg : decode cc pc = .ok (.laload, 1))
    (kk : W p l e R s m args below meth c H locs cells slots Q (F0 m (pc + 1) ls (.long (f i.toNatClampNeg) :: rest))) : W p l e R s m args below meth c H locs cells slots Q (F0 m pc ls (.int i :: .ref a :: rest)) := va_lald hexec hb hK (hS.1.one ha) 0 1 rfl rfl hin hdg kk
theorem z_zald (hexec : p.tables.exec = Jvm.exec) (hb : c.code = cc) (hK : va_K D vwCl (zTy cs) s) (hS : zS A D w H0 H locs) {n : Nat} {f : Nat → Int32} (ha : w a = some (eZ cs n f)) {i : Int32} (hin : vp_in i n) (hdg : decode cc pc = .ok (.baload, 1))
    (kk : W p l e R s m args below meth c H locs cells slots Q (F0 m (pc + 1) ls (.int (f i.toNatClampNeg) :: rest))) : W p l e R s m args below meth c H locs cells slots Q (F0 m pc ls (.int i :: .ref a :: rest)) := va_zald hexec hb hK (hS.1.one ha) 0 2 rfl rfl hin hdg kk
theorem z_aald (hexec : p.tables.exec = Jvm.exec) (hb : c.code = cc) (hK : va_K D vwCl (zTy cs) s) (hS : zS A D w H0 H locs) {t0 n : Nat} {C : String} {f : Nat → Option Nat} (ha : w a = some (eR cs t0 n f)) (ht : (zTy cs)[t0]? = some (cs t0, .object C)) {i : Int32} (hin : vp_in i n) (hdg : decode cc pc = .ok (.aaload, 1))
    (kk : W p l e R s m args below meth c H locs cells slots Q (F0 m (pc + 1) ls (va_rf (f i.toNatClampNeg) :: rest))) : W p l e R s m args below meth c H locs cells slots Q (F0 m pc ls (.int i :: .ref a :: rest)) := va_aldq hexec hb hK (hS.1.one ha) 0 t0 rfl ht hin hdg kk
theorem z_alen (hexec : p.tables.exec = Jvm.exec) (hb : c.code = cc) (hK : va_K D vwCl (zTy cs) s) (hS : zS A D w H0 H locs) {t0 : Nat} {x : vp_A} {ty : FieldType} (ha : w a = some (.inl (cs t0, x))) (ht : (zTy cs)[t0]? = some (cs t0, ty)) {v : Int32} (hv : Int32.ofNat x.1 = v) (hdg : decode cc pc = .ok (.arraylength, 1))
    (kk : W p l e R s m args below meth c H locs cells slots Q (F0 m (pc + 1) ls (.int v :: rest))) : W p l e R s m args below meth c H locs cells slots Q (F0 m pc ls (.ref a :: rest)) := va_alen hexec hb hK (hS.1.one ha) 0 t0 rfl ht hv hdg kk
theorem z_iast (hexec : p.tables.exec = Jvm.exec) (hb : c.code = cc) (hK : va_K D vwCl (zTy cs) s) (hS : zS A D w H0 H locs) {n : Nat} {f : Nat → Int32} (ha : w a = some (eI cs n f)) {i x : Int32} (hin : vp_in i n) (hdg : decode cc pc = .ok (.iastore, 1))
    (kk : ∀ (H1 : Heap) (locs1 : List Loc), zS A D (va_up w a (some (eI cs n (upd f i.toNatClampNeg x)))) H0 H1 locs1 → W p l e R s m args below meth c H1 locs1 cells slots Q (F0 m (pc + 1) ls rest)) : W p l e R s m args below meth c H locs cells slots Q (F0 m pc ls (.int x :: .int i :: .ref a :: rest)) := by
  obtain ⟨ws, hP, hD, hw⟩ := hS.list
  obtain ⟨q0, hq⟩ := (hw a _).mp ha
  exact va_iast hexec hb hK hP hD hS.2.2.1 q0 0 hq rfl hin hdg (fun H1 locs1 h1 h2 h3 => kk H1 locs1 (hS.set hw hq hD h1 h2 h3))
theorem z_last (hexec : p.tables.exec = Jvm.exec) (hb : c.code = cc) (hK : va_K D vwCl (zTy cs) s) (hS : zS A D w H0 H locs) {n : Nat} {f : Nat → Int64} (ha : w a = some (eJ cs n f)) {i : Int32} {x : Int64} (hin : vp_in i n) (hdg : decode cc pc = .ok (.lastore, 1))
    (kk : ∀ (H1 : Heap) (locs1 : List Loc), zS A D (va_up w a (some (eJ cs n (vp_updL f i.toNatClampNeg x)))) H0 H1 locs1 → W p l e R s m args below meth c H1 locs1 cells slots Q (F0 m (pc + 1) ls rest)) : W p l e R s m args below meth c H locs cells slots Q (F0 m pc ls (.long x :: .int i :: .ref a :: rest)) := by
  obtain ⟨ws, hP, hD, hw⟩ := hS.list
  obtain ⟨q0, hq⟩ := (hw a _).mp ha
  exact va_last hexec hb hK hP hD hS.2.2.1 q0 1 hq rfl hin hdg (fun H1 locs1 h1 h2 h3 => kk H1 locs1 (hS.set hw hq hD h1 h2 h3))
theorem z_zast (hexec : p.tables.exec = Jvm.exec) (hb : c.code = cc) (hK : va_K D vwCl (zTy cs) s) (hS : zS A D w H0 H locs) {n : Nat} {f : Nat → Int32} (ha : w a = some (eZ cs n f)) {i x : Int32} (hin : vp_in i n) (hdg : decode cc pc = .ok (.bastore, 1))
    (kk : ∀ (H1 : Heap) (locs1 : List Loc), zS A D (va_up w a (some (eZ cs n (upd f i.toNatClampNeg (vp_nar .boolean x))))) H0 H1 locs1 → W p l e R s m args below meth c H1 locs1 cells slots Q (F0 m (pc + 1) ls rest)) : W p l e R s m args below meth c H locs cells slots Q (F0 m pc ls (.int x :: .int i :: .ref a :: rest)) := by
  obtain ⟨ws, hP, hD, hw⟩ := hS.list
  obtain ⟨q0, hq⟩ := (hw a _).mp ha
  exact va_zast hexec hb hK hP hD hS.2.2.1 q0 2 hq rfl hin hdg (fun H1 locs1 h1 h2 h3 => kk H1 locs1 (hS.set hw hq hD h1 h2 h3))
theorem z_aast (hexec : p.tables.exec = Jvm.exec) (hb : c.code = cc) (hK : va_K D vwCl (zTy cs) s) (hS : zS A D w H0 H locs) {t0 n v ci : Nat} {r : vw_C} {vs : List Value} {f : Nat → Option Nat} (ha : w a = some (eR cs t0 n f)) (ht : (zTy cs)[t0]? = some (cs t0, .object r.1)) (hv : w v = some (.inr (ci, vs))) (hc : vwCl[ci]? = some r) {i : Int32} (hin : vp_in i n) (hdg : decode cc pc = .ok (.aastore, 1))
    (kk : ∀ (H1 : Heap) (locs1 : List Loc), zS A D (va_up w a (some (eR cs t0 n (va_up f i.toNatClampNeg (some v))))) H0 H1 locs1 → W p l e R s m args below meth c H1 locs1 cells slots Q (F0 m (pc + 1) ls rest)) : W p l e R s m args below meth c H locs cells slots Q (F0 m pc ls (.ref v :: .int i :: .ref a :: rest)) := by
  obtain ⟨ws, hP, hD, hw⟩ := hS.list
  obtain ⟨q0, hq⟩ := (hw a _).mp ha
  obtain ⟨qk, hqk⟩ := (hw v _).mp hv
  exact va_astq hexec hb hK hP hD hS.2.2.1 q0 t0 qk ci hq ht hqk hc hin hdg (fun H1 locs1 h1 h2 h3 => kk H1 locs1 (hS.set hw hq hD h1 h2 h3))
theorem z_new (hexec : p.tables.exec = Jvm.exec) (hb : c.code = cc) {own C : String} {T : u_T} {N ci index : Nat} {Ts : List Cond} (hts : ∀ w ∈ Ts, w.before args s = true) (hin : ∀ w ∈ u_ws C T N, w ∈ Ts) (ty : Nat → FieldType) (hty : ∀ k, k < N → parseFieldDescriptor (T k).2.2.1 = some (ty k)) (hown : s.vm.findClass own = some m.cls) (hcl : (Cond.classLink own index C).before args s = true) (hinst : (Cond.instantiable C N).before args s = true) (hini : (Cond.initialized C).before args s = true)
    (hK : va_K D vwCl tys s) (hS : zS A D w H0 H locs) (hc : vwCl[ci]? = some (C, T, N)) {fs : List Value} (hfs : ∀ j, j < N → defaultValue (ty j) = vp_V fs j) (hcells : cells + 1 ≤ R.cells) (hslots : slots + N ≤ R.slots) (hdg : decode cc pc = .ok (.new index, 3))
    (kk : ∀ (q : Nat) (H1 : Heap), w q = none → zS A D (va_up w q (some (.inr (ci, fs)))) H0 H1 locs → W p l e R s m args below meth c H1 locs (cells + 1) (slots + N) Q (F0 m (pc + 3) ls (.ref q :: rest))) : W p l e R s m args below meth c H locs cells slots Q (F0 m pc ls rest) := by
  obtain ⟨ws, hP, hD, hw⟩ := hS.list
  exact va_new hexec hb hts hin ty hty hown hcl hinst hini hK hP hD hS.2.2.1 hS.2.2.2 hc hfs hcells hslots hdg (fun q H1 h1 h2 h3 => kk q H1 (hS.push hw h1 h2 h3).2 (hS.push hw h1 h2 h3).1)
end ZR
