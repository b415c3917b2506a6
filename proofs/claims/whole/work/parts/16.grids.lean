/-! ===== arrays of arrays ===== -/
theorem zD_app {A : Nat → Prop} {L1 L2 : va_W} (h : va_D A (L1 ++ L2)) {x y : Nat × va_E} (hx : x ∈ L1) (hy : y ∈ L2) : x.1 ≠ y.1 := by
  intro e
  obtain ⟨i, hi⟩ := List.getElem?_of_mem hx
  obtain ⟨j, hj⟩ := List.getElem?_of_mem hy
  have hl := (List.getElem?_eq_some_iff.mp hi).1
  have := h.1 i (L1.length + j) x y (by rw [List.getElem?_append_left hl]; exact hi) (by rw [List.getElem?_append_right (by omega), Nat.add_sub_cancel_left]; exact hj) e
  omega
theorem zD_mem {A : Nat → Prop} {L : va_W} (h : va_D A L) {x y : Nat × va_E} (hx : x ∈ L) (hy : y ∈ L) (e : x.1 = y.1) : x = y := by
  obtain ⟨i, hi⟩ := List.getElem?_of_mem hx
  obtain ⟨j, hj⟩ := List.getElem?_of_mem hy
  have := h.1 i j x y hi hj e
  subst this
  exact Option.some.inj (hi.symm.trans hj)
theorem zS.ofL {A : Nat → Prop} {D : va_G} {H0 H1 : Heap} {locs1 : List Loc} {ws : va_W} (hP : va_P D vwCl ws H1) (hD : va_D A ws) (hS : va_S A H0 H1 locs1) (hA : ∀ q : Nat, H0.size ≤ q → A q) : ∃ w : zw, zS A D w H0 H1 locs1 ∧ ∀ (a : Nat) (e : va_E), w a = some e ↔ (a, e) ∈ ws := by
  have key : ∀ (a : Nat) (e : va_E), ((ws.find? (fun q => decide (q.1 = a))).map (fun q => q.2)) = some e ↔ (a, e) ∈ ws := by
    intro a e
    constructor
    · intro h
      cases hf : ws.find? (fun q => decide (q.1 = a)) with
      | none => rw [hf] at h; cases h
      | some q =>
        rw [hf] at h
        have h1 := List.mem_of_find?_eq_some hf
        have h2 := List.find?_some hf
        have h3 : q.1 = a := by simpa using h2
        have h4 : q.2 = e := by simpa using h
        rw [← h3, ← h4]
        exact h1
    · intro h
      cases hf : ws.find? (fun q => decide (q.1 = a)) with
      | none =>
        have := List.find?_eq_none.mp hf (a, e) h
        simp at this
      | some q =>
        have h1 := List.mem_of_find?_eq_some hf
        have h2 := List.find?_some hf
        have h3 : q.1 = a := by simpa using h2
        have h4 := zD_mem hD h1 h h3
        rw [h4]
        rfl
  refine ⟨fun a => (ws.find? (fun q => decide (q.1 = a))).map (fun q => q.2), ⟨fun a e h => ?_, fun a e h => ?_, hS, hA⟩, key⟩
  · obtain ⟨k, hk⟩ := List.getElem?_of_mem ((key a e).mp h)
    exact hP k _ hk
  · obtain ⟨k, hk⟩ := List.getElem?_of_mem ((key a e).mp h)
    exact hD.2 k _ hk
section ZG
variable {p : Program} {l : Launch} {e : Env} {R : Room} {s : State} {m : MethodId} {args : Array Value} {below : List Frame} {meth : Method} {c : Code} {H : Heap} {locs : List Loc} {cells slots : Nat} {Q : State → Prop}
variable {cc : ByteArray} {pc : Nat} {ls : Array Slot} {rest st0 : List Value} {D : va_G} {A : Nat → Prop} {w w0 : zw} {H0 : Heap} {cs : Nat → ClassId}
theorem z_aaldg (hexec : p.tables.exec = Jvm.exec) (hb : c.code = cc) (hK : va_K D vwCl (zTy cs) s) (hS : zS A D w H0 H locs) {a t0 n : Nat} {ty : FieldType} {f : Nat → Option Nat} (ha : w a = some (eR cs t0 n f)) (ht : (zTy cs)[t0]? = some (cs t0, ty)) (hty : ty.isReference = true) {i : Int32} (hin : vp_in i n) {v : Value} (hv : va_rf (f i.toNatClampNeg) = v) (hdg : decode cc pc = .ok (.aaload, 1))
    (kk : W p l e R s m args below meth c H locs cells slots Q (F0 m (pc + 1) ls (v :: rest))) : W p l e R s m args below meth c H locs cells slots Q (F0 m pc ls (.int i :: .ref a :: rest)) := by
  have hlt : i.toNatClampNeg < n := Nat.not_le.mp fun q => hin (Or.inr q)
  subst hv
  exact W.aald (v := va_rf (f i.toNatClampNeg)) (ty := ty) hexec hb (hS.1 a _ ha) ((hK.2 t0 _ ht).1 n (fun j => va_rf (f j))) hty (fun q => by cases q) (by show ¬ (i < 0 ∨ (arrV _ _ _).slots.size ≤ _); rw [arrV_size]; exact hin) (by show (arrV _ _ _).slots[_]? = _; rw [arrV_read _ _ hlt]) rfl rfl hdg kk
theorem z_mna (hexec : p.tables.exec = Jvm.exec) (hb : c.code = cc) {own : String} {index : Nat} (hown : s.vm.findClass own = some m.cls) (hclink : (Cond.classLink own index "[[J").before args s = true) (hover : (Cond.arrayOver (.array .long)).before #[] s = true) (harr : (Cond.arrayClass .long).before args s = true)
    (hK : va_K D vwCl (zTy cs) s) (hS : zS A D w H0 H locs) {n k : Int32} (N K : Nat) (hn : ¬ n < 0) (hk : ¬ k < 0) (hN : n.toNatClampNeg = N) (hM : k.toNatClampNeg = K) (hb1 : N * 4 ≤ 536870912) (hb2 : K * componentBytes .long ≤ 536870912) (hb3 : K ≤ 536870912) (hcells : cells + (1 + N) ≤ R.cells) (hslots : slots + (N + N * K) ≤ R.slots) (hdg : decode cc pc = .ok (.multianewarray index 2, 4))
    (kk : ∀ (q : Nat) (r : Nat → Nat) (w2 : zw) (H1 : Heap), w q = none → (∀ i : Nat, i < N → w (r i) = none) → (∀ i j : Nat, i < N → j < N → r i = r j → i = j) → w2 q = some (eR cs 7 N (fun i => if i < N then some (r i) else none)) → (∀ i : Nat, i < N → w2 (r i) = some (eJ cs K (fun _ => 0))) → (∀ a : Nat, a ≠ q → (∀ i : Nat, i < N → a ≠ r i) → w2 a = w a) → zS A D w2 H0 H1 locs →
      W p l e R s m args below meth c H1 locs (cells + 1 + N) (slots + N + N * K) Q (F0 m (pc + 4) ls (.ref q :: rest))) : W p l e R s m args below meth c H locs cells slots Q (F0 m pc ls (.int k :: .int n :: rest)) := by
  obtain ⟨ws, hP, hD, hw⟩ := hS.list
  have e0 : ws ++ va_pl [] (fun _ => (.inl (cs 0, 0, .inl (fun _ => 0)) : va_E)) = ws := List.append_nil ws
  refine va_mna (X := ws) (L := []) (f := fun _ => .inl (cs 0, 0, .inl (fun _ => 0))) (ty := .long) (N' := N) (K' := K) (cy := cs 1) (z := (K, .inr (.inl (fun _ => 0)))) hexec hb hown (show (Cond.classLink own index ("[" ++ (FieldType.array .long).toString)).before args s = true from by rw [show ("[" ++ (FieldType.array .long).toString) = "[[J" by decide +kernel]; exact hclink) hover harr (hK.2 1 _ rfl).2 hK (by rw [e0]; exact hP) (by rw [e0]; exact hD) hS.2.2.1 hS.2.2.2 hn hk hN hM hb1 hb2 hb3 rfl rfl hcells hslots (fun _ => arrV_new _ _ _) hdg (fun q r cA H1 hr1 hr2 hK2 h1 h2 h3 => ?_)
  have hc := zK_uniq hK (i := 7) rfl hK2
  subst hc
  obtain ⟨w2, hS2, hw2⟩ := zS.ofL h1 h2 h3 hS.2.2.2
  have hin : ∀ i : Nat, i < N → r i ∈ ([] ++ (List.range N).map r : List Nat) := fun i hi => List.mem_append_right _ (List.mem_map.mpr ⟨i, List.mem_range.mpr hi, rfl⟩)
  have mq : (q, eR cs 7 N (fun i => if i < N then some (r i) else none)) ∈ (ws ++ [(q, eR cs 7 N (fun i => if i < N then some (r i) else none))]) ++ va_pl ([] ++ (List.range N).map r) (vr_up (fun _ => (.inl (cs 0, 0, .inl (fun _ => 0)) : va_E)) ((List.range N).map r) (.inl (cs 1, (K, .inr (.inl (fun _ => 0)))))) := List.mem_append_left _ (List.mem_append_right _ (List.mem_singleton.mpr rfl))
  have mr : ∀ i : Nat, i < N → (r i, eJ cs K (fun _ => 0)) ∈ va_pl ([] ++ (List.range N).map r) (vr_up (fun _ => (.inl (cs 0, 0, .inl (fun _ => 0)) : va_E)) ((List.range N).map r) (.inl (cs 1, (K, .inr (.inl (fun _ => 0)))))) := by
    intro i hi
    refine List.mem_map.mpr ⟨r i, hin i hi, ?_⟩
    rw [vr_up_in (List.mem_map.mpr ⟨i, List.mem_range.mpr hi, rfl⟩)]
  refine kk q r w2 H1 ?_ ?_ hr1 ((hw2 _ _).mpr mq) (fun i hi => (hw2 _ _).mpr (List.mem_append_right _ (mr i hi))) ?_ hS2
  · cases hz : w q with
    | none => rfl
    | some x =>
      obtain ⟨j, hj⟩ := (hw q x).mp hz
      rw [List.append_assoc] at h2
      exact ((zD_app (x := (q, x)) (y := (q, eR cs 7 N (fun i => if i < N then some (r i) else none))) h2 (List.mem_of_getElem? hj) (List.mem_append_left _ (List.mem_singleton.mpr rfl))) rfl).elim
  · intro i hi
    cases hz : w (r i) with
    | none => rfl
    | some x =>
      obtain ⟨j, hj⟩ := (hw (r i) x).mp hz
      exact ((zD_app (x := (r i, x)) (y := (r i, eJ cs K (fun _ => 0))) h2 (List.mem_append_left _ (List.mem_of_getElem? hj)) (mr i hi)) rfl).elim
  · intro a ha1 ha2
    have iff1 : ∀ x : va_E, w2 a = some x ↔ w a = some x := by
      intro x
      rw [hw2]
      constructor
      · intro h
        rcases List.mem_append.mp h with h | h
        · rcases List.mem_append.mp h with h | h
          · obtain ⟨j, hj⟩ := List.getElem?_of_mem h
            exact (hw a x).mpr ⟨j, hj⟩
          · exact absurd (congrArg Prod.fst (List.mem_singleton.mp h)) ha1
        · obtain ⟨b, hb, he⟩ := List.mem_map.mp h
          rw [List.nil_append] at hb
          obtain ⟨i, hi, rfl⟩ := List.mem_map.mp hb
          exact absurd (congrArg Prod.fst he).symm (ha2 i (List.mem_range.mp hi))
      · intro h
        obtain ⟨j, hj⟩ := (hw a x).mp h
        exact List.mem_append_left _ (List.mem_append_left _ (List.mem_of_getElem? hj))
    cases h1 : w2 a with
    | none =>
      cases h2 : w a with
      | none => rfl
      | some y => exact absurd ((iff1 y).mpr h2) (by rw [h1]; exact fun q => nomatch q)
    | some x => exact ((iff1 x).mp h1).symm
end ZG
