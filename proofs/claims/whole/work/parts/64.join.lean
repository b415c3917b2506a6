/-! ===== two worlds side by side ===== -/
def zJ (u v : zw) : zw := fun a => match u a with
  | some e => some e
  | none => v a
def zDj (u v : zw) : Prop := ∀ a : Nat, u a ≠ none → v a = none
theorem zJ_l {u v : zw} {a : Nat} {e : va_E} (h : u a = some e) : zJ u v a = some e := by
  unfold zJ
  rw [h]
theorem zJ_n {u v : zw} {a : Nat} (h : u a = none) : zJ u v a = v a := by
  unfold zJ
  rw [h]
theorem zDj.n {u v : zw} (h : zDj u v) {a : Nat} {e : va_E} (hv : v a = some e) : u a = none := by
  cases hu : u a with
  | none => rfl
  | some e2 =>
    have h2 := h a (by rw [hu]; exact fun q => nomatch q)
    rw [h2] at hv
    cases hv
theorem zJ_r {u v : zw} (h : zDj u v) {a : Nat} {e : va_E} (hv : v a = some e) : zJ u v a = some e := (zJ_n (h.n hv)).trans hv
theorem zDj.symm {u v : zw} (h : zDj u v) : zDj v u := fun a ha => by
  cases hv : v a with
  | none => exact absurd hv ha
  | some e => exact h.n hv
theorem zJ_comm {u v : zw} (h : zDj u v) : zJ u v = zJ v u := by
  funext a
  cases hu : u a with
  | some e => rw [zJ_l hu, zJ_n (h a (by rw [hu]; exact fun q => nomatch q)), hu]
  | none =>
    rw [zJ_n hu]
    cases hv : v a with
    | some e => exact (zJ_l hv).symm
    | none => rw [zJ_n hv, hu]
theorem zJ_up {u v : zw} {a : Nat} {e : va_E} (h : u a = none) : va_up (zJ u v) a (some e) = zJ u (va_up v a (some e)) := by
  funext b
  by_cases c : b = a
  · rw [c, va_up_self, zJ_n h, va_up_self]
  · rw [va_up_ne _ _ c]
    unfold zJ
    rw [va_up_ne _ _ c]
theorem zDj.up {u v : zw} {a : Nat} {e : va_E} (h : zDj u v) (hu : u a = none) : zDj u (va_up v a (some e)) := fun b hb => by
  rw [va_up_ne _ _ (fun c => hb (by rw [c]; exact hu))]
  exact h b hb
theorem zA_l {u v : zw} {sz q : Nat} (h : zA u sz q) : zA (zJ u v) sz q := by
  rcases h with ⟨e, h⟩ | h
  · exact Or.inl ⟨e, zJ_l h⟩
  · exact Or.inr h
theorem zPc.off {D : va_G} {cs : Nat → ClassId} {u v : zw} {sz : Nat} {av : List Value} {a : Array Value} {U : State} (h : zPc D cs (zJ u v) sz av a U) : zPc D cs u sz av a U := ⟨h.1, h.2.1, fun q e hq => h.2.2.1 q e (zJ_l hq), h.2.2.2.1, zE.call (locs := []) h.2.2.2.2 va_S.rf (fun q hq => zA_l hq) rfl (State.WarmedH.refl U)⟩
theorem zJ_after {D : va_G} {u v u2 : zw} {sz : Nat} {s t : State} (hd : zDj u v) (hsz : s.heap.size = sz) (hP : zP D (zJ u v) s.heap) (hP2 : zP D u2 t.heap) (hA : ∀ (a : Nat) (e : va_E), u2 a = some e → zA u sz a) (hF : va_F (zA u sz) s t) : zP D (zJ u2 v) t.heap ∧ zDj u2 v ∧ (∀ (a : Nat) (e : va_E), zJ u2 v a = some e → zA (zJ u v) sz a) ∧ va_F (zA (zJ u v) sz) s t := by
  have hvs : ∀ (a : Nat) (e : va_E), v a = some e → a < sz := fun a e h => by
    rw [← hsz]
    exact (hP a e (zJ_r hd h)).lt
  have hno : ∀ (a : Nat) (e : va_E), v a = some e → ¬ zA u sz a := fun a e h => by
    rintro (⟨e3, h3⟩ | h3)
    · rw [hd.n h] at h3
      cases h3
    · exact absurd (hvs a e h) (Nat.not_lt.mpr h3)
  have hdj : zDj u2 v := fun a ha => by
    cases hu2 : u2 a with
    | none => exact absurd hu2 ha
    | some e =>
      cases hv : v a with
      | none => rfl
      | some e2 => exact absurd (hA a e hu2) (hno a e2 hv)
  refine ⟨fun a e h => ?_, hdj, fun a e h => ?_, ⟨hF.1, fun q h1 h2 => hF.2 q h1 (fun h => h2 (zA_l h))⟩⟩
  · cases hu2 : u2 a with
    | some e2 =>
      rw [zJ_l hu2] at h
      cases h
      exact hP2 a _ hu2
    | none =>
      rw [zJ_n hu2] at h
      exact (hP a e (zJ_r hd h)).kept (hF.2 a (by rw [hsz]; exact hvs a e h) (hno a e h))
  · cases hu2 : u2 a with
    | some e2 => exact zA_l (hA a e2 hu2)
    | none =>
      rw [zJ_n hu2] at h
      exact Or.inl ⟨e, zJ_r hd h⟩
theorem zM.frame {l : Launch} {D : va_G} {cs : Nat → ClassId} {y : MethodName} {ws : List Cond} {d mc ms : Nat} {u v : zw} {sz : Nat} {av : List Value} {post : Option Value → zw → Prop} (h : zM l D cs y ws d mc ms u sz av post) (hd : zDj u v) : zM l D cs y ws d mc ms (zJ u v) sz av (fun r w2 => ∃ u2 : zw, post r u2 ∧ zDj u2 v ∧ w2 = zJ u2 v) := by
  intro p e ha hc hk s m args below hf happ hP hK
  obtain ⟨n, o, h1, h2, h3, ⟨r, u2, hr, hp, hP2, hA2, hF⟩, L, hL, hL2⟩ := h p e ha hc hk s m args below hf happ hP.off hK
  obtain ⟨k1, k2, k3, k4⟩ := zJ_after hd hP.2.1 hP.2.2.1 hP2 hA2 hF
  exact ⟨n, o, h1, h2, h3, ⟨r, zJ u2 v, hr, ⟨u2, hp, k2, rfl⟩, k1, k3, k4⟩, L, hL, fun q hq => zA_l (hL2 q hq)⟩
theorem zMX.frame {l : Launch} {D : va_G} {cs : Nat → ClassId} {y : MethodName} {ws : List Cond} {d mc ms : Nat} {u v : zw} {sz : Nat} {av : List Value} {post : Option Value → zw → Prop} {px : String → Prop} (h : zMX l D cs y ws d mc ms u sz av post px) (hd : zDj u v) : zMX l D cs y ws d mc ms (zJ u v) sz av (fun r w2 => ∃ u2 : zw, post r u2 ∧ zDj u2 v ∧ w2 = zJ u2 v) px := by
  intro p e ha hc hk s m args below hf happ hP hK
  obtain ⟨n, o, h1, h2, h3, hQ⟩ := h p e ha hc hk s m args below hf happ hP.off hK
  refine ⟨n, o, h1, h2, h3, ?_⟩
  rcases hQ with ⟨⟨r, u2, hr, hp, hP2, hA2, hF⟩, L, hL, hL2⟩ | ⟨q, ho, E, ce, L, ⟨hpx, hPx, hFx⟩, c1, c2, c3, c4, c5, c6⟩
  · obtain ⟨k1, k2, k3, k4⟩ := zJ_after hd hP.2.1 hP.2.2.1 hP2 hA2 hF
    exact Or.inl ⟨⟨r, zJ u2 v, hr, ⟨u2, hp, k2, rfl⟩, k1, k3, k4⟩, L, hL, fun q hq => zA_l (hL2 q hq)⟩
  · obtain ⟨k1, k2, k3, k4⟩ := zJ_after hd hP.2.1 hP.2.2.1 hPx (fun a e h => Or.inl ⟨e, h⟩) hFx
    exact Or.inr ⟨q, ho, E, ce, L, ⟨hpx, k1, k4⟩, c1, c2, c3, c4, c5, fun z hz => zA_l (c6 z hz)⟩
/-- a contract may say less -/
theorem zM.imp {l : Launch} {D : va_G} {cs : Nat → ClassId} {y : MethodName} {ws : List Cond} {d mc ms : Nat} {u v : zw} {sz : Nat} {av : List Value} {post : Option Value → zw → Prop} {post2 : Option Value → zw → Prop} (h : zM l D cs y ws d mc ms u sz av post) (hp : ∀ (r : Option Value) (w2 : zw), post r w2 → post2 r w2) : zM l D cs y ws d mc ms u sz av post2 := by
  intro p e ha hc hk s m args below hf happ hP hK
  obtain ⟨n, o, h1, h2, h3, ⟨r, u2, hr, hp2, hP2⟩, hL⟩ := h p e ha hc hk s m args below hf happ hP hK
  exact ⟨n, o, h1, h2, h3, ⟨r, u2, hr, hp r u2 hp2, hP2⟩, hL⟩
/-! ===== the law's helpers: a call that may throw, caught ===== -/
def zNc (U : State) : Prop := ∀ E ∈ zExc, ∀ F ∈ zExc, E ≠ F → va_Nc E F U
theorem zNc.moved {u U : State} (hvm : u.vm.Alike U.vm) (h : zNc u) : zNc U := fun E hE F hF hne => va_Nc.moved hvm (h E hE F hF hne)
abbrev zPcL (D : va_G) (cs : Nat → ClassId) (w : zw) (sz : Nat) (av : List Value) : Array Value → State → Prop := fun v U => zPc D cs w sz av v U ∧ zNc U
theorem zPcL.blind {D : va_G} {cs : Nat → ClassId} {w : zw} {sz : Nat} {av : List Value} : FrameBlind (zPcL D cs w sz av) := fun a U g mk h => ⟨zPc.blind a U g mk h.1, zNc.moved (u := U) (Vm.Alike.refl U.vm) h.2⟩
abbrev zML (l : Launch) (D : va_G) (cs : Nat → ClassId) (y : MethodName) (ws : List Cond) (d mc ms : Nat) (w : zw) (sz : Nat) (av : List Value) (post : Option Value → zw → Prop) : Prop := Met l y ws (zR d mc ms) (zPcL D cs w sz av) (zQ D w sz post) mc ms (zA w sz)
theorem z_metL {l : Launch} {D : va_G} {cs : Nat → ClassId} {y : MethodName} {ws ws' : List Cond} {d mc ms : Nat} {w : zw} {sz : Nat} {av : List Value} {post : Option Value → zw → Prop} {cc : ByteArray} {maxL : Nat} {ret : Option FieldType} {hh : List (Nat × Nat × Nat × Nat)} (hy : plainName y.cls = true) (hw : ws = Cond.codeWith y cc maxL ret hh :: ws') (hn : (lg_sl av).length ≤ maxL)
    (body : ∀ (p : Program) (e : Env) (s : State) (m : MethodId) (below : List Frame) (meth : Method) (c : Code), p.tables.exec = Jvm.exec → c.code = cc → meth.sig.returnType = ret → c.maxLocals = maxL → s.vm.findClass y.cls = some m.cls → (∀ x ∈ ws, x.before av.toArray s = true) → meth.locks = false → c.exceptionTable.toList = tableOf hh → s.heap.size = sz → va_K D vwCl (zTy cs) s → zE (zA w sz) s → zNc s → zS (zA w sz) D w s.heap s.heap [] → ∀ ls : Array Slot, lv_has ls maxL (lv_args 0 av) → W p l e (zR d mc ms) s m av.toArray below meth c s.heap [] 0 0 (MQ below (zQ D w sz post) av.toArray s mc ms (zA w sz)) (F0 m 0 ls [])) : zML l D cs y ws d mc ms w sz av post := by
  refine va_MetW (hh := hh) (cc := cc) (maxL := maxL) (ret := ret) hy hw ?_
  intro p e s m args below meth c s₁ B hml hv
  obtain ⟨⟨rfl, hsz, hP, hK, hE⟩, hN⟩ := hv
  rw [lg_entry_eq]
  exact body p e s m below meth c B.exec B.bytes B.returns hml (findClass_of_methodNamed B.named) (atoms_spec (ws := ws) B.pre) B.notSynchronized (vx_table (x := y) B (atoms_spec (ws := ws) B.pre _ (by rw [hw]; exact List.mem_cons_self))) hsz hK hE hN ⟨hP, fun a e h => Or.inl ⟨e, h⟩, va_S.rf, fun q h => Or.inr (by rw [← hsz]; exact h)⟩ _ (lv_entry av hn)
