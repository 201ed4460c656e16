/-! Exceptions: a walk's new base, an exception made and thrown, words that a later state keeps. -/
section TWA
variable {p : Program} {l : Launch} {e : Env} {R : Room} {s : State} {m : MethodId} {args : Array Value} {below : List Frame} {meth : Method} {c : Code} {T : State} {locs : List Loc} {cells slots : Nat}
/-- the method's first state, but with the heap as it is now -/
def tw_b (s T : State) : State := { s with heap := T.heap, slotsUsed := T.slotsUsed }
def tw_r (R : Room) (cells slots : Nat) : Room := { frames := R.frames, cells := R.cells - cells, slots := R.slots - slots, locals := R.locals }
theorem tw_base (X : Stand p l e R s m args below meth c T locs cells slots) (hc : cells ≤ R.cells) (hs : slots ≤ R.slots) : Stand p l e (tw_r R cells slots) (tw_b s T) m args below meth c T [] 0 0 := by
  have hr := X.room
  simp only [State.hasRoom, Bool.and_eq_true, decide_eq_true_eq] at hr
  have h1 := X.heapSize
  have h2 := X.used
  refine ⟨X.admits, X.cas, X.clock, X.frames, ?_, X.hears, X.method, X.code, X.here, X.tail, X.warmed, X.limits, X.bytes, ?_⟩
  · simp only [State.hasRoom, Bool.and_eq_true, decide_eq_true_eq]
    refine ⟨⟨⟨⟨hr.1.1.1.1, hr.1.1.1.2⟩, ?_⟩, ?_⟩, X.book⟩
    · show T.heap.size + (R.cells - cells) ≤ _
      have := hr.1.1.2
      omega
    · show T.slotsUsed + (R.slots - slots) ≤ _
      have := hr.1.2
      omega
  · refine ⟨X.same.1, Nat.le_refl _, Nat.le_refl _, ?_, ?_, fun a c h => ⟨c, h, rfl, rfl, fun _ _ => rfl⟩⟩
    · show T.slotsUsed = T.slotsUsed + ((T.heap.toList.drop T.heap.size).map (·.slots.size)).sum
      rw [List.drop_eq_nil_of_le (by simp)]
      rfl
    · show ((T.heap.toList.drop T.heap.size).map (·.slots.size)).sum ≤ 0
      rw [List.drop_eq_nil_of_le (by simp)]
      exact Nat.le_refl _
theorem tw_sf (s : State) (F G : List Frame) (h : Heap) (u : Nat) : ({ (s.setFrames F) with heap := h, slotsUsed := u } : State).setFrames G = ({ (s.setFrames G) with heap := h, slotsUsed := u } : State) := by
  have e1 : ({ (s.setFrames F) with heap := h, slotsUsed := u } : State).setFrames G = ({ ((s.setFrames F).setFrames G) with heap := h, slotsUsed := u } : State) := rfl
  rw [e1, State.setFrames_setFrames]
theorem tw_same (X : Stand p l e R s m args below meth c T locs cells slots) {U : State} {c2 n2 : Nat} (h : (tw_b s T).sameButNew ({ U with vm := s.vm } : State) [] c2 n2) : s.sameButNew ({ U with vm := s.vm } : State) locs (cells + c2) (slots + n2) := by
  have h2 : (T.setVm s.vm).sameButNew ({ U with vm := s.vm } : State) [] c2 n2 := by
    refine ⟨?_, h.2⟩
    have e0 : T.setVm s.vm = ({ (s.setFrames T.frames) with heap := T.heap, slotsUsed := T.slotsUsed } : State) := X.same.1
    rw [e0, tw_sf]
    exact h.1
  have h3 := X.same.trans h2
  rw [List.append_nil] at h3
  exact h3
end TWA
/-- words that hold in every later state -/
def tw_wk (c : Cond) : Bool := (c.onTables && c.keepsFace) || match c with
  | .laysStatic .. => true
  | .isRef (.static ..) => true
  | _ => false
theorem tw_st {s1 U : State} {a0 a' : Array Value} {C n d : String} {v : Value} (hvm : U.vm = s1.vm) (hH : ∀ q : Nat, q < s1.heap.size → U.heap[q]? = s1.heap[q]?) (h : (Term.static C n d).eval a0 s1 none [] s1 = some v) : (Term.static C n d).eval a' U none [] U = some v := by
  simp only [Term.eval, Option.bind_eq_bind, Option.bind_eq_some_iff] at h ⊢
  obtain ⟨⟨c, k, slot⟩, h1, b, hb, cell, hcell, h2⟩ := h
  refine ⟨⟨c, k, slot⟩, ?_, b, hb, cell, ?_, h2⟩
  · simpa only [State.fieldNamed?, State.fieldFound?, hvm] using h1
  · rw [hH b (Array.getElem?_eq_some_iff.mp hcell).1]
    exact hcell
theorem tw_word {s0 U : State} {a0 a' : Array Value} (hW : s0.WarmedH U.vm) (hH : ∀ q : Nat, q < s0.heap.size → U.heap[q]? = s0.heap[q]?) {c : Cond} (hc : tw_wk c = true) (h : c.before a0 s0 = true) : c.before a' U = true := by
  unfold tw_wk at hc
  rw [Bool.or_eq_true] at hc
  rcases hc with hc | hc
  · rw [Bool.and_eq_true] at hc
    have h1 := Cond.before_shiftedFace (args := a0) (State.Shifted.of_warmed hW) c hc.2 h
    rw [Cond.onTables_vm (A' := a') (U' := U) U.vm c hc.1, State.setVm_self] at h1
    exact h1
  · split at hc
    · rename_i C n d
      obtain ⟨c, k, i, f, a, cell, h1, hi, hst, ha, hcell, hs, hcls, hlt, hty⟩ := Cond.laysStatic_spec (Cond.laysStatic_setVm hW.alike h)
      exact Cond.laysStatic_of (s := U) h1 hi hst ha (by rw [hH a (Array.getElem?_eq_some_iff.mp hcell).1]; exact hcell) hs hcls hlt hty
    · rename_i C n d
      have h1 := Cond.before_shiftedFace (args := a0) (State.Shifted.of_warmed hW) (.isRef (.static C n d)) (by rfl) h
      cases hv : (Term.static C n d).eval a0 (s0.setVm U.vm) none [] (s0.setVm U.vm) with
      | none => simp [Cond.before, Cond.holds, Cond.value, hv] at h1
      | some w =>
        have h2 := tw_st (a' := a') (s1 := s0.setVm U.vm) (U := U) rfl hH hv
        simp only [Cond.before, Cond.holds, Cond.value, hv] at h1
        simp only [Cond.before, Cond.holds, Cond.value, h2]
        exact h1
    · cases hc
section TWB
variable {p : Program} {l : Launch} {e : Env} {R : Room} {s : State} {m : MethodId} {args : Array Value} {below : List Frame} {meth : Method} {c : Code} {T : State} {locs : List Loc} {cells slots : Nat}
/-- new, dup, invokespecial, athrow: the method ends, all other cells as they were just before -/
theorem tw_throw (X : Stand p l e R s m args below meth c T locs cells slots) (hexec : p.tables.exec = Jvm.exec) (htr : e.platform.stackTraces = false) {own E : String} {i1 i2 : Nat} {names : List String} (hown : s.vm.findClass own = some m.cls) (hE : Bundle.fit E = true) (hnames : ∀ n ∈ names, Bundle.fit n = true)
    (h : ∀ a ∈ Bundle.ownAtoms0 own i2 E names, a.before args (tw_b s T) = true) (hcl : (Cond.classLink own i1 E).before args (tw_b s T) = true) (hin : (Cond.initialized E).before args (tw_b s T) = true)
    {cc : ByteArray} (hb : c.code = cc) {pc : Nat} {ls : Array Slot} (hsize : ls.size = c.maxLocals) (d0 : decode cc pc = .ok (.new i1, 3)) (d1 : decode cc (pc + 3) = .ok (.dup, 1)) (d2 : decode cc (pc + 4) = .ok (.invokespecial i2, 3)) (d3 : decode cc (pc + 7) = .ok (.athrow, 1))
    (hout : ∀ x ∈ c.exceptionTable.toList, covers x (pc + 7) = false) (hcs : cells + 1 ≤ R.cells ∧ slots + 6 ≤ R.slots) (hR : names.length + 3 < R.frames ∧ 13 * (names.length + 1) + 42 ≤ R.locals) (hlocks : meth.locks = false) :
    ∃ (U : State) (a : Addr) (ce : Cell), Steps p.tables e below (T.setTop (F0 m pc ls [])) U ∧ U.status = .running ∧ Ended U below (.threw a) ∧ s.WarmedH U.vm ∧ s.sameButNew ({ U with vm := s.vm } : State) locs (cells + 1) (slots + 6) ∧ (∀ q : Nat, q < T.heap.size → U.heap[q]? = T.heap[q]?) ∧ T.heap.size ≤ U.heap.size ∧ U.heap[a]? = some ce ∧ ce.vm = .none ∧ s.vm.findClass E = some ce.cls := by
  have X0 := tw_base X (by omega) (by omega)
  obtain ⟨vm', cC, kC, h1, h2, h3, h4, X1, st1⟩ := X0.newCold (own := own) (C := E) (index := i1) (n := 6) hexec hown hcl (h (.instantiable E 6) (by simp [Bundle.ownAtoms0])) hin (g := F0 m pc ls []) rfl (by rw [hb]; exact d0) (by show 0 + 1 ≤ R.cells - cells; omega) (by show 0 + 6 ≤ R.slots - slots; omega)
  have w : W p l e (tw_r R cells slots) (tw_b s T) m args below meth c (((T.setVm vm').pushCell { cls := cC, slots := kC.instanceTypes.map defaultValue, vm := .none }).heap) [] (0 + 1) (0 + 6) (fun U => ∃ (a : Addr) (ce : Cell), U.status = .running ∧ Ended U below (.threw a) ∧ (tw_b s T).WarmedH U.vm ∧ (tw_b s T).sameButNew ({ U with vm := (tw_b s T).vm } : State) [] (0 + 1) (0 + 6) ∧ U.heap[a]? = some ce ∧ ce.vm = .none ∧ s.vm.findClass E = some ce.cls) (F0 m (pc + 3) ls [.ref T.heap.size]) := by
    refine lv_dup hexec hb d1 rfl ?_
    intro T2 hT2 X2
    have hcell : T2.heap[T.heap.size]? = some (freshCell cC kC) := by
      rw [hT2]
      show (T.heap.push _)[T.heap.size]? = _
      rw [Array.getElem?_push_size]
    obtain ⟨U, q1, q2, q3, q4, q5, ce, q6, q7⟩ := X2.ctorThrow0 hexec htr (own := own) (cls := E) (names := names) (ic := i2) hown hE hnames h (fun x hx => absurd hx List.not_mem_nil) (a := T.heap.size) h1 h2 hcell (Nat.le_refl _)
      (g := F0 m (pc + 4) ls [.ref T.heap.size, .ref T.heap.size]) rfl hsize rfl rfl (rest := []) rfl (by rw [hb]; exact d2) (by rw [hb]; exact d3) hout hR.1 (by
        have := hR.2
        show 2 * 0 + ([Value.ref T.heap.size].map fun v => v.category).sum + _ ≤ R.locals
        simp [Value.category]
        omega) hlocks
    exact ⟨U, q1, T.heap.size, ce, q2, q3, q4, q5, q6, q7.vm, q7.cls⟩
  obtain ⟨U, k1, a, ce, k2, k3, k4, k5, k6, k7, k8⟩ := w _ rfl X1
  refine ⟨U, a, ce, st1 U k1, k2, k3, k4, ?_, ?_, k5.2.1, k6, k7, k8⟩
  · have := tw_same X k5
    rw [show cells + (0 + 1) = cells + 1 by omega, show slots + (0 + 6) = slots + 6 by omega] at this
    exact this
  · intro q hq
    obtain ⟨cell, hcell⟩ : ∃ cell, T.heap[q]? = some cell := ⟨_, Array.getElem?_eq_getElem hq⟩
    rw [hcell]
    exact State.sameButNew.old_cell k5 (show (tw_b s T).heap[q]? = some cell from hcell)
end TWB
