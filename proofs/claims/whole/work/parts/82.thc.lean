/-! Calls that throw, and what the pure machine says of them. -/
def tw_rm (d : Nat) : Room := { frames := d + 5, cells := 1, slots := 6, locals := 30 * d + 60 }
/-- a later state: tables warmer, the old cells as they were -/
def tw_G (s0 U : State) : Prop := s0.WarmedH U.vm ∧ ∀ q : Nat, q < s0.heap.size → U.heap[q]? = s0.heap[q]?
def tw_Q (E : String) (P : Heap → Prop) (A : Nat → Prop) : Array Value → State → Outcome → State → Prop := fun _ st o t => ∃ (q : Addr) (ce : Cell) (L : List Loc), o = .threw q ∧ t.heap[q]? = some ce ∧ ce.vm = .none ∧ st.vm.findClass E = some ce.cls ∧ st.WarmedH t.vm ∧ st.sameButNew ({ t with vm := st.vm } : State) L 1 6 ∧ (∀ z ∈ L, A z.base) ∧ P t.heap ∧ va_F A st t
def tw_MF (l : Launch) (y : MethodName) (ws : List Cond) (rm : Room) (Pc : Array Value → State → Prop) (E : String) (P : Heap → Prop) (A : Nat → Prop) : Prop := MetFree l y (headSpec ws rm) Pc (fun _ _ _ _ _ => True) (tw_Q E P A)
section TWC
variable {p : Program} {l : Launch} {e : Env} {R : Room} {s : State} {m : MethodId} {args : Array Value} {below : List Frame} {meth : Method} {c : Code} {T : State} {locs : List Loc} {cells slots : Nat}
variable {y : MethodName} {ws : List Cond} {rm : Room} {Pc : Array Value → State → Prop} {E : String} {P : Heap → Prop} {A : Nat → Prop} {bytes : ByteArray} {maxL : Nat} {ret : Option FieldType}
/-- the callee threw: its note lies over the caller's frame g -/
def tw_End (p : Program) (l : Launch) (e : Env) (R : Room) (s : State) (m : MethodId) (args : Array Value) (below : List Frame) (meth : Method) (c : Code) (T : State) (locs : List Loc) (cells slots : Nat) (E : String) (P : Heap → Prop) (A : Nat → Prop) (first : State) (g : JFrame) : Prop :=
  ∃ (q : Addr) (ce : Cell) (L : List Loc) (T' : State), Stand p l e R s m args below meth c T' (locs ++ L) (cells + 1) (slots + 6) ∧ (∀ z ∈ L, A z.base) ∧ T'.heap[q]? = some ce ∧ ce.vm = .none ∧ s.vm.findClass E = some ce.cls ∧ P T'.heap ∧ va_F A T T' ∧ Steps p.tables e below first ((T'.setTop g).pushFrame (.throwing q))
theorem tw_pay (hM : tw_MF l y ws rm Pc E P A) (hrc : rm.cells = 1) (hrs : rm.slots = 6) (hfr : rm.frames + 1 ≤ R.frames) (hlo : 8 + (maxL + 11) + rm.locals ≤ R.locals)
    (X : Stand p l e R s m args below meth c T locs cells slots) {g : JFrame} (hg : g.method = m) (hsize : g.locals.size = c.maxLocals) {ig : Instr} {len : Nat} (hdg : decode c.code g.pc = .ok (ig, len)) (hW : 2 * g.monitorRoom + (g.stack.map fun v => v.category).sum ≤ 8)
    {mk : MethodId} (hn : T.methodNamed? y = some mk) {a : Array Value} (hws : ∀ w ∈ ws, w.before a T = true) (hcode : Cond.code y bytes maxL ret ∈ ws) (hinit : (Cond.initialized y.cls).before a T = true) (hPc : Pc a (T.calling g mk a)) (hcs : cells + 1 ≤ R.cells ∧ slots + 6 ≤ R.slots) :
    tw_End p l e R s m args below meth c T locs cells slots E P A (doInvoke e (T.setTop g) [] mk a).1 g := by
  subst hg
  have h := X.here
  obtain ⟨methY, cY, hmY, hcY, -, hlY, -, -, -, -⟩ := Cond.code_spec hn (hws _ hcode)
  obtain ⟨kY, hkY, -⟩ := className_of_methodNamed hn
  have hiY : kY.init = .initialized := Cond.initialized_spec (findClass_of_methodNamed hn) hkY hinit
  have happ : (headSpec ws rm).appliesLoose y e.platform (T.calling g mk a) = true := Spec.appliesLoose_calling (g := g) h hdg hn hkY hiY
    (X.room_calling (g := g) (R' := (headSpec ws rm).room) hsize hmY hcY hfr (by rw [hlY]; show _ + (maxL + 11) + rm.locals ≤ _; omega) (by show cells + rm.cells ≤ _; rw [hrc]; exact hcs.1) (by show slots + rm.slots ≤ _; rw [hrs]; exact hcs.2)) (atoms_intro hws)
  obtain ⟨g₀, hr⟩ := X.frames_eq
  obtain ⟨mid, hmid⟩ := h.above
  have hfrm : (T.setTop g).frames = (.java g :: mid) ++ below := by rw [State.frames_setTop' g h.top, hmid]; rfl
  obtain ⟨o, s₂, hst, -, hend, q, ce, L, rfl, hce, hcv, hcl, hW2, hsm, hL, hP, hF⟩ := Steps.callFree hM p X.admits X.cas X.clock (acts := []) hfrm happ hPc trivial
  have hW' : T.WarmedH s₂.vm := hW2
  have hf₂ : s₂.frames = .throwing q :: (T.setTop g).frames := hend
  rw [State.frames_setTop _ hr] at hf₂
  have hr' : (({ T with heap := s₂.heap, slotsUsed := s₂.slotsUsed } : State).setVm s₂.vm).frames = .java g₀ :: below := hr
  have e3 : s₂ = ({ (T.calling g mk a).setFrames s₂.frames with heap := s₂.heap, slotsUsed := s₂.slotsUsed } : State).setVm s₂.vm := by
    have e1 : s₂ = ({ s₂ with vm := (T.calling g mk a).vm } : State).setVm s₂.vm := rfl
    have e2 := hsm.1
    have e4 : ({ s₂ with vm := (T.calling g mk a).vm } : State) = ({ (T.calling g mk a).setFrames s₂.frames with heap := s₂.heap, slotsUsed := s₂.slotsUsed } : State) := e2
    exact e1.trans (by rw [e4])
  have hs₂ : s₂ = ((({ T with heap := s₂.heap, slotsUsed := s₂.slotsUsed } : State).setVm s₂.vm).setTop g).pushFrame (.throwing q) := by
    refine e3.trans ?_
    rw [hf₂, State.calling_eq h.top, State.setFrames_setFrames, State.pushFrame, State.frames_setTop _ hr', State.setTop_of_frames _ hr', State.setFrames_setFrames]
    rfl
  have hsame : T.sameButNew ({ T with heap := s₂.heap, slotsUsed := s₂.slotsUsed } : State) L 1 6 := by
    refine ⟨?_, hsm.2⟩
    obtain ⟨t, ht, -⟩ := State.frames_cons hr
    show ({ T with heap := s₂.heap, slotsUsed := s₂.slotsUsed } : State) = { T.setFrames T.frames with heap := s₂.heap, slotsUsed := s₂.slotsUsed }
    rw [State.setFrames_self ht]
  refine ⟨q, ce, L, ({ T with heap := s₂.heap, slotsUsed := s₂.slotsUsed } : State).setVm s₂.vm, ⟨X.admits, X.cas, X.clock, X.frames, X.room, X.hears, X.method, X.code, (X.here.setHeapUsed s₂.heap s₂.slotsUsed).setVm hW'.alike, X.tail, State.WarmedH.trans X.warmed hW', X.limits, X.bytes, X.same.trans (hsame.setVm s.vm)⟩, hL, hce, hcv, ?_, hP, hF, ?_⟩
  · have h1 : T.vm.findClass E = some ce.cls := hcl
    rw [X.warmed.alike.findClass] at h1
    exact h1
  · rw [← hs₂]
    exact hst
variable {cc : ByteArray} {nL n index : Nat} {Ts : List Cond} {own C : String} {b : Addr} {As rest : List Value} {g : JFrame} {H : Heap}
theorem tw_runV (S : CallFix p m c cc nL s args Ts own) (hM : tw_MF l y ws rm Pc E P A) (cw : CallW R s args own C index y bytes maxL ret ws rm 1 6 n) (hp : PreV s H C b Pc As)
    (hg : g.method = m) (hn : As.length = n) (hsize : g.locals.size = nL) (hstack : g.stack = As.reverse ++ .ref b :: rest) (hW : 2 * g.monitorRoom + (rest.map fun v => v.category).sum ≤ 8) (hdg : decode cc g.pc = .ok (.invokevirtual index, 3)) (hf : cells + 1 ≤ R.cells ∧ slots + 6 ≤ R.slots)
    (hT : T.heap = H) (X : Stand p l e R s m args below meth c T locs cells slots) : tw_End p l e R s m args below meth c T locs cells slots E P A (T.setTop g) { g with stack := rest } := by
  obtain ⟨⟨hrc, hrs, hfr, hlo, hws, hcw, hcode, hini, hy, hlen, hl⟩, hin, hse⟩ := cw
  obtain ⟨hx, hb, hml, ho, -⟩ := S
  obtain ⟨hbl, ⟨cellB, hcB, hoB, hclB⟩, hPc⟩ := hp
  obtain ⟨mk, methM, hnamed, hmethM, hstM, habM⟩ := Cond.instanceMethod_spec hin
  obtain ⟨methM', cM, hmethM', -, -, -, -, -, -, hsigM⟩ := Cond.code_spec hnamed hcode
  cases hmethM.symm.trans hmethM'
  obtain ⟨c2, r2, m2, q1, q2, q3, q4, kP, hkP, hkPi⟩ := Cond.selects_spec hse
  cases hclB.symm.trans q1
  cases (State.methodFound?_of_named hnamed hy).symm.trans q2
  cases hnamed.symm.trans q3
  have hselP : selectMethod e.platform s.vm cellB.cls mk = .method mk := by rw [Launch.admits_selectMethod X.admits]; exact q4
  obtain ⟨vm₁, X₁, hstep₁⟩ := X.invokevirtual hx ho hl hnamed hmethM hstM hkP hkPi hy (a := b) (cell := cellB) (by rw [hT]; exact hcB)
    (fun z h => by rw [h] at hoB; cases hoB) hselP hmethM habM hkP hkPi (g := g) hg (argsL := As) (rest := rest) (hn.trans (hlen _ hsigM)) hstack (by rw [hb]; exact hdg)
  obtain ⟨q, ce, L, T', z1, z2, z3, z4, z5, z6, z7, z8⟩ := tw_pay (g := { g with stack := rest }) hM hrc hrs hfr hlo X₁ hg (hsize.trans hml.symm) (ig := .invokevirtual index) (len := 3) (by rw [hb]; exact hdg) hW (X₁.named hnamed) (a := (Value.ref b :: As).toArray)
    (fun w hw => hws w hw _ _ X₁.warmed) hcw (word_at X₁.warmed (Or.inl (by rfl)) hini) (hbl _ _ _ _ (hPc (T.setVm vm₁) hT X₁.warmed)) hf
  exact ⟨q, ce, L, T', z1, z2, z3, z4, z5, z6, z7, hstep₁ _ fun acts => by rw [doInvoke_state]; exact z8⟩
theorem tw_runS (S : CallFix p m c cc nL s args Ts own) (hM : tw_MF l y ws rm Pc E P A) (cw : CallB R s args own index y bytes maxL ret ws rm 1 6 n ∧ (Cond.static y).before args s = true) (hp : PreS s H Pc As)
    (hg : g.method = m) (hn : As.length = n) (hsize : g.locals.size = nL) (hstack : g.stack = As.reverse ++ rest) (hW : 2 * g.monitorRoom + (rest.map fun v => v.category).sum ≤ 8) (hdg : decode cc g.pc = .ok (.invokestatic index, 3)) (hf : cells + 1 ≤ R.cells ∧ slots + 6 ≤ R.slots)
    (hT : T.heap = H) (X : Stand p l e R s m args below meth c T locs cells slots) : tw_End p l e R s m args below meth c T locs cells slots E P A (T.setTop g) { g with stack := rest } := by
  obtain ⟨⟨hrc, hrs, hfr, hlo, hws, hcw, hcode, hini, hy, hlen, hl⟩, hsta⟩ := cw
  obtain ⟨hx, hb, hml, ho, -⟩ := S
  obtain ⟨hbl, hPc⟩ := hp
  obtain ⟨mk, hnamed⟩ := Cond.code_named hcode
  obtain ⟨methM, cM, hmethM, -, -, -, -, -, -, hsigM⟩ := Cond.code_spec hnamed hcode
  have hstatic : methM.isStatic = true := Cond.static_spec hnamed hmethM hsta
  obtain ⟨kP, hkP, -⟩ := className_of_methodNamed hnamed
  have hinitP : kP.init = .initialized := Cond.initialized_spec (findClass_of_methodNamed hnamed) hkP hini
  obtain ⟨vm₁, X₁, hstep₁⟩ := X.invokestatic hx ho hl hnamed hmethM hstatic hkP hinitP hy (g := g) hg (argsL := As) (rest := rest) (hn.trans (hlen _ hsigM)) hstack (by rw [hb]; exact hdg)
  obtain ⟨q, ce, L, T', z1, z2, z3, z4, z5, z6, z7, z8⟩ := tw_pay (g := { g with stack := rest }) hM hrc hrs hfr hlo X₁ hg (hsize.trans hml.symm) (ig := .invokestatic index) (len := 3) (by rw [hb]; exact hdg) hW (X₁.named hnamed) (a := As.toArray)
    (fun w hw => hws w hw _ _ X₁.warmed) hcw (word_at X₁.warmed (Or.inl (by rfl)) hini) (hbl _ _ _ _ (hPc (T.setVm vm₁) hT X₁.warmed)) hf
  exact ⟨q, ce, L, T', z1, z2, z3, z4, z5, z6, z7, hstep₁ _ fun acts => by rw [doInvoke_state]; exact z8⟩
end TWC
