/-! An exception caught: the search through the caller's table, its class entries open or not. -/
theorem tw_look {e : Env} {s : State} {f : JFrame} {a : Addr} {x : ExceptionTableEntry} {t : List ExceptionTableEntry} {c : ClassId} {cell : Cell} (hx : covers x f.pc = true) (h0 : x.catchType ≠ 0) (hl : s.vm.ClassLinks e.platform f.method.cls x.catchType c) (hcell : s.heap[a]? = some cell) (hobj : ∀ k, cell.vm ≠ .statics k)
    (hk : ∃ k, s.vm.classes[cell.cls]? = some k) (hc : ∃ k, s.vm.classes[c]? = some k) (Q : Handler → Pre) (E : CtlPost) (d : Bool) (acts : List Action) :
    wp (findHandler.go f a (x :: t)) Q E e d acts s ↔ if s.vm.assignable cell.cls c = true then Q (.found x.handlerPc) d acts (s.setVm (s.vm.noted f.method.cls x.catchType (.cls c))) else wp (findHandler.go f a t) Q E e d acts (s.setVm (s.vm.noted f.method.cls x.catchType (.cls c))) := by
  simp only [covers] at hx
  obtain ⟨ha, ht⟩ := (resolveClass_links e.toSetting hl).op (op := VmOp.resolveClass f.method.cls x.catchType) rfl
  have hal : s.vm.Alike (s.vm.noted f.method.cls x.catchType (.cls c)) := (Vm.Alike.refl s.vm).noted _ _ _
  obtain ⟨k1, hk1⟩ := hk
  obtain ⟨k2, hk2⟩ := hc
  obtain ⟨k1', hk1', -⟩ := hal.2.2 _ _ hk1
  obtain ⟨k2', hk2', -⟩ := hal.2.2 _ _ hk2
  have hasg := hal.assignable cell.cls c
  cases hfit : s.vm.assignable cell.cls c with
  | true =>
    rw [hfit] at hasg
    simp [findHandler.go, hx, h0, ha, ht, hcell, hobj, hk1', hk2', hasg, VmOp.dirties, VmOp.acts]
  | false =>
    rw [hfit] at hasg
    simp [findHandler.go, hx, h0, ha, ht, hcell, hobj, hk1', hk2', hasg, VmOp.dirties, VmOp.acts]
/-- what the search finds, and the tables that it leaves -/
def tw_fd (e : Env) (s : State) (f : JFrame) (a : Addr) (t : List ExceptionTableEntry) (h : Handler) (vm' : Vm) : Prop :=
  ∀ (Q : Handler → Pre) (E : CtlPost) (d : Bool) (acts : List Action), wp (findHandler.go f a t) Q E e d acts s ↔ Q h d acts (s.setVm vm')
section TWK
variable {p : Program} {l : Launch} {e : Env} {R : Room} {s : State} {m : MethodId} {args : Array Value} {below : List Frame} {meth : Method} {c : Code} {T : State} {locs : List Loc} {cells slots : Nat} {g : JFrame} {q : Addr}
theorem tw_step {e : Env} {s : State} {f : JFrame} {a : Addr} {r : List Frame} {meth : Method} {code : Code} {pc : Nat} {vm' : Vm} (hm : s.vm.method? f.method = some meth) (hc : meth.code = some code) (h : tw_fd e s f a code.exceptionTable.toList (.found pc) vm') :
    (stepThrowing e s a (.java f :: r)).Is ((s.setVm vm').setFrames (.java { f with pc := pc, stack := [.ref a] } :: r)) [] := by
  have h2 : ∀ (Q : Handler → Pre) (E : CtlPost) (d : Bool) (acts : List Action), wp (findHandler f a) Q E e d acts s ↔ Q (.found pc) d acts (s.setVm vm') := fun Q E d acts => (W.findHandler_eq hm hc).trans (h Q E d acts)
  simp only [stepThrowing, searchFrame, vmDo]
  generalize hr : Sem.go _ e false [] s = res
  obtain ⟨as, rfl, ha⟩ := Sem.eq_ok_of hr (a := Handler.found pc) (s' := s.setVm vm') (acts' := []) (by simp [h2])
  exact ⟨rfl, ha⟩
theorem tw_caught (X : Stand p l e R s m args below meth c T locs cells slots) (hg : g.method = m) {pc : Nat} {vm' : Vm} (h : tw_fd e ((T.setTop g).pushFrame (.throwing q)) g q c.exceptionTable.toList (.found pc) vm') {target : State} (hrest : Steps p.tables e below ((T.setVm vm').setTop { g with pc := pc, stack := [.ref q] }) target) :
    Steps p.tables e below ((T.setTop g).pushFrame (.throwing q)) target := by
  subst hg
  obtain ⟨hgo, hw⟩ := X.here.throwing q
  refine Steps.head hgo hw ?_
  rw [stepThread_throwing (frames_entered X.here.top _), (tw_step (s := (T.setTop g).pushFrame (.throwing q)) (meth := meth) (code := c) X.method' X.code h).1]
  obtain ⟨g₀, hr⟩ := X.frames_eq
  have hr' : (T.setVm vm').frames = .java g₀ :: below := hr
  rw [State.setTop_of_frames _ hr'] at hrest
  have e1 : ∀ (F : List Frame) (G : List Frame), ((T.setFrames F).setVm vm').setFrames G = (T.setVm vm').setFrames G := fun F G => by
    have h1 : (T.setFrames F).setVm vm' = (T.setVm vm').setFrames F := rfl
    rw [h1, State.setFrames_setFrames]
  rw [hr, List.tail_cons, State.pushFrame, State.setTop_of_frames _ hr, State.setFrames_setFrames, e1]
  exact hrest
/-- the first entry takes it -/
theorem tw_catch1 (X : Stand p l e R s m args below meth c T locs cells slots) (hg : g.method = m) {own E : String} (hown : s.vm.findClass own = some m.cls) {x : ExceptionTableEntry} {t : List ExceptionTableEntry} (htab : c.exceptionTable.toList = x :: t) (hx : covers x g.pc = true) (h0 : x.catchType ≠ 0) (hlink : (Cond.classLink own x.catchType E).before args s = true)
    {ce : Cell} (hcell : T.heap[q]? = some ce) (hvm : ce.vm = .none) (hcls : s.vm.findClass E = some ce.cls) (hfit : (Cond.castable E E).before args s = true) :
    ∃ vm', Stand p l e R s m args below meth c (T.setVm vm') locs cells slots ∧ ∀ target, Steps p.tables e below ((T.setVm vm').setTop { g with pc := x.handlerPc, stack := [.ref q] }) target → Steps p.tables e below ((T.setTop g).pushFrame (.throwing q)) target := by
  have hpl : e.platform.magicAccessors = ({} : Platform).magicAccessors := by rw [X.admits.platform]
  obtain ⟨c1, hc1, hcl⟩ := Cond.classLink_spec hown hlink e.platform hpl
  obtain ⟨dk, _, _, kt, hd, _, _, _, _, hkt, _, hopen⟩ := hcl.here
  have hW' : s.WarmedH (T.vm.noted m.cls x.catchType (.cls c1)) := X.warmed.noted hd hopen (State.rightAt_cls hcl)
  have hal := X.warmed.alike
  obtain ⟨c2, c3, hc2, hc3, hasg⟩ := Cond.castable_spec hfit
  cases hcls.symm.trans hc2
  cases hcls.symm.trans hc3
  cases hcls.symm.trans hc1
  obtain ⟨k', hk', -⟩ := hal.2.2 _ _ hkt
  refine ⟨_, X.noted hW', fun target h => tw_caught X hg (vm' := T.vm.noted m.cls x.catchType (.cls ce.cls)) (fun Q E d acts => ?_) h⟩
  subst hg
  rw [htab]
  have hh := tw_look (e := e) (s := (T.setTop g).pushFrame (.throwing q)) (f := g) (a := q) (x := x) (t := t) (c := ce.cls) (cell := ce) hx h0 (X.warmed.classLinks hcl) hcell (fun k hk => by rw [hvm] at hk; cases hk) ⟨k', hk'⟩ ⟨k', hk'⟩ Q E d acts
  have e2 : ((T.setTop g).pushFrame (.throwing q)).vm.assignable ce.cls ce.cls = true := by
    show T.vm.assignable ce.cls ce.cls = true
    rw [hal.assignable]
    exact hasg
  rw [if_pos e2] at hh
  exact hh
/-- the second entry takes it, not the first -/
theorem tw_catch2 (X : Stand p l e R s m args below meth c T locs cells slots) (hg : g.method = m) {own E E1 : String} (hown : s.vm.findClass own = some m.cls) {x y : ExceptionTableEntry} {t : List ExceptionTableEntry} (htab : c.exceptionTable.toList = x :: y :: t) (hx : covers x g.pc = true) (h0 : x.catchType ≠ 0) (hy : covers y g.pc = true) (h0y : y.catchType ≠ 0) (hlink1 : (Cond.classLink own x.catchType E1).before args s = true) (hlink : (Cond.classLink own y.catchType E).before args s = true)
    {ce : Cell} (hcell : T.heap[q]? = some ce) (hvm : ce.vm = .none) (hcls : s.vm.findClass E = some ce.cls) (hfit : (Cond.castable E E).before args s = true) (hnot : (Cond.not (Cond.castable E E1)).before args s = true) :
    ∃ vm', Stand p l e R s m args below meth c (T.setVm vm') locs cells slots ∧ ∀ target, Steps p.tables e below ((T.setVm vm').setTop { g with pc := y.handlerPc, stack := [.ref q] }) target → Steps p.tables e below ((T.setTop g).pushFrame (.throwing q)) target := by
  have hpl : e.platform.magicAccessors = ({} : Platform).magicAccessors := by rw [X.admits.platform]
  obtain ⟨c0, hc0, hcl0⟩ := Cond.classLink_spec hown hlink1 e.platform hpl
  obtain ⟨dk0, _, _, kt0, hd0, _, _, _, _, hkt0, _, hopen0⟩ := hcl0.here
  have hW0 : s.WarmedH (T.vm.noted m.cls x.catchType (.cls c0)) := X.warmed.noted hd0 hopen0 (State.rightAt_cls hcl0)
  obtain ⟨c1, hc1, hcl⟩ := Cond.classLink_spec hown hlink e.platform hpl
  obtain ⟨dk, _, _, kt, hd, _, _, _, _, hkt, _, hopen⟩ := hcl.here
  have hW' : s.WarmedH ((T.vm.noted m.cls x.catchType (.cls c0)).noted m.cls y.catchType (.cls c1)) := hW0.noted hd hopen (State.rightAt_cls hcl)
  have hal := X.warmed.alike
  obtain ⟨c2, c3, hc2, hc3, hasg⟩ := Cond.castable_spec hfit
  cases hcls.symm.trans hc2
  cases hcls.symm.trans hc3
  cases hcls.symm.trans hc1
  have hno : s.vm.assignable ce.cls c0 = false := by
    simp only [Cond.before, Cond.holds, Cond.value, hcls, hc0] at hnot
    simpa using hnot
  obtain ⟨k', hk', -⟩ := hal.2.2 _ _ hkt
  obtain ⟨k0', hk0', -⟩ := hal.2.2 _ _ hkt0
  obtain ⟨k2', hk2', -⟩ := hW0.alike.2.2 _ _ hkt
  refine ⟨_, X.noted hW', fun target h => tw_caught X hg (vm' := (T.vm.noted m.cls x.catchType (.cls c0)).noted m.cls y.catchType (.cls ce.cls)) (fun Q E d acts => ?_) h⟩
  subst hg
  rw [htab]
  have hh := tw_look (e := e) (s := (T.setTop g).pushFrame (.throwing q)) (f := g) (a := q) (x := x) (t := y :: t) (c := c0) (cell := ce) hx h0 (X.warmed.classLinks hcl0) hcell (fun k hk => by rw [hvm] at hk; cases hk) ⟨k', hk'⟩ ⟨k0', hk0'⟩ Q E d acts
  have e2 : ¬ ((T.setTop g).pushFrame (.throwing q)).vm.assignable ce.cls c0 = true := by
    show ¬ T.vm.assignable ce.cls c0 = true
    rw [hal.assignable, hno]
    decide
  rw [if_neg e2] at hh
  refine hh.trans ?_
  have hh2 := tw_look (e := e) (s := ((T.setTop g).pushFrame (.throwing q)).setVm (T.vm.noted g.method.cls x.catchType (.cls c0))) (f := g) (a := q) (x := y) (t := t) (c := ce.cls) (cell := ce) hy h0y (hW0.classLinks hcl) hcell (fun k hk => by rw [hvm] at hk; cases hk) ⟨k2', hk2'⟩ ⟨k2', hk2'⟩ Q E d acts
  have e3 : (((T.setTop g).pushFrame (.throwing q)).setVm (T.vm.noted g.method.cls x.catchType (.cls c0))).vm.assignable ce.cls ce.cls = true := by
    show (T.vm.noted g.method.cls x.catchType (.cls c0)).assignable ce.cls ce.cls = true
    rw [hW0.alike.assignable]
    exact hasg
  rw [if_pos e3] at hh2
  exact hh2
end TWK
