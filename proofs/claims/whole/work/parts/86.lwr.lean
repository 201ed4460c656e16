/-! The law's own methods: the world of both objects and the array out; calls from there. -/
def lw_O (ao : Nat) (cL : ClassId) (f : Nat → Int64) : Nat × va_E := (ao, .inl (cL, 1, .inr (.inl f)))
def lw_ws (ad : Nat → Nat) (cs : ck_Cs) (ao : Nat) (cL : ClassId) (f : Nat → Int64) (σ : ck_M) : va_W := ck_ws ad cs σ ++ [lw_O ao cL f]
def wr_B (ad : Nat → Nat) (ao sz : Nat) : Nat → Prop := fun q => q = ao ∨ ck_A ad sz q
/-- the addresses: apart, and new since s0 -/
def wr_D (s0 : State) (ad : Nat → Nat) (ao : Nat) : Prop := (∀ i j : Nat, i < 501 → j < 501 → ad i = ad j → i = j) ∧ (∀ c : Nat, c < 501 → ad c ≠ ao ∧ s0.heap.size ≤ ad c) ∧ s0.heap.size ≤ ao
def tw_not : List (String × String) := [("java/lang/IndexOutOfBoundsException", "java/lang/IllegalStateException"), ("java/lang/IllegalArgumentException", "java/lang/IllegalStateException")]
def tw_W0 (s0 : State) : Prop := (∀ x ∈ tw_exs, ∀ w ∈ tw_wds x, w.before #[] s0 = true) ∧ ∀ x ∈ tw_not, (Cond.not (.castable x.1 x.2)).before #[] s0 = true
theorem tw_not_at {s0 U : State} {a' : Array Value} (hW : s0.WarmedH U.vm) {x y : String} (h : (Cond.not (.castable x y)).before #[] s0 = true) : (Cond.not (.castable x y)).before a' U = true := Cond.castAtom_setVm (args := #[]) hW.alike (.not (.castable x y)) rfl h
theorem wr_S {s0 : State} {ad : Nat → Nat} {ao : Nat} (h0 : tw_W0 s0) (hd : wr_D s0 ad ao) : tw_S s0 ad := ⟨h0.1, fun c hc => (hd.2.1 c hc).2⟩
theorem lw_len (ad : Nat → Nat) (cs : ck_Cs) (σ : ck_M) : (ck_ws ad cs σ).length = 501 := by simp [ck_ws]
theorem lw_inv {ad : Nat → Nat} {cs : ck_Cs} {ao : Nat} {cL : ClassId} {f : Nat → Int64} {σ : ck_M} {k : Nat} {q : Nat × va_E} (h : (lw_ws ad cs ao cL f σ)[k]? = some q) : (k < 501 ∧ q = (ad k, ck_en ad cs σ k)) ∨ (k = 501 ∧ q = lw_O ao cL f) := by
  unfold lw_ws at h
  by_cases hk : k < 501
  · rw [List.getElem?_append_left (by rw [lw_len]; exact hk)] at h
    exact Or.inl (ck_ws_inv h)
  · rw [List.getElem?_append_right (by rw [lw_len]; omega), lw_len] at h
    have hk2 : k - 501 = 0 := by
      by_cases h0 : k - 501 = 0
      · exact h0
      · rw [List.getElem?_eq_none (by simp; omega)] at h
        cases h
    rw [hk2] at h
    exact Or.inr ⟨by omega, (Option.some.inj h).symm⟩
theorem lw_get {ad : Nat → Nat} {cs : ck_Cs} {ao : Nat} {cL : ClassId} {f : Nat → Int64} {σ : ck_M} : (lw_ws ad cs ao cL f σ)[501]? = some (lw_O ao cL f) := by
  unfold lw_ws
  rw [List.getElem?_append_right (by rw [lw_len]; omega), lw_len]
  rfl
theorem lw_set {ad : Nat → Nat} {cs : ck_Cs} {ao : Nat} {cL : ClassId} {f g : Nat → Int64} {σ : ck_M} : (lw_ws ad cs ao cL f σ).set 501 (lw_O ao cL g) = lw_ws ad cs ao cL g σ := by
  unfold lw_ws
  rw [List.set_append_right _ _ (by rw [lw_len]; omega), lw_len]
  rfl
theorem wr_Dk {s0 : State} {ad : Nat → Nat} {ao : Nat} (hd : wr_D s0 ad ao) (cs : ck_Cs) (σ : ck_M) : va_D (fun _ => True) (ck_ws ad cs σ) := by
  refine ⟨fun i j p q hi hj hpq => ?_, fun _ _ _ => trivial⟩
  obtain ⟨h1, rfl⟩ := ck_ws_inv hi
  obtain ⟨h2, rfl⟩ := ck_ws_inv hj
  exact hd.1 i j h1 h2 hpq
theorem wr_Dl {s0 : State} {ad : Nat → Nat} {ao : Nat} (hd : wr_D s0 ad ao) {A : Nat → Prop} (hA : (∀ c : Nat, c < 501 → A (ad c)) ∧ A ao) (cs : ck_Cs) (cL : ClassId) (f : Nat → Int64) (σ : ck_M) : va_D A (lw_ws ad cs ao cL f σ) := by
  refine ⟨fun i j p q hi hj hpq => ?_, fun k q hk => ?_⟩
  · rcases lw_inv hi with ⟨h1, rfl⟩ | ⟨h1, rfl⟩
    · rcases lw_inv hj with ⟨h2, rfl⟩ | ⟨h2, rfl⟩
      · exact hd.1 i j h1 h2 hpq
      · exact absurd hpq (hd.2.1 i h1).1
    · rcases lw_inv hj with ⟨h2, rfl⟩ | ⟨h2, rfl⟩
      · exact absurd hpq.symm (hd.2.1 j h2).1
      · omega
  · rcases lw_inv hk with ⟨h1, rfl⟩ | ⟨h1, rfl⟩
    · exact hA.1 k h1
    · exact hA.2
theorem lw_fst {D : va_G} {ad : Nat → Nat} {cs : ck_Cs} {ao : Nat} {cL : ClassId} {f : Nat → Int64} {σ : ck_M} {H : Heap} (h : va_P D ck_cl (lw_ws ad cs ao cL f σ) H) : va_P D ck_cl (ck_ws ad cs σ) H := h.by (fun k => k) fun k q hk => by
  obtain ⟨h1, -⟩ := ck_ws_inv hk
  show (lw_ws ad cs ao cL f σ)[k]? = some q
  unfold lw_ws
  rw [List.getElem?_append_left (by rw [lw_len]; exact h1)]
  exact hk
theorem lw_out {D : va_G} {ad : Nat → Nat} {cs : ck_Cs} {ao : Nat} {cL : ClassId} {f : Nat → Int64} {σ : ck_M} {H : Heap} (h : va_P D ck_cl (lw_ws ad cs ao cL f σ) H) : va_at D ck_cl (lw_O ao cL f) H := h 501 _ lw_get
/-- behind a call: the objects as it leaves them, out as it was -/
theorem lw_join {s0 : State} {D : va_G} {ad : Nat → Nat} {cs : ck_Cs} {ao : Nat} (hd : wr_D s0 ad ao) {cL : ClassId} {f : Nat → Int64} {σ σ' : ck_M} {H H1 : Heap} (hP : va_P D ck_cl (lw_ws ad cs ao cL f σ) H) (hP1 : va_P D ck_cl (ck_ws ad cs σ') H1) (hun : ∀ q : Nat, q < H.size → ¬ ck_Bf ad false H.size q → H1[q]? = H[q]?) : va_P D ck_cl (lw_ws ad cs ao cL f σ') H1 := by
  have h1 := lw_out hP
  refine hP1.app fun k q hk => ?_
  have hk0 : k = 0 := by
    by_cases h0 : k = 0
    · exact h0
    · rw [List.getElem?_eq_none (by simp; omega)] at hk
      cases hk
  subst hk0
  have hq : q = lw_O ao cL f := (Option.some.inj hk).symm
  subst hq
  refine h1.kept (hun ao (va_at.lt h1) ?_)
  rintro ⟨-, ⟨c, hc, he⟩ | h⟩
  · exact (hd.2.1 c hc).1 he.symm
  · have h2 := va_at.lt h1
    have h3 : (lw_O ao cL f).1 = ao := rfl
    omega
section LWR
variable {p : Program} {l : Launch} {e : Env} {R : Room} {s : State} {m : MethodId} {args : Array Value} {below : List Frame} {meth : Method} {c : Code} {H : Heap} {locs : List Loc} {cells slots : Nat} {Q : State → Prop}
variable {cc : ByteArray} {nL pc i : Nat} {ls : Array Slot} {rest : List Value} {A : Nat → Prop} {H0 : Heap} {D : va_G} {ad : Nat → Nat} {cs : ck_Cs}
def lw_C (p : Program) (s : State) (m : MethodId) (args : Array Value) (c : Code) (cc : ByteArray) (nL : Nat) (D : va_G) (ad : Nat → Nat) (cs : ck_Cs) : Prop :=
  p.tables.exec = Jvm.exec ∧ c.code = cc ∧ c.maxLocals = nL ∧ s.vm.findClass "CheckSaverLaw" = some m.cls ∧ (∀ w ∈ ck_GW, w.before args s = true) ∧ va_K D ck_cl (ck_tys cs) s ∧ (∀ σ, va_D (fun _ => True) (ck_ws ad cs σ)) ∧ ∀ w ∈ ck_NW, va_Nw w s
/-- the words and the room of a call of md from there -/
theorem lw_cw {md : ck_MD} {rm : Room} {mc ms : Nat} (Cx : lw_C p s m args c cc nL D ad cs) (hmd : md ∈ ck_MDs) (hmS : ck_mS md = false) (hlink : Cond.methodLink "CheckSaverLaw" i (ck_mN md) ∈ ck_GW) (hrc : rm.cells = mc) (hrs : rm.slots = ms) (hroom : rm.frames + 1 ≤ R.frames ∧ rm.locals + 30 ≤ R.locals) : CallW R s args "CheckSaverLaw" (ck_mN md).cls i (ck_mN md) (ck_mB md) (ck_mL md) (ck_mR md) (ck_wsm md) rm mc ms (ck_mP md) := by
  obtain ⟨hx, hb, hml, hown, hts, hK, hD, hNW⟩ := Cx
  have hmok := ck_MOK md hmd
  obtain ⟨hcode, hinit, hpl, hname, hsta, hins, ⟨hl11, har⟩, -⟩ := id hmok
  obtain ⟨hi1, hi2, hi3⟩ := hins hmS
  exact ⟨callB_of (own := "CheckSaverLaw") (index := i) (y := ck_mN md) (bytes := ck_mB md) (maxL := ck_mL md) (ret := ck_mR md) (ws := ck_wsm md) (ws' := ck_GW) (rm := rm) (mc := mc) (ms := ms) (ck_mP md) hts (ck_good hmok) rfl hrc hrs (hts _ hinit) (hts _ hlink) hname ⟨hroom.1, by omega⟩, hts _ hi1, hts _ hi2⟩
theorem lw_rv {md : ck_MD} {σ : ck_M} {c0 : Int} (Cx : lw_C p s m args c cc nL D ad cs) (hmd : md ∈ ck_MDs) (hmS : ck_mS md = false) (hw : ck_wt (.inr (c0, 3, ck_mC md))) (hP : va_P D ck_cl (ck_ws ad cs σ) H) : ∃ cellB : Cell, H[ad c0.toNat]? = some cellB ∧ cellB.vm.isStatics = false ∧ s.vm.findClass (ck_mN md).cls = some cellB.cls := by
  obtain ⟨hx, hb, hml, hown, hts, hK, hD, hNW⟩ := Cx
  obtain ⟨-, -, -, -, -, hins, -, -⟩ := ck_MOK md hmd
  obtain ⟨-, -, hi3⟩ := hins hmS
  have hcl : ∃ q : vw_C, ck_cl[ck_mC md]? = some q ∧ q.1 = (ck_mN md).cls := by
    cases hq : ck_cl[ck_mC md]? with
    | none => rw [hq] at hi3; cases hi3
    | some q => rw [hq] at hi3; exact ⟨q, rfl, Option.some.inj hi3⟩
  obtain ⟨q, hq1, hq2⟩ := hcl
  have hrecv := va_recv hK hP hq1 (a := ad c0.toNat) (q0 := c0.toNat) (fs := ck_fs ad σ (ck_mC md) c0) (by rw [ck_ws_get (ck_wt_lt hw).1, ck_en3 hw])
  rw [hq2] at hrecv
  exact hrecv
/-- a call that answers an int -/
theorem lw_callI {md : ck_MD} {d : Nat} {as2 : List ck_PV} {c0 r : Int} {σ σ' : ck_M} {st0 : List Value} (Cx : lw_C p s m args c cc nL D ad cs) (hmd : md ∈ ck_MDs) (hmS : ck_mS md = false) (hcall : ck_call d md (.inr (c0, 3, ck_mC md) :: as2) σ (some r) σ') (hlen : as2.length = ck_mP md) (hwt : ∀ v ∈ (.inr (c0, 3, ck_mC md) :: as2 : List ck_PV), ck_wt v)
    (hlink : Cond.methodLink "CheckSaverLaw" i (ck_mN md) ∈ ck_GW) (hroom : d + 1 ≤ R.frames ∧ 30 * d + 30 ≤ R.locals) (hcs : cells ≤ R.cells ∧ slots ≤ R.slots) (hP : va_P D ck_cl (ck_ws ad cs σ) H) (hS : va_S A H0 H locs) (hF : ∀ q, ck_A ad H.size q → A q) (hls : ls.size = nL) (hsum : (rest.map fun v => v.category).sum ≤ 8) (hst : st0 = (as2.map (ck_vv ad)).reverse ++ .ref (ad c0.toNat) :: rest) (hdg : decode cc pc = .ok (.invokevirtual i, 3))
    (k : ∀ (H1 : Heap) (locs1 : List Loc), va_P D ck_cl (ck_ws ad cs σ') H1 → H.size ≤ H1.size → (∀ q : Nat, q < H.size → ¬ ck_Bf ad false H.size q → H1[q]? = H[q]?) → va_S A H0 H1 locs1 → W p l e R s m args below meth c H1 locs1 cells slots Q (F0 m (pc + 3) ls (.int (Int32.ofInt r) :: rest))) : W p l e R s m args below meth c H locs cells slots Q (F0 m pc ls st0) := by
  subst hst
  have hcw := lw_cw (R := R) (i := i) (rm := ck_rm d) (mc := 0) (ms := 0) Cx hmd hmS hlink rfl rfl ⟨hroom.1, hroom.2⟩
  have hrecv := lw_rv Cx hmd hmS (hwt _ List.mem_cons_self) hP
  obtain ⟨hx, hb, hml, hown, hts, hK, hD, hNW⟩ := Cx
  have hM1 := ck_sound l D ad cs false d md hmd (fun h => by cases h) (.inr (c0, 3, ck_mC md) :: as2) σ (some r) σ' (by unfold ck_ar; rw [hmS]; simp [hlen]) hcall hwt H.size
  have hpre : ∀ U : State, U.heap = H → s.WarmedH U.vm → ck_Pc D ad cs (.inr (c0, 3, ck_mC md) :: as2) σ H.size ((.inr (c0, 3, ck_mC md) :: as2 : List ck_PV).map (ck_vv ad)).toArray U := fun U hU hW => ⟨rfl, by rw [hU], by rw [hU]; exact hP, va_K.moved hW.alike hK, hD σ, ck_NW_warm hW hNW⟩
  have run : va_Run p l e R s m args below meth c H locs cells slots 0 0 (F0 m pc ls ((as2.map (ck_vv ad)).reverse ++ .ref (ad c0.toNat) :: rest)) rest (ck_Qc D ad cs false (some r) σ' H.size ((.inr (c0, 3, ck_mC md) :: as2 : List ck_PV).map (ck_vv ad)).toArray) (ck_Bf ad false H.size) :=
    va_runV (C := (ck_mN md).cls) (As := as2.map (ck_vv ad)) (b := ad c0.toNat) ⟨hx, hb, hml, hown, hts⟩ hM1 hcw ⟨ck_blind, hrecv, hpre⟩ rfl (by simpa using hlen) hls rfl (lv_room hsum) hdg ⟨hcs.1, hcs.2⟩
  refine va_calli (a := ((.inr (c0, 3, ck_mC md) :: as2 : List ck_PV).map (ck_vv ad)).toArray) run hS (fun q _ h => hF q h.2) (fun q h => hF q h.2) (fun v u t H1 locs1 ht hvm hv hB h1 h2 hS1 => ?_)
  subst hv
  exact k H1 locs1 (by rw [ht] at hB; exact hB) h1 h2 hS1
/-- a call that throws, the first entry of the table takes it -/
theorem lw_thr1 {md : ck_MD} {d : Nat} {as2 : List ck_PV} {c0 : Int} {σ : ck_M} {st0 : List Value} {E : String} {s0 : State} {ao : Nat} {a1 b1 h1 t1 : Nat} {more : List (Nat × Nat × Nat × Nat)} (hfl : l.flags = flags0) (h0 : tw_W0 s0) (hwd : wr_D s0 ad ao) (hG : tw_G s0 s) (Cx : lw_C p s m args c cc nL D ad cs) (hmd : md ∈ ck_MDs) (hmS : ck_mS md = false) (hcall : tw_thw d md (.inr (c0, 3, ck_mC md) :: as2) σ E) (hlen : as2.length = ck_mP md) (hwt : ∀ v ∈ (.inr (c0, 3, ck_mC md) :: as2 : List ck_PV), ck_wt v)
    (hlink : Cond.methodLink "CheckSaverLaw" i (ck_mN md) ∈ ck_GW) (hroom : d + 6 ≤ R.frames ∧ 30 * d + 90 ≤ R.locals) (hcs : cells + 1 ≤ R.cells ∧ slots + 6 ≤ R.slots) (hP : va_P D ck_cl (ck_ws ad cs σ) H) (hold : ∀ q : Nat, q < s0.heap.size → H[q]? = s0.heap[q]?) (hS : va_S A H0 H locs) (hF : ∀ q, ck_A ad H.size q → A q) (hls : ls.size = nL) (hsum : (rest.map fun v => v.category).sum ≤ 8) (hst : st0 = (as2.map (ck_vv ad)).reverse ++ .ref (ad c0.toNat) :: rest) (hdg : decode cc pc = .ok (.invokevirtual i, 3))
    (htab : c.exceptionTable.toList.map (fun h => (h.startPc, h.endPc, h.handlerPc, h.catchType)) = (a1, b1, h1, t1) :: more) (hcov : a1 ≤ pc ∧ pc < b1) (ht1 : t1 ≠ 0) (hcl : Cond.classLink "CheckSaverLaw" t1 E ∈ ck_GW) (hE : ∃ x ∈ tw_exs, x.1 = E)
    (k : ∀ (q : Nat) (H1 : Heap) (locs1 : List Loc), va_P D ck_cl (ck_ws ad cs σ) H1 → H.size ≤ H1.size → (∀ q : Nat, q < H.size → ¬ ck_Bf ad false H.size q → H1[q]? = H[q]?) → va_S A H0 H1 locs1 → W p l e R s m args below meth c H1 locs1 (cells + 1) (slots + 6) Q (F0 m h1 ls [.ref q])) : W p l e R s m args below meth c H locs cells slots Q (F0 m pc ls st0) := by
  subst hst
  have hcw := lw_cw (R := R) (i := i) (rm := tw_rm d) (mc := 1) (ms := 6) Cx hmd hmS hlink rfl rfl ⟨hroom.1, hroom.2⟩
  have hrecv := lw_rv Cx hmd hmS (hwt _ List.mem_cons_self) hP
  obtain ⟨hx, hb, hml, hown, hts, hK, hD, hNW⟩ := Cx
  have hM1 := tw_sound hfl (D := D) (cs := cs) (wr_S h0 hwd) d md hmd (.inr (c0, 3, ck_mC md) :: as2) σ (by unfold ck_ar; rw [hmS]; simp [hlen]) hcall hwt H.size
  have hpre : ∀ U : State, U.heap = H → s.WarmedH U.vm → tw_Pc s0 D ad cs (.inr (c0, 3, ck_mC md) :: as2) σ H.size ((.inr (c0, 3, ck_mC md) :: as2 : List ck_PV).map (ck_vv ad)).toArray U := fun U hU hW => ⟨⟨rfl, by rw [hU], by rw [hU]; exact hP, va_K.moved hW.alike hK, hD σ, ck_NW_warm hW hNW⟩, State.WarmedH.trans hG.1 hW, by rw [hU]; exact hold⟩
  intro T hT X
  obtain ⟨q, ce, L, T', z1, z2, z3, z4, z5, z6, z7, z8⟩ := tw_runV (C := (ck_mN md).cls) (As := as2.map (ck_vv ad)) (b := ad c0.toNat) (rest := rest) (g := F0 m pc ls ((as2.map (ck_vv ad)).reverse ++ .ref (ad c0.toNat) :: rest)) ⟨hx, hb, hml, hown, hts⟩ hM1 hcw ⟨tw_blind, hrecv, hpre⟩ rfl (by simpa using hlen) hls rfl (lv_room hsum) hdg hcs hT X
  obtain ⟨x1, xs1, htb⟩ : ∃ x1 xs1, c.exceptionTable.toList = x1 :: xs1 := by
    cases hq : c.exceptionTable.toList with
    | nil => rw [hq] at htab; cases htab
    | cons a b => exact ⟨a, b, rfl⟩
  rw [htb] at htab
  have hx1 : (x1.startPc, x1.endPc, x1.handlerPc, x1.catchType) = (a1, b1, h1, t1) := (List.cons.inj htab).1
  obtain ⟨ex, hex, rfl⟩ := hE
  have e1 : x1.startPc = a1 := congrArg (fun z => z.1) hx1
  have e2 : x1.endPc = b1 := congrArg (fun z => z.2.1) hx1
  have e3 : x1.handlerPc = h1 := congrArg (fun z => z.2.2.1) hx1
  have e4 : x1.catchType = t1 := congrArg (fun z => z.2.2.2) hx1
  have hcast : (Cond.castable ex.1 ex.1).before args s = true := tw_word hG.1 hG.2 (by rfl) (h0.1 ex hex (.castable ex.1 ex.1) (List.mem_append_left _ (by simp [Bundle.ownAtoms0])))
  obtain ⟨vm', X2, st2⟩ := tw_catch1 z1 (g := F0 m pc ls rest) rfl (own := "CheckSaverLaw") (E := ex.1) hown htb (by simp [covers, e1, e2, hcov]) (by rw [e4]; exact ht1) (by rw [e4]; exact hts _ hcl) z3 z4 z5 hcast
  rw [e3] at st2
  have hT' : T.heap.size = H.size := by rw [hT]
  obtain ⟨t, b1, b2⟩ := k q T'.heap (locs ++ L) z6 (by have := z7.1; omega) (fun w u1 u2 => by rw [z7.2 w (by omega) u2, hT]) ⟨by have := z7.1; have := hS.1; omega, fun w u1 u2 => by
      rw [z7.2 w (by have := hS.1; omega) (fun z => u2 (hF w z.2)), hT]
      exact hS.2.1 w u1 u2, fun z hz => by
      rcases List.mem_append.mp hz with h | h
      · exact hS.2.2 z h
      · exact hF _ (z2 z h).2⟩ (T'.setVm vm') rfl X2
  exact ⟨t, z8.trans (st2 t b1), b2⟩
/-- a call that throws, the second entry of the table takes it -/
theorem lw_thr2 {md : ck_MD} {d : Nat} {as2 : List ck_PV} {c0 : Int} {σ : ck_M} {st0 : List Value} {E E1 : String} {s0 : State} {ao : Nat} {a1 b1 h1 t1 a2 b2 h2 t2 : Nat} {more : List (Nat × Nat × Nat × Nat)} (hfl : l.flags = flags0) (h0 : tw_W0 s0) (hwd : wr_D s0 ad ao) (hG : tw_G s0 s) (Cx : lw_C p s m args c cc nL D ad cs) (hmd : md ∈ ck_MDs) (hmS : ck_mS md = false) (hcall : tw_thw d md (.inr (c0, 3, ck_mC md) :: as2) σ E) (hlen : as2.length = ck_mP md) (hwt : ∀ v ∈ (.inr (c0, 3, ck_mC md) :: as2 : List ck_PV), ck_wt v)
    (hlink : Cond.methodLink "CheckSaverLaw" i (ck_mN md) ∈ ck_GW) (hroom : d + 6 ≤ R.frames ∧ 30 * d + 90 ≤ R.locals) (hcs : cells + 1 ≤ R.cells ∧ slots + 6 ≤ R.slots) (hP : va_P D ck_cl (ck_ws ad cs σ) H) (hold : ∀ q : Nat, q < s0.heap.size → H[q]? = s0.heap[q]?) (hS : va_S A H0 H locs) (hF : ∀ q, ck_A ad H.size q → A q) (hls : ls.size = nL) (hsum : (rest.map fun v => v.category).sum ≤ 8) (hst : st0 = (as2.map (ck_vv ad)).reverse ++ .ref (ad c0.toNat) :: rest) (hdg : decode cc pc = .ok (.invokevirtual i, 3))
    (htab : c.exceptionTable.toList.map (fun h => (h.startPc, h.endPc, h.handlerPc, h.catchType)) = (a1, b1, h1, t1) :: (a2, b2, h2, t2) :: more) (hcov : a1 ≤ pc ∧ pc < b1) (ht1 : t1 ≠ 0) (hcov2 : a2 ≤ pc ∧ pc < b2) (ht2 : t2 ≠ 0) (hcl1 : Cond.classLink "CheckSaverLaw" t1 E1 ∈ ck_GW) (hcl : Cond.classLink "CheckSaverLaw" t2 E ∈ ck_GW) (hE : ∃ x ∈ tw_exs, x.1 = E) (hn : (E, E1) ∈ tw_not)
    (k : ∀ (q : Nat) (H1 : Heap) (locs1 : List Loc), va_P D ck_cl (ck_ws ad cs σ) H1 → H.size ≤ H1.size → (∀ q : Nat, q < H.size → ¬ ck_Bf ad false H.size q → H1[q]? = H[q]?) → va_S A H0 H1 locs1 → W p l e R s m args below meth c H1 locs1 (cells + 1) (slots + 6) Q (F0 m h2 ls [.ref q])) : W p l e R s m args below meth c H locs cells slots Q (F0 m pc ls st0) := by
  subst hst
  have hcw := lw_cw (R := R) (i := i) (rm := tw_rm d) (mc := 1) (ms := 6) Cx hmd hmS hlink rfl rfl ⟨hroom.1, hroom.2⟩
  have hrecv := lw_rv Cx hmd hmS (hwt _ List.mem_cons_self) hP
  obtain ⟨hx, hb, hml, hown, hts, hK, hD, hNW⟩ := Cx
  have hM1 := tw_sound hfl (D := D) (cs := cs) (wr_S h0 hwd) d md hmd (.inr (c0, 3, ck_mC md) :: as2) σ (by unfold ck_ar; rw [hmS]; simp [hlen]) hcall hwt H.size
  have hpre : ∀ U : State, U.heap = H → s.WarmedH U.vm → tw_Pc s0 D ad cs (.inr (c0, 3, ck_mC md) :: as2) σ H.size ((.inr (c0, 3, ck_mC md) :: as2 : List ck_PV).map (ck_vv ad)).toArray U := fun U hU hW => ⟨⟨rfl, by rw [hU], by rw [hU]; exact hP, va_K.moved hW.alike hK, hD σ, ck_NW_warm hW hNW⟩, State.WarmedH.trans hG.1 hW, by rw [hU]; exact hold⟩
  intro T hT X
  obtain ⟨q, ce, L, T', z1, z2, z3, z4, z5, z6, z7, z8⟩ := tw_runV (C := (ck_mN md).cls) (As := as2.map (ck_vv ad)) (b := ad c0.toNat) (rest := rest) (g := F0 m pc ls ((as2.map (ck_vv ad)).reverse ++ .ref (ad c0.toNat) :: rest)) ⟨hx, hb, hml, hown, hts⟩ hM1 hcw ⟨tw_blind, hrecv, hpre⟩ rfl (by simpa using hlen) hls rfl (lv_room hsum) hdg hcs hT X
  obtain ⟨x1, x2, xs1, htb⟩ : ∃ x1 x2 xs1, c.exceptionTable.toList = x1 :: x2 :: xs1 := by
    cases hq : c.exceptionTable.toList with
    | nil => rw [hq] at htab; cases htab
    | cons a b =>
      cases b with
      | nil => rw [hq] at htab; cases htab
      | cons a' b' => exact ⟨a, a', b', rfl⟩
  rw [htb] at htab
  have hx1 : (x1.startPc, x1.endPc, x1.handlerPc, x1.catchType) = (a1, b1, h1, t1) := (List.cons.inj htab).1
  have hx2 : (x2.startPc, x2.endPc, x2.handlerPc, x2.catchType) = (a2, b2, h2, t2) := (List.cons.inj (List.cons.inj htab).2).1
  obtain ⟨ex, hex, rfl⟩ := hE
  have e1 : x1.startPc = a1 := congrArg (fun z => z.1) hx1
  have e2 : x1.endPc = b1 := congrArg (fun z => z.2.1) hx1
  have e4 : x1.catchType = t1 := congrArg (fun z => z.2.2.2) hx1
  have f1 : x2.startPc = a2 := congrArg (fun z => z.1) hx2
  have f2 : x2.endPc = b2 := congrArg (fun z => z.2.1) hx2
  have f3 : x2.handlerPc = h2 := congrArg (fun z => z.2.2.1) hx2
  have f4 : x2.catchType = t2 := congrArg (fun z => z.2.2.2) hx2
  have hcast : (Cond.castable ex.1 ex.1).before args s = true := tw_word hG.1 hG.2 (by rfl) (h0.1 ex hex (.castable ex.1 ex.1) (List.mem_append_left _ (by simp [Bundle.ownAtoms0])))
  have hnot : (Cond.not (.castable ex.1 E1)).before args s = true := tw_not_at hG.1 (h0.2 _ hn)
  obtain ⟨vm', X2, st2⟩ := tw_catch2 z1 (g := F0 m pc ls rest) rfl (own := "CheckSaverLaw") (E := ex.1) (E1 := E1) hown htb (by simp [covers, e1, e2, hcov]) (by rw [e4]; exact ht1) (by simp [covers, f1, f2, hcov2]) (by rw [f4]; exact ht2) (by rw [e4]; exact hts _ hcl1) (by rw [f4]; exact hts _ hcl) z3 z4 z5 hcast hnot
  rw [f3] at st2
  have hT' : T.heap.size = H.size := by rw [hT]
  obtain ⟨t, b1, b2⟩ := k q T'.heap (locs ++ L) z6 (by have := z7.1; omega) (fun w u1 u2 => by rw [z7.2 w (by omega) u2, hT]) ⟨by have := z7.1; have := hS.1; omega, fun w u1 u2 => by
      rw [z7.2 w (by have := hS.1; omega) (fun z => u2 (hF w z.2)), hT]
      exact hS.2.1 w u1 u2, fun z hz => by
      rcases List.mem_append.mp hz with h | h
      · exact hS.2.2 z h
      · exact hF _ (z2 z h).2⟩ (T'.setVm vm') rfl X2
  exact ⟨t, z8.trans (st2 t b1), b2⟩
end LWR
