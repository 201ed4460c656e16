/-! Constructors: the cells that they make, all 0. -/
def ck_z : ck_M := fun _ _ => 0
def cn_ws (cs : ck_Cs) (ad : Nat → Nat) (idx : List Nat) : va_W := idx.map (fun x => (ad x, ck_en ad cs ck_z x))
def cn_NW : List Cond := [.methodLinkNest "CheckSaver" 9 ⟨"CheckSaver$Machine", "<init>", "()V"⟩ "CheckSaver", .methodLinkNest "CheckSaver$Machine" 11 ⟨"CheckSaver$Inputs", "<init>", "()V"⟩ "CheckSaver", .methodLinkNest "CheckSaver$Finder" 11 ⟨"CheckSaver$Program", "<init>", "()V"⟩ "CheckSaver", .methodLinkNest "CheckSaver$Finder" 35 ⟨"CheckSaver$Facts", "<init>", "()V"⟩ "CheckSaver"]
def cn_rm (d mc ms : Nat) : Room := { frames := d, cells := mc, slots := ms, locals := 30 * d }
/-- what is asked, all along -/
def cn_U (D : va_G) (cs : ck_Cs) (U : State) : Prop := va_K D ck_cl (ck_tys cs) U ∧ (∀ w ∈ cn_NW, va_Nw w U) ∧ va_AO "CheckSaver$Facts" U
def cn_B (h sz : Nat) : Nat → Prop := fun z => z = h ∨ sz ≤ z
def cn_Pc (D : va_G) (cs : ck_Cs) (ci : Nat) (fs : List Value) (h sz : Nat) : Array Value → State → Prop := va_Pc [.ref h] (fun U => U.heap.size = sz ∧ va_P D ck_cl [(h, .inr (ci, fs))] U.heap ∧ cn_U D cs U)
def cn_Qc (D : va_G) (cs : ck_Cs) (c : Nat) (idx : List Nat) (h sz : Nat) : Array Value → State → Outcome → State → Prop := va_Qv (fun (ad : Nat → Nat) => ad c = h) (fun ad t => va_P D ck_cl (cn_ws cs ad idx) t.heap ∧ va_D (cn_B h sz) (cn_ws cs ad idx)) (cn_B h sz)
def cn_wsm (y : MethodName) (bytes : ByteArray) (maxL : Nat) : List Cond := Cond.code y bytes maxL none :: ck_GW
def cn_Met (l : Launch) (D : va_G) (cs : ck_Cs) (y : MethodName) (bytes : ByteArray) (maxL d mc ms ci : Nat) (fs : List Value) (c : Nat) (idx : List Nat) : Prop := ∀ h sz, Met l y (cn_wsm y bytes maxL) (cn_rm d mc ms) (cn_Pc D cs ci fs h sz) (cn_Qc D cs c idx h sz) mc ms (cn_B h sz)
theorem cn_NW_warm {s U : State} (hW : s.WarmedH U.vm) (h : ∀ w ∈ cn_NW, va_Nw w s) : ∀ w ∈ cn_NW, va_Nw w U := by
  intro w hw
  have hz := h w hw
  simp only [cn_NW, List.mem_cons, List.not_mem_nil, or_false] at hw
  rcases hw with rfl | rfl | rfl | rfl <;> exact va_Nw.warmM hW hz
theorem cn_NW_tab : ∀ w ∈ cn_NW, w.onTables = true := by
  intro w hw
  simp only [cn_NW, List.mem_cons, List.not_mem_nil, or_false] at hw
  rcases hw with rfl | rfl | rfl | rfl <;> rfl
theorem cn_U_warm {D : va_G} {cs : ck_Cs} {s U : State} (hW : s.WarmedH U.vm) (h : cn_U D cs s) : cn_U D cs U := ⟨va_K.moved hW.alike h.1, cn_NW_warm hW h.2.1, va_AO.moved hW.alike h.2.2⟩
theorem cn_blind {D : va_G} {cs : ck_Cs} {ci : Nat} {fs : List Value} {h sz : Nat} : FrameBlind (cn_Pc D cs ci fs h sz) := by
  intro a U g mk q
  obtain ⟨q0, q1, qP, qK, qN, qA⟩ := q
  exact ⟨q0, q1, qP, va_K.moved (u := U) (U := U.calling g mk a) (Vm.Alike.refl U.vm) qK, fun w hw => va_Nw.same (u := U) (U := U.calling g mk a) (cn_NW_tab w hw) rfl (qN w hw), va_AO.moved (u := U) (U := U.calling g mk a) (Vm.Alike.refl U.vm) qA⟩
theorem cn_good {y : MethodName} {bytes : ByteArray} {maxL : Nat} (h : Cond.code y bytes maxL none ∈ ck_GW) : GoodIn ck_GW (cn_wsm y bytes maxL) := by
  intro w hw
  have h1 : w ∈ ck_GW := by
    rcases List.mem_cons.mp hw with h2 | h2
    · rw [h2]; exact h
    · exact h2
  exact ⟨h1, good_of_word (List.mem_filter.mp h1).2⟩
theorem cn_in {D : va_G} {ws : va_W} {H : Heap} {x : Nat × va_E} (h : va_P D ck_cl ws H) (hx : x ∈ ws) : va_at D ck_cl x H := by
  obtain ⟨k, hk⟩ := List.getElem?_of_mem hx
  exact h k x hk
section CNL
variable {p : Program} {l : Launch} {e : Env} {R : Room} {s : State} {m : MethodId} {args : Array Value} {below : List Frame} {meth : Method} {c : Code} {H : Heap} {locs : List Loc} {cells slots : Nat} {Q : State → Prop}
variable {cc : ByteArray} {pc nL : Nat} {ls : Array Slot} {rest : List Value} {A : Nat → Prop} {H0 : Heap} {D : va_G} {cs : ck_Cs} {h ci : Nat} {fs : List Value} {sub : va_W} {own : String}
def cn_Cx (p : Program) (s : State) (m : MethodId) (args : Array Value) (meth : Method) (c : Code) (cc : ByteArray) (nL : Nat) (D : va_G) (cs : ck_Cs) (own : String) (A : Nat → Prop) (H0 : Heap) : Prop :=
  p.tables.exec = Jvm.exec ∧ c.code = cc ∧ c.maxLocals = nL ∧ s.vm.findClass own = some m.cls ∧ (∀ w ∈ ck_GW, w.before args s = true) ∧ cn_U D cs s ∧ meth.name = "<init>" ∧ ∀ q, H0.size ≤ q → A q
/-- a final field of a reference type -/
theorem cn_put {r : vw_C} {k idx v : Nat} {ty : FieldType} (Cx : cn_Cx p s m args meth c cc nL D cs own A H0) (hr : ck_cl[ci]? = some r) (hro : r.1 = own) (hk : k < r.2.2) (hfl : fs.length = r.2.2) (hlink : Cond.fieldLink own idx own (r.2.1 k).2.1 (r.2.1 k).2.2.1 ∈ ck_GW) (hfin : (r.2.1 k).2.2.2 = true) (hty : parseFieldDescriptor (r.2.1 k).2.2.1 = some ty) (hn : narrow ty (.ref v) = .ref v) (hf : fits ty (.ref v) = true)
    (hP : va_P D ck_cl ((h, .inr (ci, fs)) :: sub) H) (hD : va_D A ((h, .inr (ci, fs)) :: sub)) (hS : va_S A H0 H locs) (hdg : decode cc pc = .ok (.putfield idx, 3))
    (kk : ∀ (H1 : Heap) (locs1 : List Loc), va_P D ck_cl ((h, .inr (ci, fs.set k (.ref v))) :: sub) H1 → va_D A ((h, .inr (ci, fs.set k (.ref v))) :: sub) → va_S A H0 H1 locs1 → W p l e R s m args below meth c H1 locs1 cells slots Q (F0 m (pc + 3) ls rest)) : W p l e R s m args below meth c H locs cells slots Q (F0 m pc ls (.ref v :: .ref h :: rest)) := by
  obtain ⟨hx, hb, hml, hown, hts, hU, hin2, hA⟩ := Cx
  obtain ⟨hN, hT, hin, ⟨ty0, hty0⟩, hnm⟩ := ck_cl_r hr
  subst hro
  exact va_putF (D := D) (cl := ck_cl) (tys := ck_tys cs) (ci := ci) (C := r.1) (T := r.2.1) (N := r.2.2) (ty := ty) hx hb hts hin ty0 hty0 hnm hown hU.1 hP hD hS 0 rfl hr k hk (hts _ hlink) (fun x hh => by rw [hT _ hk] at hh; exact hh) hfin hin2 (hT _ hk) hty hn hf (by rw [hfl]; exact hk) hdg kk
/-- newarray of ints or truths -/
theorem cn_arr {atype : ArrayType} {ty : FieldType} {cA : ClassId} {n : Int32} {N : Nat} {ws : va_W} (Cx : cn_Cx p s m args meth c cc nL D cs own A H0) (hat : newarray.typeOf atype = ty) (harr : Cond.arrayClass (newarray.typeOf atype) ∈ ck_GW) (hdv : defaultValue ty = .int 0) (huq : ∀ c', va_RA s c' ty → c' = cA) (hn : ¬ n < 0) (hN : n.toNatClampNeg = N) (hby : N * componentBytes ty ≤ 536870912) (hcs : cells + 1 ≤ R.cells ∧ slots + N ≤ R.slots)
    (hP : va_P D ck_cl ws H) (hD : va_D A ws) (hS : va_S A H0 H locs) (hdg : decode cc pc = .ok (.newarray atype, 2))
    (kk : ∀ (q : Nat) (H1 : Heap), va_P D ck_cl (ws ++ [(q, .inl (cA, N, .inl (fun _ => Int32.ofInt 0)))]) H1 → va_D A (ws ++ [(q, .inl (cA, N, .inl (fun _ => Int32.ofInt 0)))]) → va_S A H0 H1 locs → W p l e R s m args below meth c H1 locs (cells + 1) (slots + N) Q (F0 m (pc + 2) ls (.ref q :: rest))) : W p l e R s m args below meth c H locs cells slots Q (F0 m pc ls (.int n :: rest)) := by
  obtain ⟨hx, hb, hml, hown, hts, hU, hin2, hA⟩ := Cx
  refine va_newa (D := D) (cl := ck_cl) (tys := ck_tys cs) (a0 := (N, .inl (fun _ => Int32.ofInt 0))) hx hb (hts _ harr) hat hU.1 hP hD hS hA (fun cA => ?_) hn hN hby hcs.1 hcs.2 hdg (fun q c' H1 hK1 hP1 hD1 hS1 => ?_)
  · rw [vp_cell_i, hdv, ck_ofz]
  · have e1 : c' = cA := huq c' (hK1.2 3 _ rfl).2
    subst e1
    exact kk q H1 hP1 hD1 hS1
theorem cn_uqI (hU : cn_U D cs s) : ∀ c', va_RA s c' .int → c' = cs.1 := fun c' h1 => by
  have h2 : va_RA s cs.1 .int := (hU.1.2 0 _ rfl).2
  exact Option.some.inj (h1.symm.trans h2)
theorem cn_uqZ (hU : cn_U D cs s) : ∀ c', va_RA s c' .boolean → c' = cs.2.1 := fun c' h1 => by
  have h2 : va_RA s cs.2.1 .boolean := (hU.1.2 1 _ rfl).2
  exact Option.some.inj (h1.symm.trans h2)
/-- behind a constructor's call -/
theorem cn_call {q mc ms cI : Nat} {idx : List Nat} {df : List Value} {ws : va_W} (Cx : cn_Cx p s m args meth c cc nL D cs own A H0) (hP : va_P D ck_cl (ws ++ [(q, .inr (cI, df))]) H) (hD : va_D A (ws ++ [(q, .inr (cI, df))])) (hS : va_S A H0 H locs) {c1 : Nat}
    (run : va_Run p l e R s m args below meth c H locs cells slots mc ms (F0 m pc ls (.ref q :: rest)) rest (cn_Qc D cs c1 idx q H.size #[.ref q]) (cn_B q H.size))
    (kk : ∀ (ad : Nat → Nat) (H1 : Heap) (locs1 : List Loc), ad c1 = q → va_P D ck_cl (ws ++ cn_ws cs ad idx) H1 → va_D A (ws ++ cn_ws cs ad idx) → va_S A H0 H1 locs1 → W p l e R s m args below meth c H1 locs1 (cells + mc) (slots + ms) Q (F0 m (pc + 3) ls rest)) : W p l e R s m args below meth c H locs cells slots Q (F0 m pc ls (.ref q :: rest)) := by
  obtain ⟨hx, hb, hml, hown, hts, hU, hin2, hA⟩ := Cx
  have hq0 : (ws ++ [(q, .inr (cI, df))])[ws.length]? = some (q, (.inr (cI, df) : va_E)) := by
    rw [List.getElem?_append_right (Nat.le_refl _), Nat.sub_self]
    rfl
  have hqA : A q := hD.2 _ _ hq0
  have hold : ∀ (k : Nat) (x : Nat × va_E), ws[k]? = some x → x.1 < H.size ∧ x.1 ≠ q ∧ (ws ++ [(q, .inr (cI, df))])[k]? = some x := by
    intro k x hk
    have hlt : k < ws.length := (List.getElem?_eq_some_iff.mp hk).1
    have h1 : (ws ++ [(q, .inr (cI, df))])[k]? = some x := by rw [List.getElem?_append_left hlt]; exact hk
    refine ⟨va_at.lt (hP k x h1), fun e1 => ?_, h1⟩
    have := hD.1 _ _ _ _ h1 hq0 e1
    omega
  have hAB : ∀ z, cn_B q H.size z → A z := by
    intro z hz
    rcases hz with rfl | hz
    · exact hqA
    · exact hA z (Nat.le_trans hS.1 hz)
  refine va_callv (a := #[.ref q]) run hS (fun z _ hz => hAB z hz) hAB (fun ad t H1 locs1 ht hvm had hB hz hun hS1 => ?_)
  obtain ⟨hP1, hD1⟩ := hB
  rw [ht] at hP1
  refine kk ad H1 locs1 had ?_ ?_ hS1
  · refine va_P.app (fun k x hk => ?_) hP1
    obtain ⟨h1, h2, h3⟩ := hold k x hk
    refine (hP k x h3).kept (hun x.1 h1 ?_)
    rintro (h4 | h4)
    · exact h2 h4
    · omega
  · refine va_D.app ⟨fun i j a b hi hj hab => ?_, fun k x hk => ?_⟩ (hD1.weaken fun _ _ _ hz => hAB _ hz) (fun i j a b hi hj hab => ?_)
    · exact hD.1 i j a b (hold i a hi).2.2 (hold j b hj).2.2 hab
    · exact hD.2 k x (hold k x hk).2.2
    · obtain ⟨h1, h2, -⟩ := hold i a hi
      rcases hD1.2 j b hj with h4 | h4
      · exact h2 (hab.trans h4)
      · omega
set_option maxHeartbeats 1000000 in
/-- new, dup, invokespecial of one of our own classes; the constructor by a link or by a nest's link -/
theorem cn_make {r : vw_C} {y : MethodName} {bytes : ByteArray} {mL d mc ms cI c1 i1 i2 : Nat} {idx : List Nat} {df : List Value} {ty0 : Nat → FieldType} {ws : va_W} (Cx : cn_Cx p s m args meth c cc nL D cs own A H0) (hM : cn_Met l D cs y bytes mL d mc ms cI df c1 idx) (hr : ck_cl[cI]? = some r) (hty : ∀ k, k < r.2.2 → parseFieldDescriptor (r.2.1 k).2.2.1 = some (ty0 k)) (hdf : ∀ j, j < r.2.2 → defaultValue (ty0 j) = vp_V df j) (hyc : y.cls = r.1) (hyn : y.name = "<init>") (hcode : Cond.code y bytes mL none ∈ ck_GW) (hins : Cond.instanceMethod y ∈ ck_GW) (hini : Cond.initialized r.1 ∈ ck_GW) (hcl : Cond.classLink own i1 r.1 ∈ ck_GW) (hinst : Cond.instantiable r.1 r.2.2 ∈ ck_GW)
    (hlink : Cond.methodLink own i2 y ∈ ck_GW ∨ Cond.methodLinkNest own i2 y "CheckSaver" ∈ cn_NW) (hd : y.cls ≠ "java/lang/invoke/MethodHandle" ∧ y.cls ≠ "java/lang/invoke/VarHandle" ∧ (parseMethodDescriptor y.desc).map (fun d => d.parameters.length) = some 0) (hR : d + 1 ≤ R.frames ∧ 19 + mL + 30 * d ≤ R.locals) (hcs : cells + 1 + mc ≤ R.cells ∧ slots + r.2.2 + ms ≤ R.slots) (hls : ls.size = nL) (hsum : (rest.map fun v => v.category).sum + 1 ≤ 8)
    (hP : va_P D ck_cl ws H) (hD : va_D A ws) (hS : va_S A H0 H locs) (d0 : decode cc pc = .ok (.new i1, 3)) (d1 : decode cc (pc + 3) = .ok (.dup, 1)) (d2 : decode cc (pc + 4) = .ok (.invokespecial i2, 3))
    (kk : ∀ (ad : Nat → Nat) (H1 : Heap) (locs1 : List Loc), va_P D ck_cl (ws ++ cn_ws cs ad idx) H1 → va_D A (ws ++ cn_ws cs ad idx) → va_S A H0 H1 locs1 → W p l e R s m args below meth c H1 locs1 (cells + 1 + mc) (slots + r.2.2 + ms) Q (F0 m (pc + 7) ls (.ref (ad c1) :: rest))) : W p l e R s m args below meth c H locs cells slots Q (F0 m pc ls rest) := by
  obtain ⟨hx, hb, hml, hown, hts, hU, hin2, hA⟩ := id Cx
  obtain ⟨hN, hT, hin, -, -⟩ := ck_cl_r hr
  refine va_new (D := D) (cl := ck_cl) (tys := ck_tys cs) (ci := cI) (C := r.1) (T := r.2.1) (N := r.2.2) hx hb hts hin ty0 hty hown (hts _ hcl) (hts _ hinst) (hts _ hini) hU.1 hP hD hS hA hr (fs := df) hdf (by omega) (by omega) d0 (fun q H1 hP1 hD1 hS1 => ?_)
  refine lv_dup hx hb d1 rfl ?_
  have hpre : ∀ U : State, U.heap = H1 → s.WarmedH U.vm → cn_Pc D cs cI df q H1.size (#[.ref q] : Array Value) U := fun U hU' hW => ⟨rfl, by rw [hU'], fun k x hk => by
    rw [hU']
    refine cn_in hP1 (List.mem_append_right _ (List.mem_of_getElem? hk)), cn_U_warm hW hU⟩
  have hsum2 : 2 * (F0 m (pc + 4) ls (.ref q :: .ref q :: rest)).monitorRoom + (((.ref q :: rest : List Value)).map fun v => v.category).sum ≤ 8 := lv_room (by simp only [List.map_cons, List.sum_cons]; show 1 + _ ≤ 8; omega)
  have hiy : (Cond.initialized y.cls).before args s = true := by rw [hyc]; exact hts _ hini
  have run : va_Run p l e R s m args below meth c H1 locs (cells + 1) (slots + r.2.2) mc ms (F0 m (pc + 4) ls (.ref q :: .ref q :: rest)) (.ref q :: rest) (cn_Qc D cs c1 idx q H1.size #[.ref q]) (cn_B q H1.size) := by
    rcases hlink with hl | hl
    · have hcw := callB_of (R := R) (own := own) (index := i2) (y := y) (bytes := bytes) (maxL := mL) (ret := none) (ws := cn_wsm y bytes mL) (ws' := ck_GW) (rm := cn_rm d mc ms) (mc := mc) (ms := ms) 0 hts (cn_good hcode) rfl rfl rfl hiy (hts _ hl) hd ⟨hR.1, by show 8 + (mL + 11) + 30 * d ≤ _; omega⟩
      exact va_runI (As := []) (b := q) ⟨hx, hb, hml, hown, hts⟩ (hM q H1.size) ⟨hcw, hyn, hts _ hins⟩ ⟨cn_blind, hpre⟩ rfl rfl hls rfl hsum2 d2 ⟨by omega, by omega⟩
    · have hcw := va_cnB (R := R) (own := own) (host := "CheckSaver") (index := i2) (y := y) (bytes := bytes) (maxL := mL) (ret := none) (ws := cn_wsm y bytes mL) (ws' := ck_GW) (rm := cn_rm d mc ms) (mc := mc) (ms := ms) 0 hts (cn_good hcode) rfl rfl rfl (hU.2.1 _ hl) hiy hd ⟨hR.1, by show 8 + (mL + 11) + 30 * d ≤ _; omega⟩
      exact va_runIN (As := []) (b := q) ⟨hx, hb, hml, hown, hts⟩ (hM q H1.size) ⟨hcw, hyn, hts _ hins⟩ ⟨cn_blind, hpre⟩ rfl rfl hls rfl hsum2 d2 ⟨by omega, by omega⟩
  refine cn_call Cx hP1 hD1 hS1 run (fun ad H2 locs2 had hP2 hD2 hS2 => ?_)
  rw [← had]
  exact kk ad H2 locs2 hP2 hD2 hS2
end CNL
