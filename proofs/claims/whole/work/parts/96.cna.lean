/-! The constructors that make arrays alone. -/
def cn_i0 : Value := .int (Int32.ofInt 0)
set_option maxRecDepth 20000 in
theorem cw_oi : Cond.instanceMethod Lib.objectInit ∈ ck_GW := ck_gw 80 (by decide +kernel) (by decide +kernel)
set_option maxRecDepth 20000 in
theorem cw_oc : Cond.code Lib.objectInit ⟨#[0xb1]⟩ 1 none ∈ ck_GW := ck_gw 81 (by decide +kernel) (by decide +kernel)
set_option maxRecDepth 20000 in
theorem cw_aI : Cond.arrayClass .int ∈ ck_GW := ck_gw 104 (by decide +kernel) (by decide +kernel)
set_option maxRecDepth 20000 in
theorem cw_aZ : Cond.arrayClass .boolean ∈ ck_GW := ck_gw 205 (by decide +kernel) (by decide +kernel)
theorem cn_D1 {A : Nat → Prop} {h : Nat} {x : va_E} (hA : A h) : va_D A [(h, x)] := by
  refine ⟨fun i j p q hi hj _ => ?_, fun k q hk => ?_⟩
  · have h1 := (List.getElem?_eq_some_iff.mp hi).1
    have h2 := (List.getElem?_eq_some_iff.mp hj).1
    simp only [List.length_cons, List.length_nil] at h1 h2
    omega
  · have h1 := (List.getElem?_eq_some_iff.mp hk).1
    simp only [List.length_cons, List.length_nil] at h1
    have h2 : k = 0 := by omega
    subst h2
    cases hk
    exact hA
section CNO
variable {l : Launch} {D : va_G} {cs : ck_Cs} {y : MethodName} {bytes : ByteArray} {maxL d mc ms ci : Nat} {fs : List Value} {c : Nat} {idx : List Nat} {own : String}
theorem cn_of (hy : plainFor y = true) (hyc : y.cls = own) (hyn : y.name = "<init>")
    (body : ∀ (p : Program) (e : Env) (s : State) (m : MethodId) (below : List Frame) (meth : Method) (c0 : Code) (h : Nat), cn_Cx p s m #[.ref h] meth c0 bytes maxL D cs own (cn_B h s.heap.size) s.heap → meth.sig.returnType = none → meth.locks = false → va_P D ck_cl [(h, .inr (ci, fs))] s.heap →
      W p l e (cn_rm d mc ms) s m #[.ref h] below meth c0 s.heap [] 0 0 (MQ below (cn_Qc D cs c idx h s.heap.size) #[.ref h] s mc ms (cn_B h s.heap.size)) (entryFrame m #[.ref h] maxL)) : cn_Met l D cs y bytes maxL d mc ms ci fs c idx := by
  intro h sz
  refine va_MetF (cc := bytes) (maxL := maxL) (ret := none) hy rfl ?_
  intro p e s m args below meth c0 s₁ B hml hv
  obtain ⟨rfl, hsz, hP, hU⟩ := hv
  have hts0 := atoms_spec (ws := cn_wsm y bytes maxL) B.pre
  have hts : ∀ w ∈ ck_GW, w.before ([.ref h] : List Value).toArray s = true := fun w hw => hts0 w (List.mem_cons_of_mem _ hw)
  have hown : s.vm.findClass y.cls = some m.cls := findClass_of_methodNamed B.named
  rw [hyc] at hown
  subst hsz
  exact body p e s m below meth c0 h ⟨B.exec, B.bytes, hml, hown, hts, hU, (name_of_methodNamed B.named B.method).1.trans hyn, fun q hq => Or.inr hq⟩ B.returns B.notSynchronized hP
variable {p : Program} {e : Env} {R : Room} {s : State} {m : MethodId} {args : Array Value} {below : List Frame} {meth : Method} {c0 : Code} {H : Heap} {locs : List Loc} {cells slots pc : Nat} {ls : Array Slot} {Q : State → Prop} {A : Nat → Prop} {H0 : Heap} {cc : ByteArray} {nL : Nat}
theorem cn_obj {h i : Nat} (Cx : cn_Cx p s m args meth c0 cc nL D cs own A H0) (hl : Cond.methodLink own i Lib.objectInit ∈ ck_GW) (hls : ls.size = nL) (hd : decode cc pc = .ok (.invokespecial i, 3)) (hf : 1 ≤ R.frames) (hlo : 12 ≤ R.locals)
    (kk : W p l e R s m args below meth c0 H locs cells slots Q (F0 m (pc + 3) ls [])) : W p l e R s m args below meth c0 H locs cells slots Q (F0 m pc ls [.ref h]) := by
  obtain ⟨hx, hb, hml, hown, hts, hU, hin2, hA⟩ := Cx
  exact W.objInit hx hb hown (hts _ hl) (hts _ cw_oi) (hts _ cw_oc) rfl (by rw [hml]; exact hls) rfl hd hf (show 2 * 0 + 0 + 12 ≤ R.locals by omega) kk
theorem cn_ret {h : Nat} {ad : Nat → Nat} (hx : p.tables.exec = Jvm.exec) (hb : c0.code = cc) (hr : meth.sig.returnType = none) (hlocks : meth.locks = false) (had : ad c = h) (hP : va_P D ck_cl (cn_ws cs ad idx) H) (hD : va_D (cn_B h s.heap.size) (cn_ws cs ad idx)) (hS : va_S (cn_B h s.heap.size) s.heap H locs) (hc : cells ≤ mc) (hs : slots ≤ ms) (hdg : decode cc pc = .ok (.return_, 1)) :
    W p l e R s m args below meth c0 H locs cells slots (MQ below (cn_Qc D cs c idx h s.heap.size) args s mc ms (cn_B h s.heap.size)) (F0 m pc ls []) :=
  W.widen hc hs (W.vret hx hb hr (fun t ht _ => ⟨⟨ad, rfl, had, by show va_P D ck_cl (cn_ws cs ad idx) t.heap ∧ _; rw [ht]; exact ⟨hP, hD⟩⟩, hS.F ht⟩) hS.2.2 hdg)
end CNO
def cn_iF (i : Nat) : List Nat := [25 + 7 * i, 25 + 7 * i + 1, 25 + 7 * i + 2, 25 + 7 * i + 3, 25 + 7 * i + 4, 25 + 7 * i + 5, 25 + 7 * i + 6]
theorem cn_shf {i j : Nat} (hi : i ≤ 64) (hj : j < 7) : ck_sh (25 + 7 * i + j) = ck_shF j := by
  unfold ck_sh
  rw [if_neg (by omega), if_pos (by omega), show (25 + 7 * i + j - 25) % 7 = j by omega]
theorem cn_F_en (cs : ck_Cs) (g : Nat → Nat) {i : Nat} (hi : i ≤ 64) : cn_ws cs (fun x => g (x - (25 + 7 * i))) (cn_iF i) = [(g 0, .inr (0, [.ref (g 1), .ref (g 2), .ref (g 3), .ref (g 4), .ref (g 5), .ref (g 6)])), (g 1, .inl (cs.1, 10, .inl (fun _ => Int32.ofInt 0))), (g 2, .inl (cs.1, 10, .inl (fun _ => Int32.ofInt 0))), (g 3, .inl (cs.1, 40, .inl (fun _ => Int32.ofInt 0))), (g 4, .inl (cs.1, 4, .inl (fun _ => Int32.ofInt 0))), (g 5, .inl (cs.1, 4, .inl (fun _ => Int32.ofInt 0))), (g 6, .inl (cs.2.1, 4, .inl (fun _ => Int32.ofInt 0)))] := by
  have s0 := cn_shf (j := 0) hi (by decide)
  have s1 := cn_shf (j := 1) hi (by decide)
  have s2 := cn_shf (j := 2) hi (by decide)
  have s3 := cn_shf (j := 3) hi (by decide)
  have s4 := cn_shf (j := 4) hi (by decide)
  have s5 := cn_shf (j := 5) hi (by decide)
  have s6 := cn_shf (j := 6) hi (by decide)
  have t : ∀ j : Nat, (((25 + 7 * i : Nat) : Int) + (j : Int)).toNat - (25 + 7 * i) = j := fun j => by omega
  have u : ∀ j : Nat, 25 + 7 * i + j - (25 + 7 * i) = j := fun j => by omega
  have e0 : ck_fs (fun x => g (x - (25 + 7 * i))) ck_z 0 ((25 + 7 * i : Nat) : Int) = [.ref (g 1), .ref (g 2), .ref (g 3), .ref (g 4), .ref (g 5), .ref (g 6)] := by
    show [Value.ref (g ((((25 + 7 * i : Nat) : Int) + ((1 : Nat) : Int)).toNat - (25 + 7 * i))), .ref (g ((((25 + 7 * i : Nat) : Int) + ((2 : Nat) : Int)).toNat - (25 + 7 * i))), .ref (g ((((25 + 7 * i : Nat) : Int) + ((3 : Nat) : Int)).toNat - (25 + 7 * i))), .ref (g ((((25 + 7 * i : Nat) : Int) + ((4 : Nat) : Int)).toNat - (25 + 7 * i))), .ref (g ((((25 + 7 * i : Nat) : Int) + ((5 : Nat) : Int)).toNat - (25 + 7 * i))), .ref (g ((((25 + 7 * i : Nat) : Int) + ((6 : Nat) : Int)).toNat - (25 + 7 * i)))] = _
    rw [t, t, t, t, t, t]
  unfold cn_ws cn_iF
  simp only [List.map_cons, List.map_nil]
  rw [show ck_en (fun x => g (x - (25 + 7 * i))) cs ck_z (25 + 7 * i) = .inr (0, ck_fs (fun x => g (x - (25 + 7 * i))) ck_z 0 ((25 + 7 * i : Nat) : Int)) from by
    unfold ck_en
    rw [show ck_sh (25 + 7 * i) = ck_shF 0 from s0]
    rfl, e0]
  have k1 : ∀ j : Nat, ∀ n : Nat, ck_sh (25 + 7 * i + j) = (0, n) → ck_en (fun x => g (x - (25 + 7 * i))) cs ck_z (25 + 7 * i + j) = .inl (cs.1, n, .inl (fun _ => Int32.ofInt 0)) := fun j n hh => by
    unfold ck_en
    rw [hh]
    rfl
  have k2 : ck_en (fun x => g (x - (25 + 7 * i))) cs ck_z (25 + 7 * i + 6) = .inl (cs.2.1, 4, .inl (fun _ => Int32.ofInt 0)) := by
    unfold ck_en
    rw [s6]
    rfl
  rw [k1 1 10 s1, k1 2 10 s2, k1 3 40 s3, k1 4 4 s4, k1 5 4 s5, k2, u, u, u, u, u, u, Nat.sub_self]
theorem dn_Fa_0 : decode prog_2_method_1_code 0 = .ok (.aload_n 0, 1) := by decide +kernel
theorem dn_Fa_1 : decode prog_2_method_1_code 1 = .ok (.invokespecial 5, 3) := by decide +kernel
theorem dn_Fa_4 : decode prog_2_method_1_code 4 = .ok (.aload_n 0, 1) := by decide +kernel
theorem dn_Fa_5 : decode prog_2_method_1_code 5 = .ok (.bipush 10, 2) := by decide +kernel
theorem dn_Fa_7 : decode prog_2_method_1_code 7 = .ok (.newarray .int, 2) := by decide +kernel
theorem dn_Fa_9 : decode prog_2_method_1_code 9 = .ok (.putfield 11, 3) := by decide +kernel
theorem dn_Fa_12 : decode prog_2_method_1_code 12 = .ok (.aload_n 0, 1) := by decide +kernel
theorem dn_Fa_13 : decode prog_2_method_1_code 13 = .ok (.bipush 10, 2) := by decide +kernel
theorem dn_Fa_15 : decode prog_2_method_1_code 15 = .ok (.newarray .int, 2) := by decide +kernel
theorem dn_Fa_17 : decode prog_2_method_1_code 17 = .ok (.putfield 15, 3) := by decide +kernel
theorem dn_Fa_20 : decode prog_2_method_1_code 20 = .ok (.aload_n 0, 1) := by decide +kernel
theorem dn_Fa_21 : decode prog_2_method_1_code 21 = .ok (.bipush 40, 2) := by decide +kernel
theorem dn_Fa_23 : decode prog_2_method_1_code 23 = .ok (.newarray .int, 2) := by decide +kernel
theorem dn_Fa_25 : decode prog_2_method_1_code 25 = .ok (.putfield 18, 3) := by decide +kernel
theorem dn_Fa_28 : decode prog_2_method_1_code 28 = .ok (.aload_n 0, 1) := by decide +kernel
theorem dn_Fa_29 : decode prog_2_method_1_code 29 = .ok (.iconst 4, 1) := by decide +kernel
theorem dn_Fa_30 : decode prog_2_method_1_code 30 = .ok (.newarray .int, 2) := by decide +kernel
theorem dn_Fa_32 : decode prog_2_method_1_code 32 = .ok (.putfield 21, 3) := by decide +kernel
theorem dn_Fa_35 : decode prog_2_method_1_code 35 = .ok (.aload_n 0, 1) := by decide +kernel
theorem dn_Fa_36 : decode prog_2_method_1_code 36 = .ok (.iconst 4, 1) := by decide +kernel
theorem dn_Fa_37 : decode prog_2_method_1_code 37 = .ok (.newarray .int, 2) := by decide +kernel
theorem dn_Fa_39 : decode prog_2_method_1_code 39 = .ok (.putfield 24, 3) := by decide +kernel
theorem dn_Fa_42 : decode prog_2_method_1_code 42 = .ok (.aload_n 0, 1) := by decide +kernel
theorem dn_Fa_43 : decode prog_2_method_1_code 43 = .ok (.iconst 4, 1) := by decide +kernel
theorem dn_Fa_44 : decode prog_2_method_1_code 44 = .ok (.newarray .boolean, 2) := by decide +kernel
theorem dn_Fa_46 : decode prog_2_method_1_code 46 = .ok (.putfield 27, 3) := by decide +kernel
theorem dn_Fa_49 : decode prog_2_method_1_code 49 = .ok (.return_, 1) := by decide +kernel
def cy_Fa : MethodName := ⟨"CheckSaver$Facts", "<init>", "()V"⟩
def cd_Fa : List Value := [.null, .null, .null, .null, .null, .null]
theorem cd_Fa_ok : ∀ j, j < 6 → defaultValue (ck_ty0 j) = vp_V cd_Fa j := by decide +kernel
set_option maxRecDepth 20000 in
theorem cw_Fa_code : Cond.code cy_Fa prog_2_method_1_code 1 none ∈ ck_GW := ck_gw 179 (by decide +kernel) (by decide +kernel)
set_option maxRecDepth 20000 in
theorem cw_Fa_ins : Cond.instanceMethod cy_Fa ∈ ck_GW := ck_gw 178 (by decide +kernel) (by decide +kernel)
set_option maxRecDepth 20000 in
theorem cw_Fa_ini : Cond.initialized "CheckSaver$Facts" ∈ ck_GW := ck_gw 63 (by decide +kernel) (by decide +kernel)
set_option maxRecDepth 20000 in
theorem cw_Fa_inst : Cond.instantiable "CheckSaver$Facts" 6 ∈ ck_GW := ck_gw 176 (by decide +kernel) (by decide +kernel)
set_option maxRecDepth 20000 in
theorem cw_Fa_obj : Cond.methodLink "CheckSaver$Facts" 5 Lib.objectInit ∈ ck_GW := ck_gw 180 (by decide +kernel) (by decide +kernel)
set_option maxRecDepth 20000 in
theorem cw_Fa_f11 : Cond.fieldLink "CheckSaver$Facts" 11 "CheckSaver$Facts" "known" "[I" ∈ ck_GW := ck_gw 181 (by decide +kernel) (by decide +kernel)
set_option maxRecDepth 20000 in
theorem cw_Fa_f15 : Cond.fieldLink "CheckSaver$Facts" 15 "CheckSaver$Facts" "low" "[I" ∈ ck_GW := ck_gw 182 (by decide +kernel) (by decide +kernel)
set_option maxRecDepth 20000 in
theorem cw_Fa_f18 : Cond.fieldLink "CheckSaver$Facts" 18 "CheckSaver$Facts" "high" "[I" ∈ ck_GW := ck_gw 185 (by decide +kernel) (by decide +kernel)
set_option maxRecDepth 20000 in
theorem cw_Fa_f21 : Cond.fieldLink "CheckSaver$Facts" 21 "CheckSaver$Facts" "value" "[I" ∈ ck_GW := ck_gw 188 (by decide +kernel) (by decide +kernel)
set_option maxRecDepth 20000 in
theorem cw_Fa_f24 : Cond.fieldLink "CheckSaver$Facts" 24 "CheckSaver$Facts" "size" "[I" ∈ ck_GW := ck_gw 189 (by decide +kernel) (by decide +kernel)
set_option maxRecDepth 20000 in
theorem cw_Fa_f27 : Cond.fieldLink "CheckSaver$Facts" 27 "CheckSaver$Facts" "there" "[Z" ∈ ck_GW := ck_gw 190 (by decide +kernel) (by decide +kernel)
theorem cn_Fa (l : Launch) (D : va_G) (cs : ck_Cs) {i : Nat} (hi : i ≤ 64) : cn_Met l D cs cy_Fa prog_2_method_1_code 1 1 6 72 0 cd_Fa (25 + 7 * i) (cn_iF i) := by
  refine cn_of (by decide) rfl rfl ?_
  intro p e s m below meth c0 h Cx hr hlocks hP
  have hx := Cx.1
  have hb := Cx.2.1
  have hU := Cx.2.2.2.2.2.1
  have hS : va_S (cn_B h s.heap.size) s.heap s.heap [] := va_S.rf
  have hD : va_D (cn_B h s.heap.size) [(h, (.inr (0, cd_Fa) : va_E))] := cn_D1 (Or.inl rfl)
  have hl := lv_entry ([.ref h]) (n := 1) (Nat.le_of_ble_eq_true rfl)
  show W p l e _ s m _ below meth c0 s.heap [] 0 0 _ (entryFrame m ([.ref h] : List Value).toArray 1)
  rw [lg_entry_eq]
  generalize (lg_sl ([.ref h]) ++ List.replicate (1 - (lg_sl ([.ref h])).length) Slot.unset).toArray = ls at hl ⊢
  have hl : lv_has ls 1 [(0, .ref h)] := hl
  refine lv_aload_n hx hb dn_Fa_0 rfl (lv_at hl 0 rfl) ?_
  refine cn_obj Cx cw_Fa_obj hl.1 dn_Fa_1 (by decide) (by decide) ?_
  refine lv_aload_n hx hb dn_Fa_4 rfl (lv_at hl 0 rfl) ?_
  refine lv_bipush (v := 10) hx hb dn_Fa_5 (by decide) ?_
  refine cn_arr (atype := .int) (cA := cs.1) (N := 10) Cx rfl cw_aI rfl (cn_uqI hU) (by decide) (by decide) (by decide) ⟨by decide, by decide⟩ hP hD hS dn_Fa_7 (fun q0 H0 hP hD hS => ?_)
  refine cn_put (ci := 0) (k := 0) (ty := .array .int) Cx rfl rfl (by decide) rfl cw_Fa_f11 rfl (by decide +kernel) rfl rfl hP hD hS dn_Fa_9 (fun H0 locs0 hP hD hS => ?_)
  have hP : va_P D ck_cl ((h, .inr (0, [.ref q0, .null, .null, .null, .null, .null])) :: [(q0, .inl (cs.1, 10, .inl (fun _ => Int32.ofInt 0)))]) H0 := hP
  have hD : va_D (cn_B h s.heap.size) ((h, .inr (0, [.ref q0, .null, .null, .null, .null, .null])) :: [(q0, .inl (cs.1, 10, .inl (fun _ => Int32.ofInt 0)))]) := hD
  refine lv_aload_n hx hb dn_Fa_12 rfl (lv_at hl 0 rfl) ?_
  refine lv_bipush (v := 10) hx hb dn_Fa_13 (by decide) ?_
  refine cn_arr (atype := .int) (cA := cs.1) (N := 10) Cx rfl cw_aI rfl (cn_uqI hU) (by decide) (by decide) (by decide) ⟨by decide, by decide⟩ hP hD hS dn_Fa_15 (fun q1 H1 hP hD hS => ?_)
  refine cn_put (ci := 0) (k := 1) (ty := .array .int) Cx rfl rfl (by decide) rfl cw_Fa_f15 rfl (by decide +kernel) rfl rfl hP hD hS dn_Fa_17 (fun H1 locs1 hP hD hS => ?_)
  have hP : va_P D ck_cl ((h, .inr (0, [.ref q0, .ref q1, .null, .null, .null, .null])) :: [(q0, .inl (cs.1, 10, .inl (fun _ => Int32.ofInt 0))), (q1, .inl (cs.1, 10, .inl (fun _ => Int32.ofInt 0)))]) H1 := hP
  have hD : va_D (cn_B h s.heap.size) ((h, .inr (0, [.ref q0, .ref q1, .null, .null, .null, .null])) :: [(q0, .inl (cs.1, 10, .inl (fun _ => Int32.ofInt 0))), (q1, .inl (cs.1, 10, .inl (fun _ => Int32.ofInt 0)))]) := hD
  refine lv_aload_n hx hb dn_Fa_20 rfl (lv_at hl 0 rfl) ?_
  refine lv_bipush (v := 40) hx hb dn_Fa_21 (by decide) ?_
  refine cn_arr (atype := .int) (cA := cs.1) (N := 40) Cx rfl cw_aI rfl (cn_uqI hU) (by decide) (by decide) (by decide) ⟨by decide, by decide⟩ hP hD hS dn_Fa_23 (fun q2 H2 hP hD hS => ?_)
  refine cn_put (ci := 0) (k := 2) (ty := .array .int) Cx rfl rfl (by decide) rfl cw_Fa_f18 rfl (by decide +kernel) rfl rfl hP hD hS dn_Fa_25 (fun H2 locs2 hP hD hS => ?_)
  have hP : va_P D ck_cl ((h, .inr (0, [.ref q0, .ref q1, .ref q2, .null, .null, .null])) :: [(q0, .inl (cs.1, 10, .inl (fun _ => Int32.ofInt 0))), (q1, .inl (cs.1, 10, .inl (fun _ => Int32.ofInt 0))), (q2, .inl (cs.1, 40, .inl (fun _ => Int32.ofInt 0)))]) H2 := hP
  have hD : va_D (cn_B h s.heap.size) ((h, .inr (0, [.ref q0, .ref q1, .ref q2, .null, .null, .null])) :: [(q0, .inl (cs.1, 10, .inl (fun _ => Int32.ofInt 0))), (q1, .inl (cs.1, 10, .inl (fun _ => Int32.ofInt 0))), (q2, .inl (cs.1, 40, .inl (fun _ => Int32.ofInt 0)))]) := hD
  refine lv_aload_n hx hb dn_Fa_28 rfl (lv_at hl 0 rfl) ?_
  refine lv_iconst (v := 4) hx hb dn_Fa_29 (by decide) ?_
  refine cn_arr (atype := .int) (cA := cs.1) (N := 4) Cx rfl cw_aI rfl (cn_uqI hU) (by decide) (by decide) (by decide) ⟨by decide, by decide⟩ hP hD hS dn_Fa_30 (fun q3 H3 hP hD hS => ?_)
  refine cn_put (ci := 0) (k := 3) (ty := .array .int) Cx rfl rfl (by decide) rfl cw_Fa_f21 rfl (by decide +kernel) rfl rfl hP hD hS dn_Fa_32 (fun H3 locs3 hP hD hS => ?_)
  have hP : va_P D ck_cl ((h, .inr (0, [.ref q0, .ref q1, .ref q2, .ref q3, .null, .null])) :: [(q0, .inl (cs.1, 10, .inl (fun _ => Int32.ofInt 0))), (q1, .inl (cs.1, 10, .inl (fun _ => Int32.ofInt 0))), (q2, .inl (cs.1, 40, .inl (fun _ => Int32.ofInt 0))), (q3, .inl (cs.1, 4, .inl (fun _ => Int32.ofInt 0)))]) H3 := hP
  have hD : va_D (cn_B h s.heap.size) ((h, .inr (0, [.ref q0, .ref q1, .ref q2, .ref q3, .null, .null])) :: [(q0, .inl (cs.1, 10, .inl (fun _ => Int32.ofInt 0))), (q1, .inl (cs.1, 10, .inl (fun _ => Int32.ofInt 0))), (q2, .inl (cs.1, 40, .inl (fun _ => Int32.ofInt 0))), (q3, .inl (cs.1, 4, .inl (fun _ => Int32.ofInt 0)))]) := hD
  refine lv_aload_n hx hb dn_Fa_35 rfl (lv_at hl 0 rfl) ?_
  refine lv_iconst (v := 4) hx hb dn_Fa_36 (by decide) ?_
  refine cn_arr (atype := .int) (cA := cs.1) (N := 4) Cx rfl cw_aI rfl (cn_uqI hU) (by decide) (by decide) (by decide) ⟨by decide, by decide⟩ hP hD hS dn_Fa_37 (fun q4 H4 hP hD hS => ?_)
  refine cn_put (ci := 0) (k := 4) (ty := .array .int) Cx rfl rfl (by decide) rfl cw_Fa_f24 rfl (by decide +kernel) rfl rfl hP hD hS dn_Fa_39 (fun H4 locs4 hP hD hS => ?_)
  have hP : va_P D ck_cl ((h, .inr (0, [.ref q0, .ref q1, .ref q2, .ref q3, .ref q4, .null])) :: [(q0, .inl (cs.1, 10, .inl (fun _ => Int32.ofInt 0))), (q1, .inl (cs.1, 10, .inl (fun _ => Int32.ofInt 0))), (q2, .inl (cs.1, 40, .inl (fun _ => Int32.ofInt 0))), (q3, .inl (cs.1, 4, .inl (fun _ => Int32.ofInt 0))), (q4, .inl (cs.1, 4, .inl (fun _ => Int32.ofInt 0)))]) H4 := hP
  have hD : va_D (cn_B h s.heap.size) ((h, .inr (0, [.ref q0, .ref q1, .ref q2, .ref q3, .ref q4, .null])) :: [(q0, .inl (cs.1, 10, .inl (fun _ => Int32.ofInt 0))), (q1, .inl (cs.1, 10, .inl (fun _ => Int32.ofInt 0))), (q2, .inl (cs.1, 40, .inl (fun _ => Int32.ofInt 0))), (q3, .inl (cs.1, 4, .inl (fun _ => Int32.ofInt 0))), (q4, .inl (cs.1, 4, .inl (fun _ => Int32.ofInt 0)))]) := hD
  refine lv_aload_n hx hb dn_Fa_42 rfl (lv_at hl 0 rfl) ?_
  refine lv_iconst (v := 4) hx hb dn_Fa_43 (by decide) ?_
  refine cn_arr (atype := .boolean) (cA := cs.2.1) (N := 4) Cx rfl cw_aZ rfl (cn_uqZ hU) (by decide) (by decide) (by decide) ⟨by decide, by decide⟩ hP hD hS dn_Fa_44 (fun q5 H5 hP hD hS => ?_)
  refine cn_put (ci := 0) (k := 5) (ty := .array .boolean) Cx rfl rfl (by decide) rfl cw_Fa_f27 rfl (by decide +kernel) rfl rfl hP hD hS dn_Fa_46 (fun H5 locs5 hP hD hS => ?_)
  have hP : va_P D ck_cl ((h, .inr (0, [.ref q0, .ref q1, .ref q2, .ref q3, .ref q4, .ref q5])) :: [(q0, .inl (cs.1, 10, .inl (fun _ => Int32.ofInt 0))), (q1, .inl (cs.1, 10, .inl (fun _ => Int32.ofInt 0))), (q2, .inl (cs.1, 40, .inl (fun _ => Int32.ofInt 0))), (q3, .inl (cs.1, 4, .inl (fun _ => Int32.ofInt 0))), (q4, .inl (cs.1, 4, .inl (fun _ => Int32.ofInt 0))), (q5, .inl (cs.2.1, 4, .inl (fun _ => Int32.ofInt 0)))]) H5 := hP
  have hD : va_D (cn_B h s.heap.size) ((h, .inr (0, [.ref q0, .ref q1, .ref q2, .ref q3, .ref q4, .ref q5])) :: [(q0, .inl (cs.1, 10, .inl (fun _ => Int32.ofInt 0))), (q1, .inl (cs.1, 10, .inl (fun _ => Int32.ofInt 0))), (q2, .inl (cs.1, 40, .inl (fun _ => Int32.ofInt 0))), (q3, .inl (cs.1, 4, .inl (fun _ => Int32.ofInt 0))), (q4, .inl (cs.1, 4, .inl (fun _ => Int32.ofInt 0))), (q5, .inl (cs.2.1, 4, .inl (fun _ => Int32.ofInt 0)))]) := hD
  have e1 := cn_F_en cs (fun j => [h, q0, q1, q2, q3, q4, q5].getD j 0) hi
  exact cn_ret (ad := fun x => [h, q0, q1, q2, q3, q4, q5].getD (x - (25 + 7 * i)) 0) hx hb hr hlocks (by show [h, q0, q1, q2, q3, q4, q5].getD (25 + 7 * i - (25 + 7 * i)) 0 = h; rw [Nat.sub_self]; rfl) (by rw [e1]; exact hP) (by rw [e1]; exact hD) hS (by decide) (by decide) dn_Fa_49
theorem dn_In_0 : decode prog_4_method_1_code 0 = .ok (.aload_n 0, 1) := by decide +kernel
theorem dn_In_1 : decode prog_4_method_1_code 1 = .ok (.invokespecial 3, 3) := by decide +kernel
theorem dn_In_4 : decode prog_4_method_1_code 4 = .ok (.aload_n 0, 1) := by decide +kernel
theorem dn_In_5 : decode prog_4_method_1_code 5 = .ok (.bipush 64, 2) := by decide +kernel
theorem dn_In_7 : decode prog_4_method_1_code 7 = .ok (.newarray .int, 2) := by decide +kernel
theorem dn_In_9 : decode prog_4_method_1_code 9 = .ok (.putfield 9, 3) := by decide +kernel
theorem dn_In_12 : decode prog_4_method_1_code 12 = .ok (.return_, 1) := by decide +kernel
def cy_In : MethodName := ⟨"CheckSaver$Inputs", "<init>", "()V"⟩
def cd_In : List Value := [.null, cn_i0, cn_i0]
theorem cd_In_ok : ∀ j, j < 3 → defaultValue (ck_ty2 j) = vp_V cd_In j := by decide +kernel
set_option maxRecDepth 20000 in
theorem cw_In_code : Cond.code cy_In prog_4_method_1_code 1 none ∈ ck_GW := ck_gw 92 (by decide +kernel) (by decide +kernel)
set_option maxRecDepth 20000 in
theorem cw_In_ins : Cond.instanceMethod cy_In ∈ ck_GW := ck_gw 91 (by decide +kernel) (by decide +kernel)
set_option maxRecDepth 20000 in
theorem cw_In_ini : Cond.initialized "CheckSaver$Inputs" ∈ ck_GW := ck_gw 60 (by decide +kernel) (by decide +kernel)
set_option maxRecDepth 20000 in
theorem cw_In_inst : Cond.instantiable "CheckSaver$Inputs" 3 ∈ ck_GW := ck_gw 89 (by decide +kernel) (by decide +kernel)
set_option maxRecDepth 20000 in
theorem cw_In_obj : Cond.methodLink "CheckSaver$Inputs" 3 Lib.objectInit ∈ ck_GW := ck_gw 93 (by decide +kernel) (by decide +kernel)
set_option maxRecDepth 20000 in
theorem cw_In_f9 : Cond.fieldLink "CheckSaver$Inputs" 9 "CheckSaver$Inputs" "waiting" "[I" ∈ ck_GW := ck_gw 94 (by decide +kernel) (by decide +kernel)
set_option maxHeartbeats 8000000 in
theorem cn_In (l : Launch) (D : va_G) (cs : ck_Cs) : cn_Met l D cs cy_In prog_4_method_1_code 1 1 1 64 2 cd_In 2 [2, 3] := by
  refine cn_of (by decide) rfl rfl ?_
  intro p e s m below meth c0 h Cx hr hlocks hP
  have hx := Cx.1
  have hb := Cx.2.1
  have hU := Cx.2.2.2.2.2.1
  have hS : va_S (cn_B h s.heap.size) s.heap s.heap [] := va_S.rf
  have hD : va_D (cn_B h s.heap.size) [(h, (.inr (2, cd_In) : va_E))] := cn_D1 (Or.inl rfl)
  have hl := lv_entry ([.ref h]) (n := 1) (Nat.le_of_ble_eq_true rfl)
  show W p l e _ s m _ below meth c0 s.heap [] 0 0 _ (entryFrame m ([.ref h] : List Value).toArray 1)
  rw [lg_entry_eq]
  generalize (lg_sl ([.ref h]) ++ List.replicate (1 - (lg_sl ([.ref h])).length) Slot.unset).toArray = ls at hl ⊢
  have hl : lv_has ls 1 [(0, .ref h)] := hl
  refine lv_aload_n hx hb dn_In_0 rfl (lv_at hl 0 rfl) ?_
  refine cn_obj Cx cw_In_obj hl.1 dn_In_1 (by decide) (by decide) ?_
  refine lv_aload_n hx hb dn_In_4 rfl (lv_at hl 0 rfl) ?_
  refine lv_bipush (v := 64) hx hb dn_In_5 (by decide) ?_
  refine cn_arr (atype := .int) (cA := cs.1) (N := 64) Cx rfl cw_aI rfl (cn_uqI hU) (by decide) (by decide) (by decide) ⟨by decide, by decide⟩ hP hD hS dn_In_7 (fun q0 H0 hP hD hS => ?_)
  refine cn_put (ci := 2) (k := 0) (ty := .array .int) Cx rfl rfl (by decide) rfl cw_In_f9 rfl (by decide +kernel) rfl rfl hP hD hS dn_In_9 (fun H0 locs0 hP hD hS => ?_)
  have hP : va_P D ck_cl ((h, .inr (2, [.ref q0, cn_i0, cn_i0])) :: [(q0, .inl (cs.1, 64, .inl (fun _ => Int32.ofInt 0)))]) H0 := hP
  have hD : va_D (cn_B h s.heap.size) ((h, .inr (2, [.ref q0, cn_i0, cn_i0])) :: [(q0, .inl (cs.1, 64, .inl (fun _ => Int32.ofInt 0)))]) := hD
  exact cn_ret (ad := fun x => [h, q0].getD (x - 2) 0) hx hb hr hlocks rfl hP hD hS (by decide) (by decide) dn_In_12
theorem dn_Pr_0 : decode prog_6_method_1_code 0 = .ok (.aload_n 0, 1) := by decide +kernel
theorem dn_Pr_1 : decode prog_6_method_1_code 1 = .ok (.invokespecial 3, 3) := by decide +kernel
theorem dn_Pr_4 : decode prog_6_method_1_code 4 = .ok (.aload_n 0, 1) := by decide +kernel
theorem dn_Pr_5 : decode prog_6_method_1_code 5 = .ok (.bipush 64, 2) := by decide +kernel
theorem dn_Pr_7 : decode prog_6_method_1_code 7 = .ok (.newarray .int, 2) := by decide +kernel
theorem dn_Pr_9 : decode prog_6_method_1_code 9 = .ok (.putfield 9, 3) := by decide +kernel
theorem dn_Pr_12 : decode prog_6_method_1_code 12 = .ok (.aload_n 0, 1) := by decide +kernel
theorem dn_Pr_13 : decode prog_6_method_1_code 13 = .ok (.bipush 64, 2) := by decide +kernel
theorem dn_Pr_15 : decode prog_6_method_1_code 15 = .ok (.newarray .int, 2) := by decide +kernel
theorem dn_Pr_17 : decode prog_6_method_1_code 17 = .ok (.putfield 15, 3) := by decide +kernel
theorem dn_Pr_20 : decode prog_6_method_1_code 20 = .ok (.aload_n 0, 1) := by decide +kernel
theorem dn_Pr_21 : decode prog_6_method_1_code 21 = .ok (.bipush 64, 2) := by decide +kernel
theorem dn_Pr_23 : decode prog_6_method_1_code 23 = .ok (.newarray .int, 2) := by decide +kernel
theorem dn_Pr_25 : decode prog_6_method_1_code 25 = .ok (.putfield 18, 3) := by decide +kernel
theorem dn_Pr_28 : decode prog_6_method_1_code 28 = .ok (.aload_n 0, 1) := by decide +kernel
theorem dn_Pr_29 : decode prog_6_method_1_code 29 = .ok (.bipush 64, 2) := by decide +kernel
theorem dn_Pr_31 : decode prog_6_method_1_code 31 = .ok (.newarray .int, 2) := by decide +kernel
theorem dn_Pr_33 : decode prog_6_method_1_code 33 = .ok (.putfield 21, 3) := by decide +kernel
theorem dn_Pr_36 : decode prog_6_method_1_code 36 = .ok (.aload_n 0, 1) := by decide +kernel
theorem dn_Pr_37 : decode prog_6_method_1_code 37 = .ok (.bipush 64, 2) := by decide +kernel
theorem dn_Pr_39 : decode prog_6_method_1_code 39 = .ok (.newarray .int, 2) := by decide +kernel
theorem dn_Pr_41 : decode prog_6_method_1_code 41 = .ok (.putfield 24, 3) := by decide +kernel
theorem dn_Pr_44 : decode prog_6_method_1_code 44 = .ok (.aload_n 0, 1) := by decide +kernel
theorem dn_Pr_45 : decode prog_6_method_1_code 45 = .ok (.bipush 64, 2) := by decide +kernel
theorem dn_Pr_47 : decode prog_6_method_1_code 47 = .ok (.newarray .int, 2) := by decide +kernel
theorem dn_Pr_49 : decode prog_6_method_1_code 49 = .ok (.putfield 27, 3) := by decide +kernel
theorem dn_Pr_52 : decode prog_6_method_1_code 52 = .ok (.aload_n 0, 1) := by decide +kernel
theorem dn_Pr_53 : decode prog_6_method_1_code 53 = .ok (.bipush 64, 2) := by decide +kernel
theorem dn_Pr_55 : decode prog_6_method_1_code 55 = .ok (.newarray .int, 2) := by decide +kernel
theorem dn_Pr_57 : decode prog_6_method_1_code 57 = .ok (.putfield 30, 3) := by decide +kernel
theorem dn_Pr_60 : decode prog_6_method_1_code 60 = .ok (.aload_n 0, 1) := by decide +kernel
theorem dn_Pr_61 : decode prog_6_method_1_code 61 = .ok (.bipush 64, 2) := by decide +kernel
theorem dn_Pr_63 : decode prog_6_method_1_code 63 = .ok (.newarray .int, 2) := by decide +kernel
theorem dn_Pr_65 : decode prog_6_method_1_code 65 = .ok (.putfield 33, 3) := by decide +kernel
theorem dn_Pr_68 : decode prog_6_method_1_code 68 = .ok (.aload_n 0, 1) := by decide +kernel
theorem dn_Pr_69 : decode prog_6_method_1_code 69 = .ok (.bipush 64, 2) := by decide +kernel
theorem dn_Pr_71 : decode prog_6_method_1_code 71 = .ok (.newarray .int, 2) := by decide +kernel
theorem dn_Pr_73 : decode prog_6_method_1_code 73 = .ok (.putfield 36, 3) := by decide +kernel
theorem dn_Pr_76 : decode prog_6_method_1_code 76 = .ok (.aload_n 0, 1) := by decide +kernel
theorem dn_Pr_77 : decode prog_6_method_1_code 77 = .ok (.bipush 8, 2) := by decide +kernel
theorem dn_Pr_79 : decode prog_6_method_1_code 79 = .ok (.newarray .int, 2) := by decide +kernel
theorem dn_Pr_81 : decode prog_6_method_1_code 81 = .ok (.putfield 39, 3) := by decide +kernel
theorem dn_Pr_84 : decode prog_6_method_1_code 84 = .ok (.return_, 1) := by decide +kernel
def cy_Pr : MethodName := ⟨"CheckSaver$Program", "<init>", "()V"⟩
def cd_Pr : List Value := [.null, .null, .null, .null, .null, .null, .null, .null, .null, .null, cn_i0, cn_i0]
theorem cd_Pr_ok : ∀ j, j < 12 → defaultValue (ck_ty4 j) = vp_V cd_Pr j := by decide +kernel
set_option maxRecDepth 20000 in
theorem cw_Pr_code : Cond.code cy_Pr prog_6_method_1_code 1 none ∈ ck_GW := ck_gw 115 (by decide +kernel) (by decide +kernel)
set_option maxRecDepth 20000 in
theorem cw_Pr_ins : Cond.instanceMethod cy_Pr ∈ ck_GW := ck_gw 114 (by decide +kernel) (by decide +kernel)
set_option maxRecDepth 20000 in
theorem cw_Pr_ini : Cond.initialized "CheckSaver$Program" ∈ ck_GW := ck_gw 62 (by decide +kernel) (by decide +kernel)
set_option maxRecDepth 20000 in
theorem cw_Pr_inst : Cond.instantiable "CheckSaver$Program" 12 ∈ ck_GW := ck_gw 112 (by decide +kernel) (by decide +kernel)
set_option maxRecDepth 20000 in
theorem cw_Pr_obj : Cond.methodLink "CheckSaver$Program" 3 Lib.objectInit ∈ ck_GW := ck_gw 116 (by decide +kernel) (by decide +kernel)
set_option maxRecDepth 20000 in
theorem cw_Pr_f9 : Cond.fieldLink "CheckSaver$Program" 9 "CheckSaver$Program" "sorts" "[I" ∈ ck_GW := ck_gw 117 (by decide +kernel) (by decide +kernel)
set_option maxRecDepth 20000 in
theorem cw_Pr_f15 : Cond.fieldLink "CheckSaver$Program" 15 "CheckSaver$Program" "xs" "[I" ∈ ck_GW := ck_gw 120 (by decide +kernel) (by decide +kernel)
set_option maxRecDepth 20000 in
theorem cw_Pr_f18 : Cond.fieldLink "CheckSaver$Program" 18 "CheckSaver$Program" "ys" "[I" ∈ ck_GW := ck_gw 123 (by decide +kernel) (by decide +kernel)
set_option maxRecDepth 20000 in
theorem cw_Pr_f21 : Cond.fieldLink "CheckSaver$Program" 21 "CheckSaver$Program" "zs" "[I" ∈ ck_GW := ck_gw 126 (by decide +kernel) (by decide +kernel)
set_option maxRecDepth 20000 in
theorem cw_Pr_f24 : Cond.fieldLink "CheckSaver$Program" 24 "CheckSaver$Program" "headOf" "[I" ∈ ck_GW := ck_gw 129 (by decide +kernel) (by decide +kernel)
set_option maxRecDepth 20000 in
theorem cw_Pr_f27 : Cond.fieldLink "CheckSaver$Program" 27 "CheckSaver$Program" "elseOf" "[I" ∈ ck_GW := ck_gw 132 (by decide +kernel) (by decide +kernel)
set_option maxRecDepth 20000 in
theorem cw_Pr_f30 : Cond.fieldLink "CheckSaver$Program" 30 "CheckSaver$Program" "endOf" "[I" ∈ ck_GW := ck_gw 135 (by decide +kernel) (by decide +kernel)
set_option maxRecDepth 20000 in
theorem cw_Pr_f33 : Cond.fieldLink "CheckSaver$Program" 33 "CheckSaver$Program" "numbersChanged" "[I" ∈ ck_GW := ck_gw 138 (by decide +kernel) (by decide +kernel)
set_option maxRecDepth 20000 in
theorem cw_Pr_f36 : Cond.fieldLink "CheckSaver$Program" 36 "CheckSaver$Program" "arraysChanged" "[I" ∈ ck_GW := ck_gw 140 (by decide +kernel) (by decide +kernel)
set_option maxRecDepth 20000 in
theorem cw_Pr_f39 : Cond.fieldLink "CheckSaver$Program" 39 "CheckSaver$Program" "open" "[I" ∈ ck_GW := ck_gw 142 (by decide +kernel) (by decide +kernel)
set_option maxHeartbeats 8000000 in
theorem cn_Pr (l : Launch) (D : va_G) (cs : ck_Cs) : cn_Met l D cs cy_Pr prog_6_method_1_code 1 1 10 584 4 cd_Pr 5 [5, 6, 7, 8, 9, 10, 11, 12, 13, 14, 15] := by
  refine cn_of (by decide) rfl rfl ?_
  intro p e s m below meth c0 h Cx hr hlocks hP
  have hx := Cx.1
  have hb := Cx.2.1
  have hU := Cx.2.2.2.2.2.1
  have hS : va_S (cn_B h s.heap.size) s.heap s.heap [] := va_S.rf
  have hD : va_D (cn_B h s.heap.size) [(h, (.inr (4, cd_Pr) : va_E))] := cn_D1 (Or.inl rfl)
  have hl := lv_entry ([.ref h]) (n := 1) (Nat.le_of_ble_eq_true rfl)
  show W p l e _ s m _ below meth c0 s.heap [] 0 0 _ (entryFrame m ([.ref h] : List Value).toArray 1)
  rw [lg_entry_eq]
  generalize (lg_sl ([.ref h]) ++ List.replicate (1 - (lg_sl ([.ref h])).length) Slot.unset).toArray = ls at hl ⊢
  have hl : lv_has ls 1 [(0, .ref h)] := hl
  refine lv_aload_n hx hb dn_Pr_0 rfl (lv_at hl 0 rfl) ?_
  refine cn_obj Cx cw_Pr_obj hl.1 dn_Pr_1 (by decide) (by decide) ?_
  refine lv_aload_n hx hb dn_Pr_4 rfl (lv_at hl 0 rfl) ?_
  refine lv_bipush (v := 64) hx hb dn_Pr_5 (by decide) ?_
  refine cn_arr (atype := .int) (cA := cs.1) (N := 64) Cx rfl cw_aI rfl (cn_uqI hU) (by decide) (by decide) (by decide) ⟨by decide, by decide⟩ hP hD hS dn_Pr_7 (fun q0 H0 hP hD hS => ?_)
  refine cn_put (ci := 4) (k := 0) (ty := .array .int) Cx rfl rfl (by decide) rfl cw_Pr_f9 rfl (by decide +kernel) rfl rfl hP hD hS dn_Pr_9 (fun H0 locs0 hP hD hS => ?_)
  have hP : va_P D ck_cl ((h, .inr (4, [.ref q0, .null, .null, .null, .null, .null, .null, .null, .null, .null, cn_i0, cn_i0])) :: [(q0, .inl (cs.1, 64, .inl (fun _ => Int32.ofInt 0)))]) H0 := hP
  have hD : va_D (cn_B h s.heap.size) ((h, .inr (4, [.ref q0, .null, .null, .null, .null, .null, .null, .null, .null, .null, cn_i0, cn_i0])) :: [(q0, .inl (cs.1, 64, .inl (fun _ => Int32.ofInt 0)))]) := hD
  refine lv_aload_n hx hb dn_Pr_12 rfl (lv_at hl 0 rfl) ?_
  refine lv_bipush (v := 64) hx hb dn_Pr_13 (by decide) ?_
  refine cn_arr (atype := .int) (cA := cs.1) (N := 64) Cx rfl cw_aI rfl (cn_uqI hU) (by decide) (by decide) (by decide) ⟨by decide, by decide⟩ hP hD hS dn_Pr_15 (fun q1 H1 hP hD hS => ?_)
  refine cn_put (ci := 4) (k := 1) (ty := .array .int) Cx rfl rfl (by decide) rfl cw_Pr_f15 rfl (by decide +kernel) rfl rfl hP hD hS dn_Pr_17 (fun H1 locs1 hP hD hS => ?_)
  have hP : va_P D ck_cl ((h, .inr (4, [.ref q0, .ref q1, .null, .null, .null, .null, .null, .null, .null, .null, cn_i0, cn_i0])) :: [(q0, .inl (cs.1, 64, .inl (fun _ => Int32.ofInt 0))), (q1, .inl (cs.1, 64, .inl (fun _ => Int32.ofInt 0)))]) H1 := hP
  have hD : va_D (cn_B h s.heap.size) ((h, .inr (4, [.ref q0, .ref q1, .null, .null, .null, .null, .null, .null, .null, .null, cn_i0, cn_i0])) :: [(q0, .inl (cs.1, 64, .inl (fun _ => Int32.ofInt 0))), (q1, .inl (cs.1, 64, .inl (fun _ => Int32.ofInt 0)))]) := hD
  refine lv_aload_n hx hb dn_Pr_20 rfl (lv_at hl 0 rfl) ?_
  refine lv_bipush (v := 64) hx hb dn_Pr_21 (by decide) ?_
  refine cn_arr (atype := .int) (cA := cs.1) (N := 64) Cx rfl cw_aI rfl (cn_uqI hU) (by decide) (by decide) (by decide) ⟨by decide, by decide⟩ hP hD hS dn_Pr_23 (fun q2 H2 hP hD hS => ?_)
  refine cn_put (ci := 4) (k := 2) (ty := .array .int) Cx rfl rfl (by decide) rfl cw_Pr_f18 rfl (by decide +kernel) rfl rfl hP hD hS dn_Pr_25 (fun H2 locs2 hP hD hS => ?_)
  have hP : va_P D ck_cl ((h, .inr (4, [.ref q0, .ref q1, .ref q2, .null, .null, .null, .null, .null, .null, .null, cn_i0, cn_i0])) :: [(q0, .inl (cs.1, 64, .inl (fun _ => Int32.ofInt 0))), (q1, .inl (cs.1, 64, .inl (fun _ => Int32.ofInt 0))), (q2, .inl (cs.1, 64, .inl (fun _ => Int32.ofInt 0)))]) H2 := hP
  have hD : va_D (cn_B h s.heap.size) ((h, .inr (4, [.ref q0, .ref q1, .ref q2, .null, .null, .null, .null, .null, .null, .null, cn_i0, cn_i0])) :: [(q0, .inl (cs.1, 64, .inl (fun _ => Int32.ofInt 0))), (q1, .inl (cs.1, 64, .inl (fun _ => Int32.ofInt 0))), (q2, .inl (cs.1, 64, .inl (fun _ => Int32.ofInt 0)))]) := hD
  refine lv_aload_n hx hb dn_Pr_28 rfl (lv_at hl 0 rfl) ?_
  refine lv_bipush (v := 64) hx hb dn_Pr_29 (by decide) ?_
  refine cn_arr (atype := .int) (cA := cs.1) (N := 64) Cx rfl cw_aI rfl (cn_uqI hU) (by decide) (by decide) (by decide) ⟨by decide, by decide⟩ hP hD hS dn_Pr_31 (fun q3 H3 hP hD hS => ?_)
  refine cn_put (ci := 4) (k := 3) (ty := .array .int) Cx rfl rfl (by decide) rfl cw_Pr_f21 rfl (by decide +kernel) rfl rfl hP hD hS dn_Pr_33 (fun H3 locs3 hP hD hS => ?_)
  have hP : va_P D ck_cl ((h, .inr (4, [.ref q0, .ref q1, .ref q2, .ref q3, .null, .null, .null, .null, .null, .null, cn_i0, cn_i0])) :: [(q0, .inl (cs.1, 64, .inl (fun _ => Int32.ofInt 0))), (q1, .inl (cs.1, 64, .inl (fun _ => Int32.ofInt 0))), (q2, .inl (cs.1, 64, .inl (fun _ => Int32.ofInt 0))), (q3, .inl (cs.1, 64, .inl (fun _ => Int32.ofInt 0)))]) H3 := hP
  have hD : va_D (cn_B h s.heap.size) ((h, .inr (4, [.ref q0, .ref q1, .ref q2, .ref q3, .null, .null, .null, .null, .null, .null, cn_i0, cn_i0])) :: [(q0, .inl (cs.1, 64, .inl (fun _ => Int32.ofInt 0))), (q1, .inl (cs.1, 64, .inl (fun _ => Int32.ofInt 0))), (q2, .inl (cs.1, 64, .inl (fun _ => Int32.ofInt 0))), (q3, .inl (cs.1, 64, .inl (fun _ => Int32.ofInt 0)))]) := hD
  refine lv_aload_n hx hb dn_Pr_36 rfl (lv_at hl 0 rfl) ?_
  refine lv_bipush (v := 64) hx hb dn_Pr_37 (by decide) ?_
  refine cn_arr (atype := .int) (cA := cs.1) (N := 64) Cx rfl cw_aI rfl (cn_uqI hU) (by decide) (by decide) (by decide) ⟨by decide, by decide⟩ hP hD hS dn_Pr_39 (fun q4 H4 hP hD hS => ?_)
  refine cn_put (ci := 4) (k := 4) (ty := .array .int) Cx rfl rfl (by decide) rfl cw_Pr_f24 rfl (by decide +kernel) rfl rfl hP hD hS dn_Pr_41 (fun H4 locs4 hP hD hS => ?_)
  have hP : va_P D ck_cl ((h, .inr (4, [.ref q0, .ref q1, .ref q2, .ref q3, .ref q4, .null, .null, .null, .null, .null, cn_i0, cn_i0])) :: [(q0, .inl (cs.1, 64, .inl (fun _ => Int32.ofInt 0))), (q1, .inl (cs.1, 64, .inl (fun _ => Int32.ofInt 0))), (q2, .inl (cs.1, 64, .inl (fun _ => Int32.ofInt 0))), (q3, .inl (cs.1, 64, .inl (fun _ => Int32.ofInt 0))), (q4, .inl (cs.1, 64, .inl (fun _ => Int32.ofInt 0)))]) H4 := hP
  have hD : va_D (cn_B h s.heap.size) ((h, .inr (4, [.ref q0, .ref q1, .ref q2, .ref q3, .ref q4, .null, .null, .null, .null, .null, cn_i0, cn_i0])) :: [(q0, .inl (cs.1, 64, .inl (fun _ => Int32.ofInt 0))), (q1, .inl (cs.1, 64, .inl (fun _ => Int32.ofInt 0))), (q2, .inl (cs.1, 64, .inl (fun _ => Int32.ofInt 0))), (q3, .inl (cs.1, 64, .inl (fun _ => Int32.ofInt 0))), (q4, .inl (cs.1, 64, .inl (fun _ => Int32.ofInt 0)))]) := hD
  refine lv_aload_n hx hb dn_Pr_44 rfl (lv_at hl 0 rfl) ?_
  refine lv_bipush (v := 64) hx hb dn_Pr_45 (by decide) ?_
  refine cn_arr (atype := .int) (cA := cs.1) (N := 64) Cx rfl cw_aI rfl (cn_uqI hU) (by decide) (by decide) (by decide) ⟨by decide, by decide⟩ hP hD hS dn_Pr_47 (fun q5 H5 hP hD hS => ?_)
  refine cn_put (ci := 4) (k := 5) (ty := .array .int) Cx rfl rfl (by decide) rfl cw_Pr_f27 rfl (by decide +kernel) rfl rfl hP hD hS dn_Pr_49 (fun H5 locs5 hP hD hS => ?_)
  have hP : va_P D ck_cl ((h, .inr (4, [.ref q0, .ref q1, .ref q2, .ref q3, .ref q4, .ref q5, .null, .null, .null, .null, cn_i0, cn_i0])) :: [(q0, .inl (cs.1, 64, .inl (fun _ => Int32.ofInt 0))), (q1, .inl (cs.1, 64, .inl (fun _ => Int32.ofInt 0))), (q2, .inl (cs.1, 64, .inl (fun _ => Int32.ofInt 0))), (q3, .inl (cs.1, 64, .inl (fun _ => Int32.ofInt 0))), (q4, .inl (cs.1, 64, .inl (fun _ => Int32.ofInt 0))), (q5, .inl (cs.1, 64, .inl (fun _ => Int32.ofInt 0)))]) H5 := hP
  have hD : va_D (cn_B h s.heap.size) ((h, .inr (4, [.ref q0, .ref q1, .ref q2, .ref q3, .ref q4, .ref q5, .null, .null, .null, .null, cn_i0, cn_i0])) :: [(q0, .inl (cs.1, 64, .inl (fun _ => Int32.ofInt 0))), (q1, .inl (cs.1, 64, .inl (fun _ => Int32.ofInt 0))), (q2, .inl (cs.1, 64, .inl (fun _ => Int32.ofInt 0))), (q3, .inl (cs.1, 64, .inl (fun _ => Int32.ofInt 0))), (q4, .inl (cs.1, 64, .inl (fun _ => Int32.ofInt 0))), (q5, .inl (cs.1, 64, .inl (fun _ => Int32.ofInt 0)))]) := hD
  refine lv_aload_n hx hb dn_Pr_52 rfl (lv_at hl 0 rfl) ?_
  refine lv_bipush (v := 64) hx hb dn_Pr_53 (by decide) ?_
  refine cn_arr (atype := .int) (cA := cs.1) (N := 64) Cx rfl cw_aI rfl (cn_uqI hU) (by decide) (by decide) (by decide) ⟨by decide, by decide⟩ hP hD hS dn_Pr_55 (fun q6 H6 hP hD hS => ?_)
  refine cn_put (ci := 4) (k := 6) (ty := .array .int) Cx rfl rfl (by decide) rfl cw_Pr_f30 rfl (by decide +kernel) rfl rfl hP hD hS dn_Pr_57 (fun H6 locs6 hP hD hS => ?_)
  have hP : va_P D ck_cl ((h, .inr (4, [.ref q0, .ref q1, .ref q2, .ref q3, .ref q4, .ref q5, .ref q6, .null, .null, .null, cn_i0, cn_i0])) :: [(q0, .inl (cs.1, 64, .inl (fun _ => Int32.ofInt 0))), (q1, .inl (cs.1, 64, .inl (fun _ => Int32.ofInt 0))), (q2, .inl (cs.1, 64, .inl (fun _ => Int32.ofInt 0))), (q3, .inl (cs.1, 64, .inl (fun _ => Int32.ofInt 0))), (q4, .inl (cs.1, 64, .inl (fun _ => Int32.ofInt 0))), (q5, .inl (cs.1, 64, .inl (fun _ => Int32.ofInt 0))), (q6, .inl (cs.1, 64, .inl (fun _ => Int32.ofInt 0)))]) H6 := hP
  have hD : va_D (cn_B h s.heap.size) ((h, .inr (4, [.ref q0, .ref q1, .ref q2, .ref q3, .ref q4, .ref q5, .ref q6, .null, .null, .null, cn_i0, cn_i0])) :: [(q0, .inl (cs.1, 64, .inl (fun _ => Int32.ofInt 0))), (q1, .inl (cs.1, 64, .inl (fun _ => Int32.ofInt 0))), (q2, .inl (cs.1, 64, .inl (fun _ => Int32.ofInt 0))), (q3, .inl (cs.1, 64, .inl (fun _ => Int32.ofInt 0))), (q4, .inl (cs.1, 64, .inl (fun _ => Int32.ofInt 0))), (q5, .inl (cs.1, 64, .inl (fun _ => Int32.ofInt 0))), (q6, .inl (cs.1, 64, .inl (fun _ => Int32.ofInt 0)))]) := hD
  refine lv_aload_n hx hb dn_Pr_60 rfl (lv_at hl 0 rfl) ?_
  refine lv_bipush (v := 64) hx hb dn_Pr_61 (by decide) ?_
  refine cn_arr (atype := .int) (cA := cs.1) (N := 64) Cx rfl cw_aI rfl (cn_uqI hU) (by decide) (by decide) (by decide) ⟨by decide, by decide⟩ hP hD hS dn_Pr_63 (fun q7 H7 hP hD hS => ?_)
  refine cn_put (ci := 4) (k := 7) (ty := .array .int) Cx rfl rfl (by decide) rfl cw_Pr_f33 rfl (by decide +kernel) rfl rfl hP hD hS dn_Pr_65 (fun H7 locs7 hP hD hS => ?_)
  have hP : va_P D ck_cl ((h, .inr (4, [.ref q0, .ref q1, .ref q2, .ref q3, .ref q4, .ref q5, .ref q6, .ref q7, .null, .null, cn_i0, cn_i0])) :: [(q0, .inl (cs.1, 64, .inl (fun _ => Int32.ofInt 0))), (q1, .inl (cs.1, 64, .inl (fun _ => Int32.ofInt 0))), (q2, .inl (cs.1, 64, .inl (fun _ => Int32.ofInt 0))), (q3, .inl (cs.1, 64, .inl (fun _ => Int32.ofInt 0))), (q4, .inl (cs.1, 64, .inl (fun _ => Int32.ofInt 0))), (q5, .inl (cs.1, 64, .inl (fun _ => Int32.ofInt 0))), (q6, .inl (cs.1, 64, .inl (fun _ => Int32.ofInt 0))), (q7, .inl (cs.1, 64, .inl (fun _ => Int32.ofInt 0)))]) H7 := hP
  have hD : va_D (cn_B h s.heap.size) ((h, .inr (4, [.ref q0, .ref q1, .ref q2, .ref q3, .ref q4, .ref q5, .ref q6, .ref q7, .null, .null, cn_i0, cn_i0])) :: [(q0, .inl (cs.1, 64, .inl (fun _ => Int32.ofInt 0))), (q1, .inl (cs.1, 64, .inl (fun _ => Int32.ofInt 0))), (q2, .inl (cs.1, 64, .inl (fun _ => Int32.ofInt 0))), (q3, .inl (cs.1, 64, .inl (fun _ => Int32.ofInt 0))), (q4, .inl (cs.1, 64, .inl (fun _ => Int32.ofInt 0))), (q5, .inl (cs.1, 64, .inl (fun _ => Int32.ofInt 0))), (q6, .inl (cs.1, 64, .inl (fun _ => Int32.ofInt 0))), (q7, .inl (cs.1, 64, .inl (fun _ => Int32.ofInt 0)))]) := hD
  refine lv_aload_n hx hb dn_Pr_68 rfl (lv_at hl 0 rfl) ?_
  refine lv_bipush (v := 64) hx hb dn_Pr_69 (by decide) ?_
  refine cn_arr (atype := .int) (cA := cs.1) (N := 64) Cx rfl cw_aI rfl (cn_uqI hU) (by decide) (by decide) (by decide) ⟨by decide, by decide⟩ hP hD hS dn_Pr_71 (fun q8 H8 hP hD hS => ?_)
  refine cn_put (ci := 4) (k := 8) (ty := .array .int) Cx rfl rfl (by decide) rfl cw_Pr_f36 rfl (by decide +kernel) rfl rfl hP hD hS dn_Pr_73 (fun H8 locs8 hP hD hS => ?_)
  have hP : va_P D ck_cl ((h, .inr (4, [.ref q0, .ref q1, .ref q2, .ref q3, .ref q4, .ref q5, .ref q6, .ref q7, .ref q8, .null, cn_i0, cn_i0])) :: [(q0, .inl (cs.1, 64, .inl (fun _ => Int32.ofInt 0))), (q1, .inl (cs.1, 64, .inl (fun _ => Int32.ofInt 0))), (q2, .inl (cs.1, 64, .inl (fun _ => Int32.ofInt 0))), (q3, .inl (cs.1, 64, .inl (fun _ => Int32.ofInt 0))), (q4, .inl (cs.1, 64, .inl (fun _ => Int32.ofInt 0))), (q5, .inl (cs.1, 64, .inl (fun _ => Int32.ofInt 0))), (q6, .inl (cs.1, 64, .inl (fun _ => Int32.ofInt 0))), (q7, .inl (cs.1, 64, .inl (fun _ => Int32.ofInt 0))), (q8, .inl (cs.1, 64, .inl (fun _ => Int32.ofInt 0)))]) H8 := hP
  have hD : va_D (cn_B h s.heap.size) ((h, .inr (4, [.ref q0, .ref q1, .ref q2, .ref q3, .ref q4, .ref q5, .ref q6, .ref q7, .ref q8, .null, cn_i0, cn_i0])) :: [(q0, .inl (cs.1, 64, .inl (fun _ => Int32.ofInt 0))), (q1, .inl (cs.1, 64, .inl (fun _ => Int32.ofInt 0))), (q2, .inl (cs.1, 64, .inl (fun _ => Int32.ofInt 0))), (q3, .inl (cs.1, 64, .inl (fun _ => Int32.ofInt 0))), (q4, .inl (cs.1, 64, .inl (fun _ => Int32.ofInt 0))), (q5, .inl (cs.1, 64, .inl (fun _ => Int32.ofInt 0))), (q6, .inl (cs.1, 64, .inl (fun _ => Int32.ofInt 0))), (q7, .inl (cs.1, 64, .inl (fun _ => Int32.ofInt 0))), (q8, .inl (cs.1, 64, .inl (fun _ => Int32.ofInt 0)))]) := hD
  refine lv_aload_n hx hb dn_Pr_76 rfl (lv_at hl 0 rfl) ?_
  refine lv_bipush (v := 8) hx hb dn_Pr_77 (by decide) ?_
  refine cn_arr (atype := .int) (cA := cs.1) (N := 8) Cx rfl cw_aI rfl (cn_uqI hU) (by decide) (by decide) (by decide) ⟨by decide, by decide⟩ hP hD hS dn_Pr_79 (fun q9 H9 hP hD hS => ?_)
  refine cn_put (ci := 4) (k := 9) (ty := .array .int) Cx rfl rfl (by decide) rfl cw_Pr_f39 rfl (by decide +kernel) rfl rfl hP hD hS dn_Pr_81 (fun H9 locs9 hP hD hS => ?_)
  have hP : va_P D ck_cl ((h, .inr (4, [.ref q0, .ref q1, .ref q2, .ref q3, .ref q4, .ref q5, .ref q6, .ref q7, .ref q8, .ref q9, cn_i0, cn_i0])) :: [(q0, .inl (cs.1, 64, .inl (fun _ => Int32.ofInt 0))), (q1, .inl (cs.1, 64, .inl (fun _ => Int32.ofInt 0))), (q2, .inl (cs.1, 64, .inl (fun _ => Int32.ofInt 0))), (q3, .inl (cs.1, 64, .inl (fun _ => Int32.ofInt 0))), (q4, .inl (cs.1, 64, .inl (fun _ => Int32.ofInt 0))), (q5, .inl (cs.1, 64, .inl (fun _ => Int32.ofInt 0))), (q6, .inl (cs.1, 64, .inl (fun _ => Int32.ofInt 0))), (q7, .inl (cs.1, 64, .inl (fun _ => Int32.ofInt 0))), (q8, .inl (cs.1, 64, .inl (fun _ => Int32.ofInt 0))), (q9, .inl (cs.1, 8, .inl (fun _ => Int32.ofInt 0)))]) H9 := hP
  have hD : va_D (cn_B h s.heap.size) ((h, .inr (4, [.ref q0, .ref q1, .ref q2, .ref q3, .ref q4, .ref q5, .ref q6, .ref q7, .ref q8, .ref q9, cn_i0, cn_i0])) :: [(q0, .inl (cs.1, 64, .inl (fun _ => Int32.ofInt 0))), (q1, .inl (cs.1, 64, .inl (fun _ => Int32.ofInt 0))), (q2, .inl (cs.1, 64, .inl (fun _ => Int32.ofInt 0))), (q3, .inl (cs.1, 64, .inl (fun _ => Int32.ofInt 0))), (q4, .inl (cs.1, 64, .inl (fun _ => Int32.ofInt 0))), (q5, .inl (cs.1, 64, .inl (fun _ => Int32.ofInt 0))), (q6, .inl (cs.1, 64, .inl (fun _ => Int32.ofInt 0))), (q7, .inl (cs.1, 64, .inl (fun _ => Int32.ofInt 0))), (q8, .inl (cs.1, 64, .inl (fun _ => Int32.ofInt 0))), (q9, .inl (cs.1, 8, .inl (fun _ => Int32.ofInt 0)))]) := hD
  exact cn_ret (ad := fun x => [h, q0, q1, q2, q3, q4, q5, q6, q7, q8, q9].getD (x - 5) 0) hx hb hr hlocks rfl hP hD hS (by decide) (by decide) dn_Pr_84
theorem dn_Mo_0 : decode prog_8_method_1_code 0 = .ok (.aload_n 0, 1) := by decide +kernel
theorem dn_Mo_1 : decode prog_8_method_1_code 1 = .ok (.invokespecial 1, 3) := by decide +kernel
theorem dn_Mo_4 : decode prog_8_method_1_code 4 = .ok (.aload_n 0, 1) := by decide +kernel
theorem dn_Mo_5 : decode prog_8_method_1_code 5 = .ok (.bipush 64, 2) := by decide +kernel
theorem dn_Mo_7 : decode prog_8_method_1_code 7 = .ok (.newarray .int, 2) := by decide +kernel
theorem dn_Mo_9 : decode prog_8_method_1_code 9 = .ok (.putfield 7, 3) := by decide +kernel
theorem dn_Mo_12 : decode prog_8_method_1_code 12 = .ok (.aload_n 0, 1) := by decide +kernel
theorem dn_Mo_13 : decode prog_8_method_1_code 13 = .ok (.bipush 64, 2) := by decide +kernel
theorem dn_Mo_15 : decode prog_8_method_1_code 15 = .ok (.newarray .int, 2) := by decide +kernel
theorem dn_Mo_17 : decode prog_8_method_1_code 17 = .ok (.putfield 13, 3) := by decide +kernel
theorem dn_Mo_20 : decode prog_8_method_1_code 20 = .ok (.aload_n 0, 1) := by decide +kernel
theorem dn_Mo_21 : decode prog_8_method_1_code 21 = .ok (.bipush 64, 2) := by decide +kernel
theorem dn_Mo_23 : decode prog_8_method_1_code 23 = .ok (.newarray .int, 2) := by decide +kernel
theorem dn_Mo_25 : decode prog_8_method_1_code 25 = .ok (.putfield 16, 3) := by decide +kernel
theorem dn_Mo_28 : decode prog_8_method_1_code 28 = .ok (.aload_n 0, 1) := by decide +kernel
theorem dn_Mo_29 : decode prog_8_method_1_code 29 = .ok (.bipush 64, 2) := by decide +kernel
theorem dn_Mo_31 : decode prog_8_method_1_code 31 = .ok (.newarray .int, 2) := by decide +kernel
theorem dn_Mo_33 : decode prog_8_method_1_code 33 = .ok (.putfield 19, 3) := by decide +kernel
theorem dn_Mo_36 : decode prog_8_method_1_code 36 = .ok (.aload_n 0, 1) := by decide +kernel
theorem dn_Mo_37 : decode prog_8_method_1_code 37 = .ok (.bipush 64, 2) := by decide +kernel
theorem dn_Mo_39 : decode prog_8_method_1_code 39 = .ok (.newarray .int, 2) := by decide +kernel
theorem dn_Mo_41 : decode prog_8_method_1_code 41 = .ok (.putfield 22, 3) := by decide +kernel
theorem dn_Mo_44 : decode prog_8_method_1_code 44 = .ok (.aload_n 0, 1) := by decide +kernel
theorem dn_Mo_45 : decode prog_8_method_1_code 45 = .ok (.bipush 64, 2) := by decide +kernel
theorem dn_Mo_47 : decode prog_8_method_1_code 47 = .ok (.newarray .int, 2) := by decide +kernel
theorem dn_Mo_49 : decode prog_8_method_1_code 49 = .ok (.putfield 25, 3) := by decide +kernel
theorem dn_Mo_52 : decode prog_8_method_1_code 52 = .ok (.aload_n 0, 1) := by decide +kernel
theorem dn_Mo_53 : decode prog_8_method_1_code 53 = .ok (.bipush 64, 2) := by decide +kernel
theorem dn_Mo_55 : decode prog_8_method_1_code 55 = .ok (.newarray .int, 2) := by decide +kernel
theorem dn_Mo_57 : decode prog_8_method_1_code 57 = .ok (.putfield 28, 3) := by decide +kernel
theorem dn_Mo_60 : decode prog_8_method_1_code 60 = .ok (.aload_n 0, 1) := by decide +kernel
theorem dn_Mo_61 : decode prog_8_method_1_code 61 = .ok (.bipush 8, 2) := by decide +kernel
theorem dn_Mo_63 : decode prog_8_method_1_code 63 = .ok (.newarray .int, 2) := by decide +kernel
theorem dn_Mo_65 : decode prog_8_method_1_code 65 = .ok (.putfield 31, 3) := by decide +kernel
theorem dn_Mo_68 : decode prog_8_method_1_code 68 = .ok (.aload_n 0, 1) := by decide +kernel
theorem dn_Mo_69 : decode prog_8_method_1_code 69 = .ok (.bipush 64, 2) := by decide +kernel
theorem dn_Mo_71 : decode prog_8_method_1_code 71 = .ok (.newarray .int, 2) := by decide +kernel
theorem dn_Mo_73 : decode prog_8_method_1_code 73 = .ok (.putfield 34, 3) := by decide +kernel
theorem dn_Mo_76 : decode prog_8_method_1_code 76 = .ok (.aload_n 0, 1) := by decide +kernel
theorem dn_Mo_77 : decode prog_8_method_1_code 77 = .ok (.bipush 82, 2) := by decide +kernel
theorem dn_Mo_79 : decode prog_8_method_1_code 79 = .ok (.newarray .int, 2) := by decide +kernel
theorem dn_Mo_81 : decode prog_8_method_1_code 81 = .ok (.putfield 37, 3) := by decide +kernel
theorem dn_Mo_84 : decode prog_8_method_1_code 84 = .ok (.aload_n 0, 1) := by decide +kernel
theorem dn_Mo_85 : decode prog_8_method_1_code 85 = .ok (.sipush 5248, 3) := by decide +kernel
theorem dn_Mo_88 : decode prog_8_method_1_code 88 = .ok (.newarray .int, 2) := by decide +kernel
theorem dn_Mo_90 : decode prog_8_method_1_code 90 = .ok (.putfield 40, 3) := by decide +kernel
theorem dn_Mo_93 : decode prog_8_method_1_code 93 = .ok (.aload_n 0, 1) := by decide +kernel
theorem dn_Mo_94 : decode prog_8_method_1_code 94 = .ok (.sipush 5248, 3) := by decide +kernel
theorem dn_Mo_97 : decode prog_8_method_1_code 97 = .ok (.newarray .int, 2) := by decide +kernel
theorem dn_Mo_99 : decode prog_8_method_1_code 99 = .ok (.putfield 43, 3) := by decide +kernel
theorem dn_Mo_102 : decode prog_8_method_1_code 102 = .ok (.aload_n 0, 1) := by decide +kernel
theorem dn_Mo_103 : decode prog_8_method_1_code 103 = .ok (.sipush 5248, 3) := by decide +kernel
theorem dn_Mo_106 : decode prog_8_method_1_code 106 = .ok (.newarray .int, 2) := by decide +kernel
theorem dn_Mo_108 : decode prog_8_method_1_code 108 = .ok (.putfield 46, 3) := by decide +kernel
theorem dn_Mo_111 : decode prog_8_method_1_code 111 = .ok (.aload_n 0, 1) := by decide +kernel
theorem dn_Mo_112 : decode prog_8_method_1_code 112 = .ok (.sipush 5248, 3) := by decide +kernel
theorem dn_Mo_115 : decode prog_8_method_1_code 115 = .ok (.newarray .int, 2) := by decide +kernel
theorem dn_Mo_117 : decode prog_8_method_1_code 117 = .ok (.putfield 49, 3) := by decide +kernel
theorem dn_Mo_120 : decode prog_8_method_1_code 120 = .ok (.aload_n 0, 1) := by decide +kernel
theorem dn_Mo_121 : decode prog_8_method_1_code 121 = .ok (.bipush 64, 2) := by decide +kernel
theorem dn_Mo_123 : decode prog_8_method_1_code 123 = .ok (.newarray .boolean, 2) := by decide +kernel
theorem dn_Mo_125 : decode prog_8_method_1_code 125 = .ok (.putfield 52, 3) := by decide +kernel
theorem dn_Mo_128 : decode prog_8_method_1_code 128 = .ok (.aload_n 0, 1) := by decide +kernel
theorem dn_Mo_129 : decode prog_8_method_1_code 129 = .ok (.bipush 10, 2) := by decide +kernel
theorem dn_Mo_131 : decode prog_8_method_1_code 131 = .ok (.newarray .int, 2) := by decide +kernel
theorem dn_Mo_133 : decode prog_8_method_1_code 133 = .ok (.putfield 56, 3) := by decide +kernel
theorem dn_Mo_136 : decode prog_8_method_1_code 136 = .ok (.aload_n 0, 1) := by decide +kernel
theorem dn_Mo_137 : decode prog_8_method_1_code 137 = .ok (.iconst 4, 1) := by decide +kernel
theorem dn_Mo_138 : decode prog_8_method_1_code 138 = .ok (.newarray .int, 2) := by decide +kernel
theorem dn_Mo_140 : decode prog_8_method_1_code 140 = .ok (.putfield 59, 3) := by decide +kernel
theorem dn_Mo_143 : decode prog_8_method_1_code 143 = .ok (.aload_n 0, 1) := by decide +kernel
theorem dn_Mo_144 : decode prog_8_method_1_code 144 = .ok (.bipush 40, 2) := by decide +kernel
theorem dn_Mo_146 : decode prog_8_method_1_code 146 = .ok (.newarray .int, 2) := by decide +kernel
theorem dn_Mo_148 : decode prog_8_method_1_code 148 = .ok (.putfield 62, 3) := by decide +kernel
theorem dn_Mo_151 : decode prog_8_method_1_code 151 = .ok (.aload_n 0, 1) := by decide +kernel
theorem dn_Mo_152 : decode prog_8_method_1_code 152 = .ok (.sipush 1600, 3) := by decide +kernel
theorem dn_Mo_155 : decode prog_8_method_1_code 155 = .ok (.newarray .int, 2) := by decide +kernel
theorem dn_Mo_157 : decode prog_8_method_1_code 157 = .ok (.putfield 65, 3) := by decide +kernel
theorem dn_Mo_160 : decode prog_8_method_1_code 160 = .ok (.aload_n 0, 1) := by decide +kernel
theorem dn_Mo_161 : decode prog_8_method_1_code 161 = .ok (.bipush 16, 2) := by decide +kernel
theorem dn_Mo_163 : decode prog_8_method_1_code 163 = .ok (.newarray .int, 2) := by decide +kernel
theorem dn_Mo_165 : decode prog_8_method_1_code 165 = .ok (.putfield 68, 3) := by decide +kernel
theorem dn_Mo_168 : decode prog_8_method_1_code 168 = .ok (.return_, 1) := by decide +kernel
def cy_Mo : MethodName := ⟨"CheckSaverModel", "<init>", "()V"⟩
def cd_Mo : List Value := [cn_i0, cn_i0, cn_i0, .null, .null, .null, .null, .null, .null, .null, .null, .null, cn_i0, .null, .null, .null, .null, .null, .null, cn_i0, cn_i0, cn_i0, cn_i0, cn_i0, cn_i0, cn_i0, cn_i0, .null, .null, .null, .null, .null]
theorem cd_Mo_ok : ∀ j, j < 32 → defaultValue (ck_ty6 j) = vp_V cd_Mo j := by decide +kernel
set_option maxRecDepth 20000 in
theorem cw_Mo_code : Cond.code cy_Mo prog_8_method_1_code 1 none ∈ ck_GW := ck_gw 756 (by decide +kernel) (by decide +kernel)
set_option maxRecDepth 20000 in
theorem cw_Mo_ins : Cond.instanceMethod cy_Mo ∈ ck_GW := ck_gw 755 (by decide +kernel) (by decide +kernel)
set_option maxRecDepth 20000 in
theorem cw_Mo_ini : Cond.initialized "CheckSaverModel" ∈ ck_GW := ck_gw 64 (by decide +kernel) (by decide +kernel)
set_option maxRecDepth 20000 in
theorem cw_Mo_inst : Cond.instantiable "CheckSaverModel" 32 ∈ ck_GW := ck_gw 753 (by decide +kernel) (by decide +kernel)
set_option maxRecDepth 20000 in
theorem cw_Mo_obj : Cond.methodLink "CheckSaverModel" 1 Lib.objectInit ∈ ck_GW := ck_gw 757 (by decide +kernel) (by decide +kernel)
set_option maxRecDepth 20000 in
theorem cw_Mo_f7 : Cond.fieldLink "CheckSaverModel" 7 "CheckSaverModel" "sort" "[I" ∈ ck_GW := ck_gw 761 (by decide +kernel) (by decide +kernel)
set_option maxRecDepth 20000 in
theorem cw_Mo_f13 : Cond.fieldLink "CheckSaverModel" 13 "CheckSaverModel" "x" "[I" ∈ ck_GW := ck_gw 762 (by decide +kernel) (by decide +kernel)
set_option maxRecDepth 20000 in
theorem cw_Mo_f16 : Cond.fieldLink "CheckSaverModel" 16 "CheckSaverModel" "y" "[I" ∈ ck_GW := ck_gw 763 (by decide +kernel) (by decide +kernel)
set_option maxRecDepth 20000 in
theorem cw_Mo_f19 : Cond.fieldLink "CheckSaverModel" 19 "CheckSaverModel" "z" "[I" ∈ ck_GW := ck_gw 764 (by decide +kernel) (by decide +kernel)
set_option maxRecDepth 20000 in
theorem cw_Mo_f22 : Cond.fieldLink "CheckSaverModel" 22 "CheckSaverModel" "other" "[I" ∈ ck_GW := ck_gw 765 (by decide +kernel) (by decide +kernel)
set_option maxRecDepth 20000 in
theorem cw_Mo_f25 : Cond.fieldLink "CheckSaverModel" 25 "CheckSaverModel" "end" "[I" ∈ ck_GW := ck_gw 766 (by decide +kernel) (by decide +kernel)
set_option maxRecDepth 20000 in
theorem cw_Mo_f28 : Cond.fieldLink "CheckSaverModel" 28 "CheckSaverModel" "of" "[I" ∈ ck_GW := ck_gw 767 (by decide +kernel) (by decide +kernel)
set_option maxRecDepth 20000 in
theorem cw_Mo_f31 : Cond.fieldLink "CheckSaverModel" 31 "CheckSaverModel" "opened" "[I" ∈ ck_GW := ck_gw 768 (by decide +kernel) (by decide +kernel)
set_option maxRecDepth 20000 in
theorem cw_Mo_f34 : Cond.fieldLink "CheckSaverModel" 34 "CheckSaverModel" "inputs" "[I" ∈ ck_GW := ck_gw 769 (by decide +kernel) (by decide +kernel)
set_option maxRecDepth 20000 in
theorem cw_Mo_f37 : Cond.fieldLink "CheckSaverModel" 37 "CheckSaverModel" "row" "[I" ∈ ck_GW := ck_gw 771 (by decide +kernel) (by decide +kernel)
set_option maxRecDepth 20000 in
theorem cw_Mo_f40 : Cond.fieldLink "CheckSaverModel" 40 "CheckSaverModel" "before" "[I" ∈ ck_GW := ck_gw 772 (by decide +kernel) (by decide +kernel)
set_option maxRecDepth 20000 in
theorem cw_Mo_f43 : Cond.fieldLink "CheckSaverModel" 43 "CheckSaverModel" "not" "[I" ∈ ck_GW := ck_gw 773 (by decide +kernel) (by decide +kernel)
set_option maxRecDepth 20000 in
theorem cw_Mo_f46 : Cond.fieldLink "CheckSaverModel" 46 "CheckSaverModel" "then" "[I" ∈ ck_GW := ck_gw 774 (by decide +kernel) (by decide +kernel)
set_option maxRecDepth 20000 in
theorem cw_Mo_f49 : Cond.fieldLink "CheckSaverModel" 49 "CheckSaverModel" "back" "[I" ∈ ck_GW := ck_gw 775 (by decide +kernel) (by decide +kernel)
set_option maxRecDepth 20000 in
theorem cw_Mo_f52 : Cond.fieldLink "CheckSaverModel" 52 "CheckSaverModel" "comes" "[Z" ∈ ck_GW := ck_gw 776 (by decide +kernel) (by decide +kernel)
set_option maxRecDepth 20000 in
theorem cw_Mo_f56 : Cond.fieldLink "CheckSaverModel" 56 "CheckSaverModel" "number" "[I" ∈ ck_GW := ck_gw 785 (by decide +kernel) (by decide +kernel)
set_option maxRecDepth 20000 in
theorem cw_Mo_f59 : Cond.fieldLink "CheckSaverModel" 59 "CheckSaverModel" "array" "[I" ∈ ck_GW := ck_gw 786 (by decide +kernel) (by decide +kernel)
set_option maxRecDepth 20000 in
theorem cw_Mo_f62 : Cond.fieldLink "CheckSaverModel" 62 "CheckSaverModel" "length" "[I" ∈ ck_GW := ck_gw 787 (by decide +kernel) (by decide +kernel)
set_option maxRecDepth 20000 in
theorem cw_Mo_f65 : Cond.fieldLink "CheckSaverModel" 65 "CheckSaverModel" "cells" "[I" ∈ ck_GW := ck_gw 788 (by decide +kernel) (by decide +kernel)
set_option maxRecDepth 20000 in
theorem cw_Mo_f68 : Cond.fieldLink "CheckSaverModel" 68 "CheckSaverModel" "shown" "[I" ∈ ck_GW := ck_gw 789 (by decide +kernel) (by decide +kernel)
set_option maxHeartbeats 8000000 in
theorem cn_Mo (l : Launch) (D : va_G) (cs : ck_Cs) : cn_Met l D cs cy_Mo prog_8_method_1_code 1 1 20 23328 6 cd_Mo 480 [480, 481, 482, 483, 484, 485, 486, 487, 488, 489, 490, 491, 492, 493, 494, 495, 496, 497, 498, 499, 500] := by
  refine cn_of (by decide) rfl rfl ?_
  intro p e s m below meth c0 h Cx hr hlocks hP
  have hx := Cx.1
  have hb := Cx.2.1
  have hU := Cx.2.2.2.2.2.1
  have hS : va_S (cn_B h s.heap.size) s.heap s.heap [] := va_S.rf
  have hD : va_D (cn_B h s.heap.size) [(h, (.inr (6, cd_Mo) : va_E))] := cn_D1 (Or.inl rfl)
  have hl := lv_entry ([.ref h]) (n := 1) (Nat.le_of_ble_eq_true rfl)
  show W p l e _ s m _ below meth c0 s.heap [] 0 0 _ (entryFrame m ([.ref h] : List Value).toArray 1)
  rw [lg_entry_eq]
  generalize (lg_sl ([.ref h]) ++ List.replicate (1 - (lg_sl ([.ref h])).length) Slot.unset).toArray = ls at hl ⊢
  have hl : lv_has ls 1 [(0, .ref h)] := hl
  refine lv_aload_n hx hb dn_Mo_0 rfl (lv_at hl 0 rfl) ?_
  refine cn_obj Cx cw_Mo_obj hl.1 dn_Mo_1 (by decide) (by decide) ?_
  refine lv_aload_n hx hb dn_Mo_4 rfl (lv_at hl 0 rfl) ?_
  refine lv_bipush (v := 64) hx hb dn_Mo_5 (by decide) ?_
  refine cn_arr (atype := .int) (cA := cs.1) (N := 64) Cx rfl cw_aI rfl (cn_uqI hU) (by decide) (by decide) (by decide) ⟨by decide, by decide⟩ hP hD hS dn_Mo_7 (fun q0 H0 hP hD hS => ?_)
  refine cn_put (ci := 6) (k := 3) (ty := .array .int) Cx rfl rfl (by decide) rfl cw_Mo_f7 rfl (by decide +kernel) rfl rfl hP hD hS dn_Mo_9 (fun H0 locs0 hP hD hS => ?_)
  have hP : va_P D ck_cl ((h, .inr (6, [cn_i0, cn_i0, cn_i0, .ref q0, .null, .null, .null, .null, .null, .null, .null, .null, cn_i0, .null, .null, .null, .null, .null, .null, cn_i0, cn_i0, cn_i0, cn_i0, cn_i0, cn_i0, cn_i0, cn_i0, .null, .null, .null, .null, .null])) :: [(q0, .inl (cs.1, 64, .inl (fun _ => Int32.ofInt 0)))]) H0 := hP
  have hD : va_D (cn_B h s.heap.size) ((h, .inr (6, [cn_i0, cn_i0, cn_i0, .ref q0, .null, .null, .null, .null, .null, .null, .null, .null, cn_i0, .null, .null, .null, .null, .null, .null, cn_i0, cn_i0, cn_i0, cn_i0, cn_i0, cn_i0, cn_i0, cn_i0, .null, .null, .null, .null, .null])) :: [(q0, .inl (cs.1, 64, .inl (fun _ => Int32.ofInt 0)))]) := hD
  refine lv_aload_n hx hb dn_Mo_12 rfl (lv_at hl 0 rfl) ?_
  refine lv_bipush (v := 64) hx hb dn_Mo_13 (by decide) ?_
  refine cn_arr (atype := .int) (cA := cs.1) (N := 64) Cx rfl cw_aI rfl (cn_uqI hU) (by decide) (by decide) (by decide) ⟨by decide, by decide⟩ hP hD hS dn_Mo_15 (fun q1 H1 hP hD hS => ?_)
  refine cn_put (ci := 6) (k := 4) (ty := .array .int) Cx rfl rfl (by decide) rfl cw_Mo_f13 rfl (by decide +kernel) rfl rfl hP hD hS dn_Mo_17 (fun H1 locs1 hP hD hS => ?_)
  have hP : va_P D ck_cl ((h, .inr (6, [cn_i0, cn_i0, cn_i0, .ref q0, .ref q1, .null, .null, .null, .null, .null, .null, .null, cn_i0, .null, .null, .null, .null, .null, .null, cn_i0, cn_i0, cn_i0, cn_i0, cn_i0, cn_i0, cn_i0, cn_i0, .null, .null, .null, .null, .null])) :: [(q0, .inl (cs.1, 64, .inl (fun _ => Int32.ofInt 0))), (q1, .inl (cs.1, 64, .inl (fun _ => Int32.ofInt 0)))]) H1 := hP
  have hD : va_D (cn_B h s.heap.size) ((h, .inr (6, [cn_i0, cn_i0, cn_i0, .ref q0, .ref q1, .null, .null, .null, .null, .null, .null, .null, cn_i0, .null, .null, .null, .null, .null, .null, cn_i0, cn_i0, cn_i0, cn_i0, cn_i0, cn_i0, cn_i0, cn_i0, .null, .null, .null, .null, .null])) :: [(q0, .inl (cs.1, 64, .inl (fun _ => Int32.ofInt 0))), (q1, .inl (cs.1, 64, .inl (fun _ => Int32.ofInt 0)))]) := hD
  refine lv_aload_n hx hb dn_Mo_20 rfl (lv_at hl 0 rfl) ?_
  refine lv_bipush (v := 64) hx hb dn_Mo_21 (by decide) ?_
  refine cn_arr (atype := .int) (cA := cs.1) (N := 64) Cx rfl cw_aI rfl (cn_uqI hU) (by decide) (by decide) (by decide) ⟨by decide, by decide⟩ hP hD hS dn_Mo_23 (fun q2 H2 hP hD hS => ?_)
  refine cn_put (ci := 6) (k := 5) (ty := .array .int) Cx rfl rfl (by decide) rfl cw_Mo_f16 rfl (by decide +kernel) rfl rfl hP hD hS dn_Mo_25 (fun H2 locs2 hP hD hS => ?_)
  have hP : va_P D ck_cl ((h, .inr (6, [cn_i0, cn_i0, cn_i0, .ref q0, .ref q1, .ref q2, .null, .null, .null, .null, .null, .null, cn_i0, .null, .null, .null, .null, .null, .null, cn_i0, cn_i0, cn_i0, cn_i0, cn_i0, cn_i0, cn_i0, cn_i0, .null, .null, .null, .null, .null])) :: [(q0, .inl (cs.1, 64, .inl (fun _ => Int32.ofInt 0))), (q1, .inl (cs.1, 64, .inl (fun _ => Int32.ofInt 0))), (q2, .inl (cs.1, 64, .inl (fun _ => Int32.ofInt 0)))]) H2 := hP
  have hD : va_D (cn_B h s.heap.size) ((h, .inr (6, [cn_i0, cn_i0, cn_i0, .ref q0, .ref q1, .ref q2, .null, .null, .null, .null, .null, .null, cn_i0, .null, .null, .null, .null, .null, .null, cn_i0, cn_i0, cn_i0, cn_i0, cn_i0, cn_i0, cn_i0, cn_i0, .null, .null, .null, .null, .null])) :: [(q0, .inl (cs.1, 64, .inl (fun _ => Int32.ofInt 0))), (q1, .inl (cs.1, 64, .inl (fun _ => Int32.ofInt 0))), (q2, .inl (cs.1, 64, .inl (fun _ => Int32.ofInt 0)))]) := hD
  refine lv_aload_n hx hb dn_Mo_28 rfl (lv_at hl 0 rfl) ?_
  refine lv_bipush (v := 64) hx hb dn_Mo_29 (by decide) ?_
  refine cn_arr (atype := .int) (cA := cs.1) (N := 64) Cx rfl cw_aI rfl (cn_uqI hU) (by decide) (by decide) (by decide) ⟨by decide, by decide⟩ hP hD hS dn_Mo_31 (fun q3 H3 hP hD hS => ?_)
  refine cn_put (ci := 6) (k := 6) (ty := .array .int) Cx rfl rfl (by decide) rfl cw_Mo_f19 rfl (by decide +kernel) rfl rfl hP hD hS dn_Mo_33 (fun H3 locs3 hP hD hS => ?_)
  have hP : va_P D ck_cl ((h, .inr (6, [cn_i0, cn_i0, cn_i0, .ref q0, .ref q1, .ref q2, .ref q3, .null, .null, .null, .null, .null, cn_i0, .null, .null, .null, .null, .null, .null, cn_i0, cn_i0, cn_i0, cn_i0, cn_i0, cn_i0, cn_i0, cn_i0, .null, .null, .null, .null, .null])) :: [(q0, .inl (cs.1, 64, .inl (fun _ => Int32.ofInt 0))), (q1, .inl (cs.1, 64, .inl (fun _ => Int32.ofInt 0))), (q2, .inl (cs.1, 64, .inl (fun _ => Int32.ofInt 0))), (q3, .inl (cs.1, 64, .inl (fun _ => Int32.ofInt 0)))]) H3 := hP
  have hD : va_D (cn_B h s.heap.size) ((h, .inr (6, [cn_i0, cn_i0, cn_i0, .ref q0, .ref q1, .ref q2, .ref q3, .null, .null, .null, .null, .null, cn_i0, .null, .null, .null, .null, .null, .null, cn_i0, cn_i0, cn_i0, cn_i0, cn_i0, cn_i0, cn_i0, cn_i0, .null, .null, .null, .null, .null])) :: [(q0, .inl (cs.1, 64, .inl (fun _ => Int32.ofInt 0))), (q1, .inl (cs.1, 64, .inl (fun _ => Int32.ofInt 0))), (q2, .inl (cs.1, 64, .inl (fun _ => Int32.ofInt 0))), (q3, .inl (cs.1, 64, .inl (fun _ => Int32.ofInt 0)))]) := hD
  refine lv_aload_n hx hb dn_Mo_36 rfl (lv_at hl 0 rfl) ?_
  refine lv_bipush (v := 64) hx hb dn_Mo_37 (by decide) ?_
  refine cn_arr (atype := .int) (cA := cs.1) (N := 64) Cx rfl cw_aI rfl (cn_uqI hU) (by decide) (by decide) (by decide) ⟨by decide, by decide⟩ hP hD hS dn_Mo_39 (fun q4 H4 hP hD hS => ?_)
  refine cn_put (ci := 6) (k := 7) (ty := .array .int) Cx rfl rfl (by decide) rfl cw_Mo_f22 rfl (by decide +kernel) rfl rfl hP hD hS dn_Mo_41 (fun H4 locs4 hP hD hS => ?_)
  have hP : va_P D ck_cl ((h, .inr (6, [cn_i0, cn_i0, cn_i0, .ref q0, .ref q1, .ref q2, .ref q3, .ref q4, .null, .null, .null, .null, cn_i0, .null, .null, .null, .null, .null, .null, cn_i0, cn_i0, cn_i0, cn_i0, cn_i0, cn_i0, cn_i0, cn_i0, .null, .null, .null, .null, .null])) :: [(q0, .inl (cs.1, 64, .inl (fun _ => Int32.ofInt 0))), (q1, .inl (cs.1, 64, .inl (fun _ => Int32.ofInt 0))), (q2, .inl (cs.1, 64, .inl (fun _ => Int32.ofInt 0))), (q3, .inl (cs.1, 64, .inl (fun _ => Int32.ofInt 0))), (q4, .inl (cs.1, 64, .inl (fun _ => Int32.ofInt 0)))]) H4 := hP
  have hD : va_D (cn_B h s.heap.size) ((h, .inr (6, [cn_i0, cn_i0, cn_i0, .ref q0, .ref q1, .ref q2, .ref q3, .ref q4, .null, .null, .null, .null, cn_i0, .null, .null, .null, .null, .null, .null, cn_i0, cn_i0, cn_i0, cn_i0, cn_i0, cn_i0, cn_i0, cn_i0, .null, .null, .null, .null, .null])) :: [(q0, .inl (cs.1, 64, .inl (fun _ => Int32.ofInt 0))), (q1, .inl (cs.1, 64, .inl (fun _ => Int32.ofInt 0))), (q2, .inl (cs.1, 64, .inl (fun _ => Int32.ofInt 0))), (q3, .inl (cs.1, 64, .inl (fun _ => Int32.ofInt 0))), (q4, .inl (cs.1, 64, .inl (fun _ => Int32.ofInt 0)))]) := hD
  refine lv_aload_n hx hb dn_Mo_44 rfl (lv_at hl 0 rfl) ?_
  refine lv_bipush (v := 64) hx hb dn_Mo_45 (by decide) ?_
  refine cn_arr (atype := .int) (cA := cs.1) (N := 64) Cx rfl cw_aI rfl (cn_uqI hU) (by decide) (by decide) (by decide) ⟨by decide, by decide⟩ hP hD hS dn_Mo_47 (fun q5 H5 hP hD hS => ?_)
  refine cn_put (ci := 6) (k := 8) (ty := .array .int) Cx rfl rfl (by decide) rfl cw_Mo_f25 rfl (by decide +kernel) rfl rfl hP hD hS dn_Mo_49 (fun H5 locs5 hP hD hS => ?_)
  have hP : va_P D ck_cl ((h, .inr (6, [cn_i0, cn_i0, cn_i0, .ref q0, .ref q1, .ref q2, .ref q3, .ref q4, .ref q5, .null, .null, .null, cn_i0, .null, .null, .null, .null, .null, .null, cn_i0, cn_i0, cn_i0, cn_i0, cn_i0, cn_i0, cn_i0, cn_i0, .null, .null, .null, .null, .null])) :: [(q0, .inl (cs.1, 64, .inl (fun _ => Int32.ofInt 0))), (q1, .inl (cs.1, 64, .inl (fun _ => Int32.ofInt 0))), (q2, .inl (cs.1, 64, .inl (fun _ => Int32.ofInt 0))), (q3, .inl (cs.1, 64, .inl (fun _ => Int32.ofInt 0))), (q4, .inl (cs.1, 64, .inl (fun _ => Int32.ofInt 0))), (q5, .inl (cs.1, 64, .inl (fun _ => Int32.ofInt 0)))]) H5 := hP
  have hD : va_D (cn_B h s.heap.size) ((h, .inr (6, [cn_i0, cn_i0, cn_i0, .ref q0, .ref q1, .ref q2, .ref q3, .ref q4, .ref q5, .null, .null, .null, cn_i0, .null, .null, .null, .null, .null, .null, cn_i0, cn_i0, cn_i0, cn_i0, cn_i0, cn_i0, cn_i0, cn_i0, .null, .null, .null, .null, .null])) :: [(q0, .inl (cs.1, 64, .inl (fun _ => Int32.ofInt 0))), (q1, .inl (cs.1, 64, .inl (fun _ => Int32.ofInt 0))), (q2, .inl (cs.1, 64, .inl (fun _ => Int32.ofInt 0))), (q3, .inl (cs.1, 64, .inl (fun _ => Int32.ofInt 0))), (q4, .inl (cs.1, 64, .inl (fun _ => Int32.ofInt 0))), (q5, .inl (cs.1, 64, .inl (fun _ => Int32.ofInt 0)))]) := hD
  refine lv_aload_n hx hb dn_Mo_52 rfl (lv_at hl 0 rfl) ?_
  refine lv_bipush (v := 64) hx hb dn_Mo_53 (by decide) ?_
  refine cn_arr (atype := .int) (cA := cs.1) (N := 64) Cx rfl cw_aI rfl (cn_uqI hU) (by decide) (by decide) (by decide) ⟨by decide, by decide⟩ hP hD hS dn_Mo_55 (fun q6 H6 hP hD hS => ?_)
  refine cn_put (ci := 6) (k := 9) (ty := .array .int) Cx rfl rfl (by decide) rfl cw_Mo_f28 rfl (by decide +kernel) rfl rfl hP hD hS dn_Mo_57 (fun H6 locs6 hP hD hS => ?_)
  have hP : va_P D ck_cl ((h, .inr (6, [cn_i0, cn_i0, cn_i0, .ref q0, .ref q1, .ref q2, .ref q3, .ref q4, .ref q5, .ref q6, .null, .null, cn_i0, .null, .null, .null, .null, .null, .null, cn_i0, cn_i0, cn_i0, cn_i0, cn_i0, cn_i0, cn_i0, cn_i0, .null, .null, .null, .null, .null])) :: [(q0, .inl (cs.1, 64, .inl (fun _ => Int32.ofInt 0))), (q1, .inl (cs.1, 64, .inl (fun _ => Int32.ofInt 0))), (q2, .inl (cs.1, 64, .inl (fun _ => Int32.ofInt 0))), (q3, .inl (cs.1, 64, .inl (fun _ => Int32.ofInt 0))), (q4, .inl (cs.1, 64, .inl (fun _ => Int32.ofInt 0))), (q5, .inl (cs.1, 64, .inl (fun _ => Int32.ofInt 0))), (q6, .inl (cs.1, 64, .inl (fun _ => Int32.ofInt 0)))]) H6 := hP
  have hD : va_D (cn_B h s.heap.size) ((h, .inr (6, [cn_i0, cn_i0, cn_i0, .ref q0, .ref q1, .ref q2, .ref q3, .ref q4, .ref q5, .ref q6, .null, .null, cn_i0, .null, .null, .null, .null, .null, .null, cn_i0, cn_i0, cn_i0, cn_i0, cn_i0, cn_i0, cn_i0, cn_i0, .null, .null, .null, .null, .null])) :: [(q0, .inl (cs.1, 64, .inl (fun _ => Int32.ofInt 0))), (q1, .inl (cs.1, 64, .inl (fun _ => Int32.ofInt 0))), (q2, .inl (cs.1, 64, .inl (fun _ => Int32.ofInt 0))), (q3, .inl (cs.1, 64, .inl (fun _ => Int32.ofInt 0))), (q4, .inl (cs.1, 64, .inl (fun _ => Int32.ofInt 0))), (q5, .inl (cs.1, 64, .inl (fun _ => Int32.ofInt 0))), (q6, .inl (cs.1, 64, .inl (fun _ => Int32.ofInt 0)))]) := hD
  refine lv_aload_n hx hb dn_Mo_60 rfl (lv_at hl 0 rfl) ?_
  refine lv_bipush (v := 8) hx hb dn_Mo_61 (by decide) ?_
  refine cn_arr (atype := .int) (cA := cs.1) (N := 8) Cx rfl cw_aI rfl (cn_uqI hU) (by decide) (by decide) (by decide) ⟨by decide, by decide⟩ hP hD hS dn_Mo_63 (fun q7 H7 hP hD hS => ?_)
  refine cn_put (ci := 6) (k := 10) (ty := .array .int) Cx rfl rfl (by decide) rfl cw_Mo_f31 rfl (by decide +kernel) rfl rfl hP hD hS dn_Mo_65 (fun H7 locs7 hP hD hS => ?_)
  have hP : va_P D ck_cl ((h, .inr (6, [cn_i0, cn_i0, cn_i0, .ref q0, .ref q1, .ref q2, .ref q3, .ref q4, .ref q5, .ref q6, .ref q7, .null, cn_i0, .null, .null, .null, .null, .null, .null, cn_i0, cn_i0, cn_i0, cn_i0, cn_i0, cn_i0, cn_i0, cn_i0, .null, .null, .null, .null, .null])) :: [(q0, .inl (cs.1, 64, .inl (fun _ => Int32.ofInt 0))), (q1, .inl (cs.1, 64, .inl (fun _ => Int32.ofInt 0))), (q2, .inl (cs.1, 64, .inl (fun _ => Int32.ofInt 0))), (q3, .inl (cs.1, 64, .inl (fun _ => Int32.ofInt 0))), (q4, .inl (cs.1, 64, .inl (fun _ => Int32.ofInt 0))), (q5, .inl (cs.1, 64, .inl (fun _ => Int32.ofInt 0))), (q6, .inl (cs.1, 64, .inl (fun _ => Int32.ofInt 0))), (q7, .inl (cs.1, 8, .inl (fun _ => Int32.ofInt 0)))]) H7 := hP
  have hD : va_D (cn_B h s.heap.size) ((h, .inr (6, [cn_i0, cn_i0, cn_i0, .ref q0, .ref q1, .ref q2, .ref q3, .ref q4, .ref q5, .ref q6, .ref q7, .null, cn_i0, .null, .null, .null, .null, .null, .null, cn_i0, cn_i0, cn_i0, cn_i0, cn_i0, cn_i0, cn_i0, cn_i0, .null, .null, .null, .null, .null])) :: [(q0, .inl (cs.1, 64, .inl (fun _ => Int32.ofInt 0))), (q1, .inl (cs.1, 64, .inl (fun _ => Int32.ofInt 0))), (q2, .inl (cs.1, 64, .inl (fun _ => Int32.ofInt 0))), (q3, .inl (cs.1, 64, .inl (fun _ => Int32.ofInt 0))), (q4, .inl (cs.1, 64, .inl (fun _ => Int32.ofInt 0))), (q5, .inl (cs.1, 64, .inl (fun _ => Int32.ofInt 0))), (q6, .inl (cs.1, 64, .inl (fun _ => Int32.ofInt 0))), (q7, .inl (cs.1, 8, .inl (fun _ => Int32.ofInt 0)))]) := hD
  refine lv_aload_n hx hb dn_Mo_68 rfl (lv_at hl 0 rfl) ?_
  refine lv_bipush (v := 64) hx hb dn_Mo_69 (by decide) ?_
  refine cn_arr (atype := .int) (cA := cs.1) (N := 64) Cx rfl cw_aI rfl (cn_uqI hU) (by decide) (by decide) (by decide) ⟨by decide, by decide⟩ hP hD hS dn_Mo_71 (fun q8 H8 hP hD hS => ?_)
  refine cn_put (ci := 6) (k := 11) (ty := .array .int) Cx rfl rfl (by decide) rfl cw_Mo_f34 rfl (by decide +kernel) rfl rfl hP hD hS dn_Mo_73 (fun H8 locs8 hP hD hS => ?_)
  have hP : va_P D ck_cl ((h, .inr (6, [cn_i0, cn_i0, cn_i0, .ref q0, .ref q1, .ref q2, .ref q3, .ref q4, .ref q5, .ref q6, .ref q7, .ref q8, cn_i0, .null, .null, .null, .null, .null, .null, cn_i0, cn_i0, cn_i0, cn_i0, cn_i0, cn_i0, cn_i0, cn_i0, .null, .null, .null, .null, .null])) :: [(q0, .inl (cs.1, 64, .inl (fun _ => Int32.ofInt 0))), (q1, .inl (cs.1, 64, .inl (fun _ => Int32.ofInt 0))), (q2, .inl (cs.1, 64, .inl (fun _ => Int32.ofInt 0))), (q3, .inl (cs.1, 64, .inl (fun _ => Int32.ofInt 0))), (q4, .inl (cs.1, 64, .inl (fun _ => Int32.ofInt 0))), (q5, .inl (cs.1, 64, .inl (fun _ => Int32.ofInt 0))), (q6, .inl (cs.1, 64, .inl (fun _ => Int32.ofInt 0))), (q7, .inl (cs.1, 8, .inl (fun _ => Int32.ofInt 0))), (q8, .inl (cs.1, 64, .inl (fun _ => Int32.ofInt 0)))]) H8 := hP
  have hD : va_D (cn_B h s.heap.size) ((h, .inr (6, [cn_i0, cn_i0, cn_i0, .ref q0, .ref q1, .ref q2, .ref q3, .ref q4, .ref q5, .ref q6, .ref q7, .ref q8, cn_i0, .null, .null, .null, .null, .null, .null, cn_i0, cn_i0, cn_i0, cn_i0, cn_i0, cn_i0, cn_i0, cn_i0, .null, .null, .null, .null, .null])) :: [(q0, .inl (cs.1, 64, .inl (fun _ => Int32.ofInt 0))), (q1, .inl (cs.1, 64, .inl (fun _ => Int32.ofInt 0))), (q2, .inl (cs.1, 64, .inl (fun _ => Int32.ofInt 0))), (q3, .inl (cs.1, 64, .inl (fun _ => Int32.ofInt 0))), (q4, .inl (cs.1, 64, .inl (fun _ => Int32.ofInt 0))), (q5, .inl (cs.1, 64, .inl (fun _ => Int32.ofInt 0))), (q6, .inl (cs.1, 64, .inl (fun _ => Int32.ofInt 0))), (q7, .inl (cs.1, 8, .inl (fun _ => Int32.ofInt 0))), (q8, .inl (cs.1, 64, .inl (fun _ => Int32.ofInt 0)))]) := hD
  refine lv_aload_n hx hb dn_Mo_76 rfl (lv_at hl 0 rfl) ?_
  refine lv_bipush (v := 82) hx hb dn_Mo_77 (by decide) ?_
  refine cn_arr (atype := .int) (cA := cs.1) (N := 82) Cx rfl cw_aI rfl (cn_uqI hU) (by decide) (by decide) (by decide) ⟨by decide, by decide⟩ hP hD hS dn_Mo_79 (fun q9 H9 hP hD hS => ?_)
  refine cn_put (ci := 6) (k := 13) (ty := .array .int) Cx rfl rfl (by decide) rfl cw_Mo_f37 rfl (by decide +kernel) rfl rfl hP hD hS dn_Mo_81 (fun H9 locs9 hP hD hS => ?_)
  have hP : va_P D ck_cl ((h, .inr (6, [cn_i0, cn_i0, cn_i0, .ref q0, .ref q1, .ref q2, .ref q3, .ref q4, .ref q5, .ref q6, .ref q7, .ref q8, cn_i0, .ref q9, .null, .null, .null, .null, .null, cn_i0, cn_i0, cn_i0, cn_i0, cn_i0, cn_i0, cn_i0, cn_i0, .null, .null, .null, .null, .null])) :: [(q0, .inl (cs.1, 64, .inl (fun _ => Int32.ofInt 0))), (q1, .inl (cs.1, 64, .inl (fun _ => Int32.ofInt 0))), (q2, .inl (cs.1, 64, .inl (fun _ => Int32.ofInt 0))), (q3, .inl (cs.1, 64, .inl (fun _ => Int32.ofInt 0))), (q4, .inl (cs.1, 64, .inl (fun _ => Int32.ofInt 0))), (q5, .inl (cs.1, 64, .inl (fun _ => Int32.ofInt 0))), (q6, .inl (cs.1, 64, .inl (fun _ => Int32.ofInt 0))), (q7, .inl (cs.1, 8, .inl (fun _ => Int32.ofInt 0))), (q8, .inl (cs.1, 64, .inl (fun _ => Int32.ofInt 0))), (q9, .inl (cs.1, 82, .inl (fun _ => Int32.ofInt 0)))]) H9 := hP
  have hD : va_D (cn_B h s.heap.size) ((h, .inr (6, [cn_i0, cn_i0, cn_i0, .ref q0, .ref q1, .ref q2, .ref q3, .ref q4, .ref q5, .ref q6, .ref q7, .ref q8, cn_i0, .ref q9, .null, .null, .null, .null, .null, cn_i0, cn_i0, cn_i0, cn_i0, cn_i0, cn_i0, cn_i0, cn_i0, .null, .null, .null, .null, .null])) :: [(q0, .inl (cs.1, 64, .inl (fun _ => Int32.ofInt 0))), (q1, .inl (cs.1, 64, .inl (fun _ => Int32.ofInt 0))), (q2, .inl (cs.1, 64, .inl (fun _ => Int32.ofInt 0))), (q3, .inl (cs.1, 64, .inl (fun _ => Int32.ofInt 0))), (q4, .inl (cs.1, 64, .inl (fun _ => Int32.ofInt 0))), (q5, .inl (cs.1, 64, .inl (fun _ => Int32.ofInt 0))), (q6, .inl (cs.1, 64, .inl (fun _ => Int32.ofInt 0))), (q7, .inl (cs.1, 8, .inl (fun _ => Int32.ofInt 0))), (q8, .inl (cs.1, 64, .inl (fun _ => Int32.ofInt 0))), (q9, .inl (cs.1, 82, .inl (fun _ => Int32.ofInt 0)))]) := hD
  refine lv_aload_n hx hb dn_Mo_84 rfl (lv_at hl 0 rfl) ?_
  refine lv_sipush (v := 5248) hx hb dn_Mo_85 (by decide) ?_
  refine cn_arr (atype := .int) (cA := cs.1) (N := 5248) Cx rfl cw_aI rfl (cn_uqI hU) (by decide) (by decide) (by decide) ⟨by decide, by decide⟩ hP hD hS dn_Mo_88 (fun q10 H10 hP hD hS => ?_)
  refine cn_put (ci := 6) (k := 14) (ty := .array .int) Cx rfl rfl (by decide) rfl cw_Mo_f40 rfl (by decide +kernel) rfl rfl hP hD hS dn_Mo_90 (fun H10 locs10 hP hD hS => ?_)
  have hP : va_P D ck_cl ((h, .inr (6, [cn_i0, cn_i0, cn_i0, .ref q0, .ref q1, .ref q2, .ref q3, .ref q4, .ref q5, .ref q6, .ref q7, .ref q8, cn_i0, .ref q9, .ref q10, .null, .null, .null, .null, cn_i0, cn_i0, cn_i0, cn_i0, cn_i0, cn_i0, cn_i0, cn_i0, .null, .null, .null, .null, .null])) :: [(q0, .inl (cs.1, 64, .inl (fun _ => Int32.ofInt 0))), (q1, .inl (cs.1, 64, .inl (fun _ => Int32.ofInt 0))), (q2, .inl (cs.1, 64, .inl (fun _ => Int32.ofInt 0))), (q3, .inl (cs.1, 64, .inl (fun _ => Int32.ofInt 0))), (q4, .inl (cs.1, 64, .inl (fun _ => Int32.ofInt 0))), (q5, .inl (cs.1, 64, .inl (fun _ => Int32.ofInt 0))), (q6, .inl (cs.1, 64, .inl (fun _ => Int32.ofInt 0))), (q7, .inl (cs.1, 8, .inl (fun _ => Int32.ofInt 0))), (q8, .inl (cs.1, 64, .inl (fun _ => Int32.ofInt 0))), (q9, .inl (cs.1, 82, .inl (fun _ => Int32.ofInt 0))), (q10, .inl (cs.1, 5248, .inl (fun _ => Int32.ofInt 0)))]) H10 := hP
  have hD : va_D (cn_B h s.heap.size) ((h, .inr (6, [cn_i0, cn_i0, cn_i0, .ref q0, .ref q1, .ref q2, .ref q3, .ref q4, .ref q5, .ref q6, .ref q7, .ref q8, cn_i0, .ref q9, .ref q10, .null, .null, .null, .null, cn_i0, cn_i0, cn_i0, cn_i0, cn_i0, cn_i0, cn_i0, cn_i0, .null, .null, .null, .null, .null])) :: [(q0, .inl (cs.1, 64, .inl (fun _ => Int32.ofInt 0))), (q1, .inl (cs.1, 64, .inl (fun _ => Int32.ofInt 0))), (q2, .inl (cs.1, 64, .inl (fun _ => Int32.ofInt 0))), (q3, .inl (cs.1, 64, .inl (fun _ => Int32.ofInt 0))), (q4, .inl (cs.1, 64, .inl (fun _ => Int32.ofInt 0))), (q5, .inl (cs.1, 64, .inl (fun _ => Int32.ofInt 0))), (q6, .inl (cs.1, 64, .inl (fun _ => Int32.ofInt 0))), (q7, .inl (cs.1, 8, .inl (fun _ => Int32.ofInt 0))), (q8, .inl (cs.1, 64, .inl (fun _ => Int32.ofInt 0))), (q9, .inl (cs.1, 82, .inl (fun _ => Int32.ofInt 0))), (q10, .inl (cs.1, 5248, .inl (fun _ => Int32.ofInt 0)))]) := hD
  refine lv_aload_n hx hb dn_Mo_93 rfl (lv_at hl 0 rfl) ?_
  refine lv_sipush (v := 5248) hx hb dn_Mo_94 (by decide) ?_
  refine cn_arr (atype := .int) (cA := cs.1) (N := 5248) Cx rfl cw_aI rfl (cn_uqI hU) (by decide) (by decide) (by decide) ⟨by decide, by decide⟩ hP hD hS dn_Mo_97 (fun q11 H11 hP hD hS => ?_)
  refine cn_put (ci := 6) (k := 15) (ty := .array .int) Cx rfl rfl (by decide) rfl cw_Mo_f43 rfl (by decide +kernel) rfl rfl hP hD hS dn_Mo_99 (fun H11 locs11 hP hD hS => ?_)
  have hP : va_P D ck_cl ((h, .inr (6, [cn_i0, cn_i0, cn_i0, .ref q0, .ref q1, .ref q2, .ref q3, .ref q4, .ref q5, .ref q6, .ref q7, .ref q8, cn_i0, .ref q9, .ref q10, .ref q11, .null, .null, .null, cn_i0, cn_i0, cn_i0, cn_i0, cn_i0, cn_i0, cn_i0, cn_i0, .null, .null, .null, .null, .null])) :: [(q0, .inl (cs.1, 64, .inl (fun _ => Int32.ofInt 0))), (q1, .inl (cs.1, 64, .inl (fun _ => Int32.ofInt 0))), (q2, .inl (cs.1, 64, .inl (fun _ => Int32.ofInt 0))), (q3, .inl (cs.1, 64, .inl (fun _ => Int32.ofInt 0))), (q4, .inl (cs.1, 64, .inl (fun _ => Int32.ofInt 0))), (q5, .inl (cs.1, 64, .inl (fun _ => Int32.ofInt 0))), (q6, .inl (cs.1, 64, .inl (fun _ => Int32.ofInt 0))), (q7, .inl (cs.1, 8, .inl (fun _ => Int32.ofInt 0))), (q8, .inl (cs.1, 64, .inl (fun _ => Int32.ofInt 0))), (q9, .inl (cs.1, 82, .inl (fun _ => Int32.ofInt 0))), (q10, .inl (cs.1, 5248, .inl (fun _ => Int32.ofInt 0))), (q11, .inl (cs.1, 5248, .inl (fun _ => Int32.ofInt 0)))]) H11 := hP
  have hD : va_D (cn_B h s.heap.size) ((h, .inr (6, [cn_i0, cn_i0, cn_i0, .ref q0, .ref q1, .ref q2, .ref q3, .ref q4, .ref q5, .ref q6, .ref q7, .ref q8, cn_i0, .ref q9, .ref q10, .ref q11, .null, .null, .null, cn_i0, cn_i0, cn_i0, cn_i0, cn_i0, cn_i0, cn_i0, cn_i0, .null, .null, .null, .null, .null])) :: [(q0, .inl (cs.1, 64, .inl (fun _ => Int32.ofInt 0))), (q1, .inl (cs.1, 64, .inl (fun _ => Int32.ofInt 0))), (q2, .inl (cs.1, 64, .inl (fun _ => Int32.ofInt 0))), (q3, .inl (cs.1, 64, .inl (fun _ => Int32.ofInt 0))), (q4, .inl (cs.1, 64, .inl (fun _ => Int32.ofInt 0))), (q5, .inl (cs.1, 64, .inl (fun _ => Int32.ofInt 0))), (q6, .inl (cs.1, 64, .inl (fun _ => Int32.ofInt 0))), (q7, .inl (cs.1, 8, .inl (fun _ => Int32.ofInt 0))), (q8, .inl (cs.1, 64, .inl (fun _ => Int32.ofInt 0))), (q9, .inl (cs.1, 82, .inl (fun _ => Int32.ofInt 0))), (q10, .inl (cs.1, 5248, .inl (fun _ => Int32.ofInt 0))), (q11, .inl (cs.1, 5248, .inl (fun _ => Int32.ofInt 0)))]) := hD
  refine lv_aload_n hx hb dn_Mo_102 rfl (lv_at hl 0 rfl) ?_
  refine lv_sipush (v := 5248) hx hb dn_Mo_103 (by decide) ?_
  refine cn_arr (atype := .int) (cA := cs.1) (N := 5248) Cx rfl cw_aI rfl (cn_uqI hU) (by decide) (by decide) (by decide) ⟨by decide, by decide⟩ hP hD hS dn_Mo_106 (fun q12 H12 hP hD hS => ?_)
  refine cn_put (ci := 6) (k := 16) (ty := .array .int) Cx rfl rfl (by decide) rfl cw_Mo_f46 rfl (by decide +kernel) rfl rfl hP hD hS dn_Mo_108 (fun H12 locs12 hP hD hS => ?_)
  have hP : va_P D ck_cl ((h, .inr (6, [cn_i0, cn_i0, cn_i0, .ref q0, .ref q1, .ref q2, .ref q3, .ref q4, .ref q5, .ref q6, .ref q7, .ref q8, cn_i0, .ref q9, .ref q10, .ref q11, .ref q12, .null, .null, cn_i0, cn_i0, cn_i0, cn_i0, cn_i0, cn_i0, cn_i0, cn_i0, .null, .null, .null, .null, .null])) :: [(q0, .inl (cs.1, 64, .inl (fun _ => Int32.ofInt 0))), (q1, .inl (cs.1, 64, .inl (fun _ => Int32.ofInt 0))), (q2, .inl (cs.1, 64, .inl (fun _ => Int32.ofInt 0))), (q3, .inl (cs.1, 64, .inl (fun _ => Int32.ofInt 0))), (q4, .inl (cs.1, 64, .inl (fun _ => Int32.ofInt 0))), (q5, .inl (cs.1, 64, .inl (fun _ => Int32.ofInt 0))), (q6, .inl (cs.1, 64, .inl (fun _ => Int32.ofInt 0))), (q7, .inl (cs.1, 8, .inl (fun _ => Int32.ofInt 0))), (q8, .inl (cs.1, 64, .inl (fun _ => Int32.ofInt 0))), (q9, .inl (cs.1, 82, .inl (fun _ => Int32.ofInt 0))), (q10, .inl (cs.1, 5248, .inl (fun _ => Int32.ofInt 0))), (q11, .inl (cs.1, 5248, .inl (fun _ => Int32.ofInt 0))), (q12, .inl (cs.1, 5248, .inl (fun _ => Int32.ofInt 0)))]) H12 := hP
  have hD : va_D (cn_B h s.heap.size) ((h, .inr (6, [cn_i0, cn_i0, cn_i0, .ref q0, .ref q1, .ref q2, .ref q3, .ref q4, .ref q5, .ref q6, .ref q7, .ref q8, cn_i0, .ref q9, .ref q10, .ref q11, .ref q12, .null, .null, cn_i0, cn_i0, cn_i0, cn_i0, cn_i0, cn_i0, cn_i0, cn_i0, .null, .null, .null, .null, .null])) :: [(q0, .inl (cs.1, 64, .inl (fun _ => Int32.ofInt 0))), (q1, .inl (cs.1, 64, .inl (fun _ => Int32.ofInt 0))), (q2, .inl (cs.1, 64, .inl (fun _ => Int32.ofInt 0))), (q3, .inl (cs.1, 64, .inl (fun _ => Int32.ofInt 0))), (q4, .inl (cs.1, 64, .inl (fun _ => Int32.ofInt 0))), (q5, .inl (cs.1, 64, .inl (fun _ => Int32.ofInt 0))), (q6, .inl (cs.1, 64, .inl (fun _ => Int32.ofInt 0))), (q7, .inl (cs.1, 8, .inl (fun _ => Int32.ofInt 0))), (q8, .inl (cs.1, 64, .inl (fun _ => Int32.ofInt 0))), (q9, .inl (cs.1, 82, .inl (fun _ => Int32.ofInt 0))), (q10, .inl (cs.1, 5248, .inl (fun _ => Int32.ofInt 0))), (q11, .inl (cs.1, 5248, .inl (fun _ => Int32.ofInt 0))), (q12, .inl (cs.1, 5248, .inl (fun _ => Int32.ofInt 0)))]) := hD
  refine lv_aload_n hx hb dn_Mo_111 rfl (lv_at hl 0 rfl) ?_
  refine lv_sipush (v := 5248) hx hb dn_Mo_112 (by decide) ?_
  refine cn_arr (atype := .int) (cA := cs.1) (N := 5248) Cx rfl cw_aI rfl (cn_uqI hU) (by decide) (by decide) (by decide) ⟨by decide, by decide⟩ hP hD hS dn_Mo_115 (fun q13 H13 hP hD hS => ?_)
  refine cn_put (ci := 6) (k := 17) (ty := .array .int) Cx rfl rfl (by decide) rfl cw_Mo_f49 rfl (by decide +kernel) rfl rfl hP hD hS dn_Mo_117 (fun H13 locs13 hP hD hS => ?_)
  have hP : va_P D ck_cl ((h, .inr (6, [cn_i0, cn_i0, cn_i0, .ref q0, .ref q1, .ref q2, .ref q3, .ref q4, .ref q5, .ref q6, .ref q7, .ref q8, cn_i0, .ref q9, .ref q10, .ref q11, .ref q12, .ref q13, .null, cn_i0, cn_i0, cn_i0, cn_i0, cn_i0, cn_i0, cn_i0, cn_i0, .null, .null, .null, .null, .null])) :: [(q0, .inl (cs.1, 64, .inl (fun _ => Int32.ofInt 0))), (q1, .inl (cs.1, 64, .inl (fun _ => Int32.ofInt 0))), (q2, .inl (cs.1, 64, .inl (fun _ => Int32.ofInt 0))), (q3, .inl (cs.1, 64, .inl (fun _ => Int32.ofInt 0))), (q4, .inl (cs.1, 64, .inl (fun _ => Int32.ofInt 0))), (q5, .inl (cs.1, 64, .inl (fun _ => Int32.ofInt 0))), (q6, .inl (cs.1, 64, .inl (fun _ => Int32.ofInt 0))), (q7, .inl (cs.1, 8, .inl (fun _ => Int32.ofInt 0))), (q8, .inl (cs.1, 64, .inl (fun _ => Int32.ofInt 0))), (q9, .inl (cs.1, 82, .inl (fun _ => Int32.ofInt 0))), (q10, .inl (cs.1, 5248, .inl (fun _ => Int32.ofInt 0))), (q11, .inl (cs.1, 5248, .inl (fun _ => Int32.ofInt 0))), (q12, .inl (cs.1, 5248, .inl (fun _ => Int32.ofInt 0))), (q13, .inl (cs.1, 5248, .inl (fun _ => Int32.ofInt 0)))]) H13 := hP
  have hD : va_D (cn_B h s.heap.size) ((h, .inr (6, [cn_i0, cn_i0, cn_i0, .ref q0, .ref q1, .ref q2, .ref q3, .ref q4, .ref q5, .ref q6, .ref q7, .ref q8, cn_i0, .ref q9, .ref q10, .ref q11, .ref q12, .ref q13, .null, cn_i0, cn_i0, cn_i0, cn_i0, cn_i0, cn_i0, cn_i0, cn_i0, .null, .null, .null, .null, .null])) :: [(q0, .inl (cs.1, 64, .inl (fun _ => Int32.ofInt 0))), (q1, .inl (cs.1, 64, .inl (fun _ => Int32.ofInt 0))), (q2, .inl (cs.1, 64, .inl (fun _ => Int32.ofInt 0))), (q3, .inl (cs.1, 64, .inl (fun _ => Int32.ofInt 0))), (q4, .inl (cs.1, 64, .inl (fun _ => Int32.ofInt 0))), (q5, .inl (cs.1, 64, .inl (fun _ => Int32.ofInt 0))), (q6, .inl (cs.1, 64, .inl (fun _ => Int32.ofInt 0))), (q7, .inl (cs.1, 8, .inl (fun _ => Int32.ofInt 0))), (q8, .inl (cs.1, 64, .inl (fun _ => Int32.ofInt 0))), (q9, .inl (cs.1, 82, .inl (fun _ => Int32.ofInt 0))), (q10, .inl (cs.1, 5248, .inl (fun _ => Int32.ofInt 0))), (q11, .inl (cs.1, 5248, .inl (fun _ => Int32.ofInt 0))), (q12, .inl (cs.1, 5248, .inl (fun _ => Int32.ofInt 0))), (q13, .inl (cs.1, 5248, .inl (fun _ => Int32.ofInt 0)))]) := hD
  refine lv_aload_n hx hb dn_Mo_120 rfl (lv_at hl 0 rfl) ?_
  refine lv_bipush (v := 64) hx hb dn_Mo_121 (by decide) ?_
  refine cn_arr (atype := .boolean) (cA := cs.2.1) (N := 64) Cx rfl cw_aZ rfl (cn_uqZ hU) (by decide) (by decide) (by decide) ⟨by decide, by decide⟩ hP hD hS dn_Mo_123 (fun q14 H14 hP hD hS => ?_)
  refine cn_put (ci := 6) (k := 18) (ty := .array .boolean) Cx rfl rfl (by decide) rfl cw_Mo_f52 rfl (by decide +kernel) rfl rfl hP hD hS dn_Mo_125 (fun H14 locs14 hP hD hS => ?_)
  have hP : va_P D ck_cl ((h, .inr (6, [cn_i0, cn_i0, cn_i0, .ref q0, .ref q1, .ref q2, .ref q3, .ref q4, .ref q5, .ref q6, .ref q7, .ref q8, cn_i0, .ref q9, .ref q10, .ref q11, .ref q12, .ref q13, .ref q14, cn_i0, cn_i0, cn_i0, cn_i0, cn_i0, cn_i0, cn_i0, cn_i0, .null, .null, .null, .null, .null])) :: [(q0, .inl (cs.1, 64, .inl (fun _ => Int32.ofInt 0))), (q1, .inl (cs.1, 64, .inl (fun _ => Int32.ofInt 0))), (q2, .inl (cs.1, 64, .inl (fun _ => Int32.ofInt 0))), (q3, .inl (cs.1, 64, .inl (fun _ => Int32.ofInt 0))), (q4, .inl (cs.1, 64, .inl (fun _ => Int32.ofInt 0))), (q5, .inl (cs.1, 64, .inl (fun _ => Int32.ofInt 0))), (q6, .inl (cs.1, 64, .inl (fun _ => Int32.ofInt 0))), (q7, .inl (cs.1, 8, .inl (fun _ => Int32.ofInt 0))), (q8, .inl (cs.1, 64, .inl (fun _ => Int32.ofInt 0))), (q9, .inl (cs.1, 82, .inl (fun _ => Int32.ofInt 0))), (q10, .inl (cs.1, 5248, .inl (fun _ => Int32.ofInt 0))), (q11, .inl (cs.1, 5248, .inl (fun _ => Int32.ofInt 0))), (q12, .inl (cs.1, 5248, .inl (fun _ => Int32.ofInt 0))), (q13, .inl (cs.1, 5248, .inl (fun _ => Int32.ofInt 0))), (q14, .inl (cs.2.1, 64, .inl (fun _ => Int32.ofInt 0)))]) H14 := hP
  have hD : va_D (cn_B h s.heap.size) ((h, .inr (6, [cn_i0, cn_i0, cn_i0, .ref q0, .ref q1, .ref q2, .ref q3, .ref q4, .ref q5, .ref q6, .ref q7, .ref q8, cn_i0, .ref q9, .ref q10, .ref q11, .ref q12, .ref q13, .ref q14, cn_i0, cn_i0, cn_i0, cn_i0, cn_i0, cn_i0, cn_i0, cn_i0, .null, .null, .null, .null, .null])) :: [(q0, .inl (cs.1, 64, .inl (fun _ => Int32.ofInt 0))), (q1, .inl (cs.1, 64, .inl (fun _ => Int32.ofInt 0))), (q2, .inl (cs.1, 64, .inl (fun _ => Int32.ofInt 0))), (q3, .inl (cs.1, 64, .inl (fun _ => Int32.ofInt 0))), (q4, .inl (cs.1, 64, .inl (fun _ => Int32.ofInt 0))), (q5, .inl (cs.1, 64, .inl (fun _ => Int32.ofInt 0))), (q6, .inl (cs.1, 64, .inl (fun _ => Int32.ofInt 0))), (q7, .inl (cs.1, 8, .inl (fun _ => Int32.ofInt 0))), (q8, .inl (cs.1, 64, .inl (fun _ => Int32.ofInt 0))), (q9, .inl (cs.1, 82, .inl (fun _ => Int32.ofInt 0))), (q10, .inl (cs.1, 5248, .inl (fun _ => Int32.ofInt 0))), (q11, .inl (cs.1, 5248, .inl (fun _ => Int32.ofInt 0))), (q12, .inl (cs.1, 5248, .inl (fun _ => Int32.ofInt 0))), (q13, .inl (cs.1, 5248, .inl (fun _ => Int32.ofInt 0))), (q14, .inl (cs.2.1, 64, .inl (fun _ => Int32.ofInt 0)))]) := hD
  refine lv_aload_n hx hb dn_Mo_128 rfl (lv_at hl 0 rfl) ?_
  refine lv_bipush (v := 10) hx hb dn_Mo_129 (by decide) ?_
  refine cn_arr (atype := .int) (cA := cs.1) (N := 10) Cx rfl cw_aI rfl (cn_uqI hU) (by decide) (by decide) (by decide) ⟨by decide, by decide⟩ hP hD hS dn_Mo_131 (fun q15 H15 hP hD hS => ?_)
  refine cn_put (ci := 6) (k := 27) (ty := .array .int) Cx rfl rfl (by decide) rfl cw_Mo_f56 rfl (by decide +kernel) rfl rfl hP hD hS dn_Mo_133 (fun H15 locs15 hP hD hS => ?_)
  have hP : va_P D ck_cl ((h, .inr (6, [cn_i0, cn_i0, cn_i0, .ref q0, .ref q1, .ref q2, .ref q3, .ref q4, .ref q5, .ref q6, .ref q7, .ref q8, cn_i0, .ref q9, .ref q10, .ref q11, .ref q12, .ref q13, .ref q14, cn_i0, cn_i0, cn_i0, cn_i0, cn_i0, cn_i0, cn_i0, cn_i0, .ref q15, .null, .null, .null, .null])) :: [(q0, .inl (cs.1, 64, .inl (fun _ => Int32.ofInt 0))), (q1, .inl (cs.1, 64, .inl (fun _ => Int32.ofInt 0))), (q2, .inl (cs.1, 64, .inl (fun _ => Int32.ofInt 0))), (q3, .inl (cs.1, 64, .inl (fun _ => Int32.ofInt 0))), (q4, .inl (cs.1, 64, .inl (fun _ => Int32.ofInt 0))), (q5, .inl (cs.1, 64, .inl (fun _ => Int32.ofInt 0))), (q6, .inl (cs.1, 64, .inl (fun _ => Int32.ofInt 0))), (q7, .inl (cs.1, 8, .inl (fun _ => Int32.ofInt 0))), (q8, .inl (cs.1, 64, .inl (fun _ => Int32.ofInt 0))), (q9, .inl (cs.1, 82, .inl (fun _ => Int32.ofInt 0))), (q10, .inl (cs.1, 5248, .inl (fun _ => Int32.ofInt 0))), (q11, .inl (cs.1, 5248, .inl (fun _ => Int32.ofInt 0))), (q12, .inl (cs.1, 5248, .inl (fun _ => Int32.ofInt 0))), (q13, .inl (cs.1, 5248, .inl (fun _ => Int32.ofInt 0))), (q14, .inl (cs.2.1, 64, .inl (fun _ => Int32.ofInt 0))), (q15, .inl (cs.1, 10, .inl (fun _ => Int32.ofInt 0)))]) H15 := hP
  have hD : va_D (cn_B h s.heap.size) ((h, .inr (6, [cn_i0, cn_i0, cn_i0, .ref q0, .ref q1, .ref q2, .ref q3, .ref q4, .ref q5, .ref q6, .ref q7, .ref q8, cn_i0, .ref q9, .ref q10, .ref q11, .ref q12, .ref q13, .ref q14, cn_i0, cn_i0, cn_i0, cn_i0, cn_i0, cn_i0, cn_i0, cn_i0, .ref q15, .null, .null, .null, .null])) :: [(q0, .inl (cs.1, 64, .inl (fun _ => Int32.ofInt 0))), (q1, .inl (cs.1, 64, .inl (fun _ => Int32.ofInt 0))), (q2, .inl (cs.1, 64, .inl (fun _ => Int32.ofInt 0))), (q3, .inl (cs.1, 64, .inl (fun _ => Int32.ofInt 0))), (q4, .inl (cs.1, 64, .inl (fun _ => Int32.ofInt 0))), (q5, .inl (cs.1, 64, .inl (fun _ => Int32.ofInt 0))), (q6, .inl (cs.1, 64, .inl (fun _ => Int32.ofInt 0))), (q7, .inl (cs.1, 8, .inl (fun _ => Int32.ofInt 0))), (q8, .inl (cs.1, 64, .inl (fun _ => Int32.ofInt 0))), (q9, .inl (cs.1, 82, .inl (fun _ => Int32.ofInt 0))), (q10, .inl (cs.1, 5248, .inl (fun _ => Int32.ofInt 0))), (q11, .inl (cs.1, 5248, .inl (fun _ => Int32.ofInt 0))), (q12, .inl (cs.1, 5248, .inl (fun _ => Int32.ofInt 0))), (q13, .inl (cs.1, 5248, .inl (fun _ => Int32.ofInt 0))), (q14, .inl (cs.2.1, 64, .inl (fun _ => Int32.ofInt 0))), (q15, .inl (cs.1, 10, .inl (fun _ => Int32.ofInt 0)))]) := hD
  refine lv_aload_n hx hb dn_Mo_136 rfl (lv_at hl 0 rfl) ?_
  refine lv_iconst (v := 4) hx hb dn_Mo_137 (by decide) ?_
  refine cn_arr (atype := .int) (cA := cs.1) (N := 4) Cx rfl cw_aI rfl (cn_uqI hU) (by decide) (by decide) (by decide) ⟨by decide, by decide⟩ hP hD hS dn_Mo_138 (fun q16 H16 hP hD hS => ?_)
  refine cn_put (ci := 6) (k := 28) (ty := .array .int) Cx rfl rfl (by decide) rfl cw_Mo_f59 rfl (by decide +kernel) rfl rfl hP hD hS dn_Mo_140 (fun H16 locs16 hP hD hS => ?_)
  have hP : va_P D ck_cl ((h, .inr (6, [cn_i0, cn_i0, cn_i0, .ref q0, .ref q1, .ref q2, .ref q3, .ref q4, .ref q5, .ref q6, .ref q7, .ref q8, cn_i0, .ref q9, .ref q10, .ref q11, .ref q12, .ref q13, .ref q14, cn_i0, cn_i0, cn_i0, cn_i0, cn_i0, cn_i0, cn_i0, cn_i0, .ref q15, .ref q16, .null, .null, .null])) :: [(q0, .inl (cs.1, 64, .inl (fun _ => Int32.ofInt 0))), (q1, .inl (cs.1, 64, .inl (fun _ => Int32.ofInt 0))), (q2, .inl (cs.1, 64, .inl (fun _ => Int32.ofInt 0))), (q3, .inl (cs.1, 64, .inl (fun _ => Int32.ofInt 0))), (q4, .inl (cs.1, 64, .inl (fun _ => Int32.ofInt 0))), (q5, .inl (cs.1, 64, .inl (fun _ => Int32.ofInt 0))), (q6, .inl (cs.1, 64, .inl (fun _ => Int32.ofInt 0))), (q7, .inl (cs.1, 8, .inl (fun _ => Int32.ofInt 0))), (q8, .inl (cs.1, 64, .inl (fun _ => Int32.ofInt 0))), (q9, .inl (cs.1, 82, .inl (fun _ => Int32.ofInt 0))), (q10, .inl (cs.1, 5248, .inl (fun _ => Int32.ofInt 0))), (q11, .inl (cs.1, 5248, .inl (fun _ => Int32.ofInt 0))), (q12, .inl (cs.1, 5248, .inl (fun _ => Int32.ofInt 0))), (q13, .inl (cs.1, 5248, .inl (fun _ => Int32.ofInt 0))), (q14, .inl (cs.2.1, 64, .inl (fun _ => Int32.ofInt 0))), (q15, .inl (cs.1, 10, .inl (fun _ => Int32.ofInt 0))), (q16, .inl (cs.1, 4, .inl (fun _ => Int32.ofInt 0)))]) H16 := hP
  have hD : va_D (cn_B h s.heap.size) ((h, .inr (6, [cn_i0, cn_i0, cn_i0, .ref q0, .ref q1, .ref q2, .ref q3, .ref q4, .ref q5, .ref q6, .ref q7, .ref q8, cn_i0, .ref q9, .ref q10, .ref q11, .ref q12, .ref q13, .ref q14, cn_i0, cn_i0, cn_i0, cn_i0, cn_i0, cn_i0, cn_i0, cn_i0, .ref q15, .ref q16, .null, .null, .null])) :: [(q0, .inl (cs.1, 64, .inl (fun _ => Int32.ofInt 0))), (q1, .inl (cs.1, 64, .inl (fun _ => Int32.ofInt 0))), (q2, .inl (cs.1, 64, .inl (fun _ => Int32.ofInt 0))), (q3, .inl (cs.1, 64, .inl (fun _ => Int32.ofInt 0))), (q4, .inl (cs.1, 64, .inl (fun _ => Int32.ofInt 0))), (q5, .inl (cs.1, 64, .inl (fun _ => Int32.ofInt 0))), (q6, .inl (cs.1, 64, .inl (fun _ => Int32.ofInt 0))), (q7, .inl (cs.1, 8, .inl (fun _ => Int32.ofInt 0))), (q8, .inl (cs.1, 64, .inl (fun _ => Int32.ofInt 0))), (q9, .inl (cs.1, 82, .inl (fun _ => Int32.ofInt 0))), (q10, .inl (cs.1, 5248, .inl (fun _ => Int32.ofInt 0))), (q11, .inl (cs.1, 5248, .inl (fun _ => Int32.ofInt 0))), (q12, .inl (cs.1, 5248, .inl (fun _ => Int32.ofInt 0))), (q13, .inl (cs.1, 5248, .inl (fun _ => Int32.ofInt 0))), (q14, .inl (cs.2.1, 64, .inl (fun _ => Int32.ofInt 0))), (q15, .inl (cs.1, 10, .inl (fun _ => Int32.ofInt 0))), (q16, .inl (cs.1, 4, .inl (fun _ => Int32.ofInt 0)))]) := hD
  refine lv_aload_n hx hb dn_Mo_143 rfl (lv_at hl 0 rfl) ?_
  refine lv_bipush (v := 40) hx hb dn_Mo_144 (by decide) ?_
  refine cn_arr (atype := .int) (cA := cs.1) (N := 40) Cx rfl cw_aI rfl (cn_uqI hU) (by decide) (by decide) (by decide) ⟨by decide, by decide⟩ hP hD hS dn_Mo_146 (fun q17 H17 hP hD hS => ?_)
  refine cn_put (ci := 6) (k := 29) (ty := .array .int) Cx rfl rfl (by decide) rfl cw_Mo_f62 rfl (by decide +kernel) rfl rfl hP hD hS dn_Mo_148 (fun H17 locs17 hP hD hS => ?_)
  have hP : va_P D ck_cl ((h, .inr (6, [cn_i0, cn_i0, cn_i0, .ref q0, .ref q1, .ref q2, .ref q3, .ref q4, .ref q5, .ref q6, .ref q7, .ref q8, cn_i0, .ref q9, .ref q10, .ref q11, .ref q12, .ref q13, .ref q14, cn_i0, cn_i0, cn_i0, cn_i0, cn_i0, cn_i0, cn_i0, cn_i0, .ref q15, .ref q16, .ref q17, .null, .null])) :: [(q0, .inl (cs.1, 64, .inl (fun _ => Int32.ofInt 0))), (q1, .inl (cs.1, 64, .inl (fun _ => Int32.ofInt 0))), (q2, .inl (cs.1, 64, .inl (fun _ => Int32.ofInt 0))), (q3, .inl (cs.1, 64, .inl (fun _ => Int32.ofInt 0))), (q4, .inl (cs.1, 64, .inl (fun _ => Int32.ofInt 0))), (q5, .inl (cs.1, 64, .inl (fun _ => Int32.ofInt 0))), (q6, .inl (cs.1, 64, .inl (fun _ => Int32.ofInt 0))), (q7, .inl (cs.1, 8, .inl (fun _ => Int32.ofInt 0))), (q8, .inl (cs.1, 64, .inl (fun _ => Int32.ofInt 0))), (q9, .inl (cs.1, 82, .inl (fun _ => Int32.ofInt 0))), (q10, .inl (cs.1, 5248, .inl (fun _ => Int32.ofInt 0))), (q11, .inl (cs.1, 5248, .inl (fun _ => Int32.ofInt 0))), (q12, .inl (cs.1, 5248, .inl (fun _ => Int32.ofInt 0))), (q13, .inl (cs.1, 5248, .inl (fun _ => Int32.ofInt 0))), (q14, .inl (cs.2.1, 64, .inl (fun _ => Int32.ofInt 0))), (q15, .inl (cs.1, 10, .inl (fun _ => Int32.ofInt 0))), (q16, .inl (cs.1, 4, .inl (fun _ => Int32.ofInt 0))), (q17, .inl (cs.1, 40, .inl (fun _ => Int32.ofInt 0)))]) H17 := hP
  have hD : va_D (cn_B h s.heap.size) ((h, .inr (6, [cn_i0, cn_i0, cn_i0, .ref q0, .ref q1, .ref q2, .ref q3, .ref q4, .ref q5, .ref q6, .ref q7, .ref q8, cn_i0, .ref q9, .ref q10, .ref q11, .ref q12, .ref q13, .ref q14, cn_i0, cn_i0, cn_i0, cn_i0, cn_i0, cn_i0, cn_i0, cn_i0, .ref q15, .ref q16, .ref q17, .null, .null])) :: [(q0, .inl (cs.1, 64, .inl (fun _ => Int32.ofInt 0))), (q1, .inl (cs.1, 64, .inl (fun _ => Int32.ofInt 0))), (q2, .inl (cs.1, 64, .inl (fun _ => Int32.ofInt 0))), (q3, .inl (cs.1, 64, .inl (fun _ => Int32.ofInt 0))), (q4, .inl (cs.1, 64, .inl (fun _ => Int32.ofInt 0))), (q5, .inl (cs.1, 64, .inl (fun _ => Int32.ofInt 0))), (q6, .inl (cs.1, 64, .inl (fun _ => Int32.ofInt 0))), (q7, .inl (cs.1, 8, .inl (fun _ => Int32.ofInt 0))), (q8, .inl (cs.1, 64, .inl (fun _ => Int32.ofInt 0))), (q9, .inl (cs.1, 82, .inl (fun _ => Int32.ofInt 0))), (q10, .inl (cs.1, 5248, .inl (fun _ => Int32.ofInt 0))), (q11, .inl (cs.1, 5248, .inl (fun _ => Int32.ofInt 0))), (q12, .inl (cs.1, 5248, .inl (fun _ => Int32.ofInt 0))), (q13, .inl (cs.1, 5248, .inl (fun _ => Int32.ofInt 0))), (q14, .inl (cs.2.1, 64, .inl (fun _ => Int32.ofInt 0))), (q15, .inl (cs.1, 10, .inl (fun _ => Int32.ofInt 0))), (q16, .inl (cs.1, 4, .inl (fun _ => Int32.ofInt 0))), (q17, .inl (cs.1, 40, .inl (fun _ => Int32.ofInt 0)))]) := hD
  refine lv_aload_n hx hb dn_Mo_151 rfl (lv_at hl 0 rfl) ?_
  refine lv_sipush (v := 1600) hx hb dn_Mo_152 (by decide) ?_
  refine cn_arr (atype := .int) (cA := cs.1) (N := 1600) Cx rfl cw_aI rfl (cn_uqI hU) (by decide) (by decide) (by decide) ⟨by decide, by decide⟩ hP hD hS dn_Mo_155 (fun q18 H18 hP hD hS => ?_)
  refine cn_put (ci := 6) (k := 30) (ty := .array .int) Cx rfl rfl (by decide) rfl cw_Mo_f65 rfl (by decide +kernel) rfl rfl hP hD hS dn_Mo_157 (fun H18 locs18 hP hD hS => ?_)
  have hP : va_P D ck_cl ((h, .inr (6, [cn_i0, cn_i0, cn_i0, .ref q0, .ref q1, .ref q2, .ref q3, .ref q4, .ref q5, .ref q6, .ref q7, .ref q8, cn_i0, .ref q9, .ref q10, .ref q11, .ref q12, .ref q13, .ref q14, cn_i0, cn_i0, cn_i0, cn_i0, cn_i0, cn_i0, cn_i0, cn_i0, .ref q15, .ref q16, .ref q17, .ref q18, .null])) :: [(q0, .inl (cs.1, 64, .inl (fun _ => Int32.ofInt 0))), (q1, .inl (cs.1, 64, .inl (fun _ => Int32.ofInt 0))), (q2, .inl (cs.1, 64, .inl (fun _ => Int32.ofInt 0))), (q3, .inl (cs.1, 64, .inl (fun _ => Int32.ofInt 0))), (q4, .inl (cs.1, 64, .inl (fun _ => Int32.ofInt 0))), (q5, .inl (cs.1, 64, .inl (fun _ => Int32.ofInt 0))), (q6, .inl (cs.1, 64, .inl (fun _ => Int32.ofInt 0))), (q7, .inl (cs.1, 8, .inl (fun _ => Int32.ofInt 0))), (q8, .inl (cs.1, 64, .inl (fun _ => Int32.ofInt 0))), (q9, .inl (cs.1, 82, .inl (fun _ => Int32.ofInt 0))), (q10, .inl (cs.1, 5248, .inl (fun _ => Int32.ofInt 0))), (q11, .inl (cs.1, 5248, .inl (fun _ => Int32.ofInt 0))), (q12, .inl (cs.1, 5248, .inl (fun _ => Int32.ofInt 0))), (q13, .inl (cs.1, 5248, .inl (fun _ => Int32.ofInt 0))), (q14, .inl (cs.2.1, 64, .inl (fun _ => Int32.ofInt 0))), (q15, .inl (cs.1, 10, .inl (fun _ => Int32.ofInt 0))), (q16, .inl (cs.1, 4, .inl (fun _ => Int32.ofInt 0))), (q17, .inl (cs.1, 40, .inl (fun _ => Int32.ofInt 0))), (q18, .inl (cs.1, 1600, .inl (fun _ => Int32.ofInt 0)))]) H18 := hP
  have hD : va_D (cn_B h s.heap.size) ((h, .inr (6, [cn_i0, cn_i0, cn_i0, .ref q0, .ref q1, .ref q2, .ref q3, .ref q4, .ref q5, .ref q6, .ref q7, .ref q8, cn_i0, .ref q9, .ref q10, .ref q11, .ref q12, .ref q13, .ref q14, cn_i0, cn_i0, cn_i0, cn_i0, cn_i0, cn_i0, cn_i0, cn_i0, .ref q15, .ref q16, .ref q17, .ref q18, .null])) :: [(q0, .inl (cs.1, 64, .inl (fun _ => Int32.ofInt 0))), (q1, .inl (cs.1, 64, .inl (fun _ => Int32.ofInt 0))), (q2, .inl (cs.1, 64, .inl (fun _ => Int32.ofInt 0))), (q3, .inl (cs.1, 64, .inl (fun _ => Int32.ofInt 0))), (q4, .inl (cs.1, 64, .inl (fun _ => Int32.ofInt 0))), (q5, .inl (cs.1, 64, .inl (fun _ => Int32.ofInt 0))), (q6, .inl (cs.1, 64, .inl (fun _ => Int32.ofInt 0))), (q7, .inl (cs.1, 8, .inl (fun _ => Int32.ofInt 0))), (q8, .inl (cs.1, 64, .inl (fun _ => Int32.ofInt 0))), (q9, .inl (cs.1, 82, .inl (fun _ => Int32.ofInt 0))), (q10, .inl (cs.1, 5248, .inl (fun _ => Int32.ofInt 0))), (q11, .inl (cs.1, 5248, .inl (fun _ => Int32.ofInt 0))), (q12, .inl (cs.1, 5248, .inl (fun _ => Int32.ofInt 0))), (q13, .inl (cs.1, 5248, .inl (fun _ => Int32.ofInt 0))), (q14, .inl (cs.2.1, 64, .inl (fun _ => Int32.ofInt 0))), (q15, .inl (cs.1, 10, .inl (fun _ => Int32.ofInt 0))), (q16, .inl (cs.1, 4, .inl (fun _ => Int32.ofInt 0))), (q17, .inl (cs.1, 40, .inl (fun _ => Int32.ofInt 0))), (q18, .inl (cs.1, 1600, .inl (fun _ => Int32.ofInt 0)))]) := hD
  refine lv_aload_n hx hb dn_Mo_160 rfl (lv_at hl 0 rfl) ?_
  refine lv_bipush (v := 16) hx hb dn_Mo_161 (by decide) ?_
  refine cn_arr (atype := .int) (cA := cs.1) (N := 16) Cx rfl cw_aI rfl (cn_uqI hU) (by decide) (by decide) (by decide) ⟨by decide, by decide⟩ hP hD hS dn_Mo_163 (fun q19 H19 hP hD hS => ?_)
  refine cn_put (ci := 6) (k := 31) (ty := .array .int) Cx rfl rfl (by decide) rfl cw_Mo_f68 rfl (by decide +kernel) rfl rfl hP hD hS dn_Mo_165 (fun H19 locs19 hP hD hS => ?_)
  have hP : va_P D ck_cl ((h, .inr (6, [cn_i0, cn_i0, cn_i0, .ref q0, .ref q1, .ref q2, .ref q3, .ref q4, .ref q5, .ref q6, .ref q7, .ref q8, cn_i0, .ref q9, .ref q10, .ref q11, .ref q12, .ref q13, .ref q14, cn_i0, cn_i0, cn_i0, cn_i0, cn_i0, cn_i0, cn_i0, cn_i0, .ref q15, .ref q16, .ref q17, .ref q18, .ref q19])) :: [(q0, .inl (cs.1, 64, .inl (fun _ => Int32.ofInt 0))), (q1, .inl (cs.1, 64, .inl (fun _ => Int32.ofInt 0))), (q2, .inl (cs.1, 64, .inl (fun _ => Int32.ofInt 0))), (q3, .inl (cs.1, 64, .inl (fun _ => Int32.ofInt 0))), (q4, .inl (cs.1, 64, .inl (fun _ => Int32.ofInt 0))), (q5, .inl (cs.1, 64, .inl (fun _ => Int32.ofInt 0))), (q6, .inl (cs.1, 64, .inl (fun _ => Int32.ofInt 0))), (q7, .inl (cs.1, 8, .inl (fun _ => Int32.ofInt 0))), (q8, .inl (cs.1, 64, .inl (fun _ => Int32.ofInt 0))), (q9, .inl (cs.1, 82, .inl (fun _ => Int32.ofInt 0))), (q10, .inl (cs.1, 5248, .inl (fun _ => Int32.ofInt 0))), (q11, .inl (cs.1, 5248, .inl (fun _ => Int32.ofInt 0))), (q12, .inl (cs.1, 5248, .inl (fun _ => Int32.ofInt 0))), (q13, .inl (cs.1, 5248, .inl (fun _ => Int32.ofInt 0))), (q14, .inl (cs.2.1, 64, .inl (fun _ => Int32.ofInt 0))), (q15, .inl (cs.1, 10, .inl (fun _ => Int32.ofInt 0))), (q16, .inl (cs.1, 4, .inl (fun _ => Int32.ofInt 0))), (q17, .inl (cs.1, 40, .inl (fun _ => Int32.ofInt 0))), (q18, .inl (cs.1, 1600, .inl (fun _ => Int32.ofInt 0))), (q19, .inl (cs.1, 16, .inl (fun _ => Int32.ofInt 0)))]) H19 := hP
  have hD : va_D (cn_B h s.heap.size) ((h, .inr (6, [cn_i0, cn_i0, cn_i0, .ref q0, .ref q1, .ref q2, .ref q3, .ref q4, .ref q5, .ref q6, .ref q7, .ref q8, cn_i0, .ref q9, .ref q10, .ref q11, .ref q12, .ref q13, .ref q14, cn_i0, cn_i0, cn_i0, cn_i0, cn_i0, cn_i0, cn_i0, cn_i0, .ref q15, .ref q16, .ref q17, .ref q18, .ref q19])) :: [(q0, .inl (cs.1, 64, .inl (fun _ => Int32.ofInt 0))), (q1, .inl (cs.1, 64, .inl (fun _ => Int32.ofInt 0))), (q2, .inl (cs.1, 64, .inl (fun _ => Int32.ofInt 0))), (q3, .inl (cs.1, 64, .inl (fun _ => Int32.ofInt 0))), (q4, .inl (cs.1, 64, .inl (fun _ => Int32.ofInt 0))), (q5, .inl (cs.1, 64, .inl (fun _ => Int32.ofInt 0))), (q6, .inl (cs.1, 64, .inl (fun _ => Int32.ofInt 0))), (q7, .inl (cs.1, 8, .inl (fun _ => Int32.ofInt 0))), (q8, .inl (cs.1, 64, .inl (fun _ => Int32.ofInt 0))), (q9, .inl (cs.1, 82, .inl (fun _ => Int32.ofInt 0))), (q10, .inl (cs.1, 5248, .inl (fun _ => Int32.ofInt 0))), (q11, .inl (cs.1, 5248, .inl (fun _ => Int32.ofInt 0))), (q12, .inl (cs.1, 5248, .inl (fun _ => Int32.ofInt 0))), (q13, .inl (cs.1, 5248, .inl (fun _ => Int32.ofInt 0))), (q14, .inl (cs.2.1, 64, .inl (fun _ => Int32.ofInt 0))), (q15, .inl (cs.1, 10, .inl (fun _ => Int32.ofInt 0))), (q16, .inl (cs.1, 4, .inl (fun _ => Int32.ofInt 0))), (q17, .inl (cs.1, 40, .inl (fun _ => Int32.ofInt 0))), (q18, .inl (cs.1, 1600, .inl (fun _ => Int32.ofInt 0))), (q19, .inl (cs.1, 16, .inl (fun _ => Int32.ofInt 0)))]) := hD
  exact cn_ret (ad := fun x => [h, q0, q1, q2, q3, q4, q5, q6, q7, q8, q9, q10, q11, q12, q13, q14, q15, q16, q17, q18, q19].getD (x - 480) 0) hx hb hr hlocks rfl hP hD hS (by decide) (by decide) dn_Mo_168
