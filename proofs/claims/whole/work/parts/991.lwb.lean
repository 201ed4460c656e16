/-! The law from its start to its loop. -/
section LWN
variable {p : Program} {l : Launch} {e : Env} {R : Room} {s : State} {m : MethodId} {args : Array Value} {below : List Frame} {meth : Method} {c : Code} {H : Heap} {locs : List Loc} {cells slots : Nat} {Q : State → Prop}
variable {cc : ByteArray} {pc nL : Nat} {ls : Array Slot} {rest : List Value} {A : Nat → Prop} {H0 : Heap} {D : va_G} {cs : ck_Cs} {h ci : Nat} {fs : List Value} {sub : va_W} {own : String}
def lw_Cx (p : Program) (s : State) (m : MethodId) (args : Array Value) (c : Code) (cc : ByteArray) (nL : Nat) (D : va_G) (cs : ck_Cs) (own : String) (A : Nat → Prop) (H0 : Heap) : Prop :=
  p.tables.exec = Jvm.exec ∧ c.code = cc ∧ c.maxLocals = nL ∧ s.vm.findClass own = some m.cls ∧ (∀ w ∈ ck_GW, w.before args s = true) ∧ cn_U D cs s ∧ ∀ q, H0.size ≤ q → A q
/-- behind a constructor's call -/
theorem lw_cnc {q mc ms cI : Nat} {idx : List Nat} {df : List Value} {ws : va_W} (Cx : lw_Cx p s m args c cc nL D cs own A H0) (hP : va_P D ck_cl (ws ++ [(q, .inr (cI, df))]) H) (hD : va_D A (ws ++ [(q, .inr (cI, df))])) (hS : va_S A H0 H locs) {c1 : Nat}
    (run : va_Run p l e R s m args below meth c H locs cells slots mc ms (F0 m pc ls (.ref q :: rest)) rest (cn_Qc D cs c1 idx q H.size #[.ref q]) (cn_B q H.size))
    (kk : ∀ (ad : Nat → Nat) (H1 : Heap) (locs1 : List Loc), ad c1 = q → va_P D ck_cl (ws ++ cn_ws cs ad idx) H1 → va_D A (ws ++ cn_ws cs ad idx) → va_S A H0 H1 locs1 → W p l e R s m args below meth c H1 locs1 (cells + mc) (slots + ms) Q (F0 m (pc + 3) ls rest)) : W p l e R s m args below meth c H locs cells slots Q (F0 m pc ls (.ref q :: rest)) := by
  obtain ⟨hx, hb, hml, hown, hts, hU, hA⟩ := Cx
  have hq0 : (ws ++ [(q, .inr (cI, df))])[ws.length]? = some (q, (.inr (cI, df) : va_E)) := by
    rw [List.getElem?_append_right (Nat.le_refl _), Nat.sub_self]
    rfl
  have hqA : A q := hD.2 _ _ hq0
  have hold : ∀ (k : Nat) (x : Nat × va_E), ws[k]? = some x → x.1 < H.size ∧ x.1 ≠ q ∧ (ws ++ [(q, .inr (cI, df))])[k]? = some x := by
    intro k x hk
    have hlt : k < ws.length := (List.getElem?_eq_some_iff.mp hk).1
    have h1 : (ws ++ [(q, .inr (cI, df))])[k]? = some x := by rw [List.getElem?_append_left hlt]; exact hk
    refine ⟨va_at.lt (hP k x h1), fun e1 => ?_, h1⟩
    have := hD.1 _ _ _ _ h1 hq0 e1
    omega
  have hAB : ∀ z, cn_B q H.size z → A z := by
    intro z hz
    rcases hz with rfl | hz
    · exact hqA
    · exact hA z (Nat.le_trans hS.1 hz)
  refine va_callv (a := #[.ref q]) run hS (fun z _ hz => hAB z hz) hAB (fun ad t H1 locs1 ht hvm had hB hz hun hS1 => ?_)
  obtain ⟨hP1, hD1⟩ := hB
  rw [ht] at hP1
  refine kk ad H1 locs1 had ?_ ?_ hS1
  · refine va_P.app (fun k x hk => ?_) hP1
    obtain ⟨h1, h2, h3⟩ := hold k x hk
    refine (hP k x h3).kept (hun x.1 h1 ?_)
    rintro (h4 | h4)
    · exact h2 h4
    · omega
  · refine va_D.app ⟨fun i j a b hi hj hab => ?_, fun k x hk => ?_⟩ (hD1.weaken fun _ _ _ hz => hAB _ hz) (fun i j a b hi hj hab => ?_)
    · exact hD.1 i j a b (hold i a hi).2.2 (hold j b hj).2.2 hab
    · exact hD.2 k x (hold k x hk).2.2
    · obtain ⟨h1, h2, -⟩ := hold i a hi
      rcases hD1.2 j b hj with h4 | h4
      · exact h2 (hab.trans h4)
      · omega
set_option maxHeartbeats 1000000 in
/-- new, dup, invokespecial of one of our own classes; the constructor by a link or by a nest's link -/
theorem lw_cnm {r : vw_C} {y : MethodName} {bytes : ByteArray} {mL d mc ms cI c1 i1 i2 : Nat} {idx : List Nat} {df : List Value} {ty0 : Nat → FieldType} {ws : va_W} (Cx : lw_Cx p s m args c cc nL D cs own A H0) (hM : cn_Met l D cs y bytes mL d mc ms cI df c1 idx) (hr : ck_cl[cI]? = some r) (hty : ∀ k, k < r.2.2 → parseFieldDescriptor (r.2.1 k).2.2.1 = some (ty0 k)) (hdf : ∀ j, j < r.2.2 → defaultValue (ty0 j) = vp_V df j) (hyc : y.cls = r.1) (hyn : y.name = "<init>") (hcode : Cond.code y bytes mL none ∈ ck_GW) (hins : Cond.instanceMethod y ∈ ck_GW) (hini : Cond.initialized r.1 ∈ ck_GW) (hcl : Cond.classLink own i1 r.1 ∈ ck_GW) (hinst : Cond.instantiable r.1 r.2.2 ∈ ck_GW)
    (hlink : Cond.methodLink own i2 y ∈ ck_GW ∨ Cond.methodLinkNest own i2 y "CheckSaver" ∈ cn_NW) (hd : y.cls ≠ "java/lang/invoke/MethodHandle" ∧ y.cls ≠ "java/lang/invoke/VarHandle" ∧ (parseMethodDescriptor y.desc).map (fun d => d.parameters.length) = some 0) (hR : d + 1 ≤ R.frames ∧ 19 + mL + 30 * d ≤ R.locals) (hcs : cells + 1 + mc ≤ R.cells ∧ slots + r.2.2 + ms ≤ R.slots) (hls : ls.size = nL) (hsum : (rest.map fun v => v.category).sum + 1 ≤ 8)
    (hP : va_P D ck_cl ws H) (hD : va_D A ws) (hS : va_S A H0 H locs) (d0 : decode cc pc = .ok (.new i1, 3)) (d1 : decode cc (pc + 3) = .ok (.dup, 1)) (d2 : decode cc (pc + 4) = .ok (.invokespecial i2, 3))
    (kk : ∀ (ad : Nat → Nat) (H1 : Heap) (locs1 : List Loc), va_P D ck_cl (ws ++ cn_ws cs ad idx) H1 → va_D A (ws ++ cn_ws cs ad idx) → va_S A H0 H1 locs1 → W p l e R s m args below meth c H1 locs1 (cells + 1 + mc) (slots + r.2.2 + ms) Q (F0 m (pc + 7) ls (.ref (ad c1) :: rest))) : W p l e R s m args below meth c H locs cells slots Q (F0 m pc ls rest) := by
  obtain ⟨hx, hb, hml, hown, hts, hU, hA⟩ := id Cx
  obtain ⟨hN, hT, hin, -, -⟩ := ck_cl_r hr
  refine va_new (D := D) (cl := ck_cl) (tys := ck_tys cs) (ci := cI) (C := r.1) (T := r.2.1) (N := r.2.2) hx hb hts hin ty0 hty hown (hts _ hcl) (hts _ hinst) (hts _ hini) hU.1 hP hD hS hA hr (fs := df) hdf (by omega) (by omega) d0 (fun q H1 hP1 hD1 hS1 => ?_)
  refine lv_dup hx hb d1 rfl ?_
  have hpre : ∀ U : State, U.heap = H1 → s.WarmedH U.vm → cn_Pc D cs cI df q H1.size (#[.ref q] : Array Value) U := fun U hU' hW => ⟨rfl, by rw [hU'], fun k x hk => by
    rw [hU']
    refine cn_in hP1 (List.mem_append_right _ (List.mem_of_getElem? hk)), cn_U_warm hW hU⟩
  have hsum2 : 2 * (F0 m (pc + 4) ls (.ref q :: .ref q :: rest)).monitorRoom + (((.ref q :: rest : List Value)).map fun v => v.category).sum ≤ 8 := lv_room (by simp only [List.map_cons, List.sum_cons]; show 1 + _ ≤ 8; omega)
  have hiy : (Cond.initialized y.cls).before args s = true := by rw [hyc]; exact hts _ hini
  have run : va_Run p l e R s m args below meth c H1 locs (cells + 1) (slots + r.2.2) mc ms (F0 m (pc + 4) ls (.ref q :: .ref q :: rest)) (.ref q :: rest) (cn_Qc D cs c1 idx q H1.size #[.ref q]) (cn_B q H1.size) := by
    rcases hlink with hl | hl
    · have hcw := callB_of (R := R) (own := own) (index := i2) (y := y) (bytes := bytes) (maxL := mL) (ret := none) (ws := cn_wsm y bytes mL) (ws' := ck_GW) (rm := cn_rm d mc ms) (mc := mc) (ms := ms) 0 hts (cn_good hcode) rfl rfl rfl hiy (hts _ hl) hd ⟨hR.1, by show 8 + (mL + 11) + 30 * d ≤ _; omega⟩
      exact va_runI (As := []) (b := q) ⟨hx, hb, hml, hown, hts⟩ (hM q H1.size) ⟨hcw, hyn, hts _ hins⟩ ⟨cn_blind, hpre⟩ rfl rfl hls rfl hsum2 d2 ⟨by omega, by omega⟩
    · have hcw := va_cnB (R := R) (own := own) (host := "CheckSaver") (index := i2) (y := y) (bytes := bytes) (maxL := mL) (ret := none) (ws := cn_wsm y bytes mL) (ws' := ck_GW) (rm := cn_rm d mc ms) (mc := mc) (ms := ms) 0 hts (cn_good hcode) rfl rfl rfl (hU.2.1 _ hl) hiy hd ⟨hR.1, by show 8 + (mL + 11) + 30 * d ≤ _; omega⟩
      exact va_runIN (As := []) (b := q) ⟨hx, hb, hml, hown, hts⟩ (hM q H1.size) ⟨hcw, hyn, hts _ hins⟩ ⟨cn_blind, hpre⟩ rfl rfl hls rfl hsum2 d2 ⟨by omega, by omega⟩
  refine lw_cnc Cx hP1 hD1 hS1 run (fun ad H2 locs2 had hP2 hD2 hS2 => ?_)
  rw [← had]
  exact kk ad H2 locs2 hP2 hD2 hS2
end LWN
/-- a cell by the addresses that it names, those beyond the 64th place of the array of Facts aside -/
theorem cn_at_cg {D : va_G} {cs : ck_Cs} {ad ad' : Nat → Nat} {H : Heap} (P : Nat → Bool) {c : Nat} (hc5 : c < 501) (h : ∀ x, P x = true → ad x = ad' x) (hB : (ck_sh c).1 = 2 → ∀ j, j < 64 → ad (25 + 7 * j) = ad' (25 + 7 * j)) (hc : cn_cgb P c = true) (hP : va_at D ck_cl (ad c, ck_en ad cs ck_z c) H) : va_at D ck_cl (ad' c, ck_en ad' cs ck_z c) H := by
  unfold cn_cgb at hc
  rw [Bool.and_eq_true, Bool.and_eq_true] at hc
  obtain ⟨-, h6, h7⟩ := hc
  rw [← h c h6]
  obtain ⟨hsh, -⟩ := ck_sh_cases hc5
  rcases hsh with h0 | h0 | ⟨h0, h1⟩ | ⟨h0, h1⟩
  · rw [cn_en0 cs ad h0] at hP
    rw [cn_en0 cs ad' h0]
    exact hP
  · rw [cn_en1 cs ad h0] at hP
    rw [cn_en1 cs ad' h0]
    exact hP
  · rw [cn_en2 cs ad h0, h1] at hP
    rw [cn_en2 cs ad' h0, h1]
    have g1 : H[ad c]? = some (vp_cell cs.2.2 (64, .inr (.inr (.inr (.inr (fun j => some (ad (25 + 7 * j)))))))) := hP
    show H[ad c]? = some (vp_cell cs.2.2 (64, .inr (.inr (.inr (.inr (fun j => some (ad' (25 + 7 * j))))))))
    rw [g1, cn_arrE (fun j hj => ?_)]
    rw [hB h0 j hj]
  · rw [cn_en3 cs ad h0, cn_fs_cg P h h7 h0] at hP
    rw [cn_en3 cs ad' h0]
    exact hP
def lw_iMo : List Nat := [480, 481, 482, 483, 484, 485, 486, 487, 488, 489, 490, 491, 492, 493, 494, 495, 496, 497, 498, 499, 500]
def lw_ad (ad1 ad2 : Nat → Nat) : Nat → Nat := fun x => if x < 480 then ad1 x else ad2 x
def lw_pa (x : Nat) : Bool := decide (x < 480)
def lw_pb (x : Nat) : Bool := decide (480 ≤ x)
set_option maxRecDepth 20000 in
theorem lw_cg1 : (List.range 480).all (cn_cgb lw_pa) = true := by decide +kernel
set_option maxRecDepth 20000 in
theorem lw_cg2 : lw_iMo.all (fun c => cn_cgb lw_pb c && (ck_sh c).1 != 2) = true := by decide +kernel
set_option maxRecDepth 20000 in
theorem lw_in1 : (List.range 480).all (fun c => cn_iCs.contains c) = true := by decide +kernel
set_option maxRecDepth 20000 in
theorem lw_ni1 : cn_iCs.all (fun c => decide (c < 480)) = true := by decide +kernel
theorem lw_in2 {c : Nat} (h : 480 ≤ c) (h1 : c < 501) : c ∈ lw_iMo := by
  have e : c = 480 ∨ c = 481 ∨ c = 482 ∨ c = 483 ∨ c = 484 ∨ c = 485 ∨ c = 486 ∨ c = 487 ∨ c = 488 ∨ c = 489 ∨ c = 490 ∨ c = 491 ∨ c = 492 ∨ c = 493 ∨ c = 494 ∨ c = 495 ∨ c = 496 ∨ c = 497 ∨ c = 498 ∨ c = 499 ∨ c = 500 := by omega
  rcases e with rfl | rfl | rfl | rfl | rfl | rfl | rfl | rfl | rfl | rfl | rfl | rfl | rfl | rfl | rfl | rfl | rfl | rfl | rfl | rfl | rfl <;> decide
theorem lw_i1 {c : Nat} (h : c < 480) : c ∈ cn_iCs := List.contains_iff_mem.mp (List.all_eq_true.mp lw_in1 c (List.mem_range.mpr h))
/-- the world at the loop, out of the two constructors' -/
theorem lw_world {D : va_G} {cs : ck_Cs} {ad1 ad2 : Nat → Nat} {ao : Nat} {cL : ClassId} {H : Heap} (hP : va_P D ck_cl ((cn_ws cs ad1 cn_iCs ++ cn_ws cs ad2 lw_iMo) ++ [lw_O ao cL (fun _ => 0)]) H) : va_P D ck_cl (lw_ws (lw_ad ad1 ad2) cs ao cL (fun _ => 0) ck_z) H := by
  intro k q hk
  rcases lw_inv hk with ⟨h1, rfl⟩ | ⟨h1, rfl⟩
  · by_cases h2 : k < 480
    · refine cn_at_cg lw_pa h1 (ad := ad1) (fun x hx => ?_) (fun _ j hj => ?_) (List.all_eq_true.mp lw_cg1 k (List.mem_range.mpr h2)) (cn_in hP (List.mem_append_left _ (List.mem_append_left _ (List.mem_map.mpr ⟨k, lw_i1 h2, rfl⟩))))
      · unfold lw_pa at hx
        simp only [decide_eq_true_eq] at hx
        unfold lw_ad
        rw [if_pos hx]
      · unfold lw_ad
        rw [if_pos (by omega)]
    · have h3 := List.all_eq_true.mp lw_cg2 k (lw_in2 (by omega) h1)
      rw [Bool.and_eq_true] at h3
      refine cn_at_cg lw_pb h1 (ad := ad2) (fun x hx => ?_) (fun h4 => ?_) h3.1 (cn_in hP (List.mem_append_left _ (List.mem_append_right _ (List.mem_map.mpr ⟨k, lw_in2 (by omega) h1, rfl⟩))))
      · unfold lw_pb at hx
        simp only [decide_eq_true_eq] at hx
        unfold lw_ad
        rw [if_neg (by omega)]
      · have h5 := h3.2
        rw [h4] at h5
        exact absurd h5 (by decide)
  · exact cn_in hP (List.mem_append_right _ List.mem_cons_self)
theorem lw_apart {s : State} {cs : ck_Cs} {ad1 ad2 : Nat → Nat} {ao : Nat} {cL : ClassId} (hD : va_D (fun z => s.heap.size ≤ z) ((cn_ws cs ad1 cn_iCs ++ cn_ws cs ad2 lw_iMo) ++ [lw_O ao cL (fun _ => 0)])) : wr_D s (lw_ad ad1 ad2) ao := by
  have hl1 : (cn_ws cs ad1 cn_iCs).length = cn_iCs.length := by simp [cn_ws]
  have hl2 : (cn_ws cs ad2 lw_iMo).length = lw_iMo.length := by simp [cn_ws]
  have key : ∀ c : Nat, c < 501 → ∃ (k : Nat) (q : Nat × va_E), k < cn_iCs.length + lw_iMo.length ∧ (cn_iCs ++ lw_iMo)[k]? = some c ∧ ((cn_ws cs ad1 cn_iCs ++ cn_ws cs ad2 lw_iMo) ++ [lw_O ao cL (fun _ => 0)])[k]? = some q ∧ q.1 = lw_ad ad1 ad2 c := by
    intro c hc
    by_cases h2 : c < 480
    · obtain ⟨k, hk⟩ := List.getElem?_of_mem (lw_i1 h2)
      have hkl : k < cn_iCs.length := (List.getElem?_eq_some_iff.mp hk).1
      refine ⟨k, (ad1 c, ck_en ad1 cs ck_z c), by omega, by rw [List.getElem?_append_left hkl]; exact hk, ?_, ?_⟩
      · rw [List.getElem?_append_left (by rw [List.length_append]; omega), List.getElem?_append_left (by omega)]
        unfold cn_ws
        rw [List.getElem?_map, hk]
        rfl
      · unfold lw_ad
        rw [if_pos h2]
    · obtain ⟨k, hk⟩ := List.getElem?_of_mem (lw_in2 (by omega) hc)
      have hkl : k < lw_iMo.length := (List.getElem?_eq_some_iff.mp hk).1
      refine ⟨cn_iCs.length + k, (ad2 c, ck_en ad2 cs ck_z c), by omega, by rw [List.getElem?_append_right (by omega), Nat.add_sub_cancel_left]; exact hk, ?_, ?_⟩
      · rw [List.getElem?_append_left (by rw [List.length_append]; omega), List.getElem?_append_right (by omega), hl1, Nat.add_sub_cancel_left]
        unfold cn_ws
        rw [List.getElem?_map, hk]
        rfl
      · unfold lw_ad
        rw [if_neg h2]
  have last : ((cn_ws cs ad1 cn_iCs ++ cn_ws cs ad2 lw_iMo) ++ [lw_O ao cL (fun _ => 0)])[cn_iCs.length + lw_iMo.length]? = some (lw_O ao cL (fun _ => 0)) := by
    rw [List.getElem?_append_right (by rw [List.length_append]; omega), List.length_append, hl1, hl2, Nat.sub_self]
    rfl
  refine ⟨fun i j hi hj hij => ?_, fun c hc => ?_, hD.2 _ _ last⟩
  · obtain ⟨k1, q1, a1, a2, a3, a4⟩ := key i hi
    obtain ⟨k2, q2, b1, b2, b3, b4⟩ := key j hj
    have e := hD.1 k1 k2 q1 q2 a3 b3 (by rw [a4, b4]; exact hij)
    subst e
    exact Option.some.inj (a2.symm.trans b2)
  · obtain ⟨k1, q1, a1, a2, a3, a4⟩ := key c hc
    refine ⟨fun e => ?_, by rw [← a4]; exact hD.2 _ _ a3⟩
    have := hD.1 _ _ _ _ a3 last (by rw [a4]; exact e)
    omega
section LWG
variable {p : Program} {l : Launch} {e : Env} {R : Room} {s : State} {m : MethodId} {args : Array Value} {below : List Frame} {meth : Method} {c : Code} {Q : State → Prop} {D : va_G} {cs : ck_Cs} {b : Nat} {cL : ClassId} {ls : Array Slot}
set_option maxHeartbeats 4000000 in
theorem lw_begin (Cx : lw_Cx p s m args c code 7 D cs "CheckSaverLaw" (fun z => s.heap.size ≤ z) s.heap) (hK : va_K D ck_cl (ck_tys cs ++ [(cL, .long)]) s) (hR : 12 ≤ R.frames ∧ 422 ≤ R.locals) (hCN : 502 ≤ R.cells ∧ 31048 ≤ R.slots) (hl : lv_has ls 7 [(0, .ref b)])
    (kk : ∀ (ad : Nat → Nat) (ao : Nat) (H : Heap) (locs : List Loc) (ls' : Array Slot), wr_D s ad ao → lw_I s D ad cs ao cL b 0 0 H locs ls' → W p l e R s m args below meth c H locs 502 31048 Q (F0 m 23 ls' [])) :
    W p l e R s m args below meth c s.heap [] 0 0 Q (F0 m 0 ls []) := by
  have hx := Cx.1
  have hb := Cx.2.1
  have hts := Cx.2.2.2.2.1
  have hU := Cx.2.2.2.2.2.1
  have hA := Cx.2.2.2.2.2.2
  have hS : va_S (fun z => s.heap.size ≤ z) s.heap s.heap [] := va_S.rf
  have hP : va_P D ck_cl [] s.heap := fun k q hk => by cases hk
  have hD : va_D (fun z => s.heap.size ≤ z) [] := ⟨fun i j p q hi => (by cases hi), fun k q hk => (by cases hk)⟩
  refine lw_cnm (i1 := 8) (i2 := 41) (r := ("CheckSaver", ck_T5, 4)) (ty0 := ck_ty5) Cx (cn_Cs l D cs) rfl ck_tyok5 cd_Cs_ok rfl rfl cw_Cs_code cw_Cs_ins cw_Cs_ini cw_L_c8 cw_Cs_inst (Or.inl cw_L_m41) (by decide +kernel) ⟨by omega, by omega⟩ ⟨by omega, by show 0 + 4 + 7683 ≤ R.slots; omega⟩ hl.1 (show (1 : Nat) ≤ 8 by decide) hP hD hS dl_0 dl_3 dl_4 (fun ad1 H1 locs1 hP hD hS => ?_)
  generalize hF : cn_ws cs ad1 cn_iCs = WF at hP hD
  refine lv_astore_n (lv' := [(1, .ref (ad1 0)), (0, .ref b)]) hx hb dl_7 rfl hl (by decide) rfl (fun ls1 hl => ?_)
  have hP : va_P D ck_cl WF H1 := hP
  have hD : va_D (fun z => s.heap.size ≤ z) WF := hD
  refine lw_cnm (i1 := 42) (i2 := 44) (r := ("CheckSaverModel", ck_T6, 32)) (ty0 := ck_ty6) Cx (cn_Mo l D cs) rfl ck_tyok6 cd_Mo_ok rfl rfl cw_Mo_code cw_Mo_ins cw_Mo_ini cw_L_c42 cw_Mo_inst (Or.inl cw_L_m44) (by decide +kernel) ⟨by omega, by omega⟩ ⟨by omega, by show 0 + 4 + 7683 + 32 + 23328 ≤ R.slots; omega⟩ hl.1 (show (1 : Nat) ≤ 8 by decide) hP hD hS dl_8 dl_11 dl_12 (fun ad2 H2 locs2 hP hD hS => ?_)
  refine lv_astore_n (lv' := [(2, .ref (ad2 480)), (1, .ref (ad1 0)), (0, .ref b)]) hx hb dl_15 rfl hl (by decide) rfl (fun ls2 hl => ?_)
  refine lv_iconst (v := 1) hx hb dl_16 (by decide) ?_
  refine va_newa (atype := .long) (D := D) (cl := ck_cl) (tys := ck_tys cs) (a0 := (1, .inr (.inl (fun _ => 0)))) (N' := 1) hx hb (hts _ cw_aL) rfl hU.1 hP hD hS hA (fun cA => ?_) (by decide) (by decide) (by decide) (by show 0 + 1 + 479 + 1 + 20 + 1 ≤ R.cells; omega) (by show 0 + 4 + 7683 + 32 + 23328 + 1 ≤ R.slots; omega) dl_17 (fun ao c' H3 hK3 hP hD hS => ?_)
  · rfl
  have e1 : c' = cL := by
    have g1 : va_RA s c' .long := (hK3.2 3 _ rfl).2
    have g2 : va_RA s cL .long := (hK.2 3 _ rfl).2
    exact Option.some.inj (Eq.trans (Eq.symm g1) g2)
  subst e1
  refine lv_astore_n (lv' := [(3, .ref ao), (2, .ref (ad2 480)), (1, .ref (ad1 0)), (0, .ref b)]) hx hb dl_19 rfl hl (by decide) rfl (fun ls3 hl => ?_)
  refine lv_iconst (v := 0) hx hb dl_20 (by decide) ?_
  refine lv_istore (lv' := [(4, .int (nI 0)), (3, .ref ao), (2, .ref (ad2 480)), (1, .ref (ad1 0)), (0, .ref b)]) hx hb dl_21 hl (by decide) rfl (fun ls4 hl => ?_)
  subst hF
  have hP : va_P D ck_cl ((cn_ws cs ad1 cn_iCs ++ cn_ws cs ad2 lw_iMo) ++ [lw_O ao c' (fun _ => 0)]) H3 := hP
  have hD : va_D (fun z => s.heap.size ≤ z) ((cn_ws cs ad1 cn_iCs ++ cn_ws cs ad2 lw_iMo) ++ [lw_O ao c' (fun _ => 0)]) := hD
  refine kk (lw_ad ad1 ad2) ao H3 locs2 ls4 (lw_apart hD) ⟨⟨hl.1, hl.2.1, fun q hq => hl.2.2 q ?_⟩, hS, fun _ => 0, ck_z, co_GI_z, lw_world hP⟩
  have hq' : q ∈ [(4, Value.int (nI 0)), (0, .ref b), (1, .ref (ad1 0)), (2, .ref (ad2 480)), (3, .ref ao)] := hq
  simp only [List.mem_cons, List.not_mem_nil, or_false] at hq' ⊢
  rcases hq' with h | h | h | h | h
  · exact Or.inl h
  · exact Or.inr (Or.inr (Or.inr (Or.inr h)))
  · exact Or.inr (Or.inr (Or.inr (Or.inl h)))
  · exact Or.inr (Or.inr (Or.inl h))
  · exact Or.inr (Or.inl h)
end LWG
