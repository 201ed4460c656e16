/-! What holds at the law's start. -/
theorem co_GI_z : co_GI 0 ck_z := by
  have hq : ∀ a h : Int, ck_qb (ck_rw ck_z a h) := fun a h => by
    refine ⟨fun n => ?_, fun n => ?_, fun n => ?_, fun n => ?_, fun n => ?_, fun n => ?_, fun n r => ?_⟩
    · show -1000000000 ≤ (if 0 ≤ n ∧ n < 10 then (0 : Int) else 0) ∧ (if 0 ≤ n ∧ n < 10 then (0 : Int) else 0) ≤ 1000000000
      rw [ite_self]; decide
    · show -1000000000 ≤ (if 0 ≤ n ∧ n < 10 then (0 : Int) else 0) ∧ (if 0 ≤ n ∧ n < 10 then (0 : Int) else 0) ≤ 1000000000
      rw [ite_self]; decide
    · show -1000000000 ≤ (if 0 ≤ n ∧ n < 10 then (0 : Int) else 0) ∧ (if 0 ≤ n ∧ n < 10 then (0 : Int) else 0) ≤ 1000000000
      rw [ite_self]; decide
    · show -1000000000 ≤ (if 0 ≤ n ∧ n < 4 then (0 : Int) else 0) ∧ (if 0 ≤ n ∧ n < 4 then (0 : Int) else 0) ≤ 1000000000
      rw [ite_self]; decide
    · show -1000000000 ≤ (if 0 ≤ n ∧ n < 4 then (0 : Int) else 0) ∧ (if 0 ≤ n ∧ n < 4 then (0 : Int) else 0) ≤ 1000000000
      rw [ite_self]; decide
    · show -1000000000 ≤ (if 0 ≤ n ∧ n < 4 then (0 : Int) else 0) ∧ (if 0 ≤ n ∧ n < 4 then (0 : Int) else 0) ≤ 1000000000
      rw [ite_self]; decide
    · show -1000000000 ≤ (if (0 ≤ n ∧ n < 10) ∧ 0 ≤ r ∧ r < 4 then (0 : Int) else 0) ∧ (if (0 ≤ n ∧ n < 10) ∧ 0 ≤ r ∧ r < 4 then (0 : Int) else 0) ≤ 1000000000
      rw [ite_self]; decide
  have hpo : co_po ck_z 0 0 := ⟨by decide, by decide, fun k a b => by exfalso; omega, fun i a b => by exfalso; omega, fun i j a b c => by exfalso; omega, fun k a b => by exfalso; omega, fun k a b => by exfalso; omega, fun j a b => by exfalso; omega⟩
  have hpq : co_pq ck_z ck_z 0 0 := ⟨rfl, rfl, fun k a b => by exfalso; omega, fun i a b => by exfalso; omega⟩
  have hcl : co_cl ck_z ck_z := ⟨fun _ _ _ => rfl, fun _ _ _ => rfl, fun _ _ _ => rfl, fun _ _ _ => rfl, fun _ _ _ => rfl, ⟨rfl, rfl, rfl, rfl, rfl, rfl, rfl⟩, rfl, (show (0 : Int) ≤ 0 ∧ (0 : Int) < 64 by decide), fun _ _ _ => rfl⟩
  have hnb : co_nb 0 := ⟨by decide, by decide⟩
  have hmb : co_mb ck_z := ⟨fun _ _ _ => hnb, fun _ _ _ => hnb, (show (0 : Int) ≤ 0 ∧ (0 : Int) ≤ 64 by decide), fun _ _ _ => hnb⟩
  exact ⟨hpo, hpq, fun h _ _ => ⟨hq _ _, hq _ _⟩, hcl, hmb, ⟨rfl, Or.inl rfl, Or.inl rfl⟩, fun h => absurd (show (0 : Int) = 1 from h) (by decide), fun h => absurd (show (0 : Int) = 1 from h) (by decide)⟩
theorem lw_arrC {args : Array Value} {s : State} {ty : FieldType} (h : (Cond.arrayClass ty).before args s = true) : ∃ cA : ClassId, ArrOfT s cA ty ∧ s.vm.findClass ("[" ++ ty.toString) = some cA := by
  obtain ⟨c, k, comp, h1, h2, h3⟩ := Cond.arrayClass_spec h
  exact ⟨c, fun n z => ⟨fun k h => (by cases h), k, h2, comp, h3⟩, h1⟩
theorem lw_arrO {s : State} {C : String} (h : va_AO C s) : ∃ cA : ClassId, ArrOfT s cA (.object C) ∧ va_RA s cA (.object C) := by
  obtain ⟨comp, c, k, h1, h2, h3, h4, h5⟩ := Cond.arrayOver_spec h
  exact ⟨c, fun n z => ⟨fun k h => (by cases h), k, h3, comp, h4⟩, k, comp, h3, h4, h1, h5⟩
set_option maxRecDepth 20000 in
theorem cw_aL : Cond.arrayClass .long ∈ ck_GW := ck_gw 1066 (by decide +kernel) (by decide +kernel)
set_option maxRecDepth 20000 in
theorem cw_aO : Cond.arrayOver (.object "CheckSaver$Facts") ∈ lw_tbl := List.mem_of_getElem? (i := 175) (by decide +kernel)
set_option maxRecDepth 20000 in
theorem cw_L_c8 : Cond.classLink "CheckSaverLaw" 8 "CheckSaver" ∈ ck_GW := ck_gw 74 (by decide +kernel) (by decide +kernel)
set_option maxRecDepth 20000 in
theorem cw_L_c42 : Cond.classLink "CheckSaverLaw" 42 "CheckSaverModel" ∈ ck_GW := ck_gw 752 (by decide +kernel) (by decide +kernel)
set_option maxRecDepth 20000 in
theorem cw_L_m41 : Cond.methodLink "CheckSaverLaw" 41 cy_Cs ∈ ck_GW := ck_gw 76 (by decide +kernel) (by decide +kernel)
set_option maxRecDepth 20000 in
theorem cw_L_m44 : Cond.methodLink "CheckSaverLaw" 44 cy_Mo ∈ ck_GW := ck_gw 754 (by decide +kernel) (by decide +kernel)
set_option maxRecDepth 20000 in
theorem lw_cnw : cn_NW = [84, 90, 113, 177].filterMap (fun i => lw_tbl[i]?) := by decide +kernel
set_option maxRecDepth 20000 in
theorem lw_ckw : ck_NW = [383, 387].filterMap (fun i => lw_tbl[i]?) := by decide +kernel
theorem lw_fm {ws : List Cond} {is : List Nat} (h : ws = is.filterMap (fun i => lw_tbl[i]?)) : ∀ w ∈ ws, w ∈ lw_tbl := by
  intro w hw
  rw [h] at hw
  obtain ⟨i, -, hi⟩ := List.mem_filterMap.mp hw
  exact List.mem_of_getElem? hi
def tw_rf : List Cond := [.isRef (.static "java/lang/Throwable" "UNASSIGNED_STACK" "[Ljava/lang/StackTraceElement;"), .isRef (.static "java/lang/Throwable" "SUPPRESSED_SENTINEL" "Ljava/util/List;")]
def tw_ck (w : Cond) (i : Nat) : Bool := decide (w ∈ tw_rf) || decide (lw_tbl[i]? = some w)
def tw_al : List Cond → List Nat → Bool
  | [], _ => true
  | w :: ws, i :: is => tw_ck w i && tw_al ws is
  | _ :: _, [] => false
theorem tw_al_in : ∀ (ws : List Cond) (is : List Nat), tw_al ws is = true → ∀ w ∈ ws, w ∈ lw_tbl ∨ w ∈ tw_rf
  | [], _, _ => fun w hw => by cases hw
  | a :: ws, i :: is, h => fun w hw => by
    have h' : (tw_ck a i && tw_al ws is) = true := h
    rw [Bool.and_eq_true] at h'
    rcases List.mem_cons.mp hw with rfl | hw
    · have h1 := h'.1
      unfold tw_ck at h1
      rw [Bool.or_eq_true, decide_eq_true_eq, decide_eq_true_eq] at h1
      rcases h1 with h1 | h1
      · exact Or.inr h1
      · exact Or.inl (List.mem_of_getElem? h1)
    · exact tw_al_in ws is h'.2 w hw
  | _ :: _, [], h => absurd (show false = true from h) (by decide)
set_option maxRecDepth 40000 in
theorem tw_al0 : tw_al (tw_wds ("java/lang/IllegalArgumentException", 43, 45)) [65, 414, 423, 427, 430, 432, 415, 416, 80, 81, 417, 422, 428, 444, 404, 445, 406, 446, 408, 418, 419, 420, 421, 410, 434, 435, 436, 437, 395, 437, 438, 439, 440, 397, 440, 441, 442, 415, 399, 433, 393, 394, 401, 402, 403, 405, 407, 409, 0, 0, 413, 412, 411, 392, 68] = true := by decide +kernel
set_option maxRecDepth 40000 in
theorem tw_al1 : tw_al (tw_wds ("java/lang/IllegalStateException", 74, 76)) [65, 414, 423, 427, 430, 432, 415, 416, 80, 81, 417, 422, 428, 444, 404, 445, 406, 446, 408, 418, 419, 420, 421, 410, 494, 495, 496, 437, 395, 437, 438, 439, 440, 397, 440, 441, 442, 415, 399, 493, 485, 486, 487, 425, 488, 489, 490, 491, 0, 0, 413, 412, 492, 484, 69] = true := by decide +kernel
set_option maxRecDepth 40000 in
theorem tw_al2 : tw_al (tw_wds ("java/lang/IndexOutOfBoundsException", 145, 147)) [65, 414, 423, 427, 430, 432, 415, 416, 80, 81, 417, 422, 428, 444, 404, 445, 406, 446, 408, 418, 419, 420, 421, 410, 674, 675, 676, 437, 395, 437, 438, 439, 440, 397, 440, 441, 442, 415, 399, 673, 665, 666, 667, 426, 668, 669, 670, 671, 0, 0, 413, 412, 672, 664, 73] = true := by decide +kernel
theorem tw_wds_in : ∀ x ∈ tw_exs, ∀ w ∈ tw_wds x, w ∈ lw_tbl ∨ w ∈ tw_rf := by
  intro x hx
  simp only [tw_exs, List.mem_cons, List.not_mem_nil, or_false] at hx
  rcases hx with rfl | rfl | rfl
  · exact tw_al_in _ _ tw_al0
  · exact tw_al_in _ _ tw_al1
  · exact tw_al_in _ _ tw_al2
set_option maxRecDepth 20000 in
theorem tw_rf_in : ∀ w ∈ tw_rf, w ∈ flatC (Jvm.Cond.and given_1 narrow_1) := by decide +kernel
set_option maxRecDepth 20000 in
theorem tw_not_in : ∀ x ∈ tw_not, Cond.not (.castable x.1 x.2) ∈ flatC (Jvm.Cond.and given_1 narrow_1) := by decide +kernel
theorem lw_W0 {a : Array Value} {s : State} (hts : ∀ w ∈ lw_tbl, w.before a s = true) (hg : (Jvm.Cond.and given_1 narrow_1).before a s = true) : tw_W0 s := by
  have hs := flat_of_before _ hg
  refine ⟨fun x hx w hw => ?_, fun x hx => ?_⟩
  · have h1 : w.before a s = true := by
      rcases tw_wds_in x hx w hw with h | h
      · exact hts w h
      · exact hs w (tw_rf_in w h)
    exact tw_word (State.WarmedH.refl s) (fun _ _ => rfl) (List.all_eq_true.mp (tw_wds_ok _ hx) w hw) h1
  · have h1 := hs _ (tw_not_in x hx)
    exact h1
theorem lw_NWn {a : Array Value} {s : State} (hts : ∀ w ∈ lw_tbl, w.before a s = true) : ∀ w ∈ cn_NW, va_Nw w s := fun w hw => va_Nw.of (cn_NW_tab w hw) (hts w (lw_fm lw_cnw w hw))
theorem lw_NWk {a : Array Value} {s : State} (hts : ∀ w ∈ lw_tbl, w.before a s = true) : ∀ w ∈ ck_NW, va_Nw w s := fun w hw => va_Nw.of (ck_NW_tab w hw) (hts w (lw_fm lw_ckw w hw))
theorem lw_K0 {a : Array Value} {s : State} (hts : ∀ w ∈ lw_tbl, w.before a s = true) : ∃ (D : va_G) (cs : ck_Cs) (cL : ClassId), va_K D ck_cl (ck_tys cs ++ [(cL, .long)]) s := by
  have hg : ∀ w ∈ ck_GW, w.before a s = true := fun w hw => hts w (List.mem_filter.mp hw).1
  obtain ⟨c0, i0, k0⟩ := u_known hg ck_in0 (hg _ cw_Fa_inst)
  obtain ⟨c1, i1, k1⟩ := u_known hg ck_in1 (hg _ cw_Fi_inst)
  obtain ⟨c2, i2, k2⟩ := u_known hg ck_in2 (hg _ cw_In_inst)
  obtain ⟨c3, i3, k3⟩ := u_known hg ck_in3 (hg _ cw_Ma_inst)
  obtain ⟨c4, i4, k4⟩ := u_known hg ck_in4 (hg _ cw_Pr_inst)
  obtain ⟨c5, i5, k5⟩ := u_known hg ck_in5 (hg _ cw_Cs_inst)
  obtain ⟨c6, i6, k6⟩ := u_known hg ck_in6 (hg _ cw_Mo_inst)
  obtain ⟨a1, a2, a3⟩ := lw_arrC (hg _ cw_aI)
  obtain ⟨b1, b2, b3⟩ := lw_arrC (hg _ cw_aZ)
  obtain ⟨d1, d2, d3⟩ := lw_arrO (va_AO.of (hts _ cw_aO))
  obtain ⟨e1, e2, e3⟩ := lw_arrC (hg _ cw_aL)
  refine ⟨(fun c => [c0, c1, c2, c3, c4, c5, c6].getD c c0, fun c => [i0, i1, i2, i3, i4, i5, i6].getD c i0), (a1, b1, d1), e1, fun c q hq => ?_, fun k q hk => ?_⟩
  · match c, hq with
    | 0, hq => cases hq; exact k0
    | 1, hq => cases hq; exact k1
    | 2, hq => cases hq; exact k2
    | 3, hq => cases hq; exact k3
    | 4, hq => cases hq; exact k4
    | 5, hq => cases hq; exact k5
    | 6, hq => cases hq; exact k6
  · have hk' : [(a1, FieldType.int), (b1, .boolean), (d1, .object "CheckSaver$Facts"), (e1, .long)][k]? = some q := hk
    match k, hk' with
    | 0, hk' => cases hk'; exact ⟨a2, a3⟩
    | 1, hk' => cases hk'; exact ⟨b2, b3⟩
    | 2, hk' => cases hk'; exact ⟨d2, d3⟩
    | 3, hk' => cases hk'; exact ⟨e2, e3⟩
theorem lw_K1 {D : va_G} {cs : ck_Cs} {cL : ClassId} {s : State} (h : va_K D ck_cl (ck_tys cs ++ [(cL, .long)]) s) : va_K D ck_cl (ck_tys cs) s := h.sub [0, 1, 2] rfl
