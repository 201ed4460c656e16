/-! The constructors of Finder, Machine, CheckSaver. -/
theorem dn_Fi_0 : decode prog_3_method_1_code 0 = .ok (.aload_n 0, 1) := by decide +kernel
theorem dn_Fi_1 : decode prog_3_method_1_code 1 = .ok (.invokespecial 3, 3) := by decide +kernel
theorem dn_Fi_4 : decode prog_3_method_1_code 4 = .ok (.aload_n 0, 1) := by decide +kernel
theorem dn_Fi_5 : decode prog_3_method_1_code 5 = .ok (.new 9, 3) := by decide +kernel
theorem dn_Fi_8 : decode prog_3_method_1_code 8 = .ok (.dup, 1) := by decide +kernel
theorem dn_Fi_9 : decode prog_3_method_1_code 9 = .ok (.invokespecial 11, 3) := by decide +kernel
theorem dn_Fi_12 : decode prog_3_method_1_code 12 = .ok (.putfield 12, 3) := by decide +kernel
theorem dn_Fi_15 : decode prog_3_method_1_code 15 = .ok (.aload_n 0, 1) := by decide +kernel
theorem dn_Fi_16 : decode prog_3_method_1_code 16 = .ok (.bipush 64, 2) := by decide +kernel
theorem dn_Fi_18 : decode prog_3_method_1_code 18 = .ok (.anewarray 18, 3) := by decide +kernel
theorem dn_Fi_21 : decode prog_3_method_1_code 21 = .ok (.putfield 20, 3) := by decide +kernel
theorem dn_Fi_24 : decode prog_3_method_1_code 24 = .ok (.aload_n 0, 1) := by decide +kernel
theorem dn_Fi_25 : decode prog_3_method_1_code 25 = .ok (.bipush 64, 2) := by decide +kernel
theorem dn_Fi_27 : decode prog_3_method_1_code 27 = .ok (.newarray .int, 2) := by decide +kernel
theorem dn_Fi_29 : decode prog_3_method_1_code 29 = .ok (.putfield 24, 3) := by decide +kernel
theorem dn_Fi_32 : decode prog_3_method_1_code 32 = .ok (.aload_n 0, 1) := by decide +kernel
theorem dn_Fi_33 : decode prog_3_method_1_code 33 = .ok (.bipush 64, 2) := by decide +kernel
theorem dn_Fi_35 : decode prog_3_method_1_code 35 = .ok (.newarray .boolean, 2) := by decide +kernel
theorem dn_Fi_37 : decode prog_3_method_1_code 37 = .ok (.putfield 28, 3) := by decide +kernel
theorem dn_Fi_40 : decode prog_3_method_1_code 40 = .ok (.aload_n 0, 1) := by decide +kernel
theorem dn_Fi_41 : decode prog_3_method_1_code 41 = .ok (.bipush 65, 2) := by decide +kernel
theorem dn_Fi_43 : decode prog_3_method_1_code 43 = .ok (.newarray .boolean, 2) := by decide +kernel
theorem dn_Fi_45 : decode prog_3_method_1_code 45 = .ok (.putfield 32, 3) := by decide +kernel
theorem dn_Fi_48 : decode prog_3_method_1_code 48 = .ok (.aload_n 0, 1) := by decide +kernel
theorem dn_Fi_49 : decode prog_3_method_1_code 49 = .ok (.new 18, 3) := by decide +kernel
theorem dn_Fi_52 : decode prog_3_method_1_code 52 = .ok (.dup, 1) := by decide +kernel
theorem dn_Fi_53 : decode prog_3_method_1_code 53 = .ok (.invokespecial 35, 3) := by decide +kernel
theorem dn_Fi_56 : decode prog_3_method_1_code 56 = .ok (.putfield 36, 3) := by decide +kernel
theorem dn_Fi_59 : decode prog_3_method_1_code 59 = .ok (.iconst 0, 1) := by decide +kernel
theorem dn_Fi_60 : decode prog_3_method_1_code 60 = .ok (.istore_n 1, 1) := by decide +kernel
theorem dn_Fi_61 : decode prog_3_method_1_code 61 = .ok (.iload_n 1, 1) := by decide +kernel
theorem dn_Fi_62 : decode prog_3_method_1_code 62 = .ok (.aload_n 0, 1) := by decide +kernel
theorem dn_Fi_63 : decode prog_3_method_1_code 63 = .ok (.getfield 20, 3) := by decide +kernel
theorem dn_Fi_66 : decode prog_3_method_1_code 66 = .ok (.arraylength, 1) := by decide +kernel
theorem dn_Fi_67 : decode prog_3_method_1_code 67 = .ok (.if_icmp .ge 22, 3) := by decide +kernel
theorem dn_Fi_70 : decode prog_3_method_1_code 70 = .ok (.aload_n 0, 1) := by decide +kernel
theorem dn_Fi_71 : decode prog_3_method_1_code 71 = .ok (.getfield 20, 3) := by decide +kernel
theorem dn_Fi_74 : decode prog_3_method_1_code 74 = .ok (.iload_n 1, 1) := by decide +kernel
theorem dn_Fi_75 : decode prog_3_method_1_code 75 = .ok (.new 18, 3) := by decide +kernel
theorem dn_Fi_78 : decode prog_3_method_1_code 78 = .ok (.dup, 1) := by decide +kernel
theorem dn_Fi_79 : decode prog_3_method_1_code 79 = .ok (.invokespecial 35, 3) := by decide +kernel
theorem dn_Fi_82 : decode prog_3_method_1_code 82 = .ok (.aastore, 1) := by decide +kernel
theorem dn_Fi_83 : decode prog_3_method_1_code 83 = .ok (.iinc 1 1, 3) := by decide +kernel
theorem dn_Fi_86 : decode prog_3_method_1_code 86 = .ok (.goto (-25), 3) := by decide +kernel
theorem dn_Fi_89 : decode prog_3_method_1_code 89 = .ok (.return_, 1) := by decide +kernel
def cy_Fi : MethodName := ⟨"CheckSaver$Finder", "<init>", "()V"⟩
def cd_Fi : List Value := [.null, .null, .null, .null, .null, .null, cn_i0]
theorem cd_Fi_ok : ∀ j, j < 7 → defaultValue (ck_ty1 j) = vp_V cd_Fi j := by decide +kernel
set_option maxRecDepth 20000 in
theorem cw_Fi_code : Cond.code cy_Fi prog_3_method_1_code 2 none ∈ ck_GW := ck_gw 109 (by decide +kernel) (by decide +kernel)
set_option maxRecDepth 20000 in
theorem cw_Fi_ins : Cond.instanceMethod cy_Fi ∈ ck_GW := ck_gw 108 (by decide +kernel) (by decide +kernel)
set_option maxRecDepth 20000 in
theorem cw_Fi_ini : Cond.initialized "CheckSaver$Finder" ∈ ck_GW := ck_gw 61 (by decide +kernel) (by decide +kernel)
set_option maxRecDepth 20000 in
theorem cw_Fi_inst : Cond.instantiable "CheckSaver$Finder" 7 ∈ ck_GW := ck_gw 106 (by decide +kernel) (by decide +kernel)
set_option maxRecDepth 20000 in
theorem cw_Fi_obj : Cond.methodLink "CheckSaver$Finder" 3 Lib.objectInit ∈ ck_GW := ck_gw 110 (by decide +kernel) (by decide +kernel)
set_option maxRecDepth 20000 in
theorem cw_Fi_c9 : Cond.classLink "CheckSaver$Finder" 9 "CheckSaver$Program" ∈ ck_GW := ck_gw 111 (by decide +kernel) (by decide +kernel)
set_option maxRecDepth 20000 in
theorem cw_Fi_f12 : Cond.fieldLink "CheckSaver$Finder" 12 "CheckSaver$Finder" "program" "LCheckSaver$Program;" ∈ ck_GW := ck_gw 206 (by decide +kernel) (by decide +kernel)
set_option maxRecDepth 20000 in
theorem cw_Fi_c18 : Cond.classLink "CheckSaver$Finder" 18 "CheckSaver$Facts" ∈ ck_GW := ck_gw 174 (by decide +kernel) (by decide +kernel)
set_option maxRecDepth 20000 in
theorem cw_Fi_f20 : Cond.fieldLink "CheckSaver$Finder" 20 "CheckSaver$Finder" "before" "[LCheckSaver$Facts;" ∈ ck_GW := ck_gw 209 (by decide +kernel) (by decide +kernel)
set_option maxRecDepth 20000 in
theorem cw_Fi_f24 : Cond.fieldLink "CheckSaver$Finder" 24 "CheckSaver$Finder" "checksNeedless" "[I" ∈ ck_GW := ck_gw 211 (by decide +kernel) (by decide +kernel)
set_option maxRecDepth 20000 in
theorem cw_Fi_f28 : Cond.fieldLink "CheckSaver$Finder" 28 "CheckSaver$Finder" "reached" "[Z" ∈ ck_GW := ck_gw 214 (by decide +kernel) (by decide +kernel)
set_option maxRecDepth 20000 in
theorem cw_Fi_f32 : Cond.fieldLink "CheckSaver$Finder" 32 "CheckSaver$Finder" "due" "[Z" ∈ ck_GW := ck_gw 215 (by decide +kernel) (by decide +kernel)
set_option maxRecDepth 20000 in
theorem cw_Fi_f36 : Cond.fieldLink "CheckSaver$Finder" 36 "CheckSaver$Finder" "way" "LCheckSaver$Facts;" ∈ ck_GW := ck_gw 216 (by decide +kernel) (by decide +kernel)
theorem cn_ge {k : Nat} (hk : k ≤ 64) : (64 : Int32) ≤ nI k ↔ 64 ≤ k := by
  have e : (64 : Int32) = nI 64 := rfl
  rw [e, nI_leI (by omega) (by omega)]
section CNF
variable {p : Program} {l : Launch} {e : Env} {R : Room} {s : State} {m : MethodId} {args : Array Value} {below : List Frame} {meth : Method} {c0 : Code} {Q : State → Prop} {D : va_G} {cs : ck_Cs} {A : Nat → Prop} {H0 : Heap}
set_option maxHeartbeats 4000000 in
theorem cn_loop {h : Nat} {ad1 ad2 : Nat → Nat} {qb q17 q18 q19 : Nat} (Cx : cn_Cx p s m args meth c0 prog_3_method_1_code 2 D cs "CheckSaver$Finder" A H0) (hR : 2 ≤ R.frames ∧ 60 ≤ R.locals) (hcs : 470 ≤ R.cells ∧ 5923 ≤ R.slots)
    (kend : ∀ (H : Heap) (locs : List Loc) (ls : Array Slot) (v : Nat → Nat → Nat), va_P D ck_cl (cn_X cs h ad1 qb q17 q18 q19 ad2 (fun j => if j < 64 then some (v j (25 + 7 * j)) else none) ++ cn_PL cs v 64) H → va_D A (cn_X cs h ad1 qb q17 q18 q19 ad2 (fun j => if j < 64 then some (v j (25 + 7 * j)) else none) ++ cn_PL cs v 64) → va_S A H0 H locs → W p l e R s m args below meth c0 H locs 470 5923 Q (F0 m 89 ls [])) :
    ∀ (n k : Nat) (H : Heap) (locs : List Loc) (ls : Array Slot) (v : Nat → Nat → Nat), k + n = 64 → lv_has ls 2 [(1, .int (nI k)), (0, .ref h)] → va_P D ck_cl (cn_X cs h ad1 qb q17 q18 q19 ad2 (fun j => if j < k then some (v j (25 + 7 * j)) else none) ++ cn_PL cs v k) H → va_D A (cn_X cs h ad1 qb q17 q18 q19 ad2 (fun j => if j < k then some (v j (25 + 7 * j)) else none) ++ cn_PL cs v k) → va_S A H0 H locs → W p l e R s m args below meth c0 H locs (22 + 7 * k) (931 + 78 * k) Q (F0 m 61 ls []) := by
  have hx := Cx.1
  have hb := Cx.2.1
  have hU := Cx.2.2.2.2.2.1
  have hts := Cx.2.2.2.2.1
  have hown := Cx.2.2.2.1
  intro n
  induction n with
  | zero =>
    intro k H locs ls v hk hl hP hD hS
    have hk64 : k = 64 := by omega
    subst hk64
    refine lv_iload_n hx hb dn_Fi_61 rfl (lv_at hl 0 rfl) ?_
    refine lv_aload_n hx hb dn_Fi_62 rfl (lv_at hl 1 rfl) ?_
    refine va_get (D := D) (cl := ck_cl) (tys := ck_tys cs) (ci := 1) (C := "CheckSaver$Finder") (T := ck_T1) (N := 7) hx hb hts ck_in1 hown hU.1 hP 0 rfl rfl 1 (by decide) (hts _ cw_Fi_f20) (fun x h => h) (v := .ref qb) rfl dn_Fi_63 ?_
    refine va_alen (D := D) (cl := ck_cl) (tys := ck_tys cs) hx hb hU.1 hP 12 2 (a := qb) rfl rfl (v := 64) rfl dn_Fi_66 ?_
    exact lv_icmp_ge (tgt := 89) hx hb dn_Fi_67 (by decide) (fun _ => kend H locs ls v hP hD hS) (fun hh => absurd ((cn_ge (Nat.le_refl 64)).mpr (Nat.le_refl 64)) hh)
  | succ n ih =>
    intro k H locs ls v hk hl hP hD hS
    refine lv_iload_n hx hb dn_Fi_61 rfl (lv_at hl 0 rfl) ?_
    refine lv_aload_n hx hb dn_Fi_62 rfl (lv_at hl 1 rfl) ?_
    refine va_get (D := D) (cl := ck_cl) (tys := ck_tys cs) (ci := 1) (C := "CheckSaver$Finder") (T := ck_T1) (N := 7) hx hb hts ck_in1 hown hU.1 hP 0 rfl rfl 1 (by decide) (hts _ cw_Fi_f20) (fun x h => h) (v := .ref qb) rfl dn_Fi_63 ?_
    refine va_alen (D := D) (cl := ck_cl) (tys := ck_tys cs) hx hb hU.1 hP 12 2 (a := qb) rfl rfl (v := 64) rfl dn_Fi_66 ?_
    refine lv_icmp_ge (tgt := 89) hx hb dn_Fi_67 (by decide) (fun hh => absurd ((cn_ge (by omega)).mp hh) (by omega)) (fun _ => ?_)
    refine lv_aload_n hx hb dn_Fi_70 rfl (lv_at hl 1 rfl) ?_
    refine va_get (D := D) (cl := ck_cl) (tys := ck_tys cs) (ci := 1) (C := "CheckSaver$Finder") (T := ck_T1) (N := 7) hx hb hts ck_in1 hown hU.1 hP 0 rfl rfl 1 (by decide) (hts _ cw_Fi_f20) (fun x h => h) (v := .ref qb) rfl dn_Fi_71 ?_
    refine lv_iload_n hx hb dn_Fi_74 rfl (lv_at hl 0 rfl) ?_
    refine cn_make (i1 := 18) (i2 := 35) (r := ("CheckSaver$Facts", ck_T0, 6)) (ty0 := ck_ty0) Cx (cn_Fa l D cs (i := k) (by omega)) rfl ck_tyok0 cd_Fa_ok rfl rfl cw_Fa_code cw_Fa_ins cw_Fa_ini cw_Fi_c18 cw_Fa_inst (Or.inr (List.mem_of_getElem? (i := 3) rfl)) (by decide +kernel) ⟨by omega, by omega⟩ ⟨by omega, by show 931 + 78 * k + 6 + 72 ≤ R.slots; omega⟩ hl.1 (show (3 : Nat) ≤ 8 by decide) hP hD hS dn_Fi_75 dn_Fi_78 dn_Fi_79 (fun adk H1 locs1 hP1 hD1 hS1 => ?_)
    have hv : ((cn_X cs h ad1 qb q17 q18 q19 ad2 (fun j => if j < k then some (v j (25 + 7 * j)) else none) ++ cn_PL cs v k) ++ cn_ws cs adk (cn_iF k))[(cn_X cs h ad1 qb q17 q18 q19 ad2 (fun j => if j < k then some (v j (25 + 7 * j)) else none) ++ cn_PL cs v k).length]? = some (adk (25 + 7 * k), .inr (0, ck_fs adk ck_z 0 ((25 + 7 * k : Nat) : Int))) := by
      rw [List.getElem?_append_right (Nat.le_refl _), Nat.sub_self, ← cn_enF cs adk (by omega : k ≤ 64)]
      rfl
    refine va_astq (D := D) (cl := ck_cl) (tys := ck_tys cs) hx hb hU.1 hP1 hD1 hS1 12 2 (cn_X cs h ad1 qb q17 q18 q19 ad2 (fun j => if j < k then some (v j (25 + 7 * j)) else none) ++ cn_PL cs v k).length 0 (a := qb) (cA := cs.2.2) (r := ("CheckSaver$Facts", ck_T0, 6)) (n := 64) (f := fun j => if j < k then some (v j (25 + 7 * j)) else none) rfl rfl hv rfl (i := nI k) (vp_in_nI (by omega) (by decide)) dn_Fi_82 (fun H2 locs2 hP2 hD2 hS2 => ?_)
    rw [nI_clamp (by omega)] at hP2 hD2
    have ef : va_up (fun j => if j < k then some (v j (25 + 7 * j)) else none) k (some (adk (25 + 7 * k))) = (fun j => if j < k + 1 then some ((fun i => if i = k then adk else v i) j (25 + 7 * j)) else none) := by
      funext j
      unfold va_up
      dsimp only
      by_cases h1 : j = k
      · subst h1
        rw [if_pos rfl, if_pos (by omega), if_pos rfl]
      · rw [if_neg h1, if_neg h1]
        by_cases h2 : j < k
        · rw [if_pos h2, if_pos (by omega)]
        · rw [if_neg h2, if_neg (by omega)]
    have es : ((cn_X cs h ad1 qb q17 q18 q19 ad2 (fun j => if j < k then some (v j (25 + 7 * j)) else none) ++ cn_PL cs v k) ++ cn_ws cs adk (cn_iF k)).set 12 (qb, .inl (cs.2.2, 64, .inr (.inr (.inr (.inr (va_up (fun j => if j < k then some (v j (25 + 7 * j)) else none) k (some (adk (25 + 7 * k))))))))) = cn_X cs h ad1 qb q17 q18 q19 ad2 (fun j => if j < k + 1 then some ((fun i => if i = k then adk else v i) j (25 + 7 * j)) else none) ++ cn_PL cs (fun i => if i = k then adk else v i) (k + 1) := by
      rw [← ef, cn_PL_s, ← List.append_assoc]
      rfl
    rw [es] at hP2 hD2
    refine lv_iinc (k := 0) (v := nI (k + 1)) (lv' := [(1, .int (nI (k + 1))), (0, .ref h)]) hx hb dn_Fi_83 hl rfl (by rw [show Int32.ofInt 1 = nI 1 from by decide, nI_add]) (by decide) rfl (fun ls' hl' => ?_)
    refine lv_goto (tgt := 61) hx hb dn_Fi_86 (by decide) ?_
    have ec : 22 + 7 * k + 1 + 6 = 22 + 7 * (k + 1) := by omega
    have en : 931 + 78 * k + 6 + 72 = 931 + 78 * (k + 1) := by omega
    have := ih (k + 1) H2 locs2 ls' (fun i => if i = k then adk else v i) (by omega) hl' hP2 hD2 hS2
    rw [← ec, ← en] at this
    exact this
end CNF
set_option maxHeartbeats 4000000 in
theorem cn_Fi (l : Launch) (D : va_G) (cs : ck_Cs) : cn_Met l D cs cy_Fi prog_3_method_1_code 2 2 470 5923 1 cd_Fi 4 cn_iFi := by
  refine cn_of (by decide) rfl rfl ?_
  intro p e s m below meth c0 h Cx hr hlocks hP
  have hx := Cx.1
  have hb := Cx.2.1
  have hU := Cx.2.2.2.2.2.1
  have hS : va_S (cn_B h s.heap.size) s.heap s.heap [] := va_S.rf
  have hD : va_D (cn_B h s.heap.size) [(h, (.inr (1, cd_Fi) : va_E))] := cn_D1 (Or.inl rfl)
  have hl := lv_entry ([.ref h]) (n := 2) (Nat.le_of_ble_eq_true rfl)
  show W p l e _ s m _ below meth c0 s.heap [] 0 0 _ (entryFrame m ([.ref h] : List Value).toArray 2)
  rw [lg_entry_eq]
  generalize (lg_sl ([.ref h]) ++ List.replicate (2 - (lg_sl ([.ref h])).length) Slot.unset).toArray = ls at hl ⊢
  have hl : lv_has ls 2 [(0, .ref h)] := hl
  refine lv_aload_n hx hb dn_Fi_0 rfl (lv_at hl 0 rfl) ?_
  refine cn_obj Cx cw_Fi_obj hl.1 dn_Fi_1 (by decide) (by decide) ?_
  refine lv_aload_n hx hb dn_Fi_4 rfl (lv_at hl 0 rfl) ?_
  refine cn_make (i1 := 9) (i2 := 11) (r := ("CheckSaver$Program", ck_T4, 12)) (ty0 := ck_ty4) Cx (cn_Pr l D cs) rfl ck_tyok4 cd_Pr_ok rfl rfl cw_Pr_code cw_Pr_ins cw_Pr_ini cw_Fi_c9 cw_Pr_inst (Or.inr (List.mem_of_getElem? (i := 2) rfl)) (by decide +kernel) ⟨by decide, by decide⟩ ⟨by decide, by decide⟩ hl.1 (show (2 : Nat) ≤ 8 by decide) hP hD hS dn_Fi_5 dn_Fi_8 dn_Fi_9 (fun ad1 H1 locs1 hP hD hS => ?_)
  refine cn_put (ci := 1) (k := 0) (ty := .object "CheckSaver$Program") Cx rfl rfl (by decide) rfl cw_Fi_f12 rfl (by decide +kernel) rfl rfl hP hD hS dn_Fi_12 (fun H2 locs2 hP hD hS => ?_)
  refine lv_aload_n hx hb dn_Fi_15 rfl (lv_at hl 0 rfl) ?_
  refine lv_bipush (v := 64) hx hb dn_Fi_16 (by decide) ?_
  refine va_newq (D := D) (cl := ck_cl) (tys := ck_tys cs) (own := "CheckSaver$Finder") (C := "CheckSaver$Facts") (index := 18) (N' := 64) hx hb Cx.2.2.2.1 (Cx.2.2.2.2.1 _ cw_Fi_c18) hU.2.2 hU.1 hP hD hS Cx.2.2.2.2.2.2.2 (by decide) (by decide) (by decide) (by decide) (by decide) dn_Fi_18 (fun qb cB H3 hK3 hP hD hS => ?_)
  have hcB : cB = cs.2.2 := by
    have g1 : va_RA s cB (.object "CheckSaver$Facts") := (hK3.2 3 _ rfl).2
    have g2 : va_RA s cs.2.2 (.object "CheckSaver$Facts") := (hU.1.2 2 _ rfl).2
    obtain ⟨k1, c1, -, -, -, g3⟩ := g1
    obtain ⟨k2, c2, -, -, -, g4⟩ := g2
    exact Option.some.inj (g3.symm.trans g4)
  subst hcB
  refine cn_put (ci := 1) (k := 1) (ty := .array (.object "CheckSaver$Facts")) Cx rfl rfl (by decide) rfl cw_Fi_f20 rfl (by decide +kernel) rfl rfl hP hD hS dn_Fi_21 (fun H4 locs4 hP hD hS => ?_)
  refine lv_aload_n hx hb dn_Fi_24 rfl (lv_at hl 0 rfl) ?_
  refine lv_bipush (v := 64) hx hb dn_Fi_25 (by decide) ?_
  refine cn_arr (atype := .int) (cA := cs.1) (N := 64) Cx rfl cw_aI rfl (cn_uqI hU) (by decide) (by decide) (by decide) ⟨by decide, by decide⟩ hP hD hS dn_Fi_27 (fun q17 H5 hP hD hS => ?_)
  refine cn_put (ci := 1) (k := 2) (ty := .array .int) Cx rfl rfl (by decide) rfl cw_Fi_f24 rfl (by decide +kernel) rfl rfl hP hD hS dn_Fi_29 (fun H5 locs5 hP hD hS => ?_)
  refine lv_aload_n hx hb dn_Fi_32 rfl (lv_at hl 0 rfl) ?_
  refine lv_bipush (v := 64) hx hb dn_Fi_33 (by decide) ?_
  refine cn_arr (atype := .boolean) (cA := cs.2.1) (N := 64) Cx rfl cw_aZ rfl (cn_uqZ hU) (by decide) (by decide) (by decide) ⟨by decide, by decide⟩ hP hD hS dn_Fi_35 (fun q18 H6 hP hD hS => ?_)
  refine cn_put (ci := 1) (k := 3) (ty := .array .boolean) Cx rfl rfl (by decide) rfl cw_Fi_f28 rfl (by decide +kernel) rfl rfl hP hD hS dn_Fi_37 (fun H6 locs6 hP hD hS => ?_)
  refine lv_aload_n hx hb dn_Fi_40 rfl (lv_at hl 0 rfl) ?_
  refine lv_bipush (v := 65) hx hb dn_Fi_41 (by decide) ?_
  refine cn_arr (atype := .boolean) (cA := cs.2.1) (N := 65) Cx rfl cw_aZ rfl (cn_uqZ hU) (by decide) (by decide) (by decide) ⟨by decide, by decide⟩ hP hD hS dn_Fi_43 (fun q19 H7 hP hD hS => ?_)
  refine cn_put (ci := 1) (k := 4) (ty := .array .boolean) Cx rfl rfl (by decide) rfl cw_Fi_f32 rfl (by decide +kernel) rfl rfl hP hD hS dn_Fi_45 (fun H7 locs7 hP hD hS => ?_)
  have eX : ((h, .inr (1, [.ref (ad1 5), .ref qb, .ref q17, .ref q18, .ref q19, .null, cn_i0])) :: (cn_ws cs ad1 [5, 6, 7, 8, 9, 10, 11, 12, 13, 14, 15] ++ [(qb, .inl (cs.2.2, 64, .inr (.inr (.inr (.inr (fun _ => none)))))), (q17, .inl (cs.1, 64, .inl (fun _ => Int32.ofInt 0))), (q18, .inl (cs.2.1, 64, .inl (fun _ => Int32.ofInt 0))), (q19, .inl (cs.2.1, 65, .inl (fun _ => Int32.ofInt 0)))]) : va_W) = (h, .inr (1, [.ref (ad1 5), .ref qb, .ref q17, .ref q18, .ref q19, .null, cn_i0])) :: ((((cn_ws cs ad1 [5, 6, 7, 8, 9, 10, 11, 12, 13, 14, 15] ++ [(qb, .inl (cs.2.2, 64, .inr (.inr (.inr (.inr (fun _ => none))))))]) ++ [(q17, .inl (cs.1, 64, .inl (fun _ => Int32.ofInt 0)))]) ++ [(q18, .inl (cs.2.1, 64, .inl (fun _ => Int32.ofInt 0)))]) ++ [(q19, .inl (cs.2.1, 65, .inl (fun _ => Int32.ofInt 0)))]) := rfl
  have hP : va_P D ck_cl ((h, .inr (1, [.ref (ad1 5), .ref qb, .ref q17, .ref q18, .ref q19, .null, cn_i0])) :: (cn_ws cs ad1 [5, 6, 7, 8, 9, 10, 11, 12, 13, 14, 15] ++ [(qb, .inl (cs.2.2, 64, .inr (.inr (.inr (.inr (fun _ => none)))))), (q17, .inl (cs.1, 64, .inl (fun _ => Int32.ofInt 0))), (q18, .inl (cs.2.1, 64, .inl (fun _ => Int32.ofInt 0))), (q19, .inl (cs.2.1, 65, .inl (fun _ => Int32.ofInt 0)))])) H7 := by rw [eX]; exact hP
  have hD : va_D (cn_B h s.heap.size) ((h, .inr (1, [.ref (ad1 5), .ref qb, .ref q17, .ref q18, .ref q19, .null, cn_i0])) :: (cn_ws cs ad1 [5, 6, 7, 8, 9, 10, 11, 12, 13, 14, 15] ++ [(qb, .inl (cs.2.2, 64, .inr (.inr (.inr (.inr (fun _ => none)))))), (q17, .inl (cs.1, 64, .inl (fun _ => Int32.ofInt 0))), (q18, .inl (cs.2.1, 64, .inl (fun _ => Int32.ofInt 0))), (q19, .inl (cs.2.1, 65, .inl (fun _ => Int32.ofInt 0)))])) := by rw [eX]; exact hD
  refine lv_aload_n hx hb dn_Fi_48 rfl (lv_at hl 0 rfl) ?_
  refine cn_make (i1 := 18) (i2 := 35) (r := ("CheckSaver$Facts", ck_T0, 6)) (ty0 := ck_ty0) Cx (cn_Fa l D cs (i := 64) (Nat.le_refl _)) rfl ck_tyok0 cd_Fa_ok rfl rfl cw_Fa_code cw_Fa_ins cw_Fa_ini cw_Fi_c18 cw_Fa_inst (Or.inr (List.mem_of_getElem? (i := 3) rfl)) (by decide +kernel) ⟨by decide, by decide⟩ ⟨by decide, by decide⟩ hl.1 (show (2 : Nat) ≤ 8 by decide) hP hD hS dn_Fi_49 dn_Fi_52 dn_Fi_53 (fun ad2 H8 locs8 hP hD hS => ?_)
  refine cn_put (ci := 1) (k := 5) (ty := .object "CheckSaver$Facts") Cx rfl rfl (by decide) rfl cw_Fi_f36 rfl (by decide +kernel) rfl rfl hP hD hS dn_Fi_56 (fun H9 locs9 hP hD hS => ?_)
  have eY : cn_X cs h ad1 qb q17 q18 q19 ad2 (fun j => if j < 0 then some ((fun _ _ => 0) j (25 + 7 * j)) else none) ++ cn_PL cs (fun _ _ => 0) 0 = (h, .inr (1, [.ref (ad1 5), .ref qb, .ref q17, .ref q18, .ref q19, .ref (ad2 (25 + 7 * 64)), cn_i0])) :: ((cn_ws cs ad1 [5, 6, 7, 8, 9, 10, 11, 12, 13, 14, 15] ++ [(qb, .inl (cs.2.2, 64, .inr (.inr (.inr (.inr (fun _ => none)))))), (q17, .inl (cs.1, 64, .inl (fun _ => Int32.ofInt 0))), (q18, .inl (cs.2.1, 64, .inl (fun _ => Int32.ofInt 0))), (q19, .inl (cs.2.1, 65, .inl (fun _ => Int32.ofInt 0)))]) ++ cn_ws cs ad2 (cn_iF 64)) := by
    have ef : (fun j => if j < 0 then some ((fun _ _ => 0 : Nat → Nat → Nat) j (25 + 7 * j)) else none) = (fun _ => none : Nat → Option Nat) := by
      funext j
      exact if_neg (Nat.not_lt_zero j)
    rw [ef]
    show cn_X cs h ad1 qb q17 q18 q19 ad2 (fun _ => none) ++ [] = _
    rw [List.append_nil]
    unfold cn_X
    rw [List.append_assoc]
  refine lv_iconst (v := 0) hx hb dn_Fi_59 (by decide) ?_
  refine lv_istore_n (lv' := [(1, .int (nI 0)), (0, .ref h)]) hx hb dn_Fi_60 rfl hl (by decide) rfl (fun ls1 hl1 => ?_)
  refine W.widen (k := 22 + 7 * 0) (n := 931 + 78 * 0) (by decide) (by decide) ?_
  refine cn_loop Cx ⟨by decide, by decide⟩ ⟨by decide, by decide⟩ (fun H locs ls v hP hD hS => ?_) 64 0 H9 locs9 ls1 (fun _ _ => 0) rfl hl1 (by rw [eY]; exact hP) (by rw [eY]; exact hD) hS
  have hq : va_at D ck_cl (qb, .inl (cs.2.2, 64, .inr (.inr (.inr (.inr (fun j => if j < 64 then some (v j (25 + 7 * j)) else none)))))) H := hP 12 _ rfl
  have hq2 : va_at D ck_cl (qb, .inl (cs.2.2, 64, .inr (.inr (.inr (.inr (fun j => some (cn_adF h ad1 qb q17 q18 q19 ad2 v (25 + 7 * j)))))))) H := by
    have g1 : H[qb]? = some (vp_cell cs.2.2 (64, .inr (.inr (.inr (.inr (fun j => if j < 64 then some (v j (25 + 7 * j)) else none)))))) := hq
    show H[qb]? = some (vp_cell cs.2.2 (64, .inr (.inr (.inr (.inr (fun j => some (cn_adF h ad1 qb q17 q18 q19 ad2 v (25 + 7 * j))))))))
    rw [g1, cn_arrE (fun j hj => ?_)]
    rw [if_pos hj]
    unfold cn_adF
    rw [if_neg (by omega), if_neg (by omega), if_neg (by omega), if_neg (by omega), if_neg (by omega), if_neg (by omega), if_neg (by omega), show (25 + 7 * j - 25) / 7 = j by omega]
  have hP2 := hP.set hD (p := 12) (a := qb) rfl hq2 (fun _ _ => rfl)
  have hD2 := hD.set (e := .inl (cs.2.2, 64, .inr (.inr (.inr (.inr (fun j => some (cn_adF h ad1 qb q17 q18 q19 ad2 v (25 + 7 * j)))))))) (p := 12) (a := qb) rfl
  have e9 := cn_X_ad cs h ad1 qb q17 q18 q19 ad2 v
  exact cn_ret (ad := cn_adF h ad1 qb q17 q18 q19 ad2 v) hx hb hr hlocks rfl (by rw [e9]; exact hP2) (by rw [e9]; exact hD2) hS (Nat.le_refl _) (Nat.le_refl _) dn_Fi_89
