/-! The constructors of Machine and CheckSaver. -/
def cn_cgb (P : Nat → Bool) (c : Nat) : Bool := decide (c < 501) && (P c && ((ck_sh c).1 != 3 || (List.range (ck_nF (ck_sh c).2)).all (fun k => match ck_fr (ck_sh c).2 k c with
  | some q => P q.1.toNat
  | none => true)))
theorem cn_fs_cg {ad ad' : Nat → Nat} (P : Nat → Bool) {c : Nat} (h : ∀ x, P x = true → ad x = ad' x) (hc : ((ck_sh c).1 != 3 || (List.range (ck_nF (ck_sh c).2)).all (fun k => match ck_fr (ck_sh c).2 k c with
  | some q => P q.1.toNat
  | none => true)) = true) (h4 : (ck_sh c).1 = 3) : ck_fs ad ck_z (ck_sh c).2 c = ck_fs ad' ck_z (ck_sh c).2 c := by
  unfold ck_fs
  refine List.map_congr_left fun k hk => ?_
  rw [h4] at hc
  simp only [bne_self_eq_false, Bool.false_or] at hc
  have h6 := List.all_eq_true.mp hc k hk
  unfold ck_fv
  cases h7 : ck_fr (ck_sh c).2 k c with
  | none => rfl
  | some q =>
    rw [h7] at h6
    show Value.ref (ad q.1.toNat) = Value.ref (ad' q.1.toNat)
    rw [h _ h6]
theorem cn_en0 (cs : ck_Cs) (a : Nat → Nat) {c : Nat} (h : (ck_sh c).1 = 0) : ck_en a cs ck_z c = .inl (cs.1, (ck_sh c).2, .inl (fun j => Int32.ofInt (ck_z c j))) := by
  unfold ck_en
  rw [h] <;> rfl
theorem cn_en1 (cs : ck_Cs) (a : Nat → Nat) {c : Nat} (h : (ck_sh c).1 = 1) : ck_en a cs ck_z c = .inl (cs.2.1, (ck_sh c).2, .inl (fun j => Int32.ofInt (ck_z c j))) := by
  unfold ck_en
  rw [h] <;> rfl
theorem cn_en2 (cs : ck_Cs) (a : Nat → Nat) {c : Nat} (h : (ck_sh c).1 = 2) : ck_en a cs ck_z c = .inl (cs.2.2, (ck_sh c).2, .inr (.inr (.inr (.inr (fun j => some (a (25 + 7 * j))))))) := by
  unfold ck_en
  rw [h] <;> rfl
theorem cn_en3 (cs : ck_Cs) (a : Nat → Nat) {c : Nat} (h : (ck_sh c).1 = 3) : ck_en a cs ck_z c = .inr ((ck_sh c).2, ck_fs a ck_z (ck_sh c).2 c) := by
  unfold ck_en
  rw [h] <;> rfl
/-- cells by the addresses that they name -/
theorem cn_ws_cg (cs : ck_Cs) {ad ad' : Nat → Nat} (P : Nat → Bool) {idx : List Nat} (h : ∀ x, P x = true → ad x = ad' x) (hB : ∀ j, ad (25 + 7 * j) = ad' (25 + 7 * j)) (hc : idx.all (cn_cgb P) = true) : cn_ws cs ad idx = cn_ws cs ad' idx := by
  unfold cn_ws
  refine List.map_congr_left fun c hcm => ?_
  have h1 := List.all_eq_true.mp hc c hcm
  unfold cn_cgb at h1
  rw [Bool.and_eq_true, Bool.and_eq_true, decide_eq_true_eq] at h1
  obtain ⟨h5, h6, h7⟩ := h1
  have h2 : ck_en ad cs ck_z c = ck_en ad' cs ck_z c := by
    obtain ⟨hsh, -⟩ := ck_sh_cases h5
    rcases hsh with h0 | h0 | ⟨h0, -⟩ | ⟨h0, -⟩
    · rw [cn_en0 cs ad h0, cn_en0 cs ad' h0]
    · rw [cn_en1 cs ad h0, cn_en1 cs ad' h0]
    · rw [cn_en2 cs ad h0, cn_en2 cs ad' h0, show (fun j => some (ad (25 + 7 * j))) = (fun j => some (ad' (25 + 7 * j))) from funext fun j => by rw [hB j]]
    · rw [cn_en3 cs ad h0, cn_en3 cs ad' h0, cn_fs_cg P h h7 h0]
  rw [h2, h _ h6]
theorem cn_ws_app (cs : ck_Cs) (ad : Nat → Nat) (a b : List Nat) : cn_ws cs ad (a ++ b) = cn_ws cs ad a ++ cn_ws cs ad b := by
  unfold cn_ws
  exact List.map_append
def cn_iMa : List Nat := 1 :: ([2, 3] ++ (cn_iFi ++ [20, 21, 22, 23, 24]))
def cn_iCs : List Nat := 0 :: cn_iMa
def cn_pF (x : Nat) : Bool := (decide (4 ≤ x) && decide (x ≤ 19)) || decide (25 ≤ x)
def cn_pM (x : Nat) : Bool := decide (1 ≤ x)
set_option maxRecDepth 20000 in
theorem cn_cgF : cn_iFi.all (cn_cgb cn_pF) = true := by decide +kernel
set_option maxRecDepth 20000 in
theorem cn_cgM : cn_iMa.all (cn_cgb cn_pM) = true := by decide +kernel
def cn_adM (h : Nat) (ad1 ad2 : Nat → Nat) (q20 q21 q22 q23 q24 : Nat) : Nat → Nat := fun x => if x = 1 then h else if x ≤ 3 then ad1 x else if x ≤ 19 then ad2 x else if 25 ≤ x then ad2 x else [q20, q21, q22, q23, q24].getD (x - 20) 0
theorem cn_adM_ws (cs : ck_Cs) (h : Nat) (ad1 ad2 : Nat → Nat) (q20 q21 q22 q23 q24 : Nat) : cn_ws cs (cn_adM h ad1 ad2 q20 q21 q22 q23 q24) cn_iMa = (h, .inr (3, [.ref (ad1 2), .ref (ad2 4), .ref (ad2 5), .ref q20, .ref q21, .ref q22, .ref q23, .ref q24, cn_i0, cn_i0, cn_i0, cn_i0, cn_i0, cn_i0, cn_i0, cn_i0])) :: (cn_ws cs ad1 [2, 3] ++ (cn_ws cs ad2 cn_iFi ++ [(q20, .inl (cs.1, 10, .inl (fun _ => Int32.ofInt 0))), (q21, .inl (cs.1, 4, .inl (fun _ => Int32.ofInt 0))), (q22, .inl (cs.1, 40, .inl (fun _ => Int32.ofInt 0))), (q23, .inl (cs.1, 1600, .inl (fun _ => Int32.ofInt 0))), (q24, .inl (cs.1, 16, .inl (fun _ => Int32.ofInt 0)))])) := by
  have e1 : cn_ws cs (cn_adM h ad1 ad2 q20 q21 q22 q23 q24) cn_iFi = cn_ws cs ad2 cn_iFi := cn_ws_cg cs cn_pF (fun x hx => by
    unfold cn_pF at hx
    simp only [Bool.or_eq_true, Bool.and_eq_true, decide_eq_true_eq] at hx
    unfold cn_adM
    rw [if_neg (by omega), if_neg (by omega)]
    by_cases h1 : x ≤ 19
    · rw [if_pos h1]
    · rw [if_neg h1, if_pos (by omega)]) (fun j => by
    unfold cn_adM
    rw [if_neg (by omega), if_neg (by omega), if_neg (by omega), if_pos (by omega)]) cn_cgF
  have e2 : cn_iMa = [1, 2, 3] ++ (cn_iFi ++ [20, 21, 22, 23, 24]) := rfl
  have e3 : cn_ws cs (cn_adM h ad1 ad2 q20 q21 q22 q23 q24) [1, 2, 3] = (h, .inr (3, [.ref (ad1 2), .ref (ad2 4), .ref (ad2 5), .ref q20, .ref q21, .ref q22, .ref q23, .ref q24, cn_i0, cn_i0, cn_i0, cn_i0, cn_i0, cn_i0, cn_i0, cn_i0])) :: cn_ws cs ad1 [2, 3] := rfl
  have e4 : cn_ws cs (cn_adM h ad1 ad2 q20 q21 q22 q23 q24) [20, 21, 22, 23, 24] = [(q20, .inl (cs.1, 10, .inl (fun _ => Int32.ofInt 0))), (q21, .inl (cs.1, 4, .inl (fun _ => Int32.ofInt 0))), (q22, .inl (cs.1, 40, .inl (fun _ => Int32.ofInt 0))), (q23, .inl (cs.1, 1600, .inl (fun _ => Int32.ofInt 0))), (q24, .inl (cs.1, 16, .inl (fun _ => Int32.ofInt 0)))] := rfl
  rw [e2, cn_ws_app, cn_ws_app, e3, e1, e4, List.cons_append]
def cn_adC (h : Nat) (ad1 : Nat → Nat) : Nat → Nat := fun x => if x = 0 then h else ad1 x
theorem cn_adC_ws (cs : ck_Cs) (h : Nat) (ad1 : Nat → Nat) : cn_ws cs (cn_adC h ad1) cn_iCs = (h, .inr (5, [.ref (ad1 1), .ref (ad1 2), .ref (ad1 4), .ref (ad1 5)])) :: cn_ws cs ad1 cn_iMa := by
  have e1 : cn_ws cs (cn_adC h ad1) cn_iMa = cn_ws cs ad1 cn_iMa := cn_ws_cg cs cn_pM (fun x hx => by
    unfold cn_pM at hx
    simp only [decide_eq_true_eq] at hx
    unfold cn_adC
    rw [if_neg (by omega)]) (fun j => by
    unfold cn_adC
    rw [if_neg (by omega)]) cn_cgM
  have e2 : cn_iCs = [0] ++ cn_iMa := rfl
  have e3 : cn_ws cs (cn_adC h ad1) [0] = [(h, .inr (5, [.ref (ad1 1), .ref (ad1 2), .ref (ad1 4), .ref (ad1 5)]))] := rfl
  rw [e2, cn_ws_app, e3, e1, List.singleton_append]
theorem dn_Ma_0 : decode prog_5_method_1_code 0 = .ok (.aload_n 0, 1) := by decide +kernel
theorem dn_Ma_1 : decode prog_5_method_1_code 1 = .ok (.invokespecial 3, 3) := by decide +kernel
theorem dn_Ma_4 : decode prog_5_method_1_code 4 = .ok (.aload_n 0, 1) := by decide +kernel
theorem dn_Ma_5 : decode prog_5_method_1_code 5 = .ok (.new 9, 3) := by decide +kernel
theorem dn_Ma_8 : decode prog_5_method_1_code 8 = .ok (.dup, 1) := by decide +kernel
theorem dn_Ma_9 : decode prog_5_method_1_code 9 = .ok (.invokespecial 11, 3) := by decide +kernel
theorem dn_Ma_12 : decode prog_5_method_1_code 12 = .ok (.putfield 12, 3) := by decide +kernel
theorem dn_Ma_15 : decode prog_5_method_1_code 15 = .ok (.aload_n 0, 1) := by decide +kernel
theorem dn_Ma_16 : decode prog_5_method_1_code 16 = .ok (.new 18, 3) := by decide +kernel
theorem dn_Ma_19 : decode prog_5_method_1_code 19 = .ok (.dup, 1) := by decide +kernel
theorem dn_Ma_20 : decode prog_5_method_1_code 20 = .ok (.invokespecial 20, 3) := by decide +kernel
theorem dn_Ma_23 : decode prog_5_method_1_code 23 = .ok (.putfield 21, 3) := by decide +kernel
theorem dn_Ma_26 : decode prog_5_method_1_code 26 = .ok (.aload_n 0, 1) := by decide +kernel
theorem dn_Ma_27 : decode prog_5_method_1_code 27 = .ok (.aload_n 0, 1) := by decide +kernel
theorem dn_Ma_28 : decode prog_5_method_1_code 28 = .ok (.getfield 21, 3) := by decide +kernel
theorem dn_Ma_31 : decode prog_5_method_1_code 31 = .ok (.getfield 25, 3) := by decide +kernel
theorem dn_Ma_34 : decode prog_5_method_1_code 34 = .ok (.putfield 29, 3) := by decide +kernel
theorem dn_Ma_37 : decode prog_5_method_1_code 37 = .ok (.aload_n 0, 1) := by decide +kernel
theorem dn_Ma_38 : decode prog_5_method_1_code 38 = .ok (.bipush 10, 2) := by decide +kernel
theorem dn_Ma_40 : decode prog_5_method_1_code 40 = .ok (.newarray .int, 2) := by decide +kernel
theorem dn_Ma_42 : decode prog_5_method_1_code 42 = .ok (.putfield 30, 3) := by decide +kernel
theorem dn_Ma_45 : decode prog_5_method_1_code 45 = .ok (.aload_n 0, 1) := by decide +kernel
theorem dn_Ma_46 : decode prog_5_method_1_code 46 = .ok (.iconst 4, 1) := by decide +kernel
theorem dn_Ma_47 : decode prog_5_method_1_code 47 = .ok (.newarray .int, 2) := by decide +kernel
theorem dn_Ma_49 : decode prog_5_method_1_code 49 = .ok (.putfield 34, 3) := by decide +kernel
theorem dn_Ma_52 : decode prog_5_method_1_code 52 = .ok (.aload_n 0, 1) := by decide +kernel
theorem dn_Ma_53 : decode prog_5_method_1_code 53 = .ok (.bipush 40, 2) := by decide +kernel
theorem dn_Ma_55 : decode prog_5_method_1_code 55 = .ok (.newarray .int, 2) := by decide +kernel
theorem dn_Ma_57 : decode prog_5_method_1_code 57 = .ok (.putfield 37, 3) := by decide +kernel
theorem dn_Ma_60 : decode prog_5_method_1_code 60 = .ok (.aload_n 0, 1) := by decide +kernel
theorem dn_Ma_61 : decode prog_5_method_1_code 61 = .ok (.sipush 1600, 3) := by decide +kernel
theorem dn_Ma_64 : decode prog_5_method_1_code 64 = .ok (.newarray .int, 2) := by decide +kernel
theorem dn_Ma_66 : decode prog_5_method_1_code 66 = .ok (.putfield 40, 3) := by decide +kernel
theorem dn_Ma_69 : decode prog_5_method_1_code 69 = .ok (.aload_n 0, 1) := by decide +kernel
theorem dn_Ma_70 : decode prog_5_method_1_code 70 = .ok (.bipush 16, 2) := by decide +kernel
theorem dn_Ma_72 : decode prog_5_method_1_code 72 = .ok (.newarray .int, 2) := by decide +kernel
theorem dn_Ma_74 : decode prog_5_method_1_code 74 = .ok (.putfield 43, 3) := by decide +kernel
theorem dn_Ma_77 : decode prog_5_method_1_code 77 = .ok (.return_, 1) := by decide +kernel
def cy_Ma : MethodName := ⟨"CheckSaver$Machine", "<init>", "()V"⟩
def cd_Ma : List Value := [.null, .null, .null, .null, .null, .null, .null, .null, cn_i0, cn_i0, cn_i0, cn_i0, cn_i0, cn_i0, cn_i0, cn_i0]
theorem cd_Ma_ok : ∀ j, j < 16 → defaultValue (ck_ty3 j) = vp_V cd_Ma j := by decide +kernel
set_option maxRecDepth 20000 in
theorem cw_Ma_code : Cond.code cy_Ma prog_5_method_1_code 1 none ∈ ck_GW := ck_gw 86 (by decide +kernel) (by decide +kernel)
set_option maxRecDepth 20000 in
theorem cw_Ma_ins : Cond.instanceMethod cy_Ma ∈ ck_GW := ck_gw 85 (by decide +kernel) (by decide +kernel)
set_option maxRecDepth 20000 in
theorem cw_Ma_ini : Cond.initialized "CheckSaver$Machine" ∈ ck_GW := ck_gw 59 (by decide +kernel) (by decide +kernel)
set_option maxRecDepth 20000 in
theorem cw_Ma_inst : Cond.instantiable "CheckSaver$Machine" 16 ∈ ck_GW := ck_gw 83 (by decide +kernel) (by decide +kernel)
set_option maxRecDepth 20000 in
theorem cw_Ma_obj : Cond.methodLink "CheckSaver$Machine" 3 Lib.objectInit ∈ ck_GW := ck_gw 87 (by decide +kernel) (by decide +kernel)
set_option maxRecDepth 20000 in
theorem cw_Ma_c9 : Cond.classLink "CheckSaver$Machine" 9 "CheckSaver$Inputs" ∈ ck_GW := ck_gw 88 (by decide +kernel) (by decide +kernel)
set_option maxRecDepth 20000 in
theorem cw_Ma_f12 : Cond.fieldLink "CheckSaver$Machine" 12 "CheckSaver$Machine" "inputs" "LCheckSaver$Inputs;" ∈ ck_GW := ck_gw 233 (by decide +kernel) (by decide +kernel)
set_option maxRecDepth 20000 in
theorem cw_Ma_c18 : Cond.classLink "CheckSaver$Machine" 18 "CheckSaver$Finder" ∈ ck_GW := ck_gw 105 (by decide +kernel) (by decide +kernel)
set_option maxRecDepth 20000 in
theorem cw_Ma_f21 : Cond.fieldLink "CheckSaver$Machine" 21 "CheckSaver$Machine" "finder" "LCheckSaver$Finder;" ∈ ck_GW := ck_gw 235 (by decide +kernel) (by decide +kernel)
set_option maxRecDepth 20000 in
theorem cw_Ma_f25 : Cond.fieldLink "CheckSaver$Machine" 25 "CheckSaver$Finder" "program" "LCheckSaver$Program;" ∈ ck_GW := ck_gw 207 (by decide +kernel) (by decide +kernel)
set_option maxRecDepth 20000 in
theorem cw_Ma_f29 : Cond.fieldLink "CheckSaver$Machine" 29 "CheckSaver$Machine" "program" "LCheckSaver$Program;" ∈ ck_GW := ck_gw 237 (by decide +kernel) (by decide +kernel)
set_option maxRecDepth 20000 in
theorem cw_Ma_f30 : Cond.fieldLink "CheckSaver$Machine" 30 "CheckSaver$Machine" "numbers" "[I" ∈ ck_GW := ck_gw 238 (by decide +kernel) (by decide +kernel)
set_option maxRecDepth 20000 in
theorem cw_Ma_f34 : Cond.fieldLink "CheckSaver$Machine" 34 "CheckSaver$Machine" "arrays" "[I" ∈ ck_GW := ck_gw 240 (by decide +kernel) (by decide +kernel)
set_option maxRecDepth 20000 in
theorem cw_Ma_f37 : Cond.fieldLink "CheckSaver$Machine" 37 "CheckSaver$Machine" "lengths" "[I" ∈ ck_GW := ck_gw 241 (by decide +kernel) (by decide +kernel)
set_option maxRecDepth 20000 in
theorem cw_Ma_f40 : Cond.fieldLink "CheckSaver$Machine" 40 "CheckSaver$Machine" "places" "[I" ∈ ck_GW := ck_gw 242 (by decide +kernel) (by decide +kernel)
set_option maxRecDepth 20000 in
theorem cw_Ma_f43 : Cond.fieldLink "CheckSaver$Machine" 43 "CheckSaver$Machine" "kept" "[I" ∈ ck_GW := ck_gw 243 (by decide +kernel) (by decide +kernel)
theorem dn_Cs_0 : decode prog_1_method_1_code 0 = .ok (.aload_n 0, 1) := by decide +kernel
theorem dn_Cs_1 : decode prog_1_method_1_code 1 = .ok (.invokespecial 1, 3) := by decide +kernel
theorem dn_Cs_4 : decode prog_1_method_1_code 4 = .ok (.aload_n 0, 1) := by decide +kernel
theorem dn_Cs_5 : decode prog_1_method_1_code 5 = .ok (.new 7, 3) := by decide +kernel
theorem dn_Cs_8 : decode prog_1_method_1_code 8 = .ok (.dup, 1) := by decide +kernel
theorem dn_Cs_9 : decode prog_1_method_1_code 9 = .ok (.invokespecial 9, 3) := by decide +kernel
theorem dn_Cs_12 : decode prog_1_method_1_code 12 = .ok (.putfield 10, 3) := by decide +kernel
theorem dn_Cs_15 : decode prog_1_method_1_code 15 = .ok (.aload_n 0, 1) := by decide +kernel
theorem dn_Cs_16 : decode prog_1_method_1_code 16 = .ok (.aload_n 0, 1) := by decide +kernel
theorem dn_Cs_17 : decode prog_1_method_1_code 17 = .ok (.getfield 10, 3) := by decide +kernel
theorem dn_Cs_20 : decode prog_1_method_1_code 20 = .ok (.getfield 16, 3) := by decide +kernel
theorem dn_Cs_23 : decode prog_1_method_1_code 23 = .ok (.putfield 20, 3) := by decide +kernel
theorem dn_Cs_26 : decode prog_1_method_1_code 26 = .ok (.aload_n 0, 1) := by decide +kernel
theorem dn_Cs_27 : decode prog_1_method_1_code 27 = .ok (.aload_n 0, 1) := by decide +kernel
theorem dn_Cs_28 : decode prog_1_method_1_code 28 = .ok (.getfield 10, 3) := by decide +kernel
theorem dn_Cs_31 : decode prog_1_method_1_code 31 = .ok (.getfield 21, 3) := by decide +kernel
theorem dn_Cs_34 : decode prog_1_method_1_code 34 = .ok (.putfield 25, 3) := by decide +kernel
theorem dn_Cs_37 : decode prog_1_method_1_code 37 = .ok (.aload_n 0, 1) := by decide +kernel
theorem dn_Cs_38 : decode prog_1_method_1_code 38 = .ok (.aload_n 0, 1) := by decide +kernel
theorem dn_Cs_39 : decode prog_1_method_1_code 39 = .ok (.getfield 25, 3) := by decide +kernel
theorem dn_Cs_42 : decode prog_1_method_1_code 42 = .ok (.getfield 26, 3) := by decide +kernel
theorem dn_Cs_45 : decode prog_1_method_1_code 45 = .ok (.putfield 32, 3) := by decide +kernel
theorem dn_Cs_48 : decode prog_1_method_1_code 48 = .ok (.return_, 1) := by decide +kernel
def cy_Cs : MethodName := ⟨"CheckSaver", "<init>", "()V"⟩
def cd_Cs : List Value := [.null, .null, .null, .null]
theorem cd_Cs_ok : ∀ j, j < 4 → defaultValue (ck_ty5 j) = vp_V cd_Cs j := by decide +kernel
set_option maxRecDepth 20000 in
theorem cw_Cs_code : Cond.code cy_Cs prog_1_method_1_code 1 none ∈ ck_GW := ck_gw 78 (by decide +kernel) (by decide +kernel)
set_option maxRecDepth 20000 in
theorem cw_Cs_ins : Cond.instanceMethod cy_Cs ∈ ck_GW := ck_gw 77 (by decide +kernel) (by decide +kernel)
set_option maxRecDepth 20000 in
theorem cw_Cs_ini : Cond.initialized "CheckSaver" ∈ ck_GW := ck_gw 58 (by decide +kernel) (by decide +kernel)
set_option maxRecDepth 20000 in
theorem cw_Cs_inst : Cond.instantiable "CheckSaver" 4 ∈ ck_GW := ck_gw 75 (by decide +kernel) (by decide +kernel)
set_option maxRecDepth 20000 in
theorem cw_Cs_obj : Cond.methodLink "CheckSaver" 1 Lib.objectInit ∈ ck_GW := ck_gw 79 (by decide +kernel) (by decide +kernel)
set_option maxRecDepth 20000 in
theorem cw_Cs_c7 : Cond.classLink "CheckSaver" 7 "CheckSaver$Machine" ∈ ck_GW := ck_gw 82 (by decide +kernel) (by decide +kernel)
set_option maxRecDepth 20000 in
theorem cw_Cs_f10 : Cond.fieldLink "CheckSaver" 10 "CheckSaver" "machine" "LCheckSaver$Machine;" ∈ ck_GW := ck_gw 287 (by decide +kernel) (by decide +kernel)
set_option maxRecDepth 20000 in
theorem cw_Cs_f16 : Cond.fieldLink "CheckSaver" 16 "CheckSaver$Machine" "inputs" "LCheckSaver$Inputs;" ∈ ck_GW := ck_gw 234 (by decide +kernel) (by decide +kernel)
set_option maxRecDepth 20000 in
theorem cw_Cs_f20 : Cond.fieldLink "CheckSaver" 20 "CheckSaver" "inputs" "LCheckSaver$Inputs;" ∈ ck_GW := ck_gw 288 (by decide +kernel) (by decide +kernel)
set_option maxRecDepth 20000 in
theorem cw_Cs_f21 : Cond.fieldLink "CheckSaver" 21 "CheckSaver$Machine" "finder" "LCheckSaver$Finder;" ∈ ck_GW := ck_gw 236 (by decide +kernel) (by decide +kernel)
set_option maxRecDepth 20000 in
theorem cw_Cs_f25 : Cond.fieldLink "CheckSaver" 25 "CheckSaver" "finder" "LCheckSaver$Finder;" ∈ ck_GW := ck_gw 289 (by decide +kernel) (by decide +kernel)
set_option maxRecDepth 20000 in
theorem cw_Cs_f26 : Cond.fieldLink "CheckSaver" 26 "CheckSaver$Finder" "program" "LCheckSaver$Program;" ∈ ck_GW := ck_gw 208 (by decide +kernel) (by decide +kernel)
set_option maxRecDepth 20000 in
theorem cw_Cs_f32 : Cond.fieldLink "CheckSaver" 32 "CheckSaver" "program" "LCheckSaver$Program;" ∈ ck_GW := ck_gw 290 (by decide +kernel) (by decide +kernel)
set_option maxRecDepth 20000 in
theorem cw_Ma_m20 : Cond.methodLink "CheckSaver$Machine" 20 cy_Fi ∈ ck_GW := ck_gw 107 (by decide +kernel) (by decide +kernel)
set_option maxHeartbeats 4000000 in
theorem cn_Ma (l : Launch) (D : va_G) (cs : ck_Cs) : cn_Met l D cs cy_Ma prog_5_method_1_code 1 3 478 7667 3 cd_Ma 1 cn_iMa := by
  refine cn_of (by decide) rfl rfl ?_
  intro p e s m below meth c0 h Cx hr hlocks hP
  have hx := Cx.1
  have hb := Cx.2.1
  have hU := Cx.2.2.2.2.2.1
  have hS : va_S (cn_B h s.heap.size) s.heap s.heap [] := va_S.rf
  have hD : va_D (cn_B h s.heap.size) [(h, (.inr (3, cd_Ma) : va_E))] := cn_D1 (Or.inl rfl)
  have hl := lv_entry ([.ref h]) (n := 1) (Nat.le_of_ble_eq_true rfl)
  show W p l e _ s m _ below meth c0 s.heap [] 0 0 _ (entryFrame m ([.ref h] : List Value).toArray 1)
  rw [lg_entry_eq]
  generalize (lg_sl ([.ref h]) ++ List.replicate (1 - (lg_sl ([.ref h])).length) Slot.unset).toArray = ls at hl ⊢
  have hl : lv_has ls 1 [(0, .ref h)] := hl
  refine lv_aload_n hx hb dn_Ma_0 rfl (lv_at hl 0 rfl) ?_
  refine cn_obj Cx cw_Ma_obj hl.1 dn_Ma_1 (by decide) (by decide) ?_
  have hts := Cx.2.2.2.2.1
  have hown := Cx.2.2.2.1
  refine lv_aload_n hx hb dn_Ma_4 rfl (lv_at hl 0 rfl) ?_
  refine cn_make (i1 := 9) (i2 := 11) (r := ("CheckSaver$Inputs", ck_T2, 3)) (ty0 := ck_ty2) Cx (cn_In l D cs) rfl ck_tyok2 cd_In_ok rfl rfl cw_In_code cw_In_ins cw_In_ini cw_Ma_c9 cw_In_inst (Or.inr (List.mem_of_getElem? (i := 1) rfl)) (by decide +kernel) ⟨by decide, by decide⟩ ⟨by decide, by decide⟩ hl.1 (show (2 : Nat) ≤ 8 by decide) hP hD hS dn_Ma_5 dn_Ma_8 dn_Ma_9 (fun ad1 H locs hP hD hS => ?_)
  refine cn_put (ci := 3) (k := 0) (ty := .object "CheckSaver$Inputs") Cx rfl rfl (by decide) rfl cw_Ma_f12 rfl (by decide +kernel) rfl rfl hP hD hS dn_Ma_12 (fun H locs hP hD hS => ?_)
  have hP : va_P D ck_cl ((h, .inr (3, [.ref (ad1 2), .null, .null, .null, .null, .null, .null, .null, cn_i0, cn_i0, cn_i0, cn_i0, cn_i0, cn_i0, cn_i0, cn_i0])) :: cn_ws cs ad1 [2, 3] : va_W) H := hP
  have hD : va_D (cn_B h s.heap.size) ((h, .inr (3, [.ref (ad1 2), .null, .null, .null, .null, .null, .null, .null, cn_i0, cn_i0, cn_i0, cn_i0, cn_i0, cn_i0, cn_i0, cn_i0])) :: cn_ws cs ad1 [2, 3] : va_W) := hD
  refine lv_aload_n hx hb dn_Ma_15 rfl (lv_at hl 0 rfl) ?_
  refine cn_make (i1 := 18) (i2 := 20) (r := ("CheckSaver$Finder", ck_T1, 7)) (ty0 := ck_ty1) Cx (cn_Fi l D cs) rfl ck_tyok1 cd_Fi_ok rfl rfl cw_Fi_code cw_Fi_ins cw_Fi_ini cw_Ma_c18 cw_Fi_inst (Or.inl cw_Ma_m20) (by decide +kernel) ⟨by decide, by decide⟩ ⟨by decide, by decide⟩ hl.1 (show (2 : Nat) ≤ 8 by decide) hP hD hS dn_Ma_16 dn_Ma_19 dn_Ma_20 (fun ad2 H locs hP hD hS => ?_)
  generalize hF : cn_ws cs ad2 cn_iFi = WF at hP hD
  have hP : va_P D ck_cl ((h, .inr (3, [.ref (ad1 2), .null, .null, .null, .null, .null, .null, .null, cn_i0, cn_i0, cn_i0, cn_i0, cn_i0, cn_i0, cn_i0, cn_i0])) :: (cn_ws cs ad1 [2, 3] ++ WF) : va_W) H := hP
  have hD : va_D (cn_B h s.heap.size) ((h, .inr (3, [.ref (ad1 2), .null, .null, .null, .null, .null, .null, .null, cn_i0, cn_i0, cn_i0, cn_i0, cn_i0, cn_i0, cn_i0, cn_i0])) :: (cn_ws cs ad1 [2, 3] ++ WF) : va_W) := hD
  refine cn_put (ci := 3) (k := 1) (ty := .object "CheckSaver$Finder") Cx rfl rfl (by decide) rfl cw_Ma_f21 rfl (by decide +kernel) rfl rfl hP hD hS dn_Ma_23 (fun H locs hP hD hS => ?_)
  have hP : va_P D ck_cl ((h, .inr (3, [.ref (ad1 2), .ref (ad2 4), .null, .null, .null, .null, .null, .null, cn_i0, cn_i0, cn_i0, cn_i0, cn_i0, cn_i0, cn_i0, cn_i0])) :: (cn_ws cs ad1 [2, 3] ++ WF) : va_W) H := hP
  have hD : va_D (cn_B h s.heap.size) ((h, .inr (3, [.ref (ad1 2), .ref (ad2 4), .null, .null, .null, .null, .null, .null, cn_i0, cn_i0, cn_i0, cn_i0, cn_i0, cn_i0, cn_i0, cn_i0])) :: (cn_ws cs ad1 [2, 3] ++ WF) : va_W) := hD
  refine lv_aload_n hx hb dn_Ma_26 rfl (lv_at hl 0 rfl) ?_
  refine lv_aload_n hx hb dn_Ma_27 rfl (lv_at hl 0 rfl) ?_
  refine va_get (D := D) (cl := ck_cl) (tys := ck_tys cs) (ci := 3) (C := "CheckSaver$Machine") (T := ck_T3) (N := 16) hx hb hts ck_in3 hown hU.1 hP 0 rfl rfl 1 (by decide) (hts _ cw_Ma_f21) (fun x h => h) (v := .ref (ad2 4)) rfl dn_Ma_28 ?_
  subst hF
  refine va_get (D := D) (cl := ck_cl) (tys := ck_tys cs) (ci := 1) (C := "CheckSaver$Finder") (T := ck_T1) (N := 7) hx hb hts ck_in1 hown hU.1 hP 3 rfl rfl 0 (by decide) (hts _ cw_Ma_f25) (fun x h => h) (v := .ref (ad2 5)) rfl dn_Ma_31 ?_
  generalize hF : cn_ws cs ad2 cn_iFi = WF at hP hD
  refine cn_put (ci := 3) (k := 2) (ty := .object "CheckSaver$Program") Cx rfl rfl (by decide) rfl cw_Ma_f29 rfl (by decide +kernel) rfl rfl hP hD hS dn_Ma_34 (fun H locs hP hD hS => ?_)
  have hP : va_P D ck_cl ((h, .inr (3, [.ref (ad1 2), .ref (ad2 4), .ref (ad2 5), .null, .null, .null, .null, .null, cn_i0, cn_i0, cn_i0, cn_i0, cn_i0, cn_i0, cn_i0, cn_i0])) :: (cn_ws cs ad1 [2, 3] ++ WF) : va_W) H := hP
  have hD : va_D (cn_B h s.heap.size) ((h, .inr (3, [.ref (ad1 2), .ref (ad2 4), .ref (ad2 5), .null, .null, .null, .null, .null, cn_i0, cn_i0, cn_i0, cn_i0, cn_i0, cn_i0, cn_i0, cn_i0])) :: (cn_ws cs ad1 [2, 3] ++ WF) : va_W) := hD
  refine lv_aload_n hx hb dn_Ma_37 rfl (lv_at hl 0 rfl) ?_
  refine lv_bipush (v := 10) hx hb dn_Ma_38 (by decide) ?_
  refine cn_arr (atype := .int) (cA := cs.1) (N := 10) Cx rfl cw_aI rfl (cn_uqI hU) (by decide) (by decide) (by decide) ⟨by decide, by decide⟩ hP hD hS dn_Ma_40 (fun q20 H hP hD hS => ?_)
  have hP : va_P D ck_cl ((h, .inr (3, [.ref (ad1 2), .ref (ad2 4), .ref (ad2 5), .null, .null, .null, .null, .null, cn_i0, cn_i0, cn_i0, cn_i0, cn_i0, cn_i0, cn_i0, cn_i0])) :: ((cn_ws cs ad1 [2, 3] ++ WF) ++ [(q20, .inl (cs.1, 10, .inl (fun _ => Int32.ofInt 0)))]) : va_W) H := hP
  have hD : va_D (cn_B h s.heap.size) ((h, .inr (3, [.ref (ad1 2), .ref (ad2 4), .ref (ad2 5), .null, .null, .null, .null, .null, cn_i0, cn_i0, cn_i0, cn_i0, cn_i0, cn_i0, cn_i0, cn_i0])) :: ((cn_ws cs ad1 [2, 3] ++ WF) ++ [(q20, .inl (cs.1, 10, .inl (fun _ => Int32.ofInt 0)))]) : va_W) := hD
  refine cn_put (ci := 3) (k := 3) (ty := .array .int) Cx rfl rfl (by decide) rfl cw_Ma_f30 rfl (by decide +kernel) rfl rfl hP hD hS dn_Ma_42 (fun H locs hP hD hS => ?_)
  have hP : va_P D ck_cl ((h, .inr (3, [.ref (ad1 2), .ref (ad2 4), .ref (ad2 5), .ref q20, .null, .null, .null, .null, cn_i0, cn_i0, cn_i0, cn_i0, cn_i0, cn_i0, cn_i0, cn_i0])) :: ((cn_ws cs ad1 [2, 3] ++ WF) ++ [(q20, .inl (cs.1, 10, .inl (fun _ => Int32.ofInt 0)))]) : va_W) H := hP
  have hD : va_D (cn_B h s.heap.size) ((h, .inr (3, [.ref (ad1 2), .ref (ad2 4), .ref (ad2 5), .ref q20, .null, .null, .null, .null, cn_i0, cn_i0, cn_i0, cn_i0, cn_i0, cn_i0, cn_i0, cn_i0])) :: ((cn_ws cs ad1 [2, 3] ++ WF) ++ [(q20, .inl (cs.1, 10, .inl (fun _ => Int32.ofInt 0)))]) : va_W) := hD
  refine lv_aload_n hx hb dn_Ma_45 rfl (lv_at hl 0 rfl) ?_
  refine lv_iconst (v := 4) hx hb dn_Ma_46 (by decide) ?_
  refine cn_arr (atype := .int) (cA := cs.1) (N := 4) Cx rfl cw_aI rfl (cn_uqI hU) (by decide) (by decide) (by decide) ⟨by decide, by decide⟩ hP hD hS dn_Ma_47 (fun q21 H hP hD hS => ?_)
  have hP : va_P D ck_cl ((h, .inr (3, [.ref (ad1 2), .ref (ad2 4), .ref (ad2 5), .ref q20, .null, .null, .null, .null, cn_i0, cn_i0, cn_i0, cn_i0, cn_i0, cn_i0, cn_i0, cn_i0])) :: (((cn_ws cs ad1 [2, 3] ++ WF) ++ [(q20, .inl (cs.1, 10, .inl (fun _ => Int32.ofInt 0)))]) ++ [(q21, .inl (cs.1, 4, .inl (fun _ => Int32.ofInt 0)))]) : va_W) H := hP
  have hD : va_D (cn_B h s.heap.size) ((h, .inr (3, [.ref (ad1 2), .ref (ad2 4), .ref (ad2 5), .ref q20, .null, .null, .null, .null, cn_i0, cn_i0, cn_i0, cn_i0, cn_i0, cn_i0, cn_i0, cn_i0])) :: (((cn_ws cs ad1 [2, 3] ++ WF) ++ [(q20, .inl (cs.1, 10, .inl (fun _ => Int32.ofInt 0)))]) ++ [(q21, .inl (cs.1, 4, .inl (fun _ => Int32.ofInt 0)))]) : va_W) := hD
  refine cn_put (ci := 3) (k := 4) (ty := .array .int) Cx rfl rfl (by decide) rfl cw_Ma_f34 rfl (by decide +kernel) rfl rfl hP hD hS dn_Ma_49 (fun H locs hP hD hS => ?_)
  have hP : va_P D ck_cl ((h, .inr (3, [.ref (ad1 2), .ref (ad2 4), .ref (ad2 5), .ref q20, .ref q21, .null, .null, .null, cn_i0, cn_i0, cn_i0, cn_i0, cn_i0, cn_i0, cn_i0, cn_i0])) :: (((cn_ws cs ad1 [2, 3] ++ WF) ++ [(q20, .inl (cs.1, 10, .inl (fun _ => Int32.ofInt 0)))]) ++ [(q21, .inl (cs.1, 4, .inl (fun _ => Int32.ofInt 0)))]) : va_W) H := hP
  have hD : va_D (cn_B h s.heap.size) ((h, .inr (3, [.ref (ad1 2), .ref (ad2 4), .ref (ad2 5), .ref q20, .ref q21, .null, .null, .null, cn_i0, cn_i0, cn_i0, cn_i0, cn_i0, cn_i0, cn_i0, cn_i0])) :: (((cn_ws cs ad1 [2, 3] ++ WF) ++ [(q20, .inl (cs.1, 10, .inl (fun _ => Int32.ofInt 0)))]) ++ [(q21, .inl (cs.1, 4, .inl (fun _ => Int32.ofInt 0)))]) : va_W) := hD
  refine lv_aload_n hx hb dn_Ma_52 rfl (lv_at hl 0 rfl) ?_
  refine lv_bipush (v := 40) hx hb dn_Ma_53 (by decide) ?_
  refine cn_arr (atype := .int) (cA := cs.1) (N := 40) Cx rfl cw_aI rfl (cn_uqI hU) (by decide) (by decide) (by decide) ⟨by decide, by decide⟩ hP hD hS dn_Ma_55 (fun q22 H hP hD hS => ?_)
  have hP : va_P D ck_cl ((h, .inr (3, [.ref (ad1 2), .ref (ad2 4), .ref (ad2 5), .ref q20, .ref q21, .null, .null, .null, cn_i0, cn_i0, cn_i0, cn_i0, cn_i0, cn_i0, cn_i0, cn_i0])) :: ((((cn_ws cs ad1 [2, 3] ++ WF) ++ [(q20, .inl (cs.1, 10, .inl (fun _ => Int32.ofInt 0)))]) ++ [(q21, .inl (cs.1, 4, .inl (fun _ => Int32.ofInt 0)))]) ++ [(q22, .inl (cs.1, 40, .inl (fun _ => Int32.ofInt 0)))]) : va_W) H := hP
  have hD : va_D (cn_B h s.heap.size) ((h, .inr (3, [.ref (ad1 2), .ref (ad2 4), .ref (ad2 5), .ref q20, .ref q21, .null, .null, .null, cn_i0, cn_i0, cn_i0, cn_i0, cn_i0, cn_i0, cn_i0, cn_i0])) :: ((((cn_ws cs ad1 [2, 3] ++ WF) ++ [(q20, .inl (cs.1, 10, .inl (fun _ => Int32.ofInt 0)))]) ++ [(q21, .inl (cs.1, 4, .inl (fun _ => Int32.ofInt 0)))]) ++ [(q22, .inl (cs.1, 40, .inl (fun _ => Int32.ofInt 0)))]) : va_W) := hD
  refine cn_put (ci := 3) (k := 5) (ty := .array .int) Cx rfl rfl (by decide) rfl cw_Ma_f37 rfl (by decide +kernel) rfl rfl hP hD hS dn_Ma_57 (fun H locs hP hD hS => ?_)
  have hP : va_P D ck_cl ((h, .inr (3, [.ref (ad1 2), .ref (ad2 4), .ref (ad2 5), .ref q20, .ref q21, .ref q22, .null, .null, cn_i0, cn_i0, cn_i0, cn_i0, cn_i0, cn_i0, cn_i0, cn_i0])) :: ((((cn_ws cs ad1 [2, 3] ++ WF) ++ [(q20, .inl (cs.1, 10, .inl (fun _ => Int32.ofInt 0)))]) ++ [(q21, .inl (cs.1, 4, .inl (fun _ => Int32.ofInt 0)))]) ++ [(q22, .inl (cs.1, 40, .inl (fun _ => Int32.ofInt 0)))]) : va_W) H := hP
  have hD : va_D (cn_B h s.heap.size) ((h, .inr (3, [.ref (ad1 2), .ref (ad2 4), .ref (ad2 5), .ref q20, .ref q21, .ref q22, .null, .null, cn_i0, cn_i0, cn_i0, cn_i0, cn_i0, cn_i0, cn_i0, cn_i0])) :: ((((cn_ws cs ad1 [2, 3] ++ WF) ++ [(q20, .inl (cs.1, 10, .inl (fun _ => Int32.ofInt 0)))]) ++ [(q21, .inl (cs.1, 4, .inl (fun _ => Int32.ofInt 0)))]) ++ [(q22, .inl (cs.1, 40, .inl (fun _ => Int32.ofInt 0)))]) : va_W) := hD
  refine lv_aload_n hx hb dn_Ma_60 rfl (lv_at hl 0 rfl) ?_
  refine lv_sipush (v := 1600) hx hb dn_Ma_61 (by decide) ?_
  refine cn_arr (atype := .int) (cA := cs.1) (N := 1600) Cx rfl cw_aI rfl (cn_uqI hU) (by decide) (by decide) (by decide) ⟨by decide, by decide⟩ hP hD hS dn_Ma_64 (fun q23 H hP hD hS => ?_)
  have hP : va_P D ck_cl ((h, .inr (3, [.ref (ad1 2), .ref (ad2 4), .ref (ad2 5), .ref q20, .ref q21, .ref q22, .null, .null, cn_i0, cn_i0, cn_i0, cn_i0, cn_i0, cn_i0, cn_i0, cn_i0])) :: (((((cn_ws cs ad1 [2, 3] ++ WF) ++ [(q20, .inl (cs.1, 10, .inl (fun _ => Int32.ofInt 0)))]) ++ [(q21, .inl (cs.1, 4, .inl (fun _ => Int32.ofInt 0)))]) ++ [(q22, .inl (cs.1, 40, .inl (fun _ => Int32.ofInt 0)))]) ++ [(q23, .inl (cs.1, 1600, .inl (fun _ => Int32.ofInt 0)))]) : va_W) H := hP
  have hD : va_D (cn_B h s.heap.size) ((h, .inr (3, [.ref (ad1 2), .ref (ad2 4), .ref (ad2 5), .ref q20, .ref q21, .ref q22, .null, .null, cn_i0, cn_i0, cn_i0, cn_i0, cn_i0, cn_i0, cn_i0, cn_i0])) :: (((((cn_ws cs ad1 [2, 3] ++ WF) ++ [(q20, .inl (cs.1, 10, .inl (fun _ => Int32.ofInt 0)))]) ++ [(q21, .inl (cs.1, 4, .inl (fun _ => Int32.ofInt 0)))]) ++ [(q22, .inl (cs.1, 40, .inl (fun _ => Int32.ofInt 0)))]) ++ [(q23, .inl (cs.1, 1600, .inl (fun _ => Int32.ofInt 0)))]) : va_W) := hD
  refine cn_put (ci := 3) (k := 6) (ty := .array .int) Cx rfl rfl (by decide) rfl cw_Ma_f40 rfl (by decide +kernel) rfl rfl hP hD hS dn_Ma_66 (fun H locs hP hD hS => ?_)
  have hP : va_P D ck_cl ((h, .inr (3, [.ref (ad1 2), .ref (ad2 4), .ref (ad2 5), .ref q20, .ref q21, .ref q22, .ref q23, .null, cn_i0, cn_i0, cn_i0, cn_i0, cn_i0, cn_i0, cn_i0, cn_i0])) :: (((((cn_ws cs ad1 [2, 3] ++ WF) ++ [(q20, .inl (cs.1, 10, .inl (fun _ => Int32.ofInt 0)))]) ++ [(q21, .inl (cs.1, 4, .inl (fun _ => Int32.ofInt 0)))]) ++ [(q22, .inl (cs.1, 40, .inl (fun _ => Int32.ofInt 0)))]) ++ [(q23, .inl (cs.1, 1600, .inl (fun _ => Int32.ofInt 0)))]) : va_W) H := hP
  have hD : va_D (cn_B h s.heap.size) ((h, .inr (3, [.ref (ad1 2), .ref (ad2 4), .ref (ad2 5), .ref q20, .ref q21, .ref q22, .ref q23, .null, cn_i0, cn_i0, cn_i0, cn_i0, cn_i0, cn_i0, cn_i0, cn_i0])) :: (((((cn_ws cs ad1 [2, 3] ++ WF) ++ [(q20, .inl (cs.1, 10, .inl (fun _ => Int32.ofInt 0)))]) ++ [(q21, .inl (cs.1, 4, .inl (fun _ => Int32.ofInt 0)))]) ++ [(q22, .inl (cs.1, 40, .inl (fun _ => Int32.ofInt 0)))]) ++ [(q23, .inl (cs.1, 1600, .inl (fun _ => Int32.ofInt 0)))]) : va_W) := hD
  refine lv_aload_n hx hb dn_Ma_69 rfl (lv_at hl 0 rfl) ?_
  refine lv_bipush (v := 16) hx hb dn_Ma_70 (by decide) ?_
  refine cn_arr (atype := .int) (cA := cs.1) (N := 16) Cx rfl cw_aI rfl (cn_uqI hU) (by decide) (by decide) (by decide) ⟨by decide, by decide⟩ hP hD hS dn_Ma_72 (fun q24 H hP hD hS => ?_)
  have hP : va_P D ck_cl ((h, .inr (3, [.ref (ad1 2), .ref (ad2 4), .ref (ad2 5), .ref q20, .ref q21, .ref q22, .ref q23, .null, cn_i0, cn_i0, cn_i0, cn_i0, cn_i0, cn_i0, cn_i0, cn_i0])) :: ((((((cn_ws cs ad1 [2, 3] ++ WF) ++ [(q20, .inl (cs.1, 10, .inl (fun _ => Int32.ofInt 0)))]) ++ [(q21, .inl (cs.1, 4, .inl (fun _ => Int32.ofInt 0)))]) ++ [(q22, .inl (cs.1, 40, .inl (fun _ => Int32.ofInt 0)))]) ++ [(q23, .inl (cs.1, 1600, .inl (fun _ => Int32.ofInt 0)))]) ++ [(q24, .inl (cs.1, 16, .inl (fun _ => Int32.ofInt 0)))]) : va_W) H := hP
  have hD : va_D (cn_B h s.heap.size) ((h, .inr (3, [.ref (ad1 2), .ref (ad2 4), .ref (ad2 5), .ref q20, .ref q21, .ref q22, .ref q23, .null, cn_i0, cn_i0, cn_i0, cn_i0, cn_i0, cn_i0, cn_i0, cn_i0])) :: ((((((cn_ws cs ad1 [2, 3] ++ WF) ++ [(q20, .inl (cs.1, 10, .inl (fun _ => Int32.ofInt 0)))]) ++ [(q21, .inl (cs.1, 4, .inl (fun _ => Int32.ofInt 0)))]) ++ [(q22, .inl (cs.1, 40, .inl (fun _ => Int32.ofInt 0)))]) ++ [(q23, .inl (cs.1, 1600, .inl (fun _ => Int32.ofInt 0)))]) ++ [(q24, .inl (cs.1, 16, .inl (fun _ => Int32.ofInt 0)))]) : va_W) := hD
  refine cn_put (ci := 3) (k := 7) (ty := .array .int) Cx rfl rfl (by decide) rfl cw_Ma_f43 rfl (by decide +kernel) rfl rfl hP hD hS dn_Ma_74 (fun H locs hP hD hS => ?_)
  have hP : va_P D ck_cl ((h, .inr (3, [.ref (ad1 2), .ref (ad2 4), .ref (ad2 5), .ref q20, .ref q21, .ref q22, .ref q23, .ref q24, cn_i0, cn_i0, cn_i0, cn_i0, cn_i0, cn_i0, cn_i0, cn_i0])) :: ((((((cn_ws cs ad1 [2, 3] ++ WF) ++ [(q20, .inl (cs.1, 10, .inl (fun _ => Int32.ofInt 0)))]) ++ [(q21, .inl (cs.1, 4, .inl (fun _ => Int32.ofInt 0)))]) ++ [(q22, .inl (cs.1, 40, .inl (fun _ => Int32.ofInt 0)))]) ++ [(q23, .inl (cs.1, 1600, .inl (fun _ => Int32.ofInt 0)))]) ++ [(q24, .inl (cs.1, 16, .inl (fun _ => Int32.ofInt 0)))]) : va_W) H := hP
  have hD : va_D (cn_B h s.heap.size) ((h, .inr (3, [.ref (ad1 2), .ref (ad2 4), .ref (ad2 5), .ref q20, .ref q21, .ref q22, .ref q23, .ref q24, cn_i0, cn_i0, cn_i0, cn_i0, cn_i0, cn_i0, cn_i0, cn_i0])) :: ((((((cn_ws cs ad1 [2, 3] ++ WF) ++ [(q20, .inl (cs.1, 10, .inl (fun _ => Int32.ofInt 0)))]) ++ [(q21, .inl (cs.1, 4, .inl (fun _ => Int32.ofInt 0)))]) ++ [(q22, .inl (cs.1, 40, .inl (fun _ => Int32.ofInt 0)))]) ++ [(q23, .inl (cs.1, 1600, .inl (fun _ => Int32.ofInt 0)))]) ++ [(q24, .inl (cs.1, 16, .inl (fun _ => Int32.ofInt 0)))]) : va_W) := hD
  have eM := cn_adM_ws cs h ad1 ad2 q20 q21 q22 q23 q24
  rw [hF] at eM
  simp only [List.append_assoc, List.cons_append, List.nil_append] at hP hD eM
  exact cn_ret (ad := cn_adM h ad1 ad2 q20 q21 q22 q23 q24) hx hb hr hlocks rfl (by rw [eM]; exact hP) (by rw [eM]; exact hD) hS (by decide) (by decide) dn_Ma_77
set_option maxHeartbeats 4000000 in
theorem cn_Cs (l : Launch) (D : va_G) (cs : ck_Cs) : cn_Met l D cs cy_Cs prog_1_method_1_code 1 4 479 7683 5 cd_Cs 0 cn_iCs := by
  refine cn_of (by decide) rfl rfl ?_
  intro p e s m below meth c0 h Cx hr hlocks hP
  have hx := Cx.1
  have hb := Cx.2.1
  have hU := Cx.2.2.2.2.2.1
  have hS : va_S (cn_B h s.heap.size) s.heap s.heap [] := va_S.rf
  have hD : va_D (cn_B h s.heap.size) [(h, (.inr (5, cd_Cs) : va_E))] := cn_D1 (Or.inl rfl)
  have hl := lv_entry ([.ref h]) (n := 1) (Nat.le_of_ble_eq_true rfl)
  show W p l e _ s m _ below meth c0 s.heap [] 0 0 _ (entryFrame m ([.ref h] : List Value).toArray 1)
  rw [lg_entry_eq]
  generalize (lg_sl ([.ref h]) ++ List.replicate (1 - (lg_sl ([.ref h])).length) Slot.unset).toArray = ls at hl ⊢
  have hl : lv_has ls 1 [(0, .ref h)] := hl
  refine lv_aload_n hx hb dn_Cs_0 rfl (lv_at hl 0 rfl) ?_
  refine cn_obj Cx cw_Cs_obj hl.1 dn_Cs_1 (by decide) (by decide) ?_
  have hts := Cx.2.2.2.2.1
  have hown := Cx.2.2.2.1
  refine lv_aload_n hx hb dn_Cs_4 rfl (lv_at hl 0 rfl) ?_
  refine cn_make (i1 := 7) (i2 := 9) (r := ("CheckSaver$Machine", ck_T3, 16)) (ty0 := ck_ty3) Cx (cn_Ma l D cs) rfl ck_tyok3 cd_Ma_ok rfl rfl cw_Ma_code cw_Ma_ins cw_Ma_ini cw_Cs_c7 cw_Ma_inst (Or.inr (List.mem_of_getElem? (i := 0) rfl)) (by decide +kernel) ⟨by decide, by decide⟩ ⟨by decide, by decide⟩ hl.1 (show (2 : Nat) ≤ 8 by decide) hP hD hS dn_Cs_5 dn_Cs_8 dn_Cs_9 (fun ad1 H locs hP hD hS => ?_)
  generalize hF : cn_ws cs ad1 cn_iMa = WF at hP hD
  have hP : va_P D ck_cl ((h, .inr (5, [.null, .null, .null, .null])) :: WF : va_W) H := hP
  have hD : va_D (cn_B h s.heap.size) ((h, .inr (5, [.null, .null, .null, .null])) :: WF : va_W) := hD
  refine cn_put (ci := 5) (k := 0) (ty := .object "CheckSaver$Machine") Cx rfl rfl (by decide) rfl cw_Cs_f10 rfl (by decide +kernel) rfl rfl hP hD hS dn_Cs_12 (fun H locs hP hD hS => ?_)
  have hP : va_P D ck_cl ((h, .inr (5, [.ref (ad1 1), .null, .null, .null])) :: WF : va_W) H := hP
  have hD : va_D (cn_B h s.heap.size) ((h, .inr (5, [.ref (ad1 1), .null, .null, .null])) :: WF : va_W) := hD
  refine lv_aload_n hx hb dn_Cs_15 rfl (lv_at hl 0 rfl) ?_
  refine lv_aload_n hx hb dn_Cs_16 rfl (lv_at hl 0 rfl) ?_
  refine va_get (D := D) (cl := ck_cl) (tys := ck_tys cs) (ci := 5) (C := "CheckSaver") (T := ck_T5) (N := 4) hx hb hts ck_in5 hown hU.1 hP 0 rfl rfl 0 (by decide) (hts _ cw_Cs_f10) (fun x h => h) (v := .ref (ad1 1)) rfl dn_Cs_17 ?_
  subst hF
  refine va_get (D := D) (cl := ck_cl) (tys := ck_tys cs) (ci := 3) (C := "CheckSaver$Machine") (T := ck_T3) (N := 16) hx hb hts ck_in3 hown hU.1 hP 1 rfl rfl 0 (by decide) (hts _ cw_Cs_f16) (fun x h => h) (v := .ref (ad1 2)) rfl dn_Cs_20 ?_
  generalize hF : cn_ws cs ad1 cn_iMa = WF at hP hD
  refine cn_put (ci := 5) (k := 1) (ty := .object "CheckSaver$Inputs") Cx rfl rfl (by decide) rfl cw_Cs_f20 rfl (by decide +kernel) rfl rfl hP hD hS dn_Cs_23 (fun H locs hP hD hS => ?_)
  have hP : va_P D ck_cl ((h, .inr (5, [.ref (ad1 1), .ref (ad1 2), .null, .null])) :: WF : va_W) H := hP
  have hD : va_D (cn_B h s.heap.size) ((h, .inr (5, [.ref (ad1 1), .ref (ad1 2), .null, .null])) :: WF : va_W) := hD
  refine lv_aload_n hx hb dn_Cs_26 rfl (lv_at hl 0 rfl) ?_
  refine lv_aload_n hx hb dn_Cs_27 rfl (lv_at hl 0 rfl) ?_
  refine va_get (D := D) (cl := ck_cl) (tys := ck_tys cs) (ci := 5) (C := "CheckSaver") (T := ck_T5) (N := 4) hx hb hts ck_in5 hown hU.1 hP 0 rfl rfl 0 (by decide) (hts _ cw_Cs_f10) (fun x h => h) (v := .ref (ad1 1)) rfl dn_Cs_28 ?_
  subst hF
  refine va_get (D := D) (cl := ck_cl) (tys := ck_tys cs) (ci := 3) (C := "CheckSaver$Machine") (T := ck_T3) (N := 16) hx hb hts ck_in3 hown hU.1 hP 1 rfl rfl 1 (by decide) (hts _ cw_Cs_f21) (fun x h => h) (v := .ref (ad1 4)) rfl dn_Cs_31 ?_
  generalize hF : cn_ws cs ad1 cn_iMa = WF at hP hD
  refine cn_put (ci := 5) (k := 2) (ty := .object "CheckSaver$Finder") Cx rfl rfl (by decide) rfl cw_Cs_f25 rfl (by decide +kernel) rfl rfl hP hD hS dn_Cs_34 (fun H locs hP hD hS => ?_)
  have hP : va_P D ck_cl ((h, .inr (5, [.ref (ad1 1), .ref (ad1 2), .ref (ad1 4), .null])) :: WF : va_W) H := hP
  have hD : va_D (cn_B h s.heap.size) ((h, .inr (5, [.ref (ad1 1), .ref (ad1 2), .ref (ad1 4), .null])) :: WF : va_W) := hD
  refine lv_aload_n hx hb dn_Cs_37 rfl (lv_at hl 0 rfl) ?_
  refine lv_aload_n hx hb dn_Cs_38 rfl (lv_at hl 0 rfl) ?_
  refine va_get (D := D) (cl := ck_cl) (tys := ck_tys cs) (ci := 5) (C := "CheckSaver") (T := ck_T5) (N := 4) hx hb hts ck_in5 hown hU.1 hP 0 rfl rfl 2 (by decide) (hts _ cw_Cs_f25) (fun x h => h) (v := .ref (ad1 4)) rfl dn_Cs_39 ?_
  subst hF
  refine va_get (D := D) (cl := ck_cl) (tys := ck_tys cs) (ci := 1) (C := "CheckSaver$Finder") (T := ck_T1) (N := 7) hx hb hts ck_in1 hown hU.1 hP 4 rfl rfl 0 (by decide) (hts _ cw_Cs_f26) (fun x h => h) (v := .ref (ad1 5)) rfl dn_Cs_42 ?_
  generalize hF : cn_ws cs ad1 cn_iMa = WF at hP hD
  refine cn_put (ci := 5) (k := 3) (ty := .object "CheckSaver$Program") Cx rfl rfl (by decide) rfl cw_Cs_f32 rfl (by decide +kernel) rfl rfl hP hD hS dn_Cs_45 (fun H locs hP hD hS => ?_)
  have hP : va_P D ck_cl ((h, .inr (5, [.ref (ad1 1), .ref (ad1 2), .ref (ad1 4), .ref (ad1 5)])) :: WF : va_W) H := hP
  have hD : va_D (cn_B h s.heap.size) ((h, .inr (5, [.ref (ad1 1), .ref (ad1 2), .ref (ad1 4), .ref (ad1 5)])) :: WF : va_W) := hD
  have eM := cn_adC_ws cs h ad1
  rw [hF] at eM
  exact cn_ret (ad := cn_adC h ad1) hx hb hr hlocks rfl (by rw [eM]; exact hP) (by rw [eM]; exact hD) hS (by decide) (by decide) dn_Cs_48
