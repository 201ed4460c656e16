/-! The thirteen cases of a turn. -/
set_option maxRecDepth 20000 in
theorem lk_ini : Cond.initialized "CheckSaverLaw" ∈ ck_GW := ck_gw 57 (by decide +kernel) (by decide +kernel)
set_option maxRecDepth 20000 in
theorem lk_Mo_put : Cond.methodLink "CheckSaverLaw" 50 (ck_mN cm_Mo_put) ∈ ck_GW := ck_gw 859 (by decide +kernel) (by decide +kernel)
set_option maxRecDepth 20000 in
theorem lk_Mo_clear : Cond.methodLink "CheckSaverLaw" 57 (ck_mN cm_Mo_clear) ∈ ck_GW := ck_gw 874 (by decide +kernel) (by decide +kernel)
set_option maxRecDepth 20000 in
theorem lk_Cs_clear : Cond.methodLink "CheckSaverLaw" 54 (ck_mN cm_Cs_clear) ∈ ck_GW := ck_gw 300 (by decide +kernel) (by decide +kernel)
set_option maxRecDepth 20000 in
theorem lk_Mo_give : Cond.methodLink "CheckSaverLaw" 61 (ck_mN cm_Mo_give) ∈ ck_GW := ck_gw 878 (by decide +kernel) (by decide +kernel)
set_option maxRecDepth 20000 in
theorem lk_Mo_start : Cond.methodLink "CheckSaverLaw" 65 (ck_mN cm_Mo_start) ∈ ck_GW := ck_gw 884 (by decide +kernel) (by decide +kernel)
set_option maxRecDepth 20000 in
theorem lk_Mo_needless : Cond.methodLink "CheckSaverLaw" 68 (ck_mN cm_Mo_needless) ∈ ck_GW := ck_gw 994 (by decide +kernel) (by decide +kernel)
set_option maxRecDepth 20000 in
theorem lk_Mo_least : Cond.methodLink "CheckSaverLaw" 72 (ck_mN cm_Mo_least) ∈ ck_GW := ck_gw 1002 (by decide +kernel) (by decide +kernel)
set_option maxRecDepth 20000 in
theorem lk_Mo_highest : Cond.methodLink "CheckSaverLaw" 76 (ck_mN cm_Mo_highest) ∈ ck_GW := ck_gw 1006 (by decide +kernel) (by decide +kernel)
set_option maxRecDepth 20000 in
theorem lk_Mo_run : Cond.methodLink "CheckSaverLaw" 79 (ck_mN cm_Mo_run) ∈ ck_GW := ck_gw 1010 (by decide +kernel) (by decide +kernel)
set_option maxRecDepth 20000 in
theorem lk_Mo_output : Cond.methodLink "CheckSaverLaw" 83 (ck_mN cm_Mo_output) ∈ ck_GW := ck_gw 1046 (by decide +kernel) (by decide +kernel)
set_option maxRecDepth 20000 in
theorem lk_Cs_output : Cond.methodLink "CheckSaverLaw" 80 (ck_mN cm_Cs_output) ∈ ck_GW := ck_gw 320 (by decide +kernel) (by decide +kernel)
set_option maxRecDepth 20000 in
theorem lk_Mo_state : Cond.methodLink "CheckSaverLaw" 87 (ck_mN cm_Mo_state) ∈ ck_GW := ck_gw 1050 (by decide +kernel) (by decide +kernel)
set_option maxRecDepth 20000 in
theorem lk_Cs_state : Cond.methodLink "CheckSaverLaw" 84 (ck_mN cm_Cs_state) ∈ ck_GW := ck_gw 333 (by decide +kernel) (by decide +kernel)
set_option maxRecDepth 20000 in
theorem lk_Mo_number : Cond.methodLink "CheckSaverLaw" 91 (ck_mN cm_Mo_number) ∈ ck_GW := ck_gw 1054 (by decide +kernel) (by decide +kernel)
set_option maxRecDepth 20000 in
theorem lk_Cs_number : Cond.methodLink "CheckSaverLaw" 88 (ck_mN cm_Cs_number) ∈ ck_GW := ck_gw 341 (by decide +kernel) (by decide +kernel)
set_option maxRecDepth 20000 in
theorem lk_Mo_length : Cond.methodLink "CheckSaverLaw" 95 (ck_mN cm_Mo_length) ∈ ck_GW := ck_gw 1058 (by decide +kernel) (by decide +kernel)
set_option maxRecDepth 20000 in
theorem lk_Cs_length : Cond.methodLink "CheckSaverLaw" 92 (ck_mN cm_Cs_length) ∈ ck_GW := ck_gw 348 (by decide +kernel) (by decide +kernel)
set_option maxRecDepth 20000 in
theorem lk_Mo_place : Cond.methodLink "CheckSaverLaw" 99 (ck_mN cm_Mo_place) ∈ ck_GW := ck_gw 1062 (by decide +kernel) (by decide +kernel)
set_option maxRecDepth 20000 in
theorem lk_Cs_place : Cond.methodLink "CheckSaverLaw" 96 (ck_mN cm_Cs_place) ∈ ck_GW := ck_gw 359 (by decide +kernel) (by decide +kernel)
set_option maxRecDepth 20000 in
theorem lk_wr_put : Cond.methodLink "CheckSaverLaw" 45 wy_put ∈ ck_GW := ck_gw 372 (by decide +kernel) (by decide +kernel)
set_option maxRecDepth 20000 in
theorem lk_wc_put : Cond.codeWith wy_put method_3_code 7 (some .int) wh_put ∈ ck_GW := ck_gw 374 (by decide +kernel) (by decide +kernel)
set_option maxRecDepth 20000 in
theorem lk_ws_put : Cond.static wy_put ∈ ck_GW := ck_gw 373 (by decide +kernel) (by decide +kernel)
set_option maxRecDepth 20000 in
theorem lk_wr_give : Cond.methodLink "CheckSaverLaw" 58 wy_give ∈ ck_GW := ck_gw 463 (by decide +kernel) (by decide +kernel)
set_option maxRecDepth 20000 in
theorem lk_wc_give : Cond.codeWith wy_give method_4_code 4 (some .int) wh_give ∈ ck_GW := ck_gw 465 (by decide +kernel) (by decide +kernel)
set_option maxRecDepth 20000 in
theorem lk_ws_give : Cond.static wy_give ∈ ck_GW := ck_gw 464 (by decide +kernel) (by decide +kernel)
set_option maxRecDepth 20000 in
theorem lk_wr_start : Cond.methodLink "CheckSaverLaw" 62 wy_start ∈ ck_GW := ck_gw 476 (by decide +kernel) (by decide +kernel)
set_option maxRecDepth 20000 in
theorem lk_wc_start : Cond.codeWith wy_start method_5_code 3 (some .int) wh_start ∈ ck_GW := ck_gw 478 (by decide +kernel) (by decide +kernel)
set_option maxRecDepth 20000 in
theorem lk_ws_start : Cond.static wy_start ∈ ck_GW := ck_gw 477 (by decide +kernel) (by decide +kernel)
set_option maxRecDepth 20000 in
theorem lk_wr_needless : Cond.methodLink "CheckSaverLaw" 66 wy_needless ∈ ck_GW := ck_gw 649 (by decide +kernel) (by decide +kernel)
set_option maxRecDepth 20000 in
theorem lk_wc_needless : Cond.codeWith wy_needless method_6_code 4 (some .int) wh_needless ∈ ck_GW := ck_gw 651 (by decide +kernel) (by decide +kernel)
set_option maxRecDepth 20000 in
theorem lk_ws_needless : Cond.static wy_needless ∈ ck_GW := ck_gw 650 (by decide +kernel) (by decide +kernel)
set_option maxRecDepth 20000 in
theorem lk_wr_least : Cond.methodLink "CheckSaverLaw" 69 wy_least ∈ ck_GW := ck_gw 679 (by decide +kernel) (by decide +kernel)
set_option maxRecDepth 20000 in
theorem lk_wc_least : Cond.codeWith wy_least method_7_code 5 (some .int) wh_least ∈ ck_GW := ck_gw 681 (by decide +kernel) (by decide +kernel)
set_option maxRecDepth 20000 in
theorem lk_ws_least : Cond.static wy_least ∈ ck_GW := ck_gw 680 (by decide +kernel) (by decide +kernel)
set_option maxRecDepth 20000 in
theorem lk_wr_highest : Cond.methodLink "CheckSaverLaw" 73 wy_highest ∈ ck_GW := ck_gw 687 (by decide +kernel) (by decide +kernel)
set_option maxRecDepth 20000 in
theorem lk_wc_highest : Cond.codeWith wy_highest method_8_code 6 (some .int) wh_highest ∈ ck_GW := ck_gw 689 (by decide +kernel) (by decide +kernel)
set_option maxRecDepth 20000 in
theorem lk_ws_highest : Cond.static wy_highest ∈ ck_GW := ck_gw 688 (by decide +kernel) (by decide +kernel)
set_option maxRecDepth 20000 in
theorem lk_wr_run : Cond.methodLink "CheckSaverLaw" 77 wy_run ∈ ck_GW := ck_gw 694 (by decide +kernel) (by decide +kernel)
set_option maxRecDepth 20000 in
theorem lk_wc_run : Cond.codeWith wy_run method_9_code 4 (some .int) wh_run ∈ ck_GW := ck_gw 696 (by decide +kernel) (by decide +kernel)
set_option maxRecDepth 20000 in
theorem lk_ws_run : Cond.static wy_run ∈ ck_GW := ck_gw 695 (by decide +kernel) (by decide +kernel)
theorem lk_wp_put : (parseMethodDescriptor wy_put.desc).map (fun d => d.parameters.length) = some 6 := by decide +kernel
theorem lk_wp_give : (parseMethodDescriptor wy_give.desc).map (fun d => d.parameters.length) = some 3 := by decide +kernel
theorem lk_wp_start : (parseMethodDescriptor wy_start.desc).map (fun d => d.parameters.length) = some 2 := by decide +kernel
theorem lk_wp_needless : (parseMethodDescriptor wy_needless.desc).map (fun d => d.parameters.length) = some 3 := by decide +kernel
theorem lk_wp_least : (parseMethodDescriptor wy_least.desc).map (fun d => d.parameters.length) = some 4 := by decide +kernel
theorem lk_wp_highest : (parseMethodDescriptor wy_highest.desc).map (fun d => d.parameters.length) = some 5 := by decide +kernel
theorem lk_wp_run : (parseMethodDescriptor wy_run.desc).map (fun d => d.parameters.length) = some 3 := by decide +kernel
section LWK
variable {p : Program} {l : Launch} {e : Env} {R : Room} {s : State} {m : MethodId} {args : Array Value} {below : List Frame} {meth : Method} {c : Code} {H : Heap} {locs : List Loc} {cells slots : Nat} {Q : State → Prop}
variable {ls : Array Slot} {D : va_G} {ad : Nat → Nat} {cs : ck_Cs} {ao b q L : Nat} {cL : ClassId} {f : Nat → Int64} {σ : ck_M} {xs : Nat → Int32} {cI : Int}
theorem lw_rg (x : Int32) : ck_rg x.toInt := ⟨Int32.le_toInt x, Int32.toInt_lt x⟩
/-- what holds at the law's loop all along -/
def lw_E (p : Program) (l : Launch) (R : Room) (s : State) (m : MethodId) (args : Array Value) (c : Code) (D : va_G) (ad : Nat → Nat) (cs : ck_Cs) (ao : Nat) (cL : ClassId) (b L : Nat) (xs : Nat → Int32) : Prop :=
  l.flags = flags0 ∧ tw_W0 s ∧ wr_D s ad ao ∧ lw_C p s m args c code 7 D ad cs ∧ va_K D ck_cl (ck_tys cs ++ [(cL, .long)]) s ∧ va_X b L xs s s.heap ∧ b < s.heap.size ∧ L ≤ 2560 ∧ 12 ≤ R.frames ∧ 422 ≤ R.locals
def lw_I (s : State) (D : va_G) (ad : Nat → Nat) (cs : ck_Cs) (ao : Nat) (cL : ClassId) (b q : Nat) (cI : Int) (H : Heap) (locs : List Loc) (ls : Array Slot) : Prop :=
  lv_has ls 7 (lw_L0 ad ao b q) ∧ va_S (fun z => s.heap.size ≤ z) s.heap H locs ∧ ∃ (f : Nat → Int64) (σ : ck_M), co_GI cI σ ∧ va_P D ck_cl (lw_ws ad cs ao cL f σ) H
theorem lw_GG : tw_G s s := ⟨State.WarmedH.refl s, fun _ _ => rfl⟩
theorem lw_hF (hwd : wr_D s ad ao) (hS : va_S (fun z => s.heap.size ≤ z) s.heap H locs) : ∀ z, ck_A ad H.size z → s.heap.size ≤ z := by
  intro z h
  rcases h with ⟨c1, hc1, rfl⟩ | h
  · exact (hwd.2.1 c1 hc1).2
  · exact Nat.le_trans hS.1 h
theorem lw_hB (hwd : wr_D s ad ao) (hS : va_S (fun z => s.heap.size ≤ z) s.heap H locs) : ∀ z, wr_B ad ao H.size z → s.heap.size ≤ z := by
  intro z h
  rcases h with rfl | h
  · exact hwd.2.2
  · exact lw_hF hwd hS z h
theorem lw_hO (hS : va_S (fun z => s.heap.size ≤ z) s.heap H locs) : ∀ z : Nat, z < s.heap.size → H[z]? = s.heap[z]? := fun z h => hS.2.1 z h (Nat.not_le.mpr h)
set_option maxHeartbeats 2000000 in
theorem lw_k_put (hE : lw_E p l R s m args c D ad cs ao cL b L xs) (hq : q + 5 ≤ L) (hc : 0 ≤ cI ∧ cI ≤ 100000000) (hcs : cells + 1 ≤ R.cells ∧ slots + 6 ≤ R.slots) (hI : lw_I s D ad cs ao cL b q cI H locs ls)
    (kk : ∀ (ls' : Array Slot) (H1 : Heap) (locs1 : List Loc), lw_I s D ad cs ao cL b q (cI + 8000) H1 locs1 ls' → W p l e R s m args below meth c H1 locs1 (cells + 1) (slots + 6) Q (F0 m 706 ls' [])) : W p l e R s m args below meth c H locs cells slots Q (F0 m 104 ls []) := by
  obtain ⟨hfl, h0, hwd, Cx, hK, hX, hbl, hL, hR1, hR2⟩ := hE
  obtain ⟨hl, hS, f, σ, hGI, hP⟩ := hI
  have hx := Cx.1
  have hb := Cx.2.1
  have hbA : ¬ s.heap.size ≤ b := Nat.not_le.mpr hbl
  refine lv_aload_n hx hb dl_104 rfl (lv_at hl 2 rfl) ?_
  refine lw_ld (k := 1) (n := 1) hx hb hX hbl hbA hS (lv_at hl 1 rfl) (lv_at hl 0 rfl) (by omega) hL (by decide) dl_105 dl_106 dl_108 dl_109 dl_110 ?_
  refine lw_ld (k := 2) (n := 2) hx hb hX hbl hbA hS (lv_at hl 1 rfl) (lv_at hl 0 rfl) (by omega) hL (by decide) dl_111 dl_112 dl_114 dl_115 dl_116 ?_
  refine lw_ld (k := 3) (n := 3) hx hb hX hbl hbA hS (lv_at hl 1 rfl) (lv_at hl 0 rfl) (by omega) hL (by decide) dl_117 dl_118 dl_120 dl_121 dl_122 ?_
  refine lw_ld (k := 4) (n := 4) hx hb hX hbl hbA hS (lv_at hl 1 rfl) (lv_at hl 0 rfl) (by omega) hL (by decide) dl_123 dl_124 dl_126 dl_127 dl_128 ?_
  refine lv_aload_n hx hb dl_129 rfl (lv_at hl 4 rfl) ?_
  obtain ⟨k, bb, σ1, σ2, Pf, hM, hcall, hth, hf, hG2⟩ := lw_st_put (l := l) (s0 := s) (D := D) (ad := ad) (cs := cs) (ao := ao) (cL := cL) (f := f) hfl h0 hwd (lw_rg (xs (q + 1))) (lw_rg (xs (q + 2))) (lw_rg (xs (q + 3))) (lw_rg (xs (q + 4))) hGI
  refine lw_wr (i := 45) Cx hM rfl lk_wc_put lk_ws_put lk_ini lk_wr_put lk_wp_put ⟨by omega, by omega⟩ hcs hK lw_GG hP (lw_hO hS) hS (lw_hB hwd hS) hl.1 (by simp [wr_vs, ck_vv, Int32_ofInt_toInt']) dl_130 (fun f' H1 locs1 hPf hP1 hz1 hun1 hS1 => ?_)
  refine lv_istore (lv' := (5, .int k) :: lw_L0 ad ao b q) hx hb dl_133 hl (by decide) rfl (fun ls1 hl1 => ?_)
  refine lv_aload_n hx hb dl_135 rfl (lv_at hl1 4 rfl) ?_
  refine lw_ld (k := 1) (n := 1) hx hb hX hbl hbA hS1 (lv_at hl1 2 rfl) (lv_at hl1 1 rfl) (by omega) hL (by decide) dl_136 dl_137 dl_139 dl_140 dl_141 ?_
  refine lw_ld (k := 2) (n := 2) hx hb hX hbl hbA hS1 (lv_at hl1 2 rfl) (lv_at hl1 1 rfl) (by omega) hL (by decide) dl_142 dl_143 dl_145 dl_146 dl_147 ?_
  refine lw_ld (k := 3) (n := 3) hx hb hX hbl hbA hS1 (lv_at hl1 2 rfl) (lv_at hl1 1 rfl) (by omega) hL (by decide) dl_148 dl_149 dl_151 dl_152 dl_153 ?_
  refine lw_ld (k := 4) (n := 4) hx hb hX hbl hbA hS1 (lv_at hl1 2 rfl) (lv_at hl1 1 rfl) (by omega) hL (by decide) dl_154 dl_155 dl_157 dl_158 dl_159 ?_
  refine lw_callI (i := 50) (as2 := [.inl (xs (q + 1)).toInt, .inl (xs (q + 2)).toInt, .inl (xs (q + 3)).toInt, .inl (xs (q + 4)).toInt]) (c0 := 480) (md := cm_Mo_put) (d := 3) (rest := []) Cx cm_in_Mo_put rfl hcall rfl (List.forall_mem_cons.mpr ⟨⟨by decide, by decide, rfl⟩, List.forall_mem_cons.mpr ⟨trivial, List.forall_mem_cons.mpr ⟨trivial, List.forall_mem_cons.mpr ⟨trivial, List.forall_mem_cons.mpr ⟨trivial, fun v hv => absurd hv List.not_mem_nil⟩⟩⟩⟩⟩) lk_Mo_put ⟨by omega, by omega⟩ hcs (lw_fst hP1) hS1 (lw_hF hwd hS1) hl1.1 (show (0 : Nat) ≤ 8 by decide) (by simp [ck_vv, Int32_ofInt_toInt']) dl_160 (fun H2 locs2 hP2 hz2 hun2 hS2 => ?_)
  exact lw_tail hwd Cx hK (lw_join hwd hP1 hP2 hun2) hS2 hl1 hth (fun z => hf z f' hPf) ⟨by omega, by omega⟩ hcs dl_163 dl_165 dl_166 dl_169 dl_171 dl_176 dl_178 dl_181 dl_182 dl_183 dl_184 dl_186 dl_187 dl_188 dl_193 (by decide) (fun ls2 H3 locs3 hl3 hP3 hS3 => kk ls2 H3 locs3 ⟨hl3, hS3, f', σ2, hG2, hP3⟩)
set_option maxHeartbeats 2000000 in
theorem lw_k_clear (hE : lw_E p l R s m args c D ad cs ao cL b L xs) (hq : q + 5 ≤ L) (hc : 0 ≤ cI ∧ cI ≤ 100000000) (hcs : cells + 1 ≤ R.cells ∧ slots + 6 ≤ R.slots) (hI : lw_I s D ad cs ao cL b q cI H locs ls)
    (kk : ∀ (ls' : Array Slot) (H1 : Heap) (locs1 : List Loc), lw_I s D ad cs ao cL b q (cI + 8000) H1 locs1 ls' → W p l e R s m args below meth c H1 locs1 (cells + 1) (slots + 6) Q (F0 m 706 ls' [])) : W p l e R s m args below meth c H locs cells slots Q (F0 m 196 ls []) := by
  obtain ⟨hfl, h0, hwd, Cx, hK, hX, hbl, hL, hR1, hR2⟩ := hE
  obtain ⟨hl, hS, f, σ, hGI, hP⟩ := hI
  have hx := Cx.1
  have hb := Cx.2.1
  have hbA : ¬ s.heap.size ≤ b := Nat.not_le.mpr hbl
  refine lv_aload_n hx hb dl_196 rfl (lv_at hl 2 rfl) ?_
  obtain ⟨a, σ1, σ2, hc1, hc2, hG2⟩ := lw_su_clear hGI
  refine lw_callI (i := 54) (as2 := []) (c0 := 0) (md := cm_Cs_clear) (d := 2) (rest := []) Cx cm_in_Cs_clear rfl hc1 rfl (List.forall_mem_cons.mpr ⟨⟨by decide, by decide, rfl⟩, fun v hv => absurd hv List.not_mem_nil⟩) lk_Cs_clear ⟨by omega, by omega⟩ ⟨by omega, by omega⟩ (lw_fst hP) hS (lw_hF hwd hS) hl.1 (show (0 : Nat) ≤ 8 by decide) (by simp [ck_vv, Int32_ofInt_toInt']) dl_197 (fun H1 locs1 hP1 hz1 hun1 hS1 => ?_)
  refine lv_aload_n hx hb dl_200 rfl (lv_at hl 3 rfl) ?_
  refine lw_callI (i := 57) (as2 := []) (c0 := 480) (md := cm_Mo_clear) (d := 1) (rest := [.int (Int32.ofInt a)]) Cx cm_in_Mo_clear rfl hc2 rfl (List.forall_mem_cons.mpr ⟨⟨by decide, by decide, rfl⟩, fun v hv => absurd hv List.not_mem_nil⟩) lk_Mo_clear ⟨by omega, by omega⟩ ⟨by omega, by omega⟩ hP1 hS1 (lw_hF hwd hS1) hl.1 (show (1 : Nat) ≤ 8 by decide) (by simp [ck_vv, Int32_ofInt_toInt']) dl_201 (fun H2 locs2 hP2 hz2 hun2 hS2 => ?_)
  exact lv_icmp_eq (tgt := 706) hx hb dl_204 (by decide) (fun _ => W.widen (by omega) (by omega) (kk ls H2 locs2 ⟨hl, hS2, f, σ2, hG2, lw_join hwd (lw_join hwd hP hP1 hun1) hP2 hun2⟩)) (fun h => absurd rfl h)
set_option maxHeartbeats 2000000 in
theorem lw_k_give (hE : lw_E p l R s m args c D ad cs ao cL b L xs) (hq : q + 5 ≤ L) (hc : 0 ≤ cI ∧ cI ≤ 100000000) (hcs : cells + 1 ≤ R.cells ∧ slots + 6 ≤ R.slots) (hI : lw_I s D ad cs ao cL b q cI H locs ls)
    (kk : ∀ (ls' : Array Slot) (H1 : Heap) (locs1 : List Loc), lw_I s D ad cs ao cL b q (cI + 8000) H1 locs1 ls' → W p l e R s m args below meth c H1 locs1 (cells + 1) (slots + 6) Q (F0 m 706 ls' [])) : W p l e R s m args below meth c H locs cells slots Q (F0 m 209 ls []) := by
  obtain ⟨hfl, h0, hwd, Cx, hK, hX, hbl, hL, hR1, hR2⟩ := hE
  obtain ⟨hl, hS, f, σ, hGI, hP⟩ := hI
  have hx := Cx.1
  have hb := Cx.2.1
  have hbA : ¬ s.heap.size ≤ b := Nat.not_le.mpr hbl
  refine lv_aload_n hx hb dl_209 rfl (lv_at hl 2 rfl) ?_
  refine lw_ld (k := 1) (n := 1) hx hb hX hbl hbA hS (lv_at hl 1 rfl) (lv_at hl 0 rfl) (by omega) hL (by decide) dl_210 dl_211 dl_213 dl_214 dl_215 ?_
  refine lv_aload_n hx hb dl_216 rfl (lv_at hl 4 rfl) ?_
  obtain ⟨k, bb, σ1, σ2, Pf, hM, hcall, hth, hf, hG2⟩ := lw_st_give (l := l) (s0 := s) (D := D) (ad := ad) (cs := cs) (ao := ao) (cL := cL) (f := f) hfl h0 hwd (lw_rg (xs (q + 1))) hGI
  refine lw_wr (i := 58) Cx hM rfl lk_wc_give lk_ws_give lk_ini lk_wr_give lk_wp_give ⟨by omega, by omega⟩ hcs hK lw_GG hP (lw_hO hS) hS (lw_hB hwd hS) hl.1 (by simp [wr_vs, ck_vv, Int32_ofInt_toInt']) dl_217 (fun f' H1 locs1 hPf hP1 hz1 hun1 hS1 => ?_)
  refine lv_istore (lv' := (5, .int k) :: lw_L0 ad ao b q) hx hb dl_220 hl (by decide) rfl (fun ls1 hl1 => ?_)
  refine lv_aload_n hx hb dl_222 rfl (lv_at hl1 4 rfl) ?_
  refine lw_ld (k := 1) (n := 1) hx hb hX hbl hbA hS1 (lv_at hl1 2 rfl) (lv_at hl1 1 rfl) (by omega) hL (by decide) dl_223 dl_224 dl_226 dl_227 dl_228 ?_
  refine lw_callI (i := 61) (as2 := [.inl (xs (q + 1)).toInt]) (c0 := 480) (md := cm_Mo_give) (d := 2) (rest := []) Cx cm_in_Mo_give rfl hcall rfl (List.forall_mem_cons.mpr ⟨⟨by decide, by decide, rfl⟩, List.forall_mem_cons.mpr ⟨trivial, fun v hv => absurd hv List.not_mem_nil⟩⟩) lk_Mo_give ⟨by omega, by omega⟩ hcs (lw_fst hP1) hS1 (lw_hF hwd hS1) hl1.1 (show (0 : Nat) ≤ 8 by decide) (by simp [ck_vv, Int32_ofInt_toInt']) dl_229 (fun H2 locs2 hP2 hz2 hun2 hS2 => ?_)
  exact lw_tail hwd Cx hK (lw_join hwd hP1 hP2 hun2) hS2 hl1 hth (fun z => hf z f' hPf) ⟨by omega, by omega⟩ hcs dl_232 dl_234 dl_235 dl_238 dl_240 dl_245 dl_247 dl_250 dl_251 dl_252 dl_253 dl_255 dl_256 dl_257 dl_262 (by decide) (fun ls2 H3 locs3 hl3 hP3 hS3 => kk ls2 H3 locs3 ⟨hl3, hS3, f', σ2, hG2, hP3⟩)
set_option maxHeartbeats 2000000 in
theorem lw_k_start (hE : lw_E p l R s m args c D ad cs ao cL b L xs) (hq : q + 5 ≤ L) (hc : 0 ≤ cI ∧ cI ≤ 100000000) (hcs : cells + 1 ≤ R.cells ∧ slots + 6 ≤ R.slots) (hI : lw_I s D ad cs ao cL b q cI H locs ls)
    (kk : ∀ (ls' : Array Slot) (H1 : Heap) (locs1 : List Loc), lw_I s D ad cs ao cL b q (cI + 8000) H1 locs1 ls' → W p l e R s m args below meth c H1 locs1 (cells + 1) (slots + 6) Q (F0 m 706 ls' [])) : W p l e R s m args below meth c H locs cells slots Q (F0 m 265 ls []) := by
  obtain ⟨hfl, h0, hwd, Cx, hK, hX, hbl, hL, hR1, hR2⟩ := hE
  obtain ⟨hl, hS, f, σ, hGI, hP⟩ := hI
  have hx := Cx.1
  have hb := Cx.2.1
  have hbA : ¬ s.heap.size ≤ b := Nat.not_le.mpr hbl
  refine lv_aload_n hx hb dl_265 rfl (lv_at hl 2 rfl) ?_
  refine lv_aload_n hx hb dl_266 rfl (lv_at hl 4 rfl) ?_
  obtain ⟨k, bb, σ1, σ2, Pf, hM, hcall, hth, hf, hG2⟩ := lw_st_start (l := l) (s0 := s) (D := D) (ad := ad) (cs := cs) (ao := ao) (cL := cL) (f := f) hfl h0 hwd hc.1 hGI
  refine lw_wr (i := 62) Cx hM rfl lk_wc_start lk_ws_start lk_ini lk_wr_start lk_wp_start ⟨by omega, by omega⟩ hcs hK lw_GG hP (lw_hO hS) hS (lw_hB hwd hS) hl.1 (by simp [wr_vs, ck_vv, Int32_ofInt_toInt']) dl_267 (fun f' H1 locs1 hPf hP1 hz1 hun1 hS1 => ?_)
  refine lv_istore (lv' := (5, .int k) :: lw_L0 ad ao b q) hx hb dl_270 hl (by decide) rfl (fun ls1 hl1 => ?_)
  refine lv_aload_n hx hb dl_272 rfl (lv_at hl1 4 rfl) ?_
  refine lw_callI (i := 65) (as2 := []) (c0 := 480) (md := cm_Mo_start) (d := 6) (rest := []) Cx cm_in_Mo_start rfl hcall rfl (List.forall_mem_cons.mpr ⟨⟨by decide, by decide, rfl⟩, fun v hv => absurd hv List.not_mem_nil⟩) lk_Mo_start ⟨by omega, by omega⟩ hcs (lw_fst hP1) hS1 (lw_hF hwd hS1) hl1.1 (show (0 : Nat) ≤ 8 by decide) (by simp [ck_vv, Int32_ofInt_toInt']) dl_273 (fun H2 locs2 hP2 hz2 hun2 hS2 => ?_)
  exact lw_tail hwd Cx hK (lw_join hwd hP1 hP2 hun2) hS2 hl1 hth (fun z => hf z f' hPf) ⟨by omega, by omega⟩ hcs dl_276 dl_278 dl_279 dl_282 dl_284 dl_289 dl_291 dl_294 dl_295 dl_296 dl_297 dl_299 dl_300 dl_301 dl_306 (by decide) (fun ls2 H3 locs3 hl3 hP3 hS3 => kk ls2 H3 locs3 ⟨hl3, hS3, f', σ2, hG2, hP3⟩)
set_option maxHeartbeats 2000000 in
theorem lw_k_needless (hE : lw_E p l R s m args c D ad cs ao cL b L xs) (hq : q + 5 ≤ L) (hc : 0 ≤ cI ∧ cI ≤ 100000000) (hcs : cells + 1 ≤ R.cells ∧ slots + 6 ≤ R.slots) (hI : lw_I s D ad cs ao cL b q cI H locs ls)
    (kk : ∀ (ls' : Array Slot) (H1 : Heap) (locs1 : List Loc), lw_I s D ad cs ao cL b q (cI + 8000) H1 locs1 ls' → W p l e R s m args below meth c H1 locs1 (cells + 1) (slots + 6) Q (F0 m 706 ls' [])) : W p l e R s m args below meth c H locs cells slots Q (F0 m 309 ls []) := by
  obtain ⟨hfl, h0, hwd, Cx, hK, hX, hbl, hL, hR1, hR2⟩ := hE
  obtain ⟨hl, hS, f, σ, hGI, hP⟩ := hI
  have hx := Cx.1
  have hb := Cx.2.1
  have hbA : ¬ s.heap.size ≤ b := Nat.not_le.mpr hbl
  refine lv_aload_n hx hb dl_309 rfl (lv_at hl 2 rfl) ?_
  refine lw_ld (k := 1) (n := 1) hx hb hX hbl hbA hS (lv_at hl 1 rfl) (lv_at hl 0 rfl) (by omega) hL (by decide) dl_310 dl_311 dl_313 dl_314 dl_315 ?_
  refine lv_aload_n hx hb dl_316 rfl (lv_at hl 4 rfl) ?_
  obtain ⟨k, bb, σ1, σ2, Pf, hM, hcall, hth, hf, hG2⟩ := lw_st_needless (l := l) (s0 := s) (D := D) (ad := ad) (cs := cs) (ao := ao) (cL := cL) (f := f) hfl h0 hwd (lw_rg (xs (q + 1))) hGI
  refine lw_wr (i := 66) Cx hM rfl lk_wc_needless lk_ws_needless lk_ini lk_wr_needless lk_wp_needless ⟨by omega, by omega⟩ hcs hK lw_GG hP (lw_hO hS) hS (lw_hB hwd hS) hl.1 (by simp [wr_vs, ck_vv, Int32_ofInt_toInt']) dl_317 (fun f' H1 locs1 hPf hP1 hz1 hun1 hS1 => ?_)
  refine lv_istore (lv' := (5, .int k) :: lw_L0 ad ao b q) hx hb dl_320 hl (by decide) rfl (fun ls1 hl1 => ?_)
  refine lv_aload_n hx hb dl_322 rfl (lv_at hl1 4 rfl) ?_
  refine lw_ld (k := 1) (n := 1) hx hb hX hbl hbA hS1 (lv_at hl1 2 rfl) (lv_at hl1 1 rfl) (by omega) hL (by decide) dl_323 dl_324 dl_326 dl_327 dl_328 ?_
  refine lw_callI (i := 68) (as2 := [.inl (xs (q + 1)).toInt]) (c0 := 480) (md := cm_Mo_needless) (d := 3) (rest := []) Cx cm_in_Mo_needless rfl hcall rfl (List.forall_mem_cons.mpr ⟨⟨by decide, by decide, rfl⟩, List.forall_mem_cons.mpr ⟨trivial, fun v hv => absurd hv List.not_mem_nil⟩⟩) lk_Mo_needless ⟨by omega, by omega⟩ hcs (lw_fst hP1) hS1 (lw_hF hwd hS1) hl1.1 (show (0 : Nat) ≤ 8 by decide) (by simp [ck_vv, Int32_ofInt_toInt']) dl_329 (fun H2 locs2 hP2 hz2 hun2 hS2 => ?_)
  exact lw_tail hwd Cx hK (lw_join hwd hP1 hP2 hun2) hS2 hl1 hth (fun z => hf z f' hPf) ⟨by omega, by omega⟩ hcs dl_332 dl_334 dl_335 dl_338 dl_340 dl_345 dl_347 dl_350 dl_351 dl_352 dl_353 dl_355 dl_356 dl_357 dl_362 (by decide) (fun ls2 H3 locs3 hl3 hP3 hS3 => kk ls2 H3 locs3 ⟨hl3, hS3, f', σ2, hG2, hP3⟩)
set_option maxHeartbeats 2000000 in
theorem lw_k_least (hE : lw_E p l R s m args c D ad cs ao cL b L xs) (hq : q + 5 ≤ L) (hc : 0 ≤ cI ∧ cI ≤ 100000000) (hcs : cells + 1 ≤ R.cells ∧ slots + 6 ≤ R.slots) (hI : lw_I s D ad cs ao cL b q cI H locs ls)
    (kk : ∀ (ls' : Array Slot) (H1 : Heap) (locs1 : List Loc), lw_I s D ad cs ao cL b q (cI + 8000) H1 locs1 ls' → W p l e R s m args below meth c H1 locs1 (cells + 1) (slots + 6) Q (F0 m 706 ls' [])) : W p l e R s m args below meth c H locs cells slots Q (F0 m 365 ls []) := by
  obtain ⟨hfl, h0, hwd, Cx, hK, hX, hbl, hL, hR1, hR2⟩ := hE
  obtain ⟨hl, hS, f, σ, hGI, hP⟩ := hI
  have hx := Cx.1
  have hb := Cx.2.1
  have hbA : ¬ s.heap.size ≤ b := Nat.not_le.mpr hbl
  refine lv_aload_n hx hb dl_365 rfl (lv_at hl 2 rfl) ?_
  refine lw_ld (k := 1) (n := 1) hx hb hX hbl hbA hS (lv_at hl 1 rfl) (lv_at hl 0 rfl) (by omega) hL (by decide) dl_366 dl_367 dl_369 dl_370 dl_371 ?_
  refine lw_ld (k := 2) (n := 2) hx hb hX hbl hbA hS (lv_at hl 1 rfl) (lv_at hl 0 rfl) (by omega) hL (by decide) dl_372 dl_373 dl_375 dl_376 dl_377 ?_
  refine lv_aload_n hx hb dl_378 rfl (lv_at hl 4 rfl) ?_
  obtain ⟨k, bb, σ1, σ2, Pf, hM, hcall, hth, hf, hG2⟩ := lw_st_least (l := l) (s0 := s) (D := D) (ad := ad) (cs := cs) (ao := ao) (cL := cL) (f := f) hfl h0 hwd (lw_rg (xs (q + 1))) (lw_rg (xs (q + 2))) hGI
  refine lw_wr (i := 69) Cx hM rfl lk_wc_least lk_ws_least lk_ini lk_wr_least lk_wp_least ⟨by omega, by omega⟩ hcs hK lw_GG hP (lw_hO hS) hS (lw_hB hwd hS) hl.1 (by simp [wr_vs, ck_vv, Int32_ofInt_toInt']) dl_379 (fun f' H1 locs1 hPf hP1 hz1 hun1 hS1 => ?_)
  refine lv_istore (lv' := (5, .int k) :: lw_L0 ad ao b q) hx hb dl_382 hl (by decide) rfl (fun ls1 hl1 => ?_)
  refine lv_aload_n hx hb dl_384 rfl (lv_at hl1 4 rfl) ?_
  refine lw_ld (k := 1) (n := 1) hx hb hX hbl hbA hS1 (lv_at hl1 2 rfl) (lv_at hl1 1 rfl) (by omega) hL (by decide) dl_385 dl_386 dl_388 dl_389 dl_390 ?_
  refine lw_ld (k := 2) (n := 2) hx hb hX hbl hbA hS1 (lv_at hl1 2 rfl) (lv_at hl1 1 rfl) (by omega) hL (by decide) dl_391 dl_392 dl_394 dl_395 dl_396 ?_
  refine lw_callI (i := 72) (as2 := [.inl (xs (q + 1)).toInt, .inl (xs (q + 2)).toInt]) (c0 := 480) (md := cm_Mo_least) (d := 3) (rest := []) Cx cm_in_Mo_least rfl hcall rfl (List.forall_mem_cons.mpr ⟨⟨by decide, by decide, rfl⟩, List.forall_mem_cons.mpr ⟨trivial, List.forall_mem_cons.mpr ⟨trivial, fun v hv => absurd hv List.not_mem_nil⟩⟩⟩) lk_Mo_least ⟨by omega, by omega⟩ hcs (lw_fst hP1) hS1 (lw_hF hwd hS1) hl1.1 (show (0 : Nat) ≤ 8 by decide) (by simp [ck_vv, Int32_ofInt_toInt']) dl_397 (fun H2 locs2 hP2 hz2 hun2 hS2 => ?_)
  exact lw_tail hwd Cx hK (lw_join hwd hP1 hP2 hun2) hS2 hl1 hth (fun z => hf z f' hPf) ⟨by omega, by omega⟩ hcs dl_400 dl_402 dl_403 dl_406 dl_408 dl_413 dl_415 dl_418 dl_419 dl_420 dl_421 dl_423 dl_424 dl_425 dl_430 (by decide) (fun ls2 H3 locs3 hl3 hP3 hS3 => kk ls2 H3 locs3 ⟨hl3, hS3, f', σ2, hG2, hP3⟩)
set_option maxHeartbeats 2000000 in
theorem lw_k_highest (hE : lw_E p l R s m args c D ad cs ao cL b L xs) (hq : q + 5 ≤ L) (hc : 0 ≤ cI ∧ cI ≤ 100000000) (hcs : cells + 1 ≤ R.cells ∧ slots + 6 ≤ R.slots) (hI : lw_I s D ad cs ao cL b q cI H locs ls)
    (kk : ∀ (ls' : Array Slot) (H1 : Heap) (locs1 : List Loc), lw_I s D ad cs ao cL b q (cI + 8000) H1 locs1 ls' → W p l e R s m args below meth c H1 locs1 (cells + 1) (slots + 6) Q (F0 m 706 ls' [])) : W p l e R s m args below meth c H locs cells slots Q (F0 m 433 ls []) := by
  obtain ⟨hfl, h0, hwd, Cx, hK, hX, hbl, hL, hR1, hR2⟩ := hE
  obtain ⟨hl, hS, f, σ, hGI, hP⟩ := hI
  have hx := Cx.1
  have hb := Cx.2.1
  have hbA : ¬ s.heap.size ≤ b := Nat.not_le.mpr hbl
  refine lv_aload_n hx hb dl_433 rfl (lv_at hl 2 rfl) ?_
  refine lw_ld (k := 1) (n := 1) hx hb hX hbl hbA hS (lv_at hl 1 rfl) (lv_at hl 0 rfl) (by omega) hL (by decide) dl_434 dl_435 dl_437 dl_438 dl_439 ?_
  refine lw_ld (k := 2) (n := 2) hx hb hX hbl hbA hS (lv_at hl 1 rfl) (lv_at hl 0 rfl) (by omega) hL (by decide) dl_440 dl_441 dl_443 dl_444 dl_445 ?_
  refine lw_ld (k := 3) (n := 3) hx hb hX hbl hbA hS (lv_at hl 1 rfl) (lv_at hl 0 rfl) (by omega) hL (by decide) dl_446 dl_447 dl_449 dl_450 dl_451 ?_
  refine lv_aload_n hx hb dl_452 rfl (lv_at hl 4 rfl) ?_
  obtain ⟨k, bb, σ1, σ2, Pf, hM, hcall, hth, hf, hG2⟩ := lw_st_highest (l := l) (s0 := s) (D := D) (ad := ad) (cs := cs) (ao := ao) (cL := cL) (f := f) hfl h0 hwd (lw_rg (xs (q + 1))) (lw_rg (xs (q + 2))) (lw_rg (xs (q + 3))) hGI
  refine lw_wr (i := 73) Cx hM rfl lk_wc_highest lk_ws_highest lk_ini lk_wr_highest lk_wp_highest ⟨by omega, by omega⟩ hcs hK lw_GG hP (lw_hO hS) hS (lw_hB hwd hS) hl.1 (by simp [wr_vs, ck_vv, Int32_ofInt_toInt']) dl_453 (fun f' H1 locs1 hPf hP1 hz1 hun1 hS1 => ?_)
  refine lv_istore (lv' := (5, .int k) :: lw_L0 ad ao b q) hx hb dl_456 hl (by decide) rfl (fun ls1 hl1 => ?_)
  refine lv_aload_n hx hb dl_458 rfl (lv_at hl1 4 rfl) ?_
  refine lw_ld (k := 1) (n := 1) hx hb hX hbl hbA hS1 (lv_at hl1 2 rfl) (lv_at hl1 1 rfl) (by omega) hL (by decide) dl_459 dl_460 dl_462 dl_463 dl_464 ?_
  refine lw_ld (k := 2) (n := 2) hx hb hX hbl hbA hS1 (lv_at hl1 2 rfl) (lv_at hl1 1 rfl) (by omega) hL (by decide) dl_465 dl_466 dl_468 dl_469 dl_470 ?_
  refine lw_ld (k := 3) (n := 3) hx hb hX hbl hbA hS1 (lv_at hl1 2 rfl) (lv_at hl1 1 rfl) (by omega) hL (by decide) dl_471 dl_472 dl_474 dl_475 dl_476 ?_
  refine lw_callI (i := 76) (as2 := [.inl (xs (q + 1)).toInt, .inl (xs (q + 2)).toInt, .inl (xs (q + 3)).toInt]) (c0 := 480) (md := cm_Mo_highest) (d := 3) (rest := []) Cx cm_in_Mo_highest rfl hcall rfl (List.forall_mem_cons.mpr ⟨⟨by decide, by decide, rfl⟩, List.forall_mem_cons.mpr ⟨trivial, List.forall_mem_cons.mpr ⟨trivial, List.forall_mem_cons.mpr ⟨trivial, fun v hv => absurd hv List.not_mem_nil⟩⟩⟩⟩) lk_Mo_highest ⟨by omega, by omega⟩ hcs (lw_fst hP1) hS1 (lw_hF hwd hS1) hl1.1 (show (0 : Nat) ≤ 8 by decide) (by simp [ck_vv, Int32_ofInt_toInt']) dl_477 (fun H2 locs2 hP2 hz2 hun2 hS2 => ?_)
  exact lw_tail hwd Cx hK (lw_join hwd hP1 hP2 hun2) hS2 hl1 hth (fun z => hf z f' hPf) ⟨by omega, by omega⟩ hcs dl_480 dl_482 dl_483 dl_486 dl_488 dl_493 dl_495 dl_498 dl_499 dl_500 dl_501 dl_503 dl_504 dl_505 dl_510 (by decide) (fun ls2 H3 locs3 hl3 hP3 hS3 => kk ls2 H3 locs3 ⟨hl3, hS3, f', σ2, hG2, hP3⟩)
set_option maxHeartbeats 2000000 in
theorem lw_k_run (hE : lw_E p l R s m args c D ad cs ao cL b L xs) (hq : q + 5 ≤ L) (hc : 0 ≤ cI ∧ cI ≤ 100000000) (hcs : cells + 1 ≤ R.cells ∧ slots + 6 ≤ R.slots) (hI : lw_I s D ad cs ao cL b q cI H locs ls)
    (kk : ∀ (ls' : Array Slot) (H1 : Heap) (locs1 : List Loc), lw_I s D ad cs ao cL b q (cI + 8000) H1 locs1 ls' → W p l e R s m args below meth c H1 locs1 (cells + 1) (slots + 6) Q (F0 m 706 ls' [])) : W p l e R s m args below meth c H locs cells slots Q (F0 m 513 ls []) := by
  obtain ⟨hfl, h0, hwd, Cx, hK, hX, hbl, hL, hR1, hR2⟩ := hE
  obtain ⟨hl, hS, f, σ, hGI, hP⟩ := hI
  have hx := Cx.1
  have hb := Cx.2.1
  have hbA : ¬ s.heap.size ≤ b := Nat.not_le.mpr hbl
  refine lv_aload_n hx hb dl_513 rfl (lv_at hl 2 rfl) ?_
  refine lw_ld (k := 1) (n := 1) hx hb hX hbl hbA hS (lv_at hl 1 rfl) (lv_at hl 0 rfl) (by omega) hL (by decide) dl_514 dl_515 dl_517 dl_518 dl_519 ?_
  refine lv_aload_n hx hb dl_520 rfl (lv_at hl 4 rfl) ?_
  obtain ⟨k, bb, σ1, σ2, Pf, hM, hcall, hth, hf, hG2⟩ := lw_st_run (l := l) (s0 := s) (D := D) (ad := ad) (cs := cs) (ao := ao) (cL := cL) (f := f) hfl h0 hwd (lw_rg (xs (q + 1))) hc.2 hGI
  refine lw_wr (i := 77) Cx hM rfl lk_wc_run lk_ws_run lk_ini lk_wr_run lk_wp_run ⟨by omega, by omega⟩ hcs hK lw_GG hP (lw_hO hS) hS (lw_hB hwd hS) hl.1 (by simp [wr_vs, ck_vv, Int32_ofInt_toInt']) dl_521 (fun f' H1 locs1 hPf hP1 hz1 hun1 hS1 => ?_)
  refine lv_istore (lv' := (5, .int k) :: lw_L0 ad ao b q) hx hb dl_524 hl (by decide) rfl (fun ls1 hl1 => ?_)
  refine lv_aload_n hx hb dl_526 rfl (lv_at hl1 4 rfl) ?_
  refine lw_ld (k := 1) (n := 1) hx hb hX hbl hbA hS1 (lv_at hl1 2 rfl) (lv_at hl1 1 rfl) (by omega) hL (by decide) dl_527 dl_528 dl_530 dl_531 dl_532 ?_
  refine lw_callI (i := 79) (as2 := [.inl (xs (q + 1)).toInt]) (c0 := 480) (md := cm_Mo_run) (d := 7) (rest := []) Cx cm_in_Mo_run rfl hcall rfl (List.forall_mem_cons.mpr ⟨⟨by decide, by decide, rfl⟩, List.forall_mem_cons.mpr ⟨trivial, fun v hv => absurd hv List.not_mem_nil⟩⟩) lk_Mo_run ⟨by omega, by omega⟩ hcs (lw_fst hP1) hS1 (lw_hF hwd hS1) hl1.1 (show (0 : Nat) ≤ 8 by decide) (by simp [ck_vv, Int32_ofInt_toInt']) dl_533 (fun H2 locs2 hP2 hz2 hun2 hS2 => ?_)
  exact lw_tail hwd Cx hK (lw_join hwd hP1 hP2 hun2) hS2 hl1 hth (fun z => hf z f' hPf) ⟨by omega, by omega⟩ hcs dl_536 dl_538 dl_539 dl_542 dl_544 dl_549 dl_551 dl_554 dl_555 dl_556 dl_557 dl_559 dl_560 dl_561 dl_566 (by decide) (fun ls2 H3 locs3 hl3 hP3 hS3 => kk ls2 H3 locs3 ⟨hl3, hS3, f', σ2, hG2, hP3⟩)
set_option maxHeartbeats 2000000 in
theorem lw_k_output (hE : lw_E p l R s m args c D ad cs ao cL b L xs) (hq : q + 5 ≤ L) (hc : 0 ≤ cI ∧ cI ≤ 100000000) (hcs : cells + 1 ≤ R.cells ∧ slots + 6 ≤ R.slots) (hI : lw_I s D ad cs ao cL b q cI H locs ls)
    (kk : ∀ (ls' : Array Slot) (H1 : Heap) (locs1 : List Loc), lw_I s D ad cs ao cL b q (cI + 8000) H1 locs1 ls' → W p l e R s m args below meth c H1 locs1 (cells + 1) (slots + 6) Q (F0 m 706 ls' [])) : W p l e R s m args below meth c H locs cells slots Q (F0 m 569 ls []) := by
  obtain ⟨hfl, h0, hwd, Cx, hK, hX, hbl, hL, hR1, hR2⟩ := hE
  obtain ⟨hl, hS, f, σ, hGI, hP⟩ := hI
  have hx := Cx.1
  have hb := Cx.2.1
  have hbA : ¬ s.heap.size ≤ b := Nat.not_le.mpr hbl
  refine lv_aload_n hx hb dl_569 rfl (lv_at hl 2 rfl) ?_
  refine lw_ld (k := 1) (n := 1) hx hb hX hbl hbA hS (lv_at hl 1 rfl) (lv_at hl 0 rfl) (by omega) hL (by decide) dl_570 dl_571 dl_573 dl_574 dl_575 ?_
  obtain ⟨a, σ1, σ2, hc1, hc2, hG2⟩ := lw_su_output (lw_rg (xs (q + 1))) (by omega) hGI
  refine lw_callI (i := 80) (as2 := [.inl (xs (q + 1)).toInt]) (c0 := 0) (md := cm_Cs_output) (d := 3) (rest := []) Cx cm_in_Cs_output rfl hc1 rfl (List.forall_mem_cons.mpr ⟨⟨by decide, by decide, rfl⟩, List.forall_mem_cons.mpr ⟨trivial, fun v hv => absurd hv List.not_mem_nil⟩⟩) lk_Cs_output ⟨by omega, by omega⟩ ⟨by omega, by omega⟩ (lw_fst hP) hS (lw_hF hwd hS) hl.1 (show (0 : Nat) ≤ 8 by decide) (by simp [ck_vv, Int32_ofInt_toInt']) dl_576 (fun H1 locs1 hP1 hz1 hun1 hS1 => ?_)
  refine lv_aload_n hx hb dl_579 rfl (lv_at hl 3 rfl) ?_
  refine lw_ld (k := 1) (n := 1) hx hb hX hbl hbA hS1 (lv_at hl 1 rfl) (lv_at hl 0 rfl) (by omega) hL (by decide) dl_580 dl_581 dl_583 dl_584 dl_585 ?_
  refine lw_callI (i := 83) (as2 := [.inl (xs (q + 1)).toInt]) (c0 := 480) (md := cm_Mo_output) (d := 2) (rest := [.int (Int32.ofInt a)]) Cx cm_in_Mo_output rfl hc2 rfl (List.forall_mem_cons.mpr ⟨⟨by decide, by decide, rfl⟩, List.forall_mem_cons.mpr ⟨trivial, fun v hv => absurd hv List.not_mem_nil⟩⟩) lk_Mo_output ⟨by omega, by omega⟩ ⟨by omega, by omega⟩ hP1 hS1 (lw_hF hwd hS1) hl.1 (show (1 : Nat) ≤ 8 by decide) (by simp [ck_vv, Int32_ofInt_toInt']) dl_586 (fun H2 locs2 hP2 hz2 hun2 hS2 => ?_)
  exact lv_icmp_eq (tgt := 706) hx hb dl_589 (by decide) (fun _ => W.widen (by omega) (by omega) (kk ls H2 locs2 ⟨hl, hS2, f, σ2, hG2, lw_join hwd (lw_join hwd hP hP1 hun1) hP2 hun2⟩)) (fun h => absurd rfl h)
set_option maxHeartbeats 2000000 in
theorem lw_k_state (hE : lw_E p l R s m args c D ad cs ao cL b L xs) (hq : q + 5 ≤ L) (hc : 0 ≤ cI ∧ cI ≤ 100000000) (hcs : cells + 1 ≤ R.cells ∧ slots + 6 ≤ R.slots) (hI : lw_I s D ad cs ao cL b q cI H locs ls)
    (kk : ∀ (ls' : Array Slot) (H1 : Heap) (locs1 : List Loc), lw_I s D ad cs ao cL b q (cI + 8000) H1 locs1 ls' → W p l e R s m args below meth c H1 locs1 (cells + 1) (slots + 6) Q (F0 m 706 ls' [])) : W p l e R s m args below meth c H locs cells slots Q (F0 m 594 ls []) := by
  obtain ⟨hfl, h0, hwd, Cx, hK, hX, hbl, hL, hR1, hR2⟩ := hE
  obtain ⟨hl, hS, f, σ, hGI, hP⟩ := hI
  have hx := Cx.1
  have hb := Cx.2.1
  have hbA : ¬ s.heap.size ≤ b := Nat.not_le.mpr hbl
  refine lv_aload_n hx hb dl_594 rfl (lv_at hl 2 rfl) ?_
  refine lw_ld (k := 1) (n := 1) hx hb hX hbl hbA hS (lv_at hl 1 rfl) (lv_at hl 0 rfl) (by omega) hL (by decide) dl_595 dl_596 dl_598 dl_599 dl_600 ?_
  obtain ⟨a, σ1, σ2, hc1, hc2, hG2⟩ := lw_su_state (lw_rg (xs (q + 1))) hGI
  refine lw_callI (i := 84) (as2 := [.inl (xs (q + 1)).toInt]) (c0 := 0) (md := cm_Cs_state) (d := 2) (rest := []) Cx cm_in_Cs_state rfl hc1 rfl (List.forall_mem_cons.mpr ⟨⟨by decide, by decide, rfl⟩, List.forall_mem_cons.mpr ⟨trivial, fun v hv => absurd hv List.not_mem_nil⟩⟩) lk_Cs_state ⟨by omega, by omega⟩ ⟨by omega, by omega⟩ (lw_fst hP) hS (lw_hF hwd hS) hl.1 (show (0 : Nat) ≤ 8 by decide) (by simp [ck_vv, Int32_ofInt_toInt']) dl_601 (fun H1 locs1 hP1 hz1 hun1 hS1 => ?_)
  refine lv_aload_n hx hb dl_604 rfl (lv_at hl 3 rfl) ?_
  refine lw_ld (k := 1) (n := 1) hx hb hX hbl hbA hS1 (lv_at hl 1 rfl) (lv_at hl 0 rfl) (by omega) hL (by decide) dl_605 dl_606 dl_608 dl_609 dl_610 ?_
  refine lw_callI (i := 87) (as2 := [.inl (xs (q + 1)).toInt]) (c0 := 480) (md := cm_Mo_state) (d := 1) (rest := [.int (Int32.ofInt a)]) Cx cm_in_Mo_state rfl hc2 rfl (List.forall_mem_cons.mpr ⟨⟨by decide, by decide, rfl⟩, List.forall_mem_cons.mpr ⟨trivial, fun v hv => absurd hv List.not_mem_nil⟩⟩) lk_Mo_state ⟨by omega, by omega⟩ ⟨by omega, by omega⟩ hP1 hS1 (lw_hF hwd hS1) hl.1 (show (1 : Nat) ≤ 8 by decide) (by simp [ck_vv, Int32_ofInt_toInt']) dl_611 (fun H2 locs2 hP2 hz2 hun2 hS2 => ?_)
  exact lv_icmp_eq (tgt := 706) hx hb dl_614 (by decide) (fun _ => W.widen (by omega) (by omega) (kk ls H2 locs2 ⟨hl, hS2, f, σ2, hG2, lw_join hwd (lw_join hwd hP hP1 hun1) hP2 hun2⟩)) (fun h => absurd rfl h)
set_option maxHeartbeats 2000000 in
theorem lw_k_number (hE : lw_E p l R s m args c D ad cs ao cL b L xs) (hq : q + 5 ≤ L) (hc : 0 ≤ cI ∧ cI ≤ 100000000) (hcs : cells + 1 ≤ R.cells ∧ slots + 6 ≤ R.slots) (hI : lw_I s D ad cs ao cL b q cI H locs ls)
    (kk : ∀ (ls' : Array Slot) (H1 : Heap) (locs1 : List Loc), lw_I s D ad cs ao cL b q (cI + 8000) H1 locs1 ls' → W p l e R s m args below meth c H1 locs1 (cells + 1) (slots + 6) Q (F0 m 706 ls' [])) : W p l e R s m args below meth c H locs cells slots Q (F0 m 619 ls []) := by
  obtain ⟨hfl, h0, hwd, Cx, hK, hX, hbl, hL, hR1, hR2⟩ := hE
  obtain ⟨hl, hS, f, σ, hGI, hP⟩ := hI
  have hx := Cx.1
  have hb := Cx.2.1
  have hbA : ¬ s.heap.size ≤ b := Nat.not_le.mpr hbl
  refine lv_aload_n hx hb dl_619 rfl (lv_at hl 2 rfl) ?_
  refine lw_ld (k := 1) (n := 1) hx hb hX hbl hbA hS (lv_at hl 1 rfl) (lv_at hl 0 rfl) (by omega) hL (by decide) dl_620 dl_621 dl_623 dl_624 dl_625 ?_
  obtain ⟨a, σ1, σ2, hc1, hc2, hG2⟩ := lw_su_number (lw_rg (xs (q + 1))) hGI
  refine lw_callI (i := 88) (as2 := [.inl (xs (q + 1)).toInt]) (c0 := 0) (md := cm_Cs_number) (d := 2) (rest := []) Cx cm_in_Cs_number rfl hc1 rfl (List.forall_mem_cons.mpr ⟨⟨by decide, by decide, rfl⟩, List.forall_mem_cons.mpr ⟨trivial, fun v hv => absurd hv List.not_mem_nil⟩⟩) lk_Cs_number ⟨by omega, by omega⟩ ⟨by omega, by omega⟩ (lw_fst hP) hS (lw_hF hwd hS) hl.1 (show (0 : Nat) ≤ 8 by decide) (by simp [ck_vv, Int32_ofInt_toInt']) dl_626 (fun H1 locs1 hP1 hz1 hun1 hS1 => ?_)
  refine lv_aload_n hx hb dl_629 rfl (lv_at hl 3 rfl) ?_
  refine lw_ld (k := 1) (n := 1) hx hb hX hbl hbA hS1 (lv_at hl 1 rfl) (lv_at hl 0 rfl) (by omega) hL (by decide) dl_630 dl_631 dl_633 dl_634 dl_635 ?_
  refine lw_callI (i := 91) (as2 := [.inl (xs (q + 1)).toInt]) (c0 := 480) (md := cm_Mo_number) (d := 2) (rest := [.int (Int32.ofInt a)]) Cx cm_in_Mo_number rfl hc2 rfl (List.forall_mem_cons.mpr ⟨⟨by decide, by decide, rfl⟩, List.forall_mem_cons.mpr ⟨trivial, fun v hv => absurd hv List.not_mem_nil⟩⟩) lk_Mo_number ⟨by omega, by omega⟩ ⟨by omega, by omega⟩ hP1 hS1 (lw_hF hwd hS1) hl.1 (show (1 : Nat) ≤ 8 by decide) (by simp [ck_vv, Int32_ofInt_toInt']) dl_636 (fun H2 locs2 hP2 hz2 hun2 hS2 => ?_)
  exact lv_icmp_eq (tgt := 706) hx hb dl_639 (by decide) (fun _ => W.widen (by omega) (by omega) (kk ls H2 locs2 ⟨hl, hS2, f, σ2, hG2, lw_join hwd (lw_join hwd hP hP1 hun1) hP2 hun2⟩)) (fun h => absurd rfl h)
set_option maxHeartbeats 2000000 in
theorem lw_k_length (hE : lw_E p l R s m args c D ad cs ao cL b L xs) (hq : q + 5 ≤ L) (hc : 0 ≤ cI ∧ cI ≤ 100000000) (hcs : cells + 1 ≤ R.cells ∧ slots + 6 ≤ R.slots) (hI : lw_I s D ad cs ao cL b q cI H locs ls)
    (kk : ∀ (ls' : Array Slot) (H1 : Heap) (locs1 : List Loc), lw_I s D ad cs ao cL b q (cI + 8000) H1 locs1 ls' → W p l e R s m args below meth c H1 locs1 (cells + 1) (slots + 6) Q (F0 m 706 ls' [])) : W p l e R s m args below meth c H locs cells slots Q (F0 m 644 ls []) := by
  obtain ⟨hfl, h0, hwd, Cx, hK, hX, hbl, hL, hR1, hR2⟩ := hE
  obtain ⟨hl, hS, f, σ, hGI, hP⟩ := hI
  have hx := Cx.1
  have hb := Cx.2.1
  have hbA : ¬ s.heap.size ≤ b := Nat.not_le.mpr hbl
  refine lv_aload_n hx hb dl_644 rfl (lv_at hl 2 rfl) ?_
  refine lw_ld (k := 1) (n := 1) hx hb hX hbl hbA hS (lv_at hl 1 rfl) (lv_at hl 0 rfl) (by omega) hL (by decide) dl_645 dl_646 dl_648 dl_649 dl_650 ?_
  obtain ⟨a, σ1, σ2, hc1, hc2, hG2⟩ := lw_su_length (lw_rg (xs (q + 1))) hGI
  refine lw_callI (i := 92) (as2 := [.inl (xs (q + 1)).toInt]) (c0 := 0) (md := cm_Cs_length) (d := 2) (rest := []) Cx cm_in_Cs_length rfl hc1 rfl (List.forall_mem_cons.mpr ⟨⟨by decide, by decide, rfl⟩, List.forall_mem_cons.mpr ⟨trivial, fun v hv => absurd hv List.not_mem_nil⟩⟩) lk_Cs_length ⟨by omega, by omega⟩ ⟨by omega, by omega⟩ (lw_fst hP) hS (lw_hF hwd hS) hl.1 (show (0 : Nat) ≤ 8 by decide) (by simp [ck_vv, Int32_ofInt_toInt']) dl_651 (fun H1 locs1 hP1 hz1 hun1 hS1 => ?_)
  refine lv_aload_n hx hb dl_654 rfl (lv_at hl 3 rfl) ?_
  refine lw_ld (k := 1) (n := 1) hx hb hX hbl hbA hS1 (lv_at hl 1 rfl) (lv_at hl 0 rfl) (by omega) hL (by decide) dl_655 dl_656 dl_658 dl_659 dl_660 ?_
  refine lw_callI (i := 95) (as2 := [.inl (xs (q + 1)).toInt]) (c0 := 480) (md := cm_Mo_length) (d := 2) (rest := [.int (Int32.ofInt a)]) Cx cm_in_Mo_length rfl hc2 rfl (List.forall_mem_cons.mpr ⟨⟨by decide, by decide, rfl⟩, List.forall_mem_cons.mpr ⟨trivial, fun v hv => absurd hv List.not_mem_nil⟩⟩) lk_Mo_length ⟨by omega, by omega⟩ ⟨by omega, by omega⟩ hP1 hS1 (lw_hF hwd hS1) hl.1 (show (1 : Nat) ≤ 8 by decide) (by simp [ck_vv, Int32_ofInt_toInt']) dl_661 (fun H2 locs2 hP2 hz2 hun2 hS2 => ?_)
  exact lv_icmp_eq (tgt := 706) hx hb dl_664 (by decide) (fun _ => W.widen (by omega) (by omega) (kk ls H2 locs2 ⟨hl, hS2, f, σ2, hG2, lw_join hwd (lw_join hwd hP hP1 hun1) hP2 hun2⟩)) (fun h => absurd rfl h)
set_option maxHeartbeats 2000000 in
theorem lw_k_place (hE : lw_E p l R s m args c D ad cs ao cL b L xs) (hq : q + 5 ≤ L) (hc : 0 ≤ cI ∧ cI ≤ 100000000) (hcs : cells + 1 ≤ R.cells ∧ slots + 6 ≤ R.slots) (hI : lw_I s D ad cs ao cL b q cI H locs ls)
    (kk : ∀ (ls' : Array Slot) (H1 : Heap) (locs1 : List Loc), lw_I s D ad cs ao cL b q (cI + 8000) H1 locs1 ls' → W p l e R s m args below meth c H1 locs1 (cells + 1) (slots + 6) Q (F0 m 706 ls' [])) : W p l e R s m args below meth c H locs cells slots Q (F0 m 669 ls []) := by
  obtain ⟨hfl, h0, hwd, Cx, hK, hX, hbl, hL, hR1, hR2⟩ := hE
  obtain ⟨hl, hS, f, σ, hGI, hP⟩ := hI
  have hx := Cx.1
  have hb := Cx.2.1
  have hbA : ¬ s.heap.size ≤ b := Nat.not_le.mpr hbl
  refine lv_aload_n hx hb dl_669 rfl (lv_at hl 2 rfl) ?_
  refine lw_ld (k := 1) (n := 1) hx hb hX hbl hbA hS (lv_at hl 1 rfl) (lv_at hl 0 rfl) (by omega) hL (by decide) dl_670 dl_671 dl_673 dl_674 dl_675 ?_
  refine lw_ld (k := 2) (n := 2) hx hb hX hbl hbA hS (lv_at hl 1 rfl) (lv_at hl 0 rfl) (by omega) hL (by decide) dl_676 dl_677 dl_679 dl_680 dl_681 ?_
  obtain ⟨a, σ1, σ2, hc1, hc2, hG2⟩ := lw_su_place (lw_rg (xs (q + 1))) (lw_rg (xs (q + 2))) hGI
  refine lw_callI (i := 96) (as2 := [.inl (xs (q + 1)).toInt, .inl (xs (q + 2)).toInt]) (c0 := 0) (md := cm_Cs_place) (d := 4) (rest := []) Cx cm_in_Cs_place rfl hc1 rfl (List.forall_mem_cons.mpr ⟨⟨by decide, by decide, rfl⟩, List.forall_mem_cons.mpr ⟨trivial, List.forall_mem_cons.mpr ⟨trivial, fun v hv => absurd hv List.not_mem_nil⟩⟩⟩) lk_Cs_place ⟨by omega, by omega⟩ ⟨by omega, by omega⟩ (lw_fst hP) hS (lw_hF hwd hS) hl.1 (show (0 : Nat) ≤ 8 by decide) (by simp [ck_vv, Int32_ofInt_toInt']) dl_682 (fun H1 locs1 hP1 hz1 hun1 hS1 => ?_)
  refine lv_aload_n hx hb dl_685 rfl (lv_at hl 3 rfl) ?_
  refine lw_ld (k := 1) (n := 1) hx hb hX hbl hbA hS1 (lv_at hl 1 rfl) (lv_at hl 0 rfl) (by omega) hL (by decide) dl_686 dl_687 dl_689 dl_690 dl_691 ?_
  refine lw_ld (k := 2) (n := 2) hx hb hX hbl hbA hS1 (lv_at hl 1 rfl) (lv_at hl 0 rfl) (by omega) hL (by decide) dl_692 dl_693 dl_695 dl_696 dl_697 ?_
  refine lw_callI (i := 99) (as2 := [.inl (xs (q + 1)).toInt, .inl (xs (q + 2)).toInt]) (c0 := 480) (md := cm_Mo_place) (d := 2) (rest := [.int (Int32.ofInt a)]) Cx cm_in_Mo_place rfl hc2 rfl (List.forall_mem_cons.mpr ⟨⟨by decide, by decide, rfl⟩, List.forall_mem_cons.mpr ⟨trivial, List.forall_mem_cons.mpr ⟨trivial, fun v hv => absurd hv List.not_mem_nil⟩⟩⟩) lk_Mo_place ⟨by omega, by omega⟩ ⟨by omega, by omega⟩ hP1 hS1 (lw_hF hwd hS1) hl.1 (show (1 : Nat) ≤ 8 by decide) (by simp [ck_vv, Int32_ofInt_toInt']) dl_698 (fun H2 locs2 hP2 hz2 hun2 hS2 => ?_)
  exact lv_icmp_eq (tgt := 706) hx hb dl_701 (by decide) (fun _ => W.widen (by omega) (by omega) (kk ls H2 locs2 ⟨hl, hS2, f, σ2, hG2, lw_join hwd (lw_join hwd hP hP1 hun1) hP2 hun2⟩)) (fun h => absurd rfl h)
end LWK
