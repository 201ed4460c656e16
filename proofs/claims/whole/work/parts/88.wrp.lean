/-! The seven. -/
theorem cm_in_Cs_put : cm_Cs_put ∈ ck_MDs := List.mem_of_getElem? (i := 18) rfl
theorem cm_in_Mo_put : cm_Mo_put ∈ ck_MDs := List.mem_of_getElem? (i := 82) rfl
theorem cm_in_Cs_clear : cm_Cs_clear ∈ ck_MDs := List.mem_of_getElem? (i := 0) rfl
theorem cm_in_Mo_clear : cm_Mo_clear ∈ ck_MDs := List.mem_of_getElem? (i := 86) rfl
theorem cm_in_Cs_give : cm_Cs_give ∈ ck_MDs := List.mem_of_getElem? (i := 24) rfl
theorem cm_in_Mo_give : cm_Mo_give ∈ ck_MDs := List.mem_of_getElem? (i := 87) rfl
theorem cm_in_Cs_start : cm_Cs_start ∈ ck_MDs := List.mem_of_getElem? (i := 26) rfl
theorem cm_in_Mo_start : cm_Mo_start ∈ ck_MDs := List.mem_of_getElem? (i := 88) rfl
theorem cm_in_Cs_needless : cm_Cs_needless ∈ ck_MDs := List.mem_of_getElem? (i := 63) rfl
theorem cm_in_Mo_needless : cm_Mo_needless ∈ ck_MDs := List.mem_of_getElem? (i := 117) rfl
theorem cm_in_Cs_least : cm_Cs_least ∈ ck_MDs := List.mem_of_getElem? (i := 66) rfl
theorem cm_in_Mo_least : cm_Mo_least ∈ ck_MDs := List.mem_of_getElem? (i := 119) rfl
theorem cm_in_Cs_highest : cm_Cs_highest ∈ ck_MDs := List.mem_of_getElem? (i := 67) rfl
theorem cm_in_Mo_highest : cm_Mo_highest ∈ ck_MDs := List.mem_of_getElem? (i := 120) rfl
theorem cm_in_Cs_run : cm_Cs_run ∈ ck_MDs := List.mem_of_getElem? (i := 68) rfl
theorem cm_in_Mo_run : cm_Mo_run ∈ ck_MDs := List.mem_of_getElem? (i := 121) rfl
theorem cm_in_Cs_output : cm_Cs_output ∈ ck_MDs := List.mem_of_getElem? (i := 5) rfl
theorem cm_in_Mo_output : cm_Mo_output ∈ ck_MDs := List.mem_of_getElem? (i := 130) rfl
theorem cm_in_Cs_state : cm_Cs_state ∈ ck_MDs := List.mem_of_getElem? (i := 8) rfl
theorem cm_in_Mo_state : cm_Mo_state ∈ ck_MDs := List.mem_of_getElem? (i := 131) rfl
theorem cm_in_Cs_number : cm_Cs_number ∈ ck_MDs := List.mem_of_getElem? (i := 10) rfl
theorem cm_in_Mo_number : cm_Mo_number ∈ ck_MDs := List.mem_of_getElem? (i := 132) rfl
theorem cm_in_Cs_length : cm_Cs_length ∈ ck_MDs := List.mem_of_getElem? (i := 12) rfl
theorem cm_in_Mo_length : cm_Mo_length ∈ ck_MDs := List.mem_of_getElem? (i := 133) rfl
theorem cm_in_Cs_place : cm_Cs_place ∈ ck_MDs := List.mem_of_getElem? (i := 15) rfl
theorem cm_in_Mo_place : cm_Mo_place ∈ ck_MDs := List.mem_of_getElem? (i := 134) rfl
theorem cm_in_Mo_thrown : cm_Mo_thrown ∈ ck_MDs := List.mem_of_getElem? (i := 81) rfl
set_option maxRecDepth 20000 in
theorem wk_c13 : Cond.classLink "CheckSaverLaw" 13 "java/lang/IllegalArgumentException" ∈ ck_GW := ck_gw 375 (by decide +kernel) (by decide +kernel)
set_option maxRecDepth 20000 in
theorem wk_c23 : Cond.classLink "CheckSaverLaw" 23 "java/lang/IllegalStateException" ∈ ck_GW := ck_gw 479 (by decide +kernel) (by decide +kernel)
set_option maxRecDepth 20000 in
theorem wk_c28 : Cond.classLink "CheckSaverLaw" 28 "java/lang/IndexOutOfBoundsException" ∈ ck_GW := ck_gw 652 (by decide +kernel) (by decide +kernel)
theorem dw_put_0 : decode method_3_code 0 = .ok (.aload 5, 2) := by decide +kernel
theorem dw_put_2 : decode method_3_code 2 = .ok (.iconst 0, 1) := by decide +kernel
theorem dw_put_3 : decode method_3_code 3 = .ok (.aload_n 0, 1) := by decide +kernel
theorem dw_put_4 : decode method_3_code 4 = .ok (.iload_n 1, 1) := by decide +kernel
theorem dw_put_5 : decode method_3_code 5 = .ok (.iload_n 2, 1) := by decide +kernel
theorem dw_put_6 : decode method_3_code 6 = .ok (.iload_n 3, 1) := by decide +kernel
theorem dw_put_7 : decode method_3_code 7 = .ok (.iload 4, 2) := by decide +kernel
theorem dw_put_9 : decode method_3_code 9 = .ok (.invokevirtual 7, 3) := by decide +kernel
theorem dw_put_12 : decode method_3_code 12 = .ok (.i2l, 1) := by decide +kernel
theorem dw_put_13 : decode method_3_code 13 = .ok (.lastore, 1) := by decide +kernel
theorem dw_put_14 : decode method_3_code 14 = .ok (.goto 7, 3) := by decide +kernel
theorem dw_put_17 : decode method_3_code 17 = .ok (.astore 6, 2) := by decide +kernel
theorem dw_put_19 : decode method_3_code 19 = .ok (.iconst 1, 1) := by decide +kernel
theorem dw_put_20 : decode method_3_code 20 = .ok (.ireturn, 1) := by decide +kernel
theorem dw_put_21 : decode method_3_code 21 = .ok (.iconst 0, 1) := by decide +kernel
theorem dw_put_22 : decode method_3_code 22 = .ok (.ireturn, 1) := by decide +kernel
def wy_put : MethodName := ⟨"CheckSaverLaw", "put", "(LCheckSaver;IIII[J)I"⟩
abbrev wh_put : List (Nat × Nat × Nat × Nat) := [(0, 14, 17, 13)]
abbrev ww_put : List Cond := wr_ws wy_put method_3_code 7 wh_put
set_option maxRecDepth 20000 in
theorem wk_put : Cond.methodLink "CheckSaverLaw" 7 (ck_mN cm_Cs_put) ∈ ck_GW := ck_gw 376 (by decide +kernel) (by decide +kernel)
theorem wr_put_0 {l : Launch} {s0 : State} {D : va_G} {ad : Nat → Nat} {cs : ck_Cs} {ao : Nat} {cL : ClassId} {f : Nat → Int64} {σ : ck_M} {σ' : ck_M} {a : Int} {t x y z : Int} (hwd : wr_D s0 ad ao) (hcall : ck_call 3 cm_Cs_put [.inr (0, 3, 5), .inl t, .inl x, .inl y, .inl z] σ (some a) σ') : wr_Met l s0 D ad cs ao cL wy_put ww_put [.inl t, .inl x, .inl y, .inl z] f σ 0 σ' (fun f' => f' 0 = (Int32.ofInt a).toInt64) := by
  refine wr_of hwd (by decide) rfl ?_
  intro p e s m below meth c Cx hr hlocks htab hP hK hG
  have hx := Cx.1
  have hb := Cx.2.1
  have hS : va_S (wr_B ad ao s.heap.size) s.heap s.heap [] := va_S.rf
  have hl := lv_entry ([.ref (ad 0), .int (Int32.ofInt t), .int (Int32.ofInt x), .int (Int32.ofInt y), .int (Int32.ofInt z), .ref ao]) (n := 7) (Nat.le_of_ble_eq_true rfl)
  show W p l e wr_rm s m _ below meth c s.heap [] 0 0 _ (entryFrame m ([.ref (ad 0), .int (Int32.ofInt t), .int (Int32.ofInt x), .int (Int32.ofInt y), .int (Int32.ofInt z), .ref ao] : List Value).toArray 7)
  rw [lg_entry_eq]
  generalize (lg_sl ([.ref (ad 0), .int (Int32.ofInt t), .int (Int32.ofInt x), .int (Int32.ofInt y), .int (Int32.ofInt z), .ref ao]) ++ List.replicate (7 - (lg_sl ([.ref (ad 0), .int (Int32.ofInt t), .int (Int32.ofInt x), .int (Int32.ofInt y), .int (Int32.ofInt z), .ref ao])).length) Slot.unset).toArray = ls at hl ⊢
  have hl : lv_has ls 7 [(0, .ref (ad 0)), (1, .int (Int32.ofInt t)), (2, .int (Int32.ofInt x)), (3, .int (Int32.ofInt y)), (4, .int (Int32.ofInt z)), (5, .ref ao)] := hl
  refine lv_aload hx hb dw_put_0 (lv_at hl 5 rfl) ?_
  refine lv_iconst (v := 0) hx hb dw_put_2 (by decide) ?_
  refine lv_aload_n hx hb dw_put_3 rfl (lv_at hl 0 rfl) ?_
  refine lv_iload_n hx hb dw_put_4 rfl (lv_at hl 1 rfl) ?_
  refine lv_iload_n hx hb dw_put_5 rfl (lv_at hl 2 rfl) ?_
  refine lv_iload_n hx hb dw_put_6 rfl (lv_at hl 3 rfl) ?_
  refine lv_iload hx hb dw_put_7 (lv_at hl 4 rfl) ?_
  refine lw_callI (as2 := [.inl t, .inl x, .inl y, .inl z]) (c0 := 0) (rest := [.int 0, .ref ao]) (md := cm_Cs_put) (d := 3) Cx cm_in_Cs_put rfl hcall rfl (List.forall_mem_cons.mpr ⟨⟨by decide, by decide, rfl⟩, List.forall_mem_cons.mpr ⟨trivial, List.forall_mem_cons.mpr ⟨trivial, List.forall_mem_cons.mpr ⟨trivial, List.forall_mem_cons.mpr ⟨trivial, fun v hv => absurd hv List.not_mem_nil⟩⟩⟩⟩⟩) wk_put ⟨by decide, by decide⟩ ⟨Nat.zero_le _, Nat.zero_le _⟩ (lw_fst hP) hS (fun q h => Or.inr h) hl.1 (show (2 : Nat) ≤ 8 by decide) rfl dw_put_9 (fun H1 locs1 hP1 _ hun hS1 => ?_)
  exact wr_fin hwd hx hb hr hlocks hK (lw_join hwd hP hP1 hun) hS1 dw_put_12 dw_put_13 dw_put_14 (by decide) dw_put_21 dw_put_22
theorem wr_put_1 {l : Launch} {s0 : State} {D : va_G} {ad : Nat → Nat} {cs : ck_Cs} {ao : Nat} {cL : ClassId} {f : Nat → Int64} {σ : ck_M} {t x y z : Int} (hfl : l.flags = flags0) (h0 : tw_W0 s0) (hwd : wr_D s0 ad ao) (hcall : tw_thw 3 cm_Cs_put [.inr (0, 3, 5), .inl t, .inl x, .inl y, .inl z] σ "java/lang/IllegalArgumentException") : wr_Met l s0 D ad cs ao cL wy_put ww_put [.inl t, .inl x, .inl y, .inl z] f σ 1 σ (fun _ => True) := by
  refine wr_of hwd (by decide) rfl ?_
  intro p e s m below meth c Cx hr hlocks htab hP hK hG
  have hx := Cx.1
  have hb := Cx.2.1
  have hS : va_S (wr_B ad ao s.heap.size) s.heap s.heap [] := va_S.rf
  have hl := lv_entry ([.ref (ad 0), .int (Int32.ofInt t), .int (Int32.ofInt x), .int (Int32.ofInt y), .int (Int32.ofInt z), .ref ao]) (n := 7) (Nat.le_of_ble_eq_true rfl)
  show W p l e wr_rm s m _ below meth c s.heap [] 0 0 _ (entryFrame m ([.ref (ad 0), .int (Int32.ofInt t), .int (Int32.ofInt x), .int (Int32.ofInt y), .int (Int32.ofInt z), .ref ao] : List Value).toArray 7)
  rw [lg_entry_eq]
  generalize (lg_sl ([.ref (ad 0), .int (Int32.ofInt t), .int (Int32.ofInt x), .int (Int32.ofInt y), .int (Int32.ofInt z), .ref ao]) ++ List.replicate (7 - (lg_sl ([.ref (ad 0), .int (Int32.ofInt t), .int (Int32.ofInt x), .int (Int32.ofInt y), .int (Int32.ofInt z), .ref ao])).length) Slot.unset).toArray = ls at hl ⊢
  have hl : lv_has ls 7 [(0, .ref (ad 0)), (1, .int (Int32.ofInt t)), (2, .int (Int32.ofInt x)), (3, .int (Int32.ofInt y)), (4, .int (Int32.ofInt z)), (5, .ref ao)] := hl
  refine lv_aload hx hb dw_put_0 (lv_at hl 5 rfl) ?_
  refine lv_iconst (v := 0) hx hb dw_put_2 (by decide) ?_
  refine lv_aload_n hx hb dw_put_3 rfl (lv_at hl 0 rfl) ?_
  refine lv_iload_n hx hb dw_put_4 rfl (lv_at hl 1 rfl) ?_
  refine lv_iload_n hx hb dw_put_5 rfl (lv_at hl 2 rfl) ?_
  refine lv_iload_n hx hb dw_put_6 rfl (lv_at hl 3 rfl) ?_
  refine lv_iload hx hb dw_put_7 (lv_at hl 4 rfl) ?_
  refine lw_thr1 (as2 := [.inl t, .inl x, .inl y, .inl z]) (c0 := 0) (rest := [.int 0, .ref ao]) (md := cm_Cs_put) (d := 3) hfl h0 hwd hG Cx cm_in_Cs_put rfl hcall rfl (List.forall_mem_cons.mpr ⟨⟨by decide, by decide, rfl⟩, List.forall_mem_cons.mpr ⟨trivial, List.forall_mem_cons.mpr ⟨trivial, List.forall_mem_cons.mpr ⟨trivial, List.forall_mem_cons.mpr ⟨trivial, fun v hv => absurd hv List.not_mem_nil⟩⟩⟩⟩⟩) wk_put ⟨by decide, by decide⟩ ⟨by decide, by decide⟩ (lw_fst hP) hG.2 hS (fun q h => Or.inr h) hl.1 (show (2 : Nat) ≤ 8 by decide) rfl dw_put_9 htab ⟨by decide, by decide⟩ (by decide) wk_c13 ⟨_, List.mem_of_getElem? (i := 0) rfl, rfl⟩ (fun q H1 locs1 hP1 _ hun hS1 => ?_)
  refine lv_astore (lv' := [(6, .ref q), (0, .ref (ad 0)), (1, .int (Int32.ofInt t)), (2, .int (Int32.ofInt x)), (3, .int (Int32.ofInt y)), (4, .int (Int32.ofInt z)), (5, .ref ao)]) hx hb dw_put_17 hl (by decide) rfl (fun ls' hl' => ?_)
  refine lv_iconst (v := 1) hx hb dw_put_19 (by decide) ?_
  exact wr_ret hx hb hr hlocks (lw_join hwd hP hP1 hun) hS1 trivial (by decide) (by decide) dw_put_20
theorem dw_give_0 : decode method_4_code 0 = .ok (.aload_n 2, 1) := by decide +kernel
theorem dw_give_1 : decode method_4_code 1 = .ok (.iconst 0, 1) := by decide +kernel
theorem dw_give_2 : decode method_4_code 2 = .ok (.aload_n 0, 1) := by decide +kernel
theorem dw_give_3 : decode method_4_code 3 = .ok (.iload_n 1, 1) := by decide +kernel
theorem dw_give_4 : decode method_4_code 4 = .ok (.invokevirtual 15, 3) := by decide +kernel
theorem dw_give_7 : decode method_4_code 7 = .ok (.i2l, 1) := by decide +kernel
theorem dw_give_8 : decode method_4_code 8 = .ok (.lastore, 1) := by decide +kernel
theorem dw_give_9 : decode method_4_code 9 = .ok (.goto 6, 3) := by decide +kernel
theorem dw_give_12 : decode method_4_code 12 = .ok (.astore_n 3, 1) := by decide +kernel
theorem dw_give_13 : decode method_4_code 13 = .ok (.iconst 1, 1) := by decide +kernel
theorem dw_give_14 : decode method_4_code 14 = .ok (.ireturn, 1) := by decide +kernel
theorem dw_give_15 : decode method_4_code 15 = .ok (.iconst 0, 1) := by decide +kernel
theorem dw_give_16 : decode method_4_code 16 = .ok (.ireturn, 1) := by decide +kernel
def wy_give : MethodName := ⟨"CheckSaverLaw", "give", "(LCheckSaver;I[J)I"⟩
abbrev wh_give : List (Nat × Nat × Nat × Nat) := [(0, 9, 12, 13)]
abbrev ww_give : List Cond := wr_ws wy_give method_4_code 4 wh_give
set_option maxRecDepth 20000 in
theorem wk_give : Cond.methodLink "CheckSaverLaw" 15 (ck_mN cm_Cs_give) ∈ ck_GW := ck_gw 466 (by decide +kernel) (by decide +kernel)
theorem wr_give_0 {l : Launch} {s0 : State} {D : va_G} {ad : Nat → Nat} {cs : ck_Cs} {ao : Nat} {cL : ClassId} {f : Nat → Int64} {σ : ck_M} {σ' : ck_M} {a : Int} {v : Int} (hwd : wr_D s0 ad ao) (hcall : ck_call 2 cm_Cs_give [.inr (0, 3, 5), .inl v] σ (some a) σ') : wr_Met l s0 D ad cs ao cL wy_give ww_give [.inl v] f σ 0 σ' (fun f' => f' 0 = (Int32.ofInt a).toInt64) := by
  refine wr_of hwd (by decide) rfl ?_
  intro p e s m below meth c Cx hr hlocks htab hP hK hG
  have hx := Cx.1
  have hb := Cx.2.1
  have hS : va_S (wr_B ad ao s.heap.size) s.heap s.heap [] := va_S.rf
  have hl := lv_entry ([.ref (ad 0), .int (Int32.ofInt v), .ref ao]) (n := 4) (Nat.le_of_ble_eq_true rfl)
  show W p l e wr_rm s m _ below meth c s.heap [] 0 0 _ (entryFrame m ([.ref (ad 0), .int (Int32.ofInt v), .ref ao] : List Value).toArray 4)
  rw [lg_entry_eq]
  generalize (lg_sl ([.ref (ad 0), .int (Int32.ofInt v), .ref ao]) ++ List.replicate (4 - (lg_sl ([.ref (ad 0), .int (Int32.ofInt v), .ref ao])).length) Slot.unset).toArray = ls at hl ⊢
  have hl : lv_has ls 4 [(0, .ref (ad 0)), (1, .int (Int32.ofInt v)), (2, .ref ao)] := hl
  refine lv_aload_n hx hb dw_give_0 rfl (lv_at hl 2 rfl) ?_
  refine lv_iconst (v := 0) hx hb dw_give_1 (by decide) ?_
  refine lv_aload_n hx hb dw_give_2 rfl (lv_at hl 0 rfl) ?_
  refine lv_iload_n hx hb dw_give_3 rfl (lv_at hl 1 rfl) ?_
  refine lw_callI (as2 := [.inl v]) (c0 := 0) (rest := [.int 0, .ref ao]) (md := cm_Cs_give) (d := 2) Cx cm_in_Cs_give rfl hcall rfl (List.forall_mem_cons.mpr ⟨⟨by decide, by decide, rfl⟩, List.forall_mem_cons.mpr ⟨trivial, fun v hv => absurd hv List.not_mem_nil⟩⟩) wk_give ⟨by decide, by decide⟩ ⟨Nat.zero_le _, Nat.zero_le _⟩ (lw_fst hP) hS (fun q h => Or.inr h) hl.1 (show (2 : Nat) ≤ 8 by decide) rfl dw_give_4 (fun H1 locs1 hP1 _ hun hS1 => ?_)
  exact wr_fin hwd hx hb hr hlocks hK (lw_join hwd hP hP1 hun) hS1 dw_give_7 dw_give_8 dw_give_9 (by decide) dw_give_15 dw_give_16
theorem wr_give_1 {l : Launch} {s0 : State} {D : va_G} {ad : Nat → Nat} {cs : ck_Cs} {ao : Nat} {cL : ClassId} {f : Nat → Int64} {σ : ck_M} {v : Int} (hfl : l.flags = flags0) (h0 : tw_W0 s0) (hwd : wr_D s0 ad ao) (hcall : tw_thw 1 cm_Cs_give [.inr (0, 3, 5), .inl v] σ "java/lang/IllegalArgumentException") : wr_Met l s0 D ad cs ao cL wy_give ww_give [.inl v] f σ 1 σ (fun _ => True) := by
  refine wr_of hwd (by decide) rfl ?_
  intro p e s m below meth c Cx hr hlocks htab hP hK hG
  have hx := Cx.1
  have hb := Cx.2.1
  have hS : va_S (wr_B ad ao s.heap.size) s.heap s.heap [] := va_S.rf
  have hl := lv_entry ([.ref (ad 0), .int (Int32.ofInt v), .ref ao]) (n := 4) (Nat.le_of_ble_eq_true rfl)
  show W p l e wr_rm s m _ below meth c s.heap [] 0 0 _ (entryFrame m ([.ref (ad 0), .int (Int32.ofInt v), .ref ao] : List Value).toArray 4)
  rw [lg_entry_eq]
  generalize (lg_sl ([.ref (ad 0), .int (Int32.ofInt v), .ref ao]) ++ List.replicate (4 - (lg_sl ([.ref (ad 0), .int (Int32.ofInt v), .ref ao])).length) Slot.unset).toArray = ls at hl ⊢
  have hl : lv_has ls 4 [(0, .ref (ad 0)), (1, .int (Int32.ofInt v)), (2, .ref ao)] := hl
  refine lv_aload_n hx hb dw_give_0 rfl (lv_at hl 2 rfl) ?_
  refine lv_iconst (v := 0) hx hb dw_give_1 (by decide) ?_
  refine lv_aload_n hx hb dw_give_2 rfl (lv_at hl 0 rfl) ?_
  refine lv_iload_n hx hb dw_give_3 rfl (lv_at hl 1 rfl) ?_
  refine lw_thr1 (as2 := [.inl v]) (c0 := 0) (rest := [.int 0, .ref ao]) (md := cm_Cs_give) (d := 1) hfl h0 hwd hG Cx cm_in_Cs_give rfl hcall rfl (List.forall_mem_cons.mpr ⟨⟨by decide, by decide, rfl⟩, List.forall_mem_cons.mpr ⟨trivial, fun v hv => absurd hv List.not_mem_nil⟩⟩) wk_give ⟨by decide, by decide⟩ ⟨by decide, by decide⟩ (lw_fst hP) hG.2 hS (fun q h => Or.inr h) hl.1 (show (2 : Nat) ≤ 8 by decide) rfl dw_give_4 htab ⟨by decide, by decide⟩ (by decide) wk_c13 ⟨_, List.mem_of_getElem? (i := 0) rfl, rfl⟩ (fun q H1 locs1 hP1 _ hun hS1 => ?_)
  refine lv_astore_n (lv' := [(3, .ref q), (0, .ref (ad 0)), (1, .int (Int32.ofInt v)), (2, .ref ao)]) hx hb dw_give_12 rfl hl (by decide) rfl (fun ls' hl' => ?_)
  refine lv_iconst (v := 1) hx hb dw_give_13 (by decide) ?_
  exact wr_ret hx hb hr hlocks (lw_join hwd hP hP1 hun) hS1 trivial (by decide) (by decide) dw_give_14
theorem dw_start_0 : decode method_5_code 0 = .ok (.aload_n 1, 1) := by decide +kernel
theorem dw_start_1 : decode method_5_code 1 = .ok (.iconst 0, 1) := by decide +kernel
theorem dw_start_2 : decode method_5_code 2 = .ok (.aload_n 0, 1) := by decide +kernel
theorem dw_start_3 : decode method_5_code 3 = .ok (.invokevirtual 19, 3) := by decide +kernel
theorem dw_start_6 : decode method_5_code 6 = .ok (.i2l, 1) := by decide +kernel
theorem dw_start_7 : decode method_5_code 7 = .ok (.lastore, 1) := by decide +kernel
theorem dw_start_8 : decode method_5_code 8 = .ok (.goto 6, 3) := by decide +kernel
theorem dw_start_11 : decode method_5_code 11 = .ok (.astore_n 2, 1) := by decide +kernel
theorem dw_start_12 : decode method_5_code 12 = .ok (.iconst 1, 1) := by decide +kernel
theorem dw_start_13 : decode method_5_code 13 = .ok (.ireturn, 1) := by decide +kernel
theorem dw_start_14 : decode method_5_code 14 = .ok (.iconst 0, 1) := by decide +kernel
theorem dw_start_15 : decode method_5_code 15 = .ok (.ireturn, 1) := by decide +kernel
def wy_start : MethodName := ⟨"CheckSaverLaw", "start", "(LCheckSaver;[J)I"⟩
abbrev wh_start : List (Nat × Nat × Nat × Nat) := [(0, 8, 11, 23)]
abbrev ww_start : List Cond := wr_ws wy_start method_5_code 3 wh_start
set_option maxRecDepth 20000 in
theorem wk_start : Cond.methodLink "CheckSaverLaw" 19 (ck_mN cm_Cs_start) ∈ ck_GW := ck_gw 480 (by decide +kernel) (by decide +kernel)
theorem wr_start_0 {l : Launch} {s0 : State} {D : va_G} {ad : Nat → Nat} {cs : ck_Cs} {ao : Nat} {cL : ClassId} {f : Nat → Int64} {σ : ck_M} {σ' : ck_M} {a : Int} (hwd : wr_D s0 ad ao) (hcall : ck_call 8 cm_Cs_start [.inr (0, 3, 5)] σ (some a) σ') : wr_Met l s0 D ad cs ao cL wy_start ww_start [] f σ 0 σ' (fun f' => f' 0 = (Int32.ofInt a).toInt64) := by
  refine wr_of hwd (by decide) rfl ?_
  intro p e s m below meth c Cx hr hlocks htab hP hK hG
  have hx := Cx.1
  have hb := Cx.2.1
  have hS : va_S (wr_B ad ao s.heap.size) s.heap s.heap [] := va_S.rf
  have hl := lv_entry ([.ref (ad 0), .ref ao]) (n := 3) (Nat.le_of_ble_eq_true rfl)
  show W p l e wr_rm s m _ below meth c s.heap [] 0 0 _ (entryFrame m ([.ref (ad 0), .ref ao] : List Value).toArray 3)
  rw [lg_entry_eq]
  generalize (lg_sl ([.ref (ad 0), .ref ao]) ++ List.replicate (3 - (lg_sl ([.ref (ad 0), .ref ao])).length) Slot.unset).toArray = ls at hl ⊢
  have hl : lv_has ls 3 [(0, .ref (ad 0)), (1, .ref ao)] := hl
  refine lv_aload_n hx hb dw_start_0 rfl (lv_at hl 1 rfl) ?_
  refine lv_iconst (v := 0) hx hb dw_start_1 (by decide) ?_
  refine lv_aload_n hx hb dw_start_2 rfl (lv_at hl 0 rfl) ?_
  refine lw_callI (as2 := []) (c0 := 0) (rest := [.int 0, .ref ao]) (md := cm_Cs_start) (d := 8) Cx cm_in_Cs_start rfl hcall rfl (List.forall_mem_cons.mpr ⟨⟨by decide, by decide, rfl⟩, fun v hv => absurd hv List.not_mem_nil⟩) wk_start ⟨by decide, by decide⟩ ⟨Nat.zero_le _, Nat.zero_le _⟩ (lw_fst hP) hS (fun q h => Or.inr h) hl.1 (show (2 : Nat) ≤ 8 by decide) rfl dw_start_3 (fun H1 locs1 hP1 _ hun hS1 => ?_)
  exact wr_fin hwd hx hb hr hlocks hK (lw_join hwd hP hP1 hun) hS1 dw_start_6 dw_start_7 dw_start_8 (by decide) dw_start_14 dw_start_15
theorem wr_start_1 {l : Launch} {s0 : State} {D : va_G} {ad : Nat → Nat} {cs : ck_Cs} {ao : Nat} {cL : ClassId} {f : Nat → Int64} {σ : ck_M} (hfl : l.flags = flags0) (h0 : tw_W0 s0) (hwd : wr_D s0 ad ao) (hcall : tw_thw 1 cm_Cs_start [.inr (0, 3, 5)] σ "java/lang/IllegalStateException") : wr_Met l s0 D ad cs ao cL wy_start ww_start [] f σ 1 σ (fun _ => True) := by
  refine wr_of hwd (by decide) rfl ?_
  intro p e s m below meth c Cx hr hlocks htab hP hK hG
  have hx := Cx.1
  have hb := Cx.2.1
  have hS : va_S (wr_B ad ao s.heap.size) s.heap s.heap [] := va_S.rf
  have hl := lv_entry ([.ref (ad 0), .ref ao]) (n := 3) (Nat.le_of_ble_eq_true rfl)
  show W p l e wr_rm s m _ below meth c s.heap [] 0 0 _ (entryFrame m ([.ref (ad 0), .ref ao] : List Value).toArray 3)
  rw [lg_entry_eq]
  generalize (lg_sl ([.ref (ad 0), .ref ao]) ++ List.replicate (3 - (lg_sl ([.ref (ad 0), .ref ao])).length) Slot.unset).toArray = ls at hl ⊢
  have hl : lv_has ls 3 [(0, .ref (ad 0)), (1, .ref ao)] := hl
  refine lv_aload_n hx hb dw_start_0 rfl (lv_at hl 1 rfl) ?_
  refine lv_iconst (v := 0) hx hb dw_start_1 (by decide) ?_
  refine lv_aload_n hx hb dw_start_2 rfl (lv_at hl 0 rfl) ?_
  refine lw_thr1 (as2 := []) (c0 := 0) (rest := [.int 0, .ref ao]) (md := cm_Cs_start) (d := 1) hfl h0 hwd hG Cx cm_in_Cs_start rfl hcall rfl (List.forall_mem_cons.mpr ⟨⟨by decide, by decide, rfl⟩, fun v hv => absurd hv List.not_mem_nil⟩) wk_start ⟨by decide, by decide⟩ ⟨by decide, by decide⟩ (lw_fst hP) hG.2 hS (fun q h => Or.inr h) hl.1 (show (2 : Nat) ≤ 8 by decide) rfl dw_start_3 htab ⟨by decide, by decide⟩ (by decide) wk_c23 ⟨_, List.mem_of_getElem? (i := 1) rfl, rfl⟩ (fun q H1 locs1 hP1 _ hun hS1 => ?_)
  refine lv_astore_n (lv' := [(2, .ref q), (0, .ref (ad 0)), (1, .ref ao)]) hx hb dw_start_11 rfl hl (by decide) rfl (fun ls' hl' => ?_)
  refine lv_iconst (v := 1) hx hb dw_start_12 (by decide) ?_
  exact wr_ret hx hb hr hlocks (lw_join hwd hP hP1 hun) hS1 trivial (by decide) (by decide) dw_start_13
theorem dw_needless_0 : decode method_6_code 0 = .ok (.aload_n 2, 1) := by decide +kernel
theorem dw_needless_1 : decode method_6_code 1 = .ok (.iconst 0, 1) := by decide +kernel
theorem dw_needless_2 : decode method_6_code 2 = .ok (.aload_n 0, 1) := by decide +kernel
theorem dw_needless_3 : decode method_6_code 3 = .ok (.iload_n 1, 1) := by decide +kernel
theorem dw_needless_4 : decode method_6_code 4 = .ok (.invokevirtual 25, 3) := by decide +kernel
theorem dw_needless_7 : decode method_6_code 7 = .ok (.i2l, 1) := by decide +kernel
theorem dw_needless_8 : decode method_6_code 8 = .ok (.lastore, 1) := by decide +kernel
theorem dw_needless_9 : decode method_6_code 9 = .ok (.goto 9, 3) := by decide +kernel
theorem dw_needless_12 : decode method_6_code 12 = .ok (.astore_n 3, 1) := by decide +kernel
theorem dw_needless_13 : decode method_6_code 13 = .ok (.iconst 1, 1) := by decide +kernel
theorem dw_needless_14 : decode method_6_code 14 = .ok (.ireturn, 1) := by decide +kernel
theorem dw_needless_15 : decode method_6_code 15 = .ok (.astore_n 3, 1) := by decide +kernel
theorem dw_needless_16 : decode method_6_code 16 = .ok (.iconst 2, 1) := by decide +kernel
theorem dw_needless_17 : decode method_6_code 17 = .ok (.ireturn, 1) := by decide +kernel
theorem dw_needless_18 : decode method_6_code 18 = .ok (.iconst 0, 1) := by decide +kernel
theorem dw_needless_19 : decode method_6_code 19 = .ok (.ireturn, 1) := by decide +kernel
def wy_needless : MethodName := ⟨"CheckSaverLaw", "needless", "(LCheckSaver;I[J)I"⟩
abbrev wh_needless : List (Nat × Nat × Nat × Nat) := [(0, 9, 12, 23), (0, 9, 15, 28)]
abbrev ww_needless : List Cond := wr_ws wy_needless method_6_code 4 wh_needless
set_option maxRecDepth 20000 in
theorem wk_needless : Cond.methodLink "CheckSaverLaw" 25 (ck_mN cm_Cs_needless) ∈ ck_GW := ck_gw 653 (by decide +kernel) (by decide +kernel)
theorem wr_needless_0 {l : Launch} {s0 : State} {D : va_G} {ad : Nat → Nat} {cs : ck_Cs} {ao : Nat} {cL : ClassId} {f : Nat → Int64} {σ : ck_M} {σ' : ck_M} {a : Int} {k : Int} (hwd : wr_D s0 ad ao) (hcall : ck_call 3 cm_Cs_needless [.inr (0, 3, 5), .inl k] σ (some a) σ') : wr_Met l s0 D ad cs ao cL wy_needless ww_needless [.inl k] f σ 0 σ' (fun f' => f' 0 = (Int32.ofInt a).toInt64) := by
  refine wr_of hwd (by decide) rfl ?_
  intro p e s m below meth c Cx hr hlocks htab hP hK hG
  have hx := Cx.1
  have hb := Cx.2.1
  have hS : va_S (wr_B ad ao s.heap.size) s.heap s.heap [] := va_S.rf
  have hl := lv_entry ([.ref (ad 0), .int (Int32.ofInt k), .ref ao]) (n := 4) (Nat.le_of_ble_eq_true rfl)
  show W p l e wr_rm s m _ below meth c s.heap [] 0 0 _ (entryFrame m ([.ref (ad 0), .int (Int32.ofInt k), .ref ao] : List Value).toArray 4)
  rw [lg_entry_eq]
  generalize (lg_sl ([.ref (ad 0), .int (Int32.ofInt k), .ref ao]) ++ List.replicate (4 - (lg_sl ([.ref (ad 0), .int (Int32.ofInt k), .ref ao])).length) Slot.unset).toArray = ls at hl ⊢
  have hl : lv_has ls 4 [(0, .ref (ad 0)), (1, .int (Int32.ofInt k)), (2, .ref ao)] := hl
  refine lv_aload_n hx hb dw_needless_0 rfl (lv_at hl 2 rfl) ?_
  refine lv_iconst (v := 0) hx hb dw_needless_1 (by decide) ?_
  refine lv_aload_n hx hb dw_needless_2 rfl (lv_at hl 0 rfl) ?_
  refine lv_iload_n hx hb dw_needless_3 rfl (lv_at hl 1 rfl) ?_
  refine lw_callI (as2 := [.inl k]) (c0 := 0) (rest := [.int 0, .ref ao]) (md := cm_Cs_needless) (d := 3) Cx cm_in_Cs_needless rfl hcall rfl (List.forall_mem_cons.mpr ⟨⟨by decide, by decide, rfl⟩, List.forall_mem_cons.mpr ⟨trivial, fun v hv => absurd hv List.not_mem_nil⟩⟩) wk_needless ⟨by decide, by decide⟩ ⟨Nat.zero_le _, Nat.zero_le _⟩ (lw_fst hP) hS (fun q h => Or.inr h) hl.1 (show (2 : Nat) ≤ 8 by decide) rfl dw_needless_4 (fun H1 locs1 hP1 _ hun hS1 => ?_)
  exact wr_fin hwd hx hb hr hlocks hK (lw_join hwd hP hP1 hun) hS1 dw_needless_7 dw_needless_8 dw_needless_9 (by decide) dw_needless_18 dw_needless_19
theorem wr_needless_1 {l : Launch} {s0 : State} {D : va_G} {ad : Nat → Nat} {cs : ck_Cs} {ao : Nat} {cL : ClassId} {f : Nat → Int64} {σ : ck_M} {k : Int} (hfl : l.flags = flags0) (h0 : tw_W0 s0) (hwd : wr_D s0 ad ao) (hcall : tw_thw 3 cm_Cs_needless [.inr (0, 3, 5), .inl k] σ "java/lang/IllegalStateException") : wr_Met l s0 D ad cs ao cL wy_needless ww_needless [.inl k] f σ 1 σ (fun _ => True) := by
  refine wr_of hwd (by decide) rfl ?_
  intro p e s m below meth c Cx hr hlocks htab hP hK hG
  have hx := Cx.1
  have hb := Cx.2.1
  have hS : va_S (wr_B ad ao s.heap.size) s.heap s.heap [] := va_S.rf
  have hl := lv_entry ([.ref (ad 0), .int (Int32.ofInt k), .ref ao]) (n := 4) (Nat.le_of_ble_eq_true rfl)
  show W p l e wr_rm s m _ below meth c s.heap [] 0 0 _ (entryFrame m ([.ref (ad 0), .int (Int32.ofInt k), .ref ao] : List Value).toArray 4)
  rw [lg_entry_eq]
  generalize (lg_sl ([.ref (ad 0), .int (Int32.ofInt k), .ref ao]) ++ List.replicate (4 - (lg_sl ([.ref (ad 0), .int (Int32.ofInt k), .ref ao])).length) Slot.unset).toArray = ls at hl ⊢
  have hl : lv_has ls 4 [(0, .ref (ad 0)), (1, .int (Int32.ofInt k)), (2, .ref ao)] := hl
  refine lv_aload_n hx hb dw_needless_0 rfl (lv_at hl 2 rfl) ?_
  refine lv_iconst (v := 0) hx hb dw_needless_1 (by decide) ?_
  refine lv_aload_n hx hb dw_needless_2 rfl (lv_at hl 0 rfl) ?_
  refine lv_iload_n hx hb dw_needless_3 rfl (lv_at hl 1 rfl) ?_
  refine lw_thr1 (as2 := [.inl k]) (c0 := 0) (rest := [.int 0, .ref ao]) (md := cm_Cs_needless) (d := 3) hfl h0 hwd hG Cx cm_in_Cs_needless rfl hcall rfl (List.forall_mem_cons.mpr ⟨⟨by decide, by decide, rfl⟩, List.forall_mem_cons.mpr ⟨trivial, fun v hv => absurd hv List.not_mem_nil⟩⟩) wk_needless ⟨by decide, by decide⟩ ⟨by decide, by decide⟩ (lw_fst hP) hG.2 hS (fun q h => Or.inr h) hl.1 (show (2 : Nat) ≤ 8 by decide) rfl dw_needless_4 htab ⟨by decide, by decide⟩ (by decide) wk_c23 ⟨_, List.mem_of_getElem? (i := 1) rfl, rfl⟩ (fun q H1 locs1 hP1 _ hun hS1 => ?_)
  refine lv_astore_n (lv' := [(3, .ref q), (0, .ref (ad 0)), (1, .int (Int32.ofInt k)), (2, .ref ao)]) hx hb dw_needless_12 rfl hl (by decide) rfl (fun ls' hl' => ?_)
  refine lv_iconst (v := 1) hx hb dw_needless_13 (by decide) ?_
  exact wr_ret hx hb hr hlocks (lw_join hwd hP hP1 hun) hS1 trivial (by decide) (by decide) dw_needless_14
theorem wr_needless_2 {l : Launch} {s0 : State} {D : va_G} {ad : Nat → Nat} {cs : ck_Cs} {ao : Nat} {cL : ClassId} {f : Nat → Int64} {σ : ck_M} {k : Int} (hfl : l.flags = flags0) (h0 : tw_W0 s0) (hwd : wr_D s0 ad ao) (hcall : tw_thw 3 cm_Cs_needless [.inr (0, 3, 5), .inl k] σ "java/lang/IndexOutOfBoundsException") : wr_Met l s0 D ad cs ao cL wy_needless ww_needless [.inl k] f σ 2 σ (fun _ => True) := by
  refine wr_of hwd (by decide) rfl ?_
  intro p e s m below meth c Cx hr hlocks htab hP hK hG
  have hx := Cx.1
  have hb := Cx.2.1
  have hS : va_S (wr_B ad ao s.heap.size) s.heap s.heap [] := va_S.rf
  have hl := lv_entry ([.ref (ad 0), .int (Int32.ofInt k), .ref ao]) (n := 4) (Nat.le_of_ble_eq_true rfl)
  show W p l e wr_rm s m _ below meth c s.heap [] 0 0 _ (entryFrame m ([.ref (ad 0), .int (Int32.ofInt k), .ref ao] : List Value).toArray 4)
  rw [lg_entry_eq]
  generalize (lg_sl ([.ref (ad 0), .int (Int32.ofInt k), .ref ao]) ++ List.replicate (4 - (lg_sl ([.ref (ad 0), .int (Int32.ofInt k), .ref ao])).length) Slot.unset).toArray = ls at hl ⊢
  have hl : lv_has ls 4 [(0, .ref (ad 0)), (1, .int (Int32.ofInt k)), (2, .ref ao)] := hl
  refine lv_aload_n hx hb dw_needless_0 rfl (lv_at hl 2 rfl) ?_
  refine lv_iconst (v := 0) hx hb dw_needless_1 (by decide) ?_
  refine lv_aload_n hx hb dw_needless_2 rfl (lv_at hl 0 rfl) ?_
  refine lv_iload_n hx hb dw_needless_3 rfl (lv_at hl 1 rfl) ?_
  refine lw_thr2 (as2 := [.inl k]) (c0 := 0) (rest := [.int 0, .ref ao]) (md := cm_Cs_needless) (d := 3) hfl h0 hwd hG Cx cm_in_Cs_needless rfl hcall rfl (List.forall_mem_cons.mpr ⟨⟨by decide, by decide, rfl⟩, List.forall_mem_cons.mpr ⟨trivial, fun v hv => absurd hv List.not_mem_nil⟩⟩) wk_needless ⟨by decide, by decide⟩ ⟨by decide, by decide⟩ (lw_fst hP) hG.2 hS (fun q h => Or.inr h) hl.1 (show (2 : Nat) ≤ 8 by decide) rfl dw_needless_4 htab ⟨by decide, by decide⟩ (by decide) ⟨by decide, by decide⟩ (by decide) wk_c23 wk_c28 ⟨_, List.mem_of_getElem? (i := 2) rfl, rfl⟩ (List.mem_of_getElem? (i := 0) rfl) (fun q H1 locs1 hP1 _ hun hS1 => ?_)
  refine lv_astore_n (lv' := [(3, .ref q), (0, .ref (ad 0)), (1, .int (Int32.ofInt k)), (2, .ref ao)]) hx hb dw_needless_15 rfl hl (by decide) rfl (fun ls' hl' => ?_)
  refine lv_iconst (v := 2) hx hb dw_needless_16 (by decide) ?_
  exact wr_ret hx hb hr hlocks (lw_join hwd hP hP1 hun) hS1 trivial (by decide) (by decide) dw_needless_17
theorem dw_least_0 : decode method_7_code 0 = .ok (.aload_n 3, 1) := by decide +kernel
theorem dw_least_1 : decode method_7_code 1 = .ok (.iconst 0, 1) := by decide +kernel
theorem dw_least_2 : decode method_7_code 2 = .ok (.aload_n 0, 1) := by decide +kernel
theorem dw_least_3 : decode method_7_code 3 = .ok (.iload_n 1, 1) := by decide +kernel
theorem dw_least_4 : decode method_7_code 4 = .ok (.iload_n 2, 1) := by decide +kernel
theorem dw_least_5 : decode method_7_code 5 = .ok (.invokevirtual 30, 3) := by decide +kernel
theorem dw_least_8 : decode method_7_code 8 = .ok (.i2l, 1) := by decide +kernel
theorem dw_least_9 : decode method_7_code 9 = .ok (.lastore, 1) := by decide +kernel
theorem dw_least_10 : decode method_7_code 10 = .ok (.goto 11, 3) := by decide +kernel
theorem dw_least_13 : decode method_7_code 13 = .ok (.astore 4, 2) := by decide +kernel
theorem dw_least_15 : decode method_7_code 15 = .ok (.iconst 1, 1) := by decide +kernel
theorem dw_least_16 : decode method_7_code 16 = .ok (.ireturn, 1) := by decide +kernel
theorem dw_least_17 : decode method_7_code 17 = .ok (.astore 4, 2) := by decide +kernel
theorem dw_least_19 : decode method_7_code 19 = .ok (.iconst 2, 1) := by decide +kernel
theorem dw_least_20 : decode method_7_code 20 = .ok (.ireturn, 1) := by decide +kernel
theorem dw_least_21 : decode method_7_code 21 = .ok (.iconst 0, 1) := by decide +kernel
theorem dw_least_22 : decode method_7_code 22 = .ok (.ireturn, 1) := by decide +kernel
def wy_least : MethodName := ⟨"CheckSaverLaw", "least", "(LCheckSaver;II[J)I"⟩
abbrev wh_least : List (Nat × Nat × Nat × Nat) := [(0, 10, 13, 23), (0, 10, 17, 28)]
abbrev ww_least : List Cond := wr_ws wy_least method_7_code 5 wh_least
set_option maxRecDepth 20000 in
theorem wk_least : Cond.methodLink "CheckSaverLaw" 30 (ck_mN cm_Cs_least) ∈ ck_GW := ck_gw 682 (by decide +kernel) (by decide +kernel)
theorem wr_least_0 {l : Launch} {s0 : State} {D : va_G} {ad : Nat → Nat} {cs : ck_Cs} {ao : Nat} {cL : ClassId} {f : Nat → Int64} {σ : ck_M} {σ' : ck_M} {a : Int} {k u : Int} (hwd : wr_D s0 ad ao) (hcall : ck_call 3 cm_Cs_least [.inr (0, 3, 5), .inl k, .inl u] σ (some a) σ') : wr_Met l s0 D ad cs ao cL wy_least ww_least [.inl k, .inl u] f σ 0 σ' (fun f' => f' 0 = (Int32.ofInt a).toInt64) := by
  refine wr_of hwd (by decide) rfl ?_
  intro p e s m below meth c Cx hr hlocks htab hP hK hG
  have hx := Cx.1
  have hb := Cx.2.1
  have hS : va_S (wr_B ad ao s.heap.size) s.heap s.heap [] := va_S.rf
  have hl := lv_entry ([.ref (ad 0), .int (Int32.ofInt k), .int (Int32.ofInt u), .ref ao]) (n := 5) (Nat.le_of_ble_eq_true rfl)
  show W p l e wr_rm s m _ below meth c s.heap [] 0 0 _ (entryFrame m ([.ref (ad 0), .int (Int32.ofInt k), .int (Int32.ofInt u), .ref ao] : List Value).toArray 5)
  rw [lg_entry_eq]
  generalize (lg_sl ([.ref (ad 0), .int (Int32.ofInt k), .int (Int32.ofInt u), .ref ao]) ++ List.replicate (5 - (lg_sl ([.ref (ad 0), .int (Int32.ofInt k), .int (Int32.ofInt u), .ref ao])).length) Slot.unset).toArray = ls at hl ⊢
  have hl : lv_has ls 5 [(0, .ref (ad 0)), (1, .int (Int32.ofInt k)), (2, .int (Int32.ofInt u)), (3, .ref ao)] := hl
  refine lv_aload_n hx hb dw_least_0 rfl (lv_at hl 3 rfl) ?_
  refine lv_iconst (v := 0) hx hb dw_least_1 (by decide) ?_
  refine lv_aload_n hx hb dw_least_2 rfl (lv_at hl 0 rfl) ?_
  refine lv_iload_n hx hb dw_least_3 rfl (lv_at hl 1 rfl) ?_
  refine lv_iload_n hx hb dw_least_4 rfl (lv_at hl 2 rfl) ?_
  refine lw_callI (as2 := [.inl k, .inl u]) (c0 := 0) (rest := [.int 0, .ref ao]) (md := cm_Cs_least) (d := 3) Cx cm_in_Cs_least rfl hcall rfl (List.forall_mem_cons.mpr ⟨⟨by decide, by decide, rfl⟩, List.forall_mem_cons.mpr ⟨trivial, List.forall_mem_cons.mpr ⟨trivial, fun v hv => absurd hv List.not_mem_nil⟩⟩⟩) wk_least ⟨by decide, by decide⟩ ⟨Nat.zero_le _, Nat.zero_le _⟩ (lw_fst hP) hS (fun q h => Or.inr h) hl.1 (show (2 : Nat) ≤ 8 by decide) rfl dw_least_5 (fun H1 locs1 hP1 _ hun hS1 => ?_)
  exact wr_fin hwd hx hb hr hlocks hK (lw_join hwd hP hP1 hun) hS1 dw_least_8 dw_least_9 dw_least_10 (by decide) dw_least_21 dw_least_22
theorem wr_least_1 {l : Launch} {s0 : State} {D : va_G} {ad : Nat → Nat} {cs : ck_Cs} {ao : Nat} {cL : ClassId} {f : Nat → Int64} {σ : ck_M} {k u : Int} (hfl : l.flags = flags0) (h0 : tw_W0 s0) (hwd : wr_D s0 ad ao) (hcall : tw_thw 3 cm_Cs_least [.inr (0, 3, 5), .inl k, .inl u] σ "java/lang/IllegalStateException") : wr_Met l s0 D ad cs ao cL wy_least ww_least [.inl k, .inl u] f σ 1 σ (fun _ => True) := by
  refine wr_of hwd (by decide) rfl ?_
  intro p e s m below meth c Cx hr hlocks htab hP hK hG
  have hx := Cx.1
  have hb := Cx.2.1
  have hS : va_S (wr_B ad ao s.heap.size) s.heap s.heap [] := va_S.rf
  have hl := lv_entry ([.ref (ad 0), .int (Int32.ofInt k), .int (Int32.ofInt u), .ref ao]) (n := 5) (Nat.le_of_ble_eq_true rfl)
  show W p l e wr_rm s m _ below meth c s.heap [] 0 0 _ (entryFrame m ([.ref (ad 0), .int (Int32.ofInt k), .int (Int32.ofInt u), .ref ao] : List Value).toArray 5)
  rw [lg_entry_eq]
  generalize (lg_sl ([.ref (ad 0), .int (Int32.ofInt k), .int (Int32.ofInt u), .ref ao]) ++ List.replicate (5 - (lg_sl ([.ref (ad 0), .int (Int32.ofInt k), .int (Int32.ofInt u), .ref ao])).length) Slot.unset).toArray = ls at hl ⊢
  have hl : lv_has ls 5 [(0, .ref (ad 0)), (1, .int (Int32.ofInt k)), (2, .int (Int32.ofInt u)), (3, .ref ao)] := hl
  refine lv_aload_n hx hb dw_least_0 rfl (lv_at hl 3 rfl) ?_
  refine lv_iconst (v := 0) hx hb dw_least_1 (by decide) ?_
  refine lv_aload_n hx hb dw_least_2 rfl (lv_at hl 0 rfl) ?_
  refine lv_iload_n hx hb dw_least_3 rfl (lv_at hl 1 rfl) ?_
  refine lv_iload_n hx hb dw_least_4 rfl (lv_at hl 2 rfl) ?_
  refine lw_thr1 (as2 := [.inl k, .inl u]) (c0 := 0) (rest := [.int 0, .ref ao]) (md := cm_Cs_least) (d := 3) hfl h0 hwd hG Cx cm_in_Cs_least rfl hcall rfl (List.forall_mem_cons.mpr ⟨⟨by decide, by decide, rfl⟩, List.forall_mem_cons.mpr ⟨trivial, List.forall_mem_cons.mpr ⟨trivial, fun v hv => absurd hv List.not_mem_nil⟩⟩⟩) wk_least ⟨by decide, by decide⟩ ⟨by decide, by decide⟩ (lw_fst hP) hG.2 hS (fun q h => Or.inr h) hl.1 (show (2 : Nat) ≤ 8 by decide) rfl dw_least_5 htab ⟨by decide, by decide⟩ (by decide) wk_c23 ⟨_, List.mem_of_getElem? (i := 1) rfl, rfl⟩ (fun q H1 locs1 hP1 _ hun hS1 => ?_)
  refine lv_astore (lv' := [(4, .ref q), (0, .ref (ad 0)), (1, .int (Int32.ofInt k)), (2, .int (Int32.ofInt u)), (3, .ref ao)]) hx hb dw_least_13 hl (by decide) rfl (fun ls' hl' => ?_)
  refine lv_iconst (v := 1) hx hb dw_least_15 (by decide) ?_
  exact wr_ret hx hb hr hlocks (lw_join hwd hP hP1 hun) hS1 trivial (by decide) (by decide) dw_least_16
theorem wr_least_2 {l : Launch} {s0 : State} {D : va_G} {ad : Nat → Nat} {cs : ck_Cs} {ao : Nat} {cL : ClassId} {f : Nat → Int64} {σ : ck_M} {k u : Int} (hfl : l.flags = flags0) (h0 : tw_W0 s0) (hwd : wr_D s0 ad ao) (hcall : tw_thw 3 cm_Cs_least [.inr (0, 3, 5), .inl k, .inl u] σ "java/lang/IndexOutOfBoundsException") : wr_Met l s0 D ad cs ao cL wy_least ww_least [.inl k, .inl u] f σ 2 σ (fun _ => True) := by
  refine wr_of hwd (by decide) rfl ?_
  intro p e s m below meth c Cx hr hlocks htab hP hK hG
  have hx := Cx.1
  have hb := Cx.2.1
  have hS : va_S (wr_B ad ao s.heap.size) s.heap s.heap [] := va_S.rf
  have hl := lv_entry ([.ref (ad 0), .int (Int32.ofInt k), .int (Int32.ofInt u), .ref ao]) (n := 5) (Nat.le_of_ble_eq_true rfl)
  show W p l e wr_rm s m _ below meth c s.heap [] 0 0 _ (entryFrame m ([.ref (ad 0), .int (Int32.ofInt k), .int (Int32.ofInt u), .ref ao] : List Value).toArray 5)
  rw [lg_entry_eq]
  generalize (lg_sl ([.ref (ad 0), .int (Int32.ofInt k), .int (Int32.ofInt u), .ref ao]) ++ List.replicate (5 - (lg_sl ([.ref (ad 0), .int (Int32.ofInt k), .int (Int32.ofInt u), .ref ao])).length) Slot.unset).toArray = ls at hl ⊢
  have hl : lv_has ls 5 [(0, .ref (ad 0)), (1, .int (Int32.ofInt k)), (2, .int (Int32.ofInt u)), (3, .ref ao)] := hl
  refine lv_aload_n hx hb dw_least_0 rfl (lv_at hl 3 rfl) ?_
  refine lv_iconst (v := 0) hx hb dw_least_1 (by decide) ?_
  refine lv_aload_n hx hb dw_least_2 rfl (lv_at hl 0 rfl) ?_
  refine lv_iload_n hx hb dw_least_3 rfl (lv_at hl 1 rfl) ?_
  refine lv_iload_n hx hb dw_least_4 rfl (lv_at hl 2 rfl) ?_
  refine lw_thr2 (as2 := [.inl k, .inl u]) (c0 := 0) (rest := [.int 0, .ref ao]) (md := cm_Cs_least) (d := 3) hfl h0 hwd hG Cx cm_in_Cs_least rfl hcall rfl (List.forall_mem_cons.mpr ⟨⟨by decide, by decide, rfl⟩, List.forall_mem_cons.mpr ⟨trivial, List.forall_mem_cons.mpr ⟨trivial, fun v hv => absurd hv List.not_mem_nil⟩⟩⟩) wk_least ⟨by decide, by decide⟩ ⟨by decide, by decide⟩ (lw_fst hP) hG.2 hS (fun q h => Or.inr h) hl.1 (show (2 : Nat) ≤ 8 by decide) rfl dw_least_5 htab ⟨by decide, by decide⟩ (by decide) ⟨by decide, by decide⟩ (by decide) wk_c23 wk_c28 ⟨_, List.mem_of_getElem? (i := 2) rfl, rfl⟩ (List.mem_of_getElem? (i := 0) rfl) (fun q H1 locs1 hP1 _ hun hS1 => ?_)
  refine lv_astore (lv' := [(4, .ref q), (0, .ref (ad 0)), (1, .int (Int32.ofInt k)), (2, .int (Int32.ofInt u)), (3, .ref ao)]) hx hb dw_least_17 hl (by decide) rfl (fun ls' hl' => ?_)
  refine lv_iconst (v := 2) hx hb dw_least_19 (by decide) ?_
  exact wr_ret hx hb hr hlocks (lw_join hwd hP hP1 hun) hS1 trivial (by decide) (by decide) dw_least_20
theorem dw_highest_0 : decode method_8_code 0 = .ok (.aload 4, 2) := by decide +kernel
theorem dw_highest_2 : decode method_8_code 2 = .ok (.iconst 0, 1) := by decide +kernel
theorem dw_highest_3 : decode method_8_code 3 = .ok (.aload_n 0, 1) := by decide +kernel
theorem dw_highest_4 : decode method_8_code 4 = .ok (.iload_n 1, 1) := by decide +kernel
theorem dw_highest_5 : decode method_8_code 5 = .ok (.iload_n 2, 1) := by decide +kernel
theorem dw_highest_6 : decode method_8_code 6 = .ok (.iload_n 3, 1) := by decide +kernel
theorem dw_highest_7 : decode method_8_code 7 = .ok (.invokevirtual 34, 3) := by decide +kernel
theorem dw_highest_10 : decode method_8_code 10 = .ok (.i2l, 1) := by decide +kernel
theorem dw_highest_11 : decode method_8_code 11 = .ok (.lastore, 1) := by decide +kernel
theorem dw_highest_12 : decode method_8_code 12 = .ok (.goto 11, 3) := by decide +kernel
theorem dw_highest_15 : decode method_8_code 15 = .ok (.astore 5, 2) := by decide +kernel
theorem dw_highest_17 : decode method_8_code 17 = .ok (.iconst 1, 1) := by decide +kernel
theorem dw_highest_18 : decode method_8_code 18 = .ok (.ireturn, 1) := by decide +kernel
theorem dw_highest_19 : decode method_8_code 19 = .ok (.astore 5, 2) := by decide +kernel
theorem dw_highest_21 : decode method_8_code 21 = .ok (.iconst 2, 1) := by decide +kernel
theorem dw_highest_22 : decode method_8_code 22 = .ok (.ireturn, 1) := by decide +kernel
theorem dw_highest_23 : decode method_8_code 23 = .ok (.iconst 0, 1) := by decide +kernel
theorem dw_highest_24 : decode method_8_code 24 = .ok (.ireturn, 1) := by decide +kernel
def wy_highest : MethodName := ⟨"CheckSaverLaw", "highest", "(LCheckSaver;III[J)I"⟩
abbrev wh_highest : List (Nat × Nat × Nat × Nat) := [(0, 12, 15, 23), (0, 12, 19, 28)]
abbrev ww_highest : List Cond := wr_ws wy_highest method_8_code 6 wh_highest
set_option maxRecDepth 20000 in
theorem wk_highest : Cond.methodLink "CheckSaverLaw" 34 (ck_mN cm_Cs_highest) ∈ ck_GW := ck_gw 690 (by decide +kernel) (by decide +kernel)
theorem wr_highest_0 {l : Launch} {s0 : State} {D : va_G} {ad : Nat → Nat} {cs : ck_Cs} {ao : Nat} {cL : ClassId} {f : Nat → Int64} {σ : ck_M} {σ' : ck_M} {a : Int} {k u r : Int} (hwd : wr_D s0 ad ao) (hcall : ck_call 3 cm_Cs_highest [.inr (0, 3, 5), .inl k, .inl u, .inl r] σ (some a) σ') : wr_Met l s0 D ad cs ao cL wy_highest ww_highest [.inl k, .inl u, .inl r] f σ 0 σ' (fun f' => f' 0 = (Int32.ofInt a).toInt64) := by
  refine wr_of hwd (by decide) rfl ?_
  intro p e s m below meth c Cx hr hlocks htab hP hK hG
  have hx := Cx.1
  have hb := Cx.2.1
  have hS : va_S (wr_B ad ao s.heap.size) s.heap s.heap [] := va_S.rf
  have hl := lv_entry ([.ref (ad 0), .int (Int32.ofInt k), .int (Int32.ofInt u), .int (Int32.ofInt r), .ref ao]) (n := 6) (Nat.le_of_ble_eq_true rfl)
  show W p l e wr_rm s m _ below meth c s.heap [] 0 0 _ (entryFrame m ([.ref (ad 0), .int (Int32.ofInt k), .int (Int32.ofInt u), .int (Int32.ofInt r), .ref ao] : List Value).toArray 6)
  rw [lg_entry_eq]
  generalize (lg_sl ([.ref (ad 0), .int (Int32.ofInt k), .int (Int32.ofInt u), .int (Int32.ofInt r), .ref ao]) ++ List.replicate (6 - (lg_sl ([.ref (ad 0), .int (Int32.ofInt k), .int (Int32.ofInt u), .int (Int32.ofInt r), .ref ao])).length) Slot.unset).toArray = ls at hl ⊢
  have hl : lv_has ls 6 [(0, .ref (ad 0)), (1, .int (Int32.ofInt k)), (2, .int (Int32.ofInt u)), (3, .int (Int32.ofInt r)), (4, .ref ao)] := hl
  refine lv_aload hx hb dw_highest_0 (lv_at hl 4 rfl) ?_
  refine lv_iconst (v := 0) hx hb dw_highest_2 (by decide) ?_
  refine lv_aload_n hx hb dw_highest_3 rfl (lv_at hl 0 rfl) ?_
  refine lv_iload_n hx hb dw_highest_4 rfl (lv_at hl 1 rfl) ?_
  refine lv_iload_n hx hb dw_highest_5 rfl (lv_at hl 2 rfl) ?_
  refine lv_iload_n hx hb dw_highest_6 rfl (lv_at hl 3 rfl) ?_
  refine lw_callI (as2 := [.inl k, .inl u, .inl r]) (c0 := 0) (rest := [.int 0, .ref ao]) (md := cm_Cs_highest) (d := 3) Cx cm_in_Cs_highest rfl hcall rfl (List.forall_mem_cons.mpr ⟨⟨by decide, by decide, rfl⟩, List.forall_mem_cons.mpr ⟨trivial, List.forall_mem_cons.mpr ⟨trivial, List.forall_mem_cons.mpr ⟨trivial, fun v hv => absurd hv List.not_mem_nil⟩⟩⟩⟩) wk_highest ⟨by decide, by decide⟩ ⟨Nat.zero_le _, Nat.zero_le _⟩ (lw_fst hP) hS (fun q h => Or.inr h) hl.1 (show (2 : Nat) ≤ 8 by decide) rfl dw_highest_7 (fun H1 locs1 hP1 _ hun hS1 => ?_)
  exact wr_fin hwd hx hb hr hlocks hK (lw_join hwd hP hP1 hun) hS1 dw_highest_10 dw_highest_11 dw_highest_12 (by decide) dw_highest_23 dw_highest_24
theorem wr_highest_1 {l : Launch} {s0 : State} {D : va_G} {ad : Nat → Nat} {cs : ck_Cs} {ao : Nat} {cL : ClassId} {f : Nat → Int64} {σ : ck_M} {k u r : Int} (hfl : l.flags = flags0) (h0 : tw_W0 s0) (hwd : wr_D s0 ad ao) (hcall : tw_thw 3 cm_Cs_highest [.inr (0, 3, 5), .inl k, .inl u, .inl r] σ "java/lang/IllegalStateException") : wr_Met l s0 D ad cs ao cL wy_highest ww_highest [.inl k, .inl u, .inl r] f σ 1 σ (fun _ => True) := by
  refine wr_of hwd (by decide) rfl ?_
  intro p e s m below meth c Cx hr hlocks htab hP hK hG
  have hx := Cx.1
  have hb := Cx.2.1
  have hS : va_S (wr_B ad ao s.heap.size) s.heap s.heap [] := va_S.rf
  have hl := lv_entry ([.ref (ad 0), .int (Int32.ofInt k), .int (Int32.ofInt u), .int (Int32.ofInt r), .ref ao]) (n := 6) (Nat.le_of_ble_eq_true rfl)
  show W p l e wr_rm s m _ below meth c s.heap [] 0 0 _ (entryFrame m ([.ref (ad 0), .int (Int32.ofInt k), .int (Int32.ofInt u), .int (Int32.ofInt r), .ref ao] : List Value).toArray 6)
  rw [lg_entry_eq]
  generalize (lg_sl ([.ref (ad 0), .int (Int32.ofInt k), .int (Int32.ofInt u), .int (Int32.ofInt r), .ref ao]) ++ List.replicate (6 - (lg_sl ([.ref (ad 0), .int (Int32.ofInt k), .int (Int32.ofInt u), .int (Int32.ofInt r), .ref ao])).length) Slot.unset).toArray = ls at hl ⊢
  have hl : lv_has ls 6 [(0, .ref (ad 0)), (1, .int (Int32.ofInt k)), (2, .int (Int32.ofInt u)), (3, .int (Int32.ofInt r)), (4, .ref ao)] := hl
  refine lv_aload hx hb dw_highest_0 (lv_at hl 4 rfl) ?_
  refine lv_iconst (v := 0) hx hb dw_highest_2 (by decide) ?_
  refine lv_aload_n hx hb dw_highest_3 rfl (lv_at hl 0 rfl) ?_
  refine lv_iload_n hx hb dw_highest_4 rfl (lv_at hl 1 rfl) ?_
  refine lv_iload_n hx hb dw_highest_5 rfl (lv_at hl 2 rfl) ?_
  refine lv_iload_n hx hb dw_highest_6 rfl (lv_at hl 3 rfl) ?_
  refine lw_thr1 (as2 := [.inl k, .inl u, .inl r]) (c0 := 0) (rest := [.int 0, .ref ao]) (md := cm_Cs_highest) (d := 3) hfl h0 hwd hG Cx cm_in_Cs_highest rfl hcall rfl (List.forall_mem_cons.mpr ⟨⟨by decide, by decide, rfl⟩, List.forall_mem_cons.mpr ⟨trivial, List.forall_mem_cons.mpr ⟨trivial, List.forall_mem_cons.mpr ⟨trivial, fun v hv => absurd hv List.not_mem_nil⟩⟩⟩⟩) wk_highest ⟨by decide, by decide⟩ ⟨by decide, by decide⟩ (lw_fst hP) hG.2 hS (fun q h => Or.inr h) hl.1 (show (2 : Nat) ≤ 8 by decide) rfl dw_highest_7 htab ⟨by decide, by decide⟩ (by decide) wk_c23 ⟨_, List.mem_of_getElem? (i := 1) rfl, rfl⟩ (fun q H1 locs1 hP1 _ hun hS1 => ?_)
  refine lv_astore (lv' := [(5, .ref q), (0, .ref (ad 0)), (1, .int (Int32.ofInt k)), (2, .int (Int32.ofInt u)), (3, .int (Int32.ofInt r)), (4, .ref ao)]) hx hb dw_highest_15 hl (by decide) rfl (fun ls' hl' => ?_)
  refine lv_iconst (v := 1) hx hb dw_highest_17 (by decide) ?_
  exact wr_ret hx hb hr hlocks (lw_join hwd hP hP1 hun) hS1 trivial (by decide) (by decide) dw_highest_18
theorem wr_highest_2 {l : Launch} {s0 : State} {D : va_G} {ad : Nat → Nat} {cs : ck_Cs} {ao : Nat} {cL : ClassId} {f : Nat → Int64} {σ : ck_M} {k u r : Int} (hfl : l.flags = flags0) (h0 : tw_W0 s0) (hwd : wr_D s0 ad ao) (hcall : tw_thw 3 cm_Cs_highest [.inr (0, 3, 5), .inl k, .inl u, .inl r] σ "java/lang/IndexOutOfBoundsException") : wr_Met l s0 D ad cs ao cL wy_highest ww_highest [.inl k, .inl u, .inl r] f σ 2 σ (fun _ => True) := by
  refine wr_of hwd (by decide) rfl ?_
  intro p e s m below meth c Cx hr hlocks htab hP hK hG
  have hx := Cx.1
  have hb := Cx.2.1
  have hS : va_S (wr_B ad ao s.heap.size) s.heap s.heap [] := va_S.rf
  have hl := lv_entry ([.ref (ad 0), .int (Int32.ofInt k), .int (Int32.ofInt u), .int (Int32.ofInt r), .ref ao]) (n := 6) (Nat.le_of_ble_eq_true rfl)
  show W p l e wr_rm s m _ below meth c s.heap [] 0 0 _ (entryFrame m ([.ref (ad 0), .int (Int32.ofInt k), .int (Int32.ofInt u), .int (Int32.ofInt r), .ref ao] : List Value).toArray 6)
  rw [lg_entry_eq]
  generalize (lg_sl ([.ref (ad 0), .int (Int32.ofInt k), .int (Int32.ofInt u), .int (Int32.ofInt r), .ref ao]) ++ List.replicate (6 - (lg_sl ([.ref (ad 0), .int (Int32.ofInt k), .int (Int32.ofInt u), .int (Int32.ofInt r), .ref ao])).length) Slot.unset).toArray = ls at hl ⊢
  have hl : lv_has ls 6 [(0, .ref (ad 0)), (1, .int (Int32.ofInt k)), (2, .int (Int32.ofInt u)), (3, .int (Int32.ofInt r)), (4, .ref ao)] := hl
  refine lv_aload hx hb dw_highest_0 (lv_at hl 4 rfl) ?_
  refine lv_iconst (v := 0) hx hb dw_highest_2 (by decide) ?_
  refine lv_aload_n hx hb dw_highest_3 rfl (lv_at hl 0 rfl) ?_
  refine lv_iload_n hx hb dw_highest_4 rfl (lv_at hl 1 rfl) ?_
  refine lv_iload_n hx hb dw_highest_5 rfl (lv_at hl 2 rfl) ?_
  refine lv_iload_n hx hb dw_highest_6 rfl (lv_at hl 3 rfl) ?_
  refine lw_thr2 (as2 := [.inl k, .inl u, .inl r]) (c0 := 0) (rest := [.int 0, .ref ao]) (md := cm_Cs_highest) (d := 3) hfl h0 hwd hG Cx cm_in_Cs_highest rfl hcall rfl (List.forall_mem_cons.mpr ⟨⟨by decide, by decide, rfl⟩, List.forall_mem_cons.mpr ⟨trivial, List.forall_mem_cons.mpr ⟨trivial, List.forall_mem_cons.mpr ⟨trivial, fun v hv => absurd hv List.not_mem_nil⟩⟩⟩⟩) wk_highest ⟨by decide, by decide⟩ ⟨by decide, by decide⟩ (lw_fst hP) hG.2 hS (fun q h => Or.inr h) hl.1 (show (2 : Nat) ≤ 8 by decide) rfl dw_highest_7 htab ⟨by decide, by decide⟩ (by decide) ⟨by decide, by decide⟩ (by decide) wk_c23 wk_c28 ⟨_, List.mem_of_getElem? (i := 2) rfl, rfl⟩ (List.mem_of_getElem? (i := 0) rfl) (fun q H1 locs1 hP1 _ hun hS1 => ?_)
  refine lv_astore (lv' := [(5, .ref q), (0, .ref (ad 0)), (1, .int (Int32.ofInt k)), (2, .int (Int32.ofInt u)), (3, .int (Int32.ofInt r)), (4, .ref ao)]) hx hb dw_highest_19 hl (by decide) rfl (fun ls' hl' => ?_)
  refine lv_iconst (v := 2) hx hb dw_highest_21 (by decide) ?_
  exact wr_ret hx hb hr hlocks (lw_join hwd hP hP1 hun) hS1 trivial (by decide) (by decide) dw_highest_22
theorem dw_run_0 : decode method_9_code 0 = .ok (.aload_n 2, 1) := by decide +kernel
theorem dw_run_1 : decode method_9_code 1 = .ok (.iconst 0, 1) := by decide +kernel
theorem dw_run_2 : decode method_9_code 2 = .ok (.aload_n 0, 1) := by decide +kernel
theorem dw_run_3 : decode method_9_code 3 = .ok (.iload_n 1, 1) := by decide +kernel
theorem dw_run_4 : decode method_9_code 4 = .ok (.invokevirtual 38, 3) := by decide +kernel
theorem dw_run_7 : decode method_9_code 7 = .ok (.i2l, 1) := by decide +kernel
theorem dw_run_8 : decode method_9_code 8 = .ok (.lastore, 1) := by decide +kernel
theorem dw_run_9 : decode method_9_code 9 = .ok (.goto 9, 3) := by decide +kernel
theorem dw_run_12 : decode method_9_code 12 = .ok (.astore_n 3, 1) := by decide +kernel
theorem dw_run_13 : decode method_9_code 13 = .ok (.iconst 1, 1) := by decide +kernel
theorem dw_run_14 : decode method_9_code 14 = .ok (.ireturn, 1) := by decide +kernel
theorem dw_run_15 : decode method_9_code 15 = .ok (.astore_n 3, 1) := by decide +kernel
theorem dw_run_16 : decode method_9_code 16 = .ok (.iconst 2, 1) := by decide +kernel
theorem dw_run_17 : decode method_9_code 17 = .ok (.ireturn, 1) := by decide +kernel
theorem dw_run_18 : decode method_9_code 18 = .ok (.iconst 0, 1) := by decide +kernel
theorem dw_run_19 : decode method_9_code 19 = .ok (.ireturn, 1) := by decide +kernel
def wy_run : MethodName := ⟨"CheckSaverLaw", "run", "(LCheckSaver;I[J)I"⟩
abbrev wh_run : List (Nat × Nat × Nat × Nat) := [(0, 9, 12, 23), (0, 9, 15, 13)]
abbrev ww_run : List Cond := wr_ws wy_run method_9_code 4 wh_run
set_option maxRecDepth 20000 in
theorem wk_run : Cond.methodLink "CheckSaverLaw" 38 (ck_mN cm_Cs_run) ∈ ck_GW := ck_gw 697 (by decide +kernel) (by decide +kernel)
theorem wr_run_0 {l : Launch} {s0 : State} {D : va_G} {ad : Nat → Nat} {cs : ck_Cs} {ao : Nat} {cL : ClassId} {f : Nat → Int64} {σ : ck_M} {σ' : ck_M} {a : Int} {n : Int} (hwd : wr_D s0 ad ao) (hcall : ck_call 7 cm_Cs_run [.inr (0, 3, 5), .inl n] σ (some a) σ') : wr_Met l s0 D ad cs ao cL wy_run ww_run [.inl n] f σ 0 σ' (fun f' => f' 0 = (Int32.ofInt a).toInt64) := by
  refine wr_of hwd (by decide) rfl ?_
  intro p e s m below meth c Cx hr hlocks htab hP hK hG
  have hx := Cx.1
  have hb := Cx.2.1
  have hS : va_S (wr_B ad ao s.heap.size) s.heap s.heap [] := va_S.rf
  have hl := lv_entry ([.ref (ad 0), .int (Int32.ofInt n), .ref ao]) (n := 4) (Nat.le_of_ble_eq_true rfl)
  show W p l e wr_rm s m _ below meth c s.heap [] 0 0 _ (entryFrame m ([.ref (ad 0), .int (Int32.ofInt n), .ref ao] : List Value).toArray 4)
  rw [lg_entry_eq]
  generalize (lg_sl ([.ref (ad 0), .int (Int32.ofInt n), .ref ao]) ++ List.replicate (4 - (lg_sl ([.ref (ad 0), .int (Int32.ofInt n), .ref ao])).length) Slot.unset).toArray = ls at hl ⊢
  have hl : lv_has ls 4 [(0, .ref (ad 0)), (1, .int (Int32.ofInt n)), (2, .ref ao)] := hl
  refine lv_aload_n hx hb dw_run_0 rfl (lv_at hl 2 rfl) ?_
  refine lv_iconst (v := 0) hx hb dw_run_1 (by decide) ?_
  refine lv_aload_n hx hb dw_run_2 rfl (lv_at hl 0 rfl) ?_
  refine lv_iload_n hx hb dw_run_3 rfl (lv_at hl 1 rfl) ?_
  refine lw_callI (as2 := [.inl n]) (c0 := 0) (rest := [.int 0, .ref ao]) (md := cm_Cs_run) (d := 7) Cx cm_in_Cs_run rfl hcall rfl (List.forall_mem_cons.mpr ⟨⟨by decide, by decide, rfl⟩, List.forall_mem_cons.mpr ⟨trivial, fun v hv => absurd hv List.not_mem_nil⟩⟩) wk_run ⟨by decide, by decide⟩ ⟨Nat.zero_le _, Nat.zero_le _⟩ (lw_fst hP) hS (fun q h => Or.inr h) hl.1 (show (2 : Nat) ≤ 8 by decide) rfl dw_run_4 (fun H1 locs1 hP1 _ hun hS1 => ?_)
  exact wr_fin hwd hx hb hr hlocks hK (lw_join hwd hP hP1 hun) hS1 dw_run_7 dw_run_8 dw_run_9 (by decide) dw_run_18 dw_run_19
theorem wr_run_1 {l : Launch} {s0 : State} {D : va_G} {ad : Nat → Nat} {cs : ck_Cs} {ao : Nat} {cL : ClassId} {f : Nat → Int64} {σ : ck_M} {n : Int} (hfl : l.flags = flags0) (h0 : tw_W0 s0) (hwd : wr_D s0 ad ao) (hcall : tw_thw 1 cm_Cs_run [.inr (0, 3, 5), .inl n] σ "java/lang/IllegalStateException") : wr_Met l s0 D ad cs ao cL wy_run ww_run [.inl n] f σ 1 σ (fun _ => True) := by
  refine wr_of hwd (by decide) rfl ?_
  intro p e s m below meth c Cx hr hlocks htab hP hK hG
  have hx := Cx.1
  have hb := Cx.2.1
  have hS : va_S (wr_B ad ao s.heap.size) s.heap s.heap [] := va_S.rf
  have hl := lv_entry ([.ref (ad 0), .int (Int32.ofInt n), .ref ao]) (n := 4) (Nat.le_of_ble_eq_true rfl)
  show W p l e wr_rm s m _ below meth c s.heap [] 0 0 _ (entryFrame m ([.ref (ad 0), .int (Int32.ofInt n), .ref ao] : List Value).toArray 4)
  rw [lg_entry_eq]
  generalize (lg_sl ([.ref (ad 0), .int (Int32.ofInt n), .ref ao]) ++ List.replicate (4 - (lg_sl ([.ref (ad 0), .int (Int32.ofInt n), .ref ao])).length) Slot.unset).toArray = ls at hl ⊢
  have hl : lv_has ls 4 [(0, .ref (ad 0)), (1, .int (Int32.ofInt n)), (2, .ref ao)] := hl
  refine lv_aload_n hx hb dw_run_0 rfl (lv_at hl 2 rfl) ?_
  refine lv_iconst (v := 0) hx hb dw_run_1 (by decide) ?_
  refine lv_aload_n hx hb dw_run_2 rfl (lv_at hl 0 rfl) ?_
  refine lv_iload_n hx hb dw_run_3 rfl (lv_at hl 1 rfl) ?_
  refine lw_thr1 (as2 := [.inl n]) (c0 := 0) (rest := [.int 0, .ref ao]) (md := cm_Cs_run) (d := 1) hfl h0 hwd hG Cx cm_in_Cs_run rfl hcall rfl (List.forall_mem_cons.mpr ⟨⟨by decide, by decide, rfl⟩, List.forall_mem_cons.mpr ⟨trivial, fun v hv => absurd hv List.not_mem_nil⟩⟩) wk_run ⟨by decide, by decide⟩ ⟨by decide, by decide⟩ (lw_fst hP) hG.2 hS (fun q h => Or.inr h) hl.1 (show (2 : Nat) ≤ 8 by decide) rfl dw_run_4 htab ⟨by decide, by decide⟩ (by decide) wk_c23 ⟨_, List.mem_of_getElem? (i := 1) rfl, rfl⟩ (fun q H1 locs1 hP1 _ hun hS1 => ?_)
  refine lv_astore_n (lv' := [(3, .ref q), (0, .ref (ad 0)), (1, .int (Int32.ofInt n)), (2, .ref ao)]) hx hb dw_run_12 rfl hl (by decide) rfl (fun ls' hl' => ?_)
  refine lv_iconst (v := 1) hx hb dw_run_13 (by decide) ?_
  exact wr_ret hx hb hr hlocks (lw_join hwd hP hP1 hun) hS1 trivial (by decide) (by decide) dw_run_14
theorem wr_run_2 {l : Launch} {s0 : State} {D : va_G} {ad : Nat → Nat} {cs : ck_Cs} {ao : Nat} {cL : ClassId} {f : Nat → Int64} {σ : ck_M} {n : Int} (hfl : l.flags = flags0) (h0 : tw_W0 s0) (hwd : wr_D s0 ad ao) (hcall : tw_thw 1 cm_Cs_run [.inr (0, 3, 5), .inl n] σ "java/lang/IllegalArgumentException") : wr_Met l s0 D ad cs ao cL wy_run ww_run [.inl n] f σ 2 σ (fun _ => True) := by
  refine wr_of hwd (by decide) rfl ?_
  intro p e s m below meth c Cx hr hlocks htab hP hK hG
  have hx := Cx.1
  have hb := Cx.2.1
  have hS : va_S (wr_B ad ao s.heap.size) s.heap s.heap [] := va_S.rf
  have hl := lv_entry ([.ref (ad 0), .int (Int32.ofInt n), .ref ao]) (n := 4) (Nat.le_of_ble_eq_true rfl)
  show W p l e wr_rm s m _ below meth c s.heap [] 0 0 _ (entryFrame m ([.ref (ad 0), .int (Int32.ofInt n), .ref ao] : List Value).toArray 4)
  rw [lg_entry_eq]
  generalize (lg_sl ([.ref (ad 0), .int (Int32.ofInt n), .ref ao]) ++ List.replicate (4 - (lg_sl ([.ref (ad 0), .int (Int32.ofInt n), .ref ao])).length) Slot.unset).toArray = ls at hl ⊢
  have hl : lv_has ls 4 [(0, .ref (ad 0)), (1, .int (Int32.ofInt n)), (2, .ref ao)] := hl
  refine lv_aload_n hx hb dw_run_0 rfl (lv_at hl 2 rfl) ?_
  refine lv_iconst (v := 0) hx hb dw_run_1 (by decide) ?_
  refine lv_aload_n hx hb dw_run_2 rfl (lv_at hl 0 rfl) ?_
  refine lv_iload_n hx hb dw_run_3 rfl (lv_at hl 1 rfl) ?_
  refine lw_thr2 (as2 := [.inl n]) (c0 := 0) (rest := [.int 0, .ref ao]) (md := cm_Cs_run) (d := 1) hfl h0 hwd hG Cx cm_in_Cs_run rfl hcall rfl (List.forall_mem_cons.mpr ⟨⟨by decide, by decide, rfl⟩, List.forall_mem_cons.mpr ⟨trivial, fun v hv => absurd hv List.not_mem_nil⟩⟩) wk_run ⟨by decide, by decide⟩ ⟨by decide, by decide⟩ (lw_fst hP) hG.2 hS (fun q h => Or.inr h) hl.1 (show (2 : Nat) ≤ 8 by decide) rfl dw_run_4 htab ⟨by decide, by decide⟩ (by decide) ⟨by decide, by decide⟩ (by decide) wk_c23 wk_c13 ⟨_, List.mem_of_getElem? (i := 0) rfl, rfl⟩ (List.mem_of_getElem? (i := 1) rfl) (fun q H1 locs1 hP1 _ hun hS1 => ?_)
  refine lv_astore_n (lv' := [(3, .ref q), (0, .ref (ad 0)), (1, .int (Int32.ofInt n)), (2, .ref ao)]) hx hb dw_run_15 rfl hl (by decide) rfl (fun ls' hl' => ?_)
  refine lv_iconst (v := 2) hx hb dw_run_16 (by decide) ?_
  exact wr_ret hx hb hr hlocks (lw_join hwd hP hP1 hun) hS1 trivial (by decide) (by decide) dw_run_17
