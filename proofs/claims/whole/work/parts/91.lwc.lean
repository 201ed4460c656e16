/-! What a turn of the law does behind its calls. -/
def lw_L0 (ad : Nat → Nat) (ao b q : Nat) : List (Nat × Value) := [(4, .int (nI q)), (0, .ref b), (1, .ref (ad 0)), (2, .ref (ad 480)), (3, .ref ao)]
theorem lw_cmp0 (x : Int64) : lg_cmp x x = 0 := by simp [lg_cmp]
set_option maxRecDepth 20000 in
theorem lk_thrown : Cond.methodLink "CheckSaverLaw" 51 (ck_mN cm_Mo_thrown) ∈ ck_GW := ck_gw 855 (by decide +kernel) (by decide +kernel)
section LWB
variable {p : Program} {l : Launch} {e : Env} {R : Room} {s : State} {m : MethodId} {args : Array Value} {below : List Frame} {meth : Method} {c : Code} {H : Heap} {locs : List Loc} {cells slots : Nat} {Q : State → Prop}
variable {cc : ByteArray} {pc : Nat} {ls : Array Slot} {D : va_G} {ad : Nat → Nat} {cs : ck_Cs} {ao b q : Nat} {cL : ClassId} {f : Nat → Int64} {σ : ck_M}
/-- behind a call of the reference: its answer and what it says of a throw against the class's -/
theorem lw_tail {k : Int32} {bb : Int} {o1 : Int} {tgt : Nat} (hwd : wr_D s ad ao) (Cx : lw_C p s m args c cc 7 D ad cs) (hK : va_K D ck_cl (ck_tys cs ++ [(cL, .long)]) s) (hP : va_P D ck_cl (lw_ws ad cs ao cL f σ) H) (hS : va_S (fun q => s.heap.size ≤ q) s.heap H locs) (hl : lv_has ls 7 ((5, .int k) :: lw_L0 ad ao b q)) (hth : Int32.ofInt (σ 480 0) = k) (hf : k = 0 → f 0 = (Int32.ofInt bb).toInt64)
    (hR : 2 ≤ R.frames ∧ 60 ≤ R.locals) (hcs : cells ≤ R.cells ∧ slots ≤ R.slots)
    (d0 : decode cc pc = .ok (.istore 6, 2)) (d1 : decode cc (pc + 2) = .ok (.aload_n 2, 1)) (d2 : decode cc (pc + 3) = .ok (.invokevirtual 51, 3)) (d3 : decode cc (pc + 6) = .ok (.iload 5, 2)) (d4 : decode cc (pc + 8) = .ok (.if_icmp .eq 5, 3)) (d5 : decode cc (pc + 13) = .ok (.iload 5, 2)) (d6 : decode cc (pc + 15) = .ok (.ifCond .ne 15, 3)) (d7 : decode cc (pc + 18) = .ok (.aload_n 3, 1)) (d8 : decode cc (pc + 19) = .ok (.iconst 0, 1)) (d9 : decode cc (pc + 20) = .ok (.laload, 1)) (d10 : decode cc (pc + 21) = .ok (.iload 6, 2)) (d11 : decode cc (pc + 23) = .ok (.i2l, 1)) (d12 : decode cc (pc + 24) = .ok (.lcmp, 1)) (d13 : decode cc (pc + 25) = .ok (.ifCond .eq 5, 3)) (d14 : decode cc (pc + 30) = .ok (.goto o1, 3)) (ht : ((pc + 30 : Nat) : Int) + o1 = (tgt : Int))
    (kk : ∀ (ls' : Array Slot) (H1 : Heap) (locs1 : List Loc), lv_has ls' 7 (lw_L0 ad ao b q) → va_P D ck_cl (lw_ws ad cs ao cL f σ) H1 → va_S (fun q => s.heap.size ≤ q) s.heap H1 locs1 → W p l e R s m args below meth c H1 locs1 cells slots Q (F0 m tgt ls' [])) : W p l e R s m args below meth c H locs cells slots Q (F0 m pc ls [.int (Int32.ofInt bb)]) := by
  have hx := Cx.1
  have hb := Cx.2.1
  refine lv_istore (lv' := (6, .int (Int32.ofInt bb)) :: (5, .int k) :: lw_L0 ad ao b q) hx hb d0 hl (by decide) rfl (fun ls1 hl1 => ?_)
  refine lv_aload_n hx hb d1 rfl (lv_at hl1 5 rfl) ?_
  obtain ⟨r0, σ0, hcall, e1, e2⟩ := cx_thrown σ
  subst e1
  subst e2
  refine lw_callI (as2 := []) (c0 := 480) (md := cm_Mo_thrown) (d := 1) (rest := []) Cx cm_in_Mo_thrown rfl hcall rfl (List.forall_mem_cons.mpr ⟨⟨by decide, by decide, rfl⟩, fun v hv => absurd hv List.not_mem_nil⟩) lk_thrown ⟨hR.1, hR.2⟩ hcs (lw_fst hP) hS (fun z h => ?_) hl1.1 (show (0 : Nat) ≤ 8 by decide) rfl d2 (fun H1 locs1 hP1 hz hun hS1 => ?_)
  · rcases h with ⟨c1, hc1, rfl⟩ | h
    · exact (hwd.2.1 c1 hc1).2
    · exact Nat.le_trans hS.1 h
  have hP2 := lw_join hwd hP hP1 hun
  rw [hth]
  refine lv_iload hx hb d3 (lv_at hl1 1 rfl) ?_
  have hend : W p l e R s m args below meth c H1 locs1 cells slots Q (F0 m (pc + 30) ls1 []) := lv_goto hx hb d14 ht (kk ls1 H1 locs1 (lv_sub hl1 [2, 3, 4, 5, 6] rfl) hP2 hS1)
  refine lv_icmp_eq (tgt := pc + 13) hx hb d4 (by omega) (fun _ => ?_) (fun h => absurd rfl h)
  refine lv_iload hx hb d5 (lv_at hl1 1 rfl) ?_
  refine lv_if_ne (tgt := pc + 30) hx hb d6 (by omega) (fun _ => hend) (fun hk0 => ?_)
  refine lv_aload_n hx hb d7 rfl (lv_at hl1 6 rfl) ?_
  refine lv_iconst (v := 0) hx hb d8 (by decide) ?_
  refine va_lald (D := D) (cl := ck_cl) (tys := ck_tys cs ++ [(cL, .long)]) (ws := lw_ws ad cs ao cL f σ0) hx hb hK hP2 501 3 lw_get rfl (i := 0) (show ¬ ((0 : Int32) < 0 ∨ 1 ≤ (0 : Int32).toNatClampNeg) by decide) d9 ?_
  refine lv_iload hx hb d10 (lv_at hl1 0 rfl) ?_
  refine lv_i2l hx hb d11 rfl ?_
  refine W.lcmp hx hb d12 ?_
  have e3 : lg_cmp (f (0 : Int32).toNatClampNeg) (Int32.ofInt bb).toInt64 = 0 := by
    rw [show (0 : Int32).toNatClampNeg = 0 from by decide, hf hk0]
    exact lw_cmp0 _
  rw [e3]
  exact lv_if_eq (tgt := pc + 30) hx hb d13 (by omega) (fun _ => hend) (fun h => absurd rfl h)
/-- the index goes on by 5 -/
theorem lw_next {tgt : Nat} {o1 : Int} (hx : p.tables.exec = Jvm.exec) (hb : c.code = cc) (hl : lv_has ls 7 (lw_L0 ad ao b q)) (d0 : decode cc pc = .ok (.iinc 4 5, 3)) (d1 : decode cc (pc + 3) = .ok (.goto o1, 3)) (ht : ((pc + 3 : Nat) : Int) + o1 = (tgt : Int))
    (kk : ∀ ls' : Array Slot, lv_has ls' 7 (lw_L0 ad ao b (q + 5)) → W p l e R s m args below meth c H locs cells slots Q (F0 m tgt ls' [])) : W p l e R s m args below meth c H locs cells slots Q (F0 m pc ls []) := by
  refine lv_iinc (k := 0) (v := nI (q + 5)) (lv' := lw_L0 ad ao b (q + 5)) hx hb d0 hl rfl (by rw [show Int32.ofInt 5 = nI 5 from by decide, nI_add]) (by decide) rfl (fun ls' hl' => ?_)
  exact lv_goto hx hb d1 ht (kk ls' hl')
end LWB
