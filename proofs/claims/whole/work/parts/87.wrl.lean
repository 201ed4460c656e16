/-! The law's seven small methods: what they are asked, what they answer. -/
def wr_rm : Room := { frames := 9, cells := 1, slots := 6, locals := 270 }
def wr_ws (y : MethodName) (cc : ByteArray) (maxL : Nat) (hh : List (Nat × Nat × Nat × Nat)) : List Cond := Cond.codeWith y cc maxL (some .int) hh :: ck_GW
def wr_vs (ad : Nat → Nat) (ao : Nat) (as2 : List ck_PV) : List Value := .ref (ad 0) :: (as2.map (ck_vv ad) ++ [.ref ao])
def wr_Pc (s0 : State) (D : va_G) (ad : Nat → Nat) (cs : ck_Cs) (ao : Nat) (cL : ClassId) (as2 : List ck_PV) (f : Nat → Int64) (σ : ck_M) (sz : Nat) : Array Value → State → Prop := va_Pc (wr_vs ad ao as2) (fun U => U.heap.size = sz ∧ va_P D ck_cl (lw_ws ad cs ao cL f σ) U.heap ∧ va_K D ck_cl (ck_tys cs ++ [(cL, .long)]) U ∧ (∀ w ∈ ck_NW, va_Nw w U) ∧ tw_G s0 U)
def wr_Qc (D : va_G) (ad : Nat → Nat) (cs : ck_Cs) (ao : Nat) (cL : ClassId) (k : Int32) (σ' : ck_M) (Pf : (Nat → Int64) → Prop) (sz : Nat) : Array Value → State → Outcome → State → Prop := va_Qi (fun (v : Int32) (f' : Nat → Int64) => v = k ∧ Pf f') (fun f' t => va_P D ck_cl (lw_ws ad cs ao cL f' σ') t.heap) (wr_B ad ao sz)
def wr_Met (l : Launch) (s0 : State) (D : va_G) (ad : Nat → Nat) (cs : ck_Cs) (ao : Nat) (cL : ClassId) (y : MethodName) (ws : List Cond) (as2 : List ck_PV) (f : Nat → Int64) (σ : ck_M) (k : Int32) (σ' : ck_M) (Pf : (Nat → Int64) → Prop) : Prop := ∀ sz, Met l y ws wr_rm (wr_Pc s0 D ad cs ao cL as2 f σ sz) (wr_Qc D ad cs ao cL k σ' Pf sz) 1 6 (wr_B ad ao sz)
theorem wr_blind {s0 : State} {D : va_G} {ad : Nat → Nat} {cs : ck_Cs} {ao : Nat} {cL : ClassId} {as2 : List ck_PV} {f : Nat → Int64} {σ : ck_M} {sz : Nat} : FrameBlind (wr_Pc s0 D ad cs ao cL as2 f σ sz) := by
  intro a U g mk q
  obtain ⟨q0, q1, qP, qK, qN, qG⟩ := q
  exact ⟨q0, q1, qP, va_K.moved (u := U) (U := U.calling g mk a) (Vm.Alike.refl U.vm) qK, fun w hw => va_Nw.same (u := U) (U := U.calling g mk a) (ck_NW_tab w hw) rfl (qN w hw), qG⟩
section WRL
variable {l : Launch} {s0 : State} {D : va_G} {ad : Nat → Nat} {cs : ck_Cs} {ao : Nat} {cL : ClassId} {as2 : List ck_PV} {f : Nat → Int64} {σ σ' : ck_M} {k : Int32} {Pf : (Nat → Int64) → Prop} {cc : ByteArray} {maxL : Nat} {hh : List (Nat × Nat × Nat × Nat)}
theorem wr_of {y : MethodName} (hwd : wr_D s0 ad ao) (hy : plainName y.cls = true) (hyc : y.cls = "CheckSaverLaw")
    (body : ∀ (p : Program) (e : Env) (s : State) (m : MethodId) (below : List Frame) (meth : Method) (c : Code), lw_C p s m (wr_vs ad ao as2).toArray c cc maxL D ad cs → meth.sig.returnType = some .int → meth.locks = false → c.exceptionTable.toList.map (fun h => (h.startPc, h.endPc, h.handlerPc, h.catchType)) = hh → va_P D ck_cl (lw_ws ad cs ao cL f σ) s.heap → va_K D ck_cl (ck_tys cs ++ [(cL, .long)]) s → tw_G s0 s →
      W p l e wr_rm s m (wr_vs ad ao as2).toArray below meth c s.heap [] 0 0 (MQ below (wr_Qc D ad cs ao cL k σ' Pf s.heap.size) (wr_vs ad ao as2).toArray s 1 6 (wr_B ad ao s.heap.size)) (entryFrame m (wr_vs ad ao as2).toArray maxL)) : wr_Met l s0 D ad cs ao cL y (wr_ws y cc maxL hh) as2 f σ k σ' Pf := by
  intro sz
  refine va_MetW (cc := cc) (maxL := maxL) (ret := some .int) (hh := hh) hy rfl ?_
  intro p e s m args below meth c s₁ B hml hv
  obtain ⟨rfl, hsz, hP, hK, hNW, hG⟩ := hv
  have hts0 := atoms_spec (ws := wr_ws y cc maxL hh) B.pre
  have hts : ∀ w ∈ ck_GW, w.before (wr_vs ad ao as2).toArray s = true := fun w hw => hts0 w (List.mem_cons_of_mem _ hw)
  have hown : s.vm.findClass y.cls = some m.cls := findClass_of_methodNamed B.named
  rw [hyc] at hown
  subst hsz
  obtain ⟨m9, meth9, c9, hn9, h1, h2, h3, h4, htab, -⟩ := Cond.codeWith_spec (hts0 _ List.mem_cons_self)
  cases B.named.symm.trans hn9
  cases B.method.symm.trans h1
  cases (Stand.of_body B).code.symm.trans h2
  have hKs : va_K D ck_cl (ck_tys cs) s := hK.sub [0, 1, 2] rfl
  exact body p e s m below meth c ⟨B.exec, B.bytes, hml, hown, hts, hKs, wr_Dk hwd cs, hNW⟩ B.returns B.notSynchronized htab hP hK hG
variable {p : Program} {e : Env} {s : State} {m : MethodId} {args : Array Value} {below : List Frame} {meth : Method} {c : Code} {H : Heap} {locs : List Loc} {cells slots : Nat} {pc : Nat} {ls : Array Slot}
theorem wr_BA (sz : Nat) : (∀ c : Nat, c < 501 → wr_B ad ao sz (ad c)) ∧ wr_B ad ao sz ao := ⟨fun c hc => Or.inr (Or.inl ⟨c, hc, rfl⟩), Or.inl rfl⟩
/-- ireturn -/
theorem wr_ret {f' : Nat → Int64} (hx : p.tables.exec = Jvm.exec) (hb : c.code = cc) (hr : meth.sig.returnType = some .int) (hlocks : meth.locks = false) (hP : va_P D ck_cl (lw_ws ad cs ao cL f' σ') H) (hS : va_S (wr_B ad ao s.heap.size) s.heap H locs) (hPf : Pf f') (hc : cells ≤ 1) (hs : slots ≤ 6) (hdg : decode cc pc = .ok (.ireturn, 1)) :
    W p l e wr_rm s m args below meth c H locs cells slots (MQ below (wr_Qc D ad cs ao cL k σ' Pf s.heap.size) args s 1 6 (wr_B ad ao s.heap.size)) (F0 m pc ls [.int k]) :=
  W.widen hc hs (W.iret hx hb hr (fun t ht _ => ⟨⟨k, f', rfl, ⟨rfl, hPf⟩, by show va_P D ck_cl (lw_ws ad cs ao cL f' σ') t.heap; rw [ht]; exact hP⟩, hS.F ht⟩) hS.2.2 hdg)
/-- i2l, lastore, goto, iconst_0, ireturn -/
theorem wr_fin {a : Int} {off : Int} {tgt : Nat} (hwd : wr_D s0 ad ao) (hx : p.tables.exec = Jvm.exec) (hb : c.code = cc) (hr : meth.sig.returnType = some .int) (hlocks : meth.locks = false) (hK : va_K D ck_cl (ck_tys cs ++ [(cL, .long)]) s) (hP : va_P D ck_cl (lw_ws ad cs ao cL f σ') H) (hS : va_S (wr_B ad ao s.heap.size) s.heap H locs)
    (d0 : decode cc pc = .ok (.i2l, 1)) (d1 : decode cc (pc + 1) = .ok (.lastore, 1)) (d2 : decode cc (pc + 2) = .ok (.goto off, 3)) (ht : ((pc + 2 : Nat) : Int) + off = (tgt : Int)) (d3 : decode cc tgt = .ok (.iconst 0, 1)) (d4 : decode cc (tgt + 1) = .ok (.ireturn, 1)) :
    W p l e wr_rm s m args below meth c H locs 0 0 (MQ below (wr_Qc D ad cs ao cL 0 σ' (fun f' => f' 0 = (Int32.ofInt a).toInt64) s.heap.size) args s 1 6 (wr_B ad ao s.heap.size)) (F0 m pc ls [.int (Int32.ofInt a), .int 0, .ref ao]) := by
  refine lv_i2l hx hb d0 rfl ?_
  refine va_last (D := D) (cl := ck_cl) (tys := ck_tys cs ++ [(cL, .long)]) (ws := lw_ws ad cs ao cL f σ') hx hb hK hP (wr_Dl hwd (wr_BA s.heap.size) cs cL f σ') hS 501 3 lw_get rfl (i := 0) (show ¬ ((0 : Int32) < 0 ∨ 1 ≤ (0 : Int32).toNatClampNeg) by decide) d1 (fun H1 locs1 hP1 _ hS1 => ?_)
  refine lv_goto hx hb d2 ht ?_
  refine lv_iconst (v := 0) hx hb d3 (by decide) ?_
  have e1 : (lw_ws ad cs ao cL f σ').set 501 (ao, .inl (cL, 1, .inr (.inl (vp_updL f (0 : Int32).toNatClampNeg (Int32.ofInt a).toInt64)))) = lw_ws ad cs ao cL (vp_updL f (0 : Int32).toNatClampNeg (Int32.ofInt a).toInt64) σ' := lw_set
  rw [e1] at hP1
  exact wr_ret hx hb hr hlocks hP1 hS1 rfl (by omega) (by omega) d4
end WRL
