/-! The law's turn: reading the script, the small methods' calls, the comparisons. -/
theorem Int32_ofInt_toInt' (x : Int32) : Int32.ofInt x.toInt = x := Int32.ofInt_toInt x
section LWT
variable {p : Program} {l : Launch} {e : Env} {R : Room} {s : State} {m : MethodId} {args : Array Value} {below : List Frame} {meth : Method} {c : Code} {H : Heap} {locs : List Loc} {cells slots : Nat} {Q : State → Prop}
variable {cc : ByteArray} {nL pc i : Nat} {ls : Array Slot} {rest : List Value} {A : Nat → Prop} {D : va_G} {ad : Nat → Nat} {cs : ck_Cs}
/-- aload_0, iload 4, iconst, iadd, iaload: an int of the script -/
theorem lw_ld {b L q k : Nat} {n : Int} {xs : Nat → Int32} (hx : p.tables.exec = Jvm.exec) (hb : c.code = cc) (hX : va_X b L xs s s.heap) (hbl : b < s.heap.size) (hbA : ¬ A b) (hS : va_S A s.heap H locs) (g0 : ls[0]? = some (.val (.ref b))) (g4 : ls[4]? = some (.val (.int (nI q)))) (hk : q + k < L) (hL : L ≤ 2560) (hn : Int32.ofInt n = nI k)
    (d0 : decode cc pc = .ok (.aload_n 0, 1)) (d1 : decode cc (pc + 1) = .ok (.iload 4, 2)) (d2 : decode cc (pc + 3) = .ok (.iconst n, 1)) (d3 : decode cc (pc + 4) = .ok (.iadd, 1)) (d4 : decode cc (pc + 5) = .ok (.iaload, 1))
    (kk : W p l e R s m args below meth c H locs cells slots Q (F0 m (pc + 6) ls (.int (xs (q + k)) :: rest))) : W p l e R s m args below meth c H locs cells slots Q (F0 m pc ls rest) := by
  refine lv_aload_n hx hb d0 rfl g0 ?_
  refine lv_iload hx hb d1 g4 ?_
  refine lv_iconst (v := nI k) hx hb d2 hn ?_
  refine lv_iadd hx hb d3 ?_
  rw [nI_add]
  refine va_sld hx hb hX hbl hbA hS (vp_in_nI hk (by omega)) d4 ?_
  rw [nI_clamp (by omega)]
  exact kk
set_option maxHeartbeats 2000000 in
/-- a call of one of the small methods -/
theorem lw_wr {s0 : State} {ao : Nat} {cL : ClassId} {y : MethodName} {bytes : ByteArray} {mL : Nat} {hh : List (Nat × Nat × Nat × Nat)} {as2 : List ck_PV} {f : Nat → Int64} {σ σ' : ck_M} {k : Int32} {Pf : (Nat → Int64) → Prop} {st0 : List Value} (Cx : lw_C p s m args c cc nL D ad cs) (hM : wr_Met l s0 D ad cs ao cL y (wr_ws y bytes mL hh) as2 f σ k σ' Pf)
    (hyc : y.cls = "CheckSaverLaw") (hcode : Cond.codeWith y bytes mL (some .int) hh ∈ ck_GW) (hsta : Cond.static y ∈ ck_GW) (hini : Cond.initialized "CheckSaverLaw" ∈ ck_GW) (hlink : Cond.methodLink "CheckSaverLaw" i y ∈ ck_GW) (hpar : (parseMethodDescriptor y.desc).map (fun d => d.parameters.length) = some (as2.length + 2)) (hR : 10 ≤ R.frames ∧ 8 + (mL + 11) + 270 ≤ R.locals) (hcs : cells + 1 ≤ R.cells ∧ slots + 6 ≤ R.slots)
    (hK : va_K D ck_cl (ck_tys cs ++ [(cL, .long)]) s) (hG : tw_G s0 s) (hP : va_P D ck_cl (lw_ws ad cs ao cL f σ) H) (hold : ∀ q : Nat, q < s0.heap.size → H[q]? = s0.heap[q]?) {H0 : Heap} (hS : va_S A H0 H locs) (hF : ∀ q, wr_B ad ao H.size q → A q) (hls : ls.size = nL) (hst : st0 = (wr_vs ad ao as2).reverse) (hdg : decode cc pc = .ok (.invokestatic i, 3))
    (kk : ∀ (f' : Nat → Int64) (H1 : Heap) (locs1 : List Loc), Pf f' → va_P D ck_cl (lw_ws ad cs ao cL f' σ') H1 → H.size ≤ H1.size → (∀ q : Nat, q < H.size → ¬ wr_B ad ao H.size q → H1[q]? = H[q]?) → va_S A H0 H1 locs1 → W p l e R s m args below meth c H1 locs1 (cells + 1) (slots + 6) Q (F0 m (pc + 3) ls [.int k])) : W p l e R s m args below meth c H locs cells slots Q (F0 m pc ls st0) := by
  subst hst
  obtain ⟨hx, hb, hml, hown, hts, hKs, hD, hNW⟩ := Cx
  have hM1 := hM H.size
  have hgood : ∀ w ∈ wr_ws y bytes mL hh, ∀ (a' : Array Value) (U : State), s.WarmedH U.vm → w.before a' U = true := by
    refine pay_in hts (fun w hw => ?_)
    have h1 : w ∈ ck_GW := by
      rcases List.mem_cons.mp hw with h2 | h2
      · rw [h2]; exact hcode
      · exact h2
    exact ⟨h1, good_of_word (List.mem_filter.mp h1).2⟩
  have hyc2 : (Cond.initialized y.cls).before args s = true := by rw [hyc]; exact hts _ hini
  have hBk : Back l R p e below s args y 3 8 (PreOf R 1 6 (wr_Pc s0 D ad cs ao cL as2 f σ H.size)) (PostOf (wr_Qc D ad cs ao cL k σ' Pf H.size) 1 6 (wr_B ad ao H.size)) := va_backW (hh := hh) (bytes := bytes) (maxL := mL) (ret := some .int) hM1 wr_blind rfl rfl hR.1 hR.2 hgood List.mem_cons_self (fun a' U hW => word_at hW (Or.inl (by rfl)) hyc2)
  have hpre : ∀ U : State, U.heap = H → s.WarmedH U.vm → wr_Pc s0 D ad cs ao cL as2 f σ H.size (wr_vs ad ao as2).toArray U := fun U hU hW => ⟨rfl, by rw [hU], by rw [hU]; exact hP, va_K.moved hW.alike hK, ck_NW_warm hW hNW, State.WarmedH.trans hG.1 hW, by rw [hU]; exact hold⟩
  obtain ⟨mk, methM, cM, hnamed, hmethM, hcodeM, -, -, -, -, -, hsigM⟩ := Cond.codeWith_spec (hts _ hcode)
  have hstatic : methM.isStatic = true := Cond.static_spec hnamed hmethM (hts _ hsta)
  obtain ⟨kP, hkP, -⟩ := className_of_methodNamed hnamed
  have hinitP : kP.init = .initialized := Cond.initialized_spec (findClass_of_methodNamed hnamed) hkP hyc2
  have hlen : (wr_vs ad ao as2).length = methM.sig.parameters.length := by
    rw [hsigM] at hpar
    have h2 : methM.sig.parameters.length = as2.length + 2 := Option.some.inj hpar
    rw [h2]
    simp [wr_vs]
  have hy2 : y.cls ≠ "java/lang/invoke/MethodHandle" ∧ y.cls ≠ "java/lang/invoke/VarHandle" := by rw [hyc]; exact ⟨by decide, by decide⟩
  have run : va_Run p l e R s m args below meth c H locs cells slots 1 6 (F0 m pc ls (wr_vs ad ao as2).reverse) [] (wr_Qc D ad cs ao cL k σ' Pf H.size (wr_vs ad ao as2).toArray) (wr_B ad ao H.size) := by
    intro T hT X
    obtain ⟨vm₁, X₁, hstep₁⟩ := X.invokestatic hx hown (hts _ hlink) hnamed hmethM hstatic hkP hinitP hy2 (g := F0 m pc ls (wr_vs ad ao as2).reverse) rfl (argsL := wr_vs ad ao as2) (rest := []) hlen (by simp) (by rw [hb]; exact hdg)
    obtain ⟨v, ⟨U', l2, c2, s2⟩, X', ⟨g', mk', t, L, e1, e2, hq, h1, hL, h2, h3⟩, hsteps⟩ := hBk m meth c ⟨T.setVm vm₁, locs, cells, slots⟩ (F0 m pc ls []) (.invokestatic i) mk (wr_vs ad ao as2).toArray X₁ rfl (hls.trans hml.symm) (by rw [hb]; exact hdg) (lv_room (show (0 : Nat) ≤ 8 by decide)) (X₁.named hnamed) ⟨hcs.1, hcs.2, hpre _ hT X₁.warmed⟩
    dsimp only [Pt.U, Pt.locs, Pt.cells, Pt.slots] at X' e1 e2 h1 h2 h3 hsteps
    subst h1; subst h2; subst h3
    exact ⟨v, (T.setVm vm₁).calling g' mk' (wr_vs ad ao as2).toArray, t, U', L, hT, X', hL, e1, e2, hq, fun target h => hstep₁ _ fun acts => by rw [doInvoke_state]; exact hsteps.trans h⟩
  refine va_calli (a := (wr_vs ad ao as2).toArray) run hS (fun q _ h => hF q h) hF (fun v f' t H1 locs1 ht hvm hv hB h1 h2 hS1 => ?_)
  obtain ⟨rfl, hPf⟩ := hv
  exact kk f' H1 locs1 hPf (by rw [ht] at hB; exact hB) h1 h2 hS1
end LWT
