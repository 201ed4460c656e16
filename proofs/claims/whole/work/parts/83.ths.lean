/-! What throws in the pure machine, throws. -/
def tw_exs : List (String × Nat × Nat) := [("java/lang/IllegalArgumentException", 43, 45), ("java/lang/IllegalStateException", 74, 76), ("java/lang/IndexOutOfBoundsException", 145, 147)]
def tw_nm : List String := ["java/lang/RuntimeException", "java/lang/Exception"]
def tw_wds (x : String × Nat × Nat) : List Cond := Bundle.ownAtoms0 "CheckSaver" x.2.2 x.1 tw_nm ++ [.classLink "CheckSaver" x.2.1 x.1, .initialized x.1]
theorem tw_wds_ok : ∀ x ∈ tw_exs, (tw_wds x).all tw_wk = true := by decide +kernel
theorem tw_exs_fit : ∀ x ∈ tw_exs, Bundle.fit x.1 = true := by decide +kernel
theorem tw_nm_fit : ∀ n ∈ tw_nm, Bundle.fit n = true := by decide +kernel
def tw_S (s0 : State) (ad : Nat → Nat) : Prop := (∀ x ∈ tw_exs, ∀ w ∈ tw_wds x, w.before #[] s0 = true) ∧ ∀ c : Nat, c < 501 → s0.heap.size ≤ ad c
def tw_site (md : ck_MD) (pc : Nat) (E : String) : Prop := (ck_mN md).cls = "CheckSaver" ∧ ∃ i1 i2, (E, i1, i2) ∈ tw_exs ∧ decode (ck_mB md) pc = .ok (.new i1, 3) ∧ decode (ck_mB md) (pc + 3) = .ok (.dup, 1) ∧ decode (ck_mB md) (pc + 4) = .ok (.invokespecial i2, 3) ∧ decode (ck_mB md) (pc + 7) = .ok (.athrow, 1)
/-- the method comes to a throw, nothing written -/
def tw_thw : Nat → ck_MD → List ck_PV → ck_M → String → Prop
  | 0 => fun _ _ _ _ => False
  | d + 1 => fun md as σ E => ∃ n, ck_rch (ck_call d) md n (ck_ent md as σ) (fun X => X.2.2.2 = σ ∧ ((tw_site md X.1 E ∧ X.2.2.1 = []) ∨ ((ck_mN md).cls = "CheckSaver" ∧ ∃ md' as' rest, ck_at md X md' as' rest ∧ tw_thw d md' as' σ E)))
def tw_Pc (s0 : State) (D : va_G) (ad : Nat → Nat) (cs : ck_Cs) (as : List ck_PV) (σ : ck_M) (sz : Nat) : Array Value → State → Prop := fun a U => ck_Pc D ad cs as σ sz a U ∧ tw_G s0 U
def tw_Met (l : Launch) (s0 : State) (D : va_G) (ad : Nat → Nat) (cs : ck_Cs) (d : Nat) (md : ck_MD) (as : List ck_PV) (σ : ck_M) (E : String) : Prop := ∀ sz, tw_MF l (ck_mN md) (ck_wsm md) (tw_rm d) (tw_Pc s0 D ad cs as σ sz) E (fun H => va_P D ck_cl (ck_ws ad cs σ) H) (ck_Bf ad false sz)
theorem tw_blind {s0 : State} {D : va_G} {ad : Nat → Nat} {cs : ck_Cs} {as : List ck_PV} {σ : ck_M} {sz : Nat} : FrameBlind (tw_Pc s0 D ad cs as σ sz) := fun a U g mk q => ⟨ck_blind a U g mk q.1, q.2⟩
/-- the old cells lie outside what may be written -/
theorem tw_old {s0 s : State} {ad : Nat → Nat} (hs0 : tw_S s0 ad) (hG : tw_G s0 s) {H : Heap} {locs : List Loc} (hS : va_S (ck_Bf ad false s.heap.size) s.heap H locs) : ∀ q : Nat, q < s0.heap.size → H[q]? = s0.heap[q]? := by
  intro q hq
  have h1 := hG.2 q hq
  have h2 : q < s.heap.size := by
    rw [Array.getElem?_eq_getElem hq] at h1
    exact (Array.getElem?_eq_some_iff.mp h1).1
  rw [hS.2.1 q h2 ?_]
  · exact h1
  · rintro ⟨-, ⟨c, hc, rfl⟩ | h⟩
    · have := hs0.2 c hc
      omega
    · omega
theorem tw_keep {D : va_G} {ws : va_W} {H H1 : Heap} (hP : va_P D ck_cl ws H) (h : ∀ q : Nat, q < H.size → H1[q]? = H[q]?) : va_P D ck_cl ws H1 := hP.kept fun k q hk => h _ (va_at.lt (hP k q hk))
set_option maxHeartbeats 4000000 in
theorem tw_sound {l : Launch} (hfl : l.flags = flags0) {s0 : State} {D : va_G} {ad : Nat → Nat} {cs : ck_Cs} (hs0 : tw_S s0 ad) {E : String} : ∀ (d : Nat) (md : ck_MD), md ∈ ck_MDs → ∀ (as : List ck_PV) (σ : ck_M), as.length = ck_ar md → tw_thw d md as σ E → (∀ v ∈ as, ck_wt v) → tw_Met l s0 D ad cs d md as σ E := by
  intro d
  induction d with
  | zero => exact fun _ _ _ _ _ h => False.elim h
  | succ d ih =>
    intro md hmd as σ hlen hcall hwa sz
    obtain ⟨n, hn⟩ := hcall
    have hmok := ck_MOK md hmd
    obtain ⟨hcode, hinit, hpl, hname, hsta, hins, ⟨hl11, har⟩, -⟩ := id hmok
    refine MetFree.of_bodySF (code := ck_mB md) (maxLocals := ck_mL md) (ret := ck_mR md) hpl ?_ ?_
    · intro args s m h hn
      obtain ⟨meth, c, h1, h2, h3, h4, h5, h6, -, -⟩ := Cond.code_spec hn (atoms_spec (ws := ck_wsm md) h _ List.mem_cons_self)
      exact ⟨meth, c, h1, h2, h3, h4, h5, h6⟩
    intro p e s m args below meth c s₁ B hml hv _
    obtain ⟨⟨rfl, hsz, hP, hK, hD0, hNW⟩, hG⟩ := hv
    have hx := B.exec
    have hb := B.bytes
    have hts0 := atoms_spec (ws := ck_wsm md) B.pre
    have hts : ∀ w ∈ ck_GW, w.before (as.map (ck_vv ad)).toArray s = true := fun w hw => hts0 w (List.mem_cons_of_mem _ hw)
    have hown : s.vm.findClass (ck_mN md).cls = some m.cls := findClass_of_methodNamed B.named
    have hlocks := B.notSynchronized
    have hnoh : c.exceptionTable.toList = [] := by
      have h1 := B.noHandlers (hts0 _ List.mem_cons_self)
      have h0 : c.exceptionTable.size = 0 := by simpa [Array.isEmpty] using h1
      exact List.eq_nil_of_length_eq_zero (by simpa using h0)
    subst hsz
    have hBA : (∀ σ, va_D (ck_Bf ad false s.heap.size) (ck_ws ad cs σ)) ∧ ∀ q : Nat, s.heap.size ≤ q → ck_Bf ad false s.heap.size q := ⟨fun σ2 => ck_D_any (σ := σ) ⟨hD0.1, fun k q hk => by
      obtain ⟨h1, rfl⟩ := ck_ws_inv hk
      exact ⟨rfl, Or.inl ⟨k, h1, rfl⟩⟩⟩ σ2, fun q h => ⟨rfl, Or.inr h⟩⟩
    have hS : va_S (ck_Bf ad false s.heap.size) s.heap s.heap [] := va_S.rf
    have Cx : ck_Cx p (headSpec (ck_wsm md) (tw_rm (d + 1))).room s m (as.map (ck_vv ad)).toArray c D ad cs (ck_Bf ad false s.heap.size) s.heap md := ⟨hx, hb, hml, hown, hts, hK, fun σ2 => ck_D_any hD0 σ2, Or.inl hBA, hmok, by show 1 ≤ d + 1 + 5 ∧ 30 ≤ 30 * (d + 1) + 60; omega, hNW⟩
    have hle : (lg_sl (as.map (ck_vv ad))).length ≤ ck_mL md := by rw [ck_sl_len, hlen]; exact har
    have hl := lv_entry (as.map (ck_vv ad)) (n := ck_mL md) hle
    have key : W p l e (headSpec (ck_wsm md) (tw_rm (d + 1))).room s m (as.map (ck_vv ad)).toArray below meth c s.heap [] 0 0 (fun t => ∃ o, t.status = .running ∧ Ended t below o ∧ tw_Q E (fun H => va_P D ck_cl (ck_ws ad cs σ) H) (ck_Bf ad false s.heap.size) (as.map (ck_vv ad)).toArray s o t) (entryFrame m (as.map (ck_vv ad)).toArray (ck_mL md)) := by
      rw [lg_entry_eq]
      generalize (lg_sl (as.map (ck_vv ad)) ++ List.replicate (ck_mL md - (lg_sl (as.map (ck_vv ad))).length) Slot.unset).toArray = ls at hl ⊢
      have hLR : ck_LR ad ls (ck_mL md) (ck_ent md as σ).2.1 := by
        refine ⟨by simp [ck_ent]; omega, hl.1, hl.2.1, fun i v hi => ?_⟩
        have hi2 : as[i]? = some v := by
          show as[i]? = some v
          have h3 : (as.map some ++ List.replicate (ck_mL md - as.length) none)[i]? = some (some v) := hi
          by_cases hil : i < as.length
          · rw [List.getElem?_append_left (by simpa using hil), List.getElem?_map] at h3
            cases h4 : as[i]? with
            | none => rw [h4] at h3; cases h3
            | some w => rw [h4] at h3; cases h3; rfl
          · rw [List.getElem?_append_right (by simpa using hil)] at h3
            rw [List.getElem?_replicate] at h3
            split at h3 <;> cases h3
        have h5 := hl.2.2 _ (ck_args_in (ad := ad) as 0 i v hi2)
        simpa using h5
      have hwl : ∀ v, some v ∈ (ck_ent md as σ).2.1 → ck_wt v := by
        intro v hv
        have hv : some v ∈ as.map some ++ List.replicate (ck_mL md - as.length) none := hv
        rcases List.mem_append.mp hv with h | h
        · obtain ⟨w, hw, e2⟩ := List.mem_map.mp h
          rw [← Option.some.inj e2]
          exact hwa w hw
        · have h6 := List.eq_of_mem_replicate h
          cases h6
      refine ck_simR (d := d) (ro := false) Cx ⟨by show d + 1 ≤ d + 1 + 5; omega, by show 30 * d + 30 ≤ 30 * (d + 1) + 60; omega⟩ ⟨Nat.zero_le _, Nat.zero_le _⟩ (fun h => by cases h) (fun _ => hBA) (fun md' h' hr' as' σ1 r1 σ2 h1 h2 h3 => ck_sound l D ad cs false d md' h' hr' as' σ1 r1 σ2 h1 h2 h3) (T := fun X => X.2.2.2 = σ ∧ ((tw_site md X.1 E ∧ X.2.2.1 = []) ∨ ((ck_mN md).cls = "CheckSaver" ∧ ∃ md' as' rest, ck_at md X md' as' rest ∧ tw_thw d md' as' σ E))) ?_ n (ck_ent md as σ) hn s.heap [] ls hP hS hLR hwl (fun v hv => absurd hv List.not_mem_nil)
      intro X hX H locs ls' hP' hS' hL' hwl' hws'
      obtain ⟨pc, L, st, σ2⟩ := X
      obtain ⟨hσ, hX⟩ := hX
      dsimp only at hσ hX hP' hL' hwl' hws' ⊢
      subst hσ
      intro T hT XS
      have hold : ∀ q : Nat, q < s0.heap.size → H[q]? = s0.heap[q]? := tw_old hs0 hG hS'
      rcases hX with ⟨⟨hcls, i1, i2, hex, d0, d1, d2, d3⟩, rfl⟩ | ⟨hcls, md', as', rest, hat, hthw⟩
      · have hw : ∀ w ∈ tw_wds (E, i1, i2), w.before (as.map (ck_vv ad)).toArray (tw_b s T) = true := fun w hw => tw_word (s0 := s0) (U := tw_b s T) hG.1 (fun q hq => by rw [show (tw_b s T).heap = H from hT]; exact hold q hq) (List.all_eq_true.mp (tw_wds_ok _ hex) w hw) (hs0.1 _ hex w hw)
        obtain ⟨U, a, ce, u1, u2, u3, u4, u5, u6, u7, u8, u9, u10⟩ := tw_throw XS hx (Launch.traces_off hfl XS.admits) (own := "CheckSaver") (E := E) (i1 := i1) (i2 := i2) (names := tw_nm) (by rw [← hcls]; exact hown) (tw_exs_fit _ hex) tw_nm_fit
          (fun w hw' => hw w (List.mem_append_left _ hw')) (hw _ (List.mem_append_right _ (by simp))) (hw _ (List.mem_append_right _ (by simp))) hb (ls := ls') (hL'.2.1.trans hml.symm) d0 d1 d2 d3 (by rw [hnoh]; exact fun x hx => absurd hx List.not_mem_nil) ⟨Nat.le_refl _, Nat.le_refl _⟩ ⟨by show 2 + 3 < d + 1 + 5; omega, by show 13 * (2 + 1) + 42 ≤ 30 * (d + 1) + 60; omega⟩ hlocks
        rw [hT] at u6 u7
        refine ⟨U, u1, .threw a, u2, u3, a, ce, locs, rfl, u8, u9, u10, u4, u5, hS'.2.2, tw_keep hP' u6, Nat.le_trans hS'.1 u7, fun q h1 h2 => ?_⟩
        rw [u6 q (Nat.lt_of_lt_of_le h1 hS'.1)]
        exact hS'.2.1 q h1 h2
      · obtain ⟨en, hlk, hiv, hmd', hst, hlen', hrest, hthis⟩ := hat
        obtain ⟨hd, ho⟩ := ck_entry hmok hlk
        obtain ⟨ii, aux, hint, cst, tl⟩ := en
        dsimp only at hlk hiv hmd' hst hd ho
        subst hst
        have hmok' := ck_MOK md' (List.mem_of_getElem? hmd')
        obtain ⟨hcode', hinit', hpl', hname', hsta', hins', ⟨hl11', har'⟩, -⟩ := id hmok'
        have hwa' : ∀ v ∈ as', ck_wt v := fun v hv => hws' v (List.mem_append_left _ (List.mem_reverse.mpr hv))
        have hM1 := ih md' (List.mem_of_getElem? hmd') as' σ2 hlen' hthw hwa' H.size
        have hpre : ∀ U : State, U.heap = H → s.WarmedH U.vm → tw_Pc s0 D ad cs as' σ2 H.size (as'.map (ck_vv ad)).toArray U := fun U hU hW => ⟨⟨rfl, by rw [hU], by rw [hU]; exact hP', va_K.moved hW.alike hK, ck_D_any hD0 σ2, ck_NW_warm hW hNW⟩, State.WarmedH.trans hG.1 hW, by rw [hU]; exact hold⟩
        have hroom2 : (tw_rm d).frames + 1 ≤ (headSpec (ck_wsm md) (tw_rm (d + 1))).room.frames ∧ 8 + (ck_mL md' + 11) + (tw_rm d).locals ≤ (headSpec (ck_wsm md) (tw_rm (d + 1))).room.locals := by
          show d + 5 + 1 ≤ d + 1 + 5 ∧ 8 + (ck_mL md' + 11) + (30 * d + 60) ≤ 30 * (d + 1) + 60
          omega
        have hsum : 2 * (F0 m pc ls' ((as'.reverse ++ rest).map (ck_vv ad))).monitorRoom + ((rest.map (ck_vv ad)).map fun v => v.category).sum ≤ 8 := lv_room (by rw [ck_sum]; omega)
        have run : tw_End p l e (headSpec (ck_wsm md) (tw_rm (d + 1))).room s m (as.map (ck_vv ad)).toArray below meth c T locs 0 0 E (fun H => va_P D ck_cl (ck_ws ad cs σ2) H) (ck_Bf ad false H.size) (T.setTop (F0 m pc ls' ((as'.reverse ++ rest).map (ck_vv ad)))) (F0 m pc ls' (rest.map (ck_vv ad))) := by
          rcases hiv with ⟨i, hi⟩ | ⟨i, hi⟩
          · subst hi
            have ho : ck_okC (ck_mN md).cls i aux hint false = true := ho
            unfold ck_okC at ho
            rw [hmd'] at ho
            simp only [Bool.and_eq_true, Bool.false_and, Bool.or_false, beq_iff_eq] at ho
            obtain ⟨cc, as2, rfl⟩ := hthis ho.2
            obtain ⟨hi1, hi2, hi3⟩ := hins' ho.2
            have hcw := callB_of (R := (headSpec (ck_wsm md) (tw_rm (d + 1))).room) (own := (ck_mN md).cls) (index := i) (y := ck_mN md') (bytes := ck_mB md') (maxL := ck_mL md') (ret := ck_mR md') (ws := ck_wsm md') (ws' := ck_GW) (rm := tw_rm d) (mc := 1) (ms := 6) (ck_mP md') hts (ck_good hmok') rfl rfl rfl (hts _ hinit') (hts _ (ck_wd_in ho.1)) hname' hroom2
            have hw0 := hwa' _ List.mem_cons_self
            have hcl : ∃ q : vw_C, ck_cl[ck_mC md']? = some q ∧ q.1 = (ck_mN md').cls := by
              cases hq : ck_cl[ck_mC md']? with
              | none => rw [hq] at hi3; cases hi3
              | some q => rw [hq] at hi3; exact ⟨q, rfl, Option.some.inj hi3⟩
            obtain ⟨q, hq1, hq2⟩ := hcl
            have hrecv := va_recv hK hP' hq1 (a := ad cc.toNat) (q0 := cc.toNat) (fs := ck_fs ad σ2 (ck_mC md') cc) (by rw [ck_ws_get (ck_wt_lt hw0).1, ck_en3 hw0])
            rw [hq2] at hrecv
            have har2 : as2.length = ck_mP md' := by
              have h := hlen'
              unfold ck_ar at h
              rw [ho.2] at h
              simpa using h
            exact tw_runV (C := (ck_mN md').cls) (As := as2.map (ck_vv ad)) (b := ad cc.toNat) (g := F0 m pc ls' (((Sum.inr (cc, 3, ck_mC md') :: as2).reverse ++ rest).map (ck_vv ad))) ⟨hx, hb, hml, hown, hts⟩ hM1 ⟨hcw, hts _ hi1, hts _ hi2⟩ ⟨tw_blind, hrecv, hpre⟩ rfl (by simpa using har2) hL'.2.1 (by simp [ck_vv]) hsum hd ⟨Nat.le_refl _, Nat.le_refl _⟩ hT XS
          · subst hi
            have ho : ck_okC (ck_mN md).cls i aux hint true = true := ho
            unfold ck_okC at ho
            rw [hmd'] at ho
            simp only [Bool.and_eq_true, Bool.or_eq_true, Bool.true_and, decide_eq_true_eq, beq_iff_eq] at ho
            have har2 : as'.length = ck_mP md' := by
              have h := hlen'
              unfold ck_ar at h
              rw [ho.2] at h
              simpa using h
            have ho1 : ck_wd hint (Cond.methodLink (ck_mN md).cls i (ck_mN md')) = true := by
              rcases ho.1 with h | h
              · exact h
              · rw [hcls] at h
                simp [ck_NW] at h
            have hcw := callB_of (R := (headSpec (ck_wsm md) (tw_rm (d + 1))).room) (own := (ck_mN md).cls) (index := i) (y := ck_mN md') (bytes := ck_mB md') (maxL := ck_mL md') (ret := ck_mR md') (ws := ck_wsm md') (ws' := ck_GW) (rm := tw_rm d) (mc := 1) (ms := 6) (ck_mP md') hts (ck_good hmok') rfl rfl rfl (hts _ hinit') (hts _ (ck_wd_in ho1)) hname' hroom2
            exact tw_runS (As := as'.map (ck_vv ad)) (g := F0 m pc ls' ((as'.reverse ++ rest).map (ck_vv ad))) ⟨hx, hb, hml, hown, hts⟩ hM1 ⟨hcw, hts _ (hsta' ho.2)⟩ ⟨tw_blind, hpre⟩ rfl (by simpa using har2) hL'.2.1 (by simp) hsum hd ⟨Nat.le_refl _, Nat.le_refl _⟩ hT XS
        obtain ⟨q, ce, L2, T', z1, z2, z3, z4, z5, z6, z7, z8⟩ := run
        obtain ⟨k1, k2, k3, k4, k5⟩ := z1.leaveThrown q (g := F0 m pc ls' (rest.map (ck_vv ad))) rfl rfl rfl (by rw [hnoh]; exact fun x hx => absurd hx List.not_mem_nil) hlocks
        have hF : ∀ z, ck_Bf ad false H.size z → ck_Bf ad false s.heap.size z := fun z h => ⟨rfl, h.2.elim Or.inl fun h => Or.inr (Nat.le_trans hS'.1 h)⟩
        have hTs : T.heap.size = H.size := by rw [hT]
        refine ⟨_, z8.trans k1, .threw q, k2, k3, q, ce, locs ++ L2, rfl, z3, z4, z5, k4, k5, fun z hz => ?_, z6, ?_, fun w h1 h2 => ?_⟩
        · rcases List.mem_append.mp hz with h | h
          · exact hS'.2.2 z h
          · exact hF _ (z2 z h)
        · have := z7.1
          show s.heap.size ≤ T'.heap.size
          have := hS'.1
          omega
        · show T'.heap[w]? = _
          rw [z7.2 w (by rw [hTs]; exact Nat.lt_of_lt_of_le h1 hS'.1) (fun h => h2 (hF _ h)), hT]
          exact hS'.2.1 w h1 h2
    have hh0 : s₁.heap = s.heap := by rw [B.state]; rfl
    obtain ⟨t, a1, o, b1, b2, b3⟩ := key s₁ hh0 (Stand.of_body B)
    exact ⟨t, o, a1, b1, b2, b3⟩
