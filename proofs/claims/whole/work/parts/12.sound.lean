/-! What the pure machine answers, the machine answers. -/
def ck_rm (d : Nat) : Room := { frames := d, cells := 0, slots := 0, locals := 30 * d }
def ck_wsm (md : ck_MD) : List Cond := Cond.code (ck_mN md) (ck_mB md) (ck_mL md) (ck_mR md) :: ck_GW
def ck_A (ad : Nat → Nat) (sz : Nat) : Nat → Prop := fun q => (∃ c, c < 501 ∧ q = ad c) ∨ sz ≤ q
def ck_Pc (D : va_G) (ad : Nat → Nat) (cs : ck_Cs) (as : List ck_PV) (σ : ck_M) (sz : Nat) : Array Value → State → Prop := va_Pc (as.map (ck_vv ad)) (fun U => U.heap.size = sz ∧ va_P D ck_cl (ck_ws ad cs σ) U.heap ∧ va_K D ck_cl (ck_tys cs) U ∧ va_D (fun _ => True) (ck_ws ad cs σ) ∧ ∀ w ∈ ck_NW, va_Nw w U)
/-- what a call may change: nothing, if its method is one that writes nothing -/
def ck_Bf (ad : Nat → Nat) (ro : Bool) (sz : Nat) : Nat → Prop := fun q => ro = false ∧ ck_A ad sz q
def ck_Qc (D : va_G) (ad : Nat → Nat) (cs : ck_Cs) (ro : Bool) (r : Option Int) (σ' : ck_M) (sz : Nat) : Array Value → State → Outcome → State → Prop := match r with
  | some x => va_Qi (fun (v : Int32) (_ : Unit) => v = Int32.ofInt x) (fun _ t => va_P D ck_cl (ck_ws ad cs σ') t.heap) (ck_Bf ad ro sz)
  | none => va_Qv (fun (_ : Unit) => True) (fun _ t => va_P D ck_cl (ck_ws ad cs σ') t.heap) (ck_Bf ad ro sz)
def ck_Met (l : Launch) (D : va_G) (ad : Nat → Nat) (cs : ck_Cs) (ro : Bool) (d : Nat) (md : ck_MD) (as : List ck_PV) (σ : ck_M) (r : Option Int) (σ' : ck_M) : Prop := ∀ sz, Met l (ck_mN md) (ck_wsm md) (ck_rm d) (ck_Pc D ad cs as σ sz) (ck_Qc D ad cs ro r σ' sz) 0 0 (ck_Bf ad ro sz)
theorem ck_good {md : ck_MD} (h : ck_mok md) : GoodIn ck_GW (ck_wsm md) := by
  intro w hw
  have h1 : w ∈ ck_GW := by
    rcases List.mem_cons.mp hw with h2 | h2
    · rw [h2]; exact h.1
    · exact h2
  exact ⟨h1, good_of_word (List.mem_filter.mp h1).2⟩
theorem ck_NW_tab : ∀ w ∈ ck_NW, w.onTables = true := by
  intro w hw
  rcases List.mem_cons.mp hw with rfl | hw
  · rfl
  · rcases List.mem_cons.mp hw with rfl | hw
    · rfl
    · exact absurd hw List.not_mem_nil
theorem ck_NW_warm {s U : State} (hW : s.WarmedH U.vm) (h : ∀ w ∈ ck_NW, va_Nw w s) : ∀ w ∈ ck_NW, va_Nw w U := by
  intro w hw
  have hz := h w hw
  rcases List.mem_cons.mp hw with rfl | hw
  · exact va_Nw.warmM hW hz
  · rcases List.mem_cons.mp hw with rfl | hw
    · exact va_Nw.warmM hW hz
    · exact absurd hw List.not_mem_nil
theorem ck_blind {D : va_G} {ad : Nat → Nat} {cs : ck_Cs} {as : List ck_PV} {σ : ck_M} {sz : Nat} : FrameBlind (ck_Pc D ad cs as σ sz) := by
  intro a U g mk q
  obtain ⟨q0, q1, qP, qK, qD, qN⟩ := q
  exact ⟨q0, q1, qP, va_K.moved (u := U) (U := U.calling g mk a) (Vm.Alike.refl U.vm) qK, qD, fun w hw => va_Nw.same (u := U) (U := U.calling g mk a) (ck_NW_tab w hw) rfl (qN w hw)⟩
section CKT
variable {p : Program} {l : Launch} {e : Env} {R : Room} {s : State} {m : MethodId} {args : Array Value} {below : List Frame} {meth : Method} {c : Code} {cells slots : Nat} {Q : State → Prop}
variable {D : va_G} {ad : Nat → Nat} {cs : ck_Cs} {A : Nat → Prop} {H0 : Heap} {md : ck_MD}
theorem ck_simN (Cx : ck_Cx p R s m args c D ad cs A H0 md) : ∀ (n : Nat) {X X1 : ck_F} {ps : List Prop}, ck_run n (ck_mT md) X = some (ps, X1) → ck_all ps → ck_W p l e R s m args below meth c cells slots Q D ad cs A H0 (ck_mL md) X1 → ck_W p l e R s m args below meth c cells slots Q D ad cs A H0 (ck_mL md) X := by
  intro n
  induction n with
  | zero =>
    intro X X1 ps h _ k
    cases h
    exact k
  | succ n ih =>
    intro X X1 ps h hps k
    unfold ck_run at h
    split at h
    · cases h
    · rename_i en hlk
      split at h
      · cases h
      · rename_i ps1 X2 hst
        split at h
        · cases h
        · rename_i qs X3 hr
          cases h
          obtain ⟨h1, h2⟩ := ck_all_app.mp hps
          exact ck_sim1 Cx hlk hst h1 (ih hr h2 k)
theorem ck_hA (hD : ∀ σ, va_D A (ck_ws ad cs σ)) (hA : ∀ q, H0.size ≤ q → A q) {σ : ck_M} {H : Heap} {locs : List Loc} (hS : va_S A H0 H locs) : ∀ q, ck_A ad H.size q → A q := by
  intro q h
  rcases h with ⟨c, hc, rfl⟩ | h
  · exact (hD σ).2 c _ (ck_ws_get hc)
  · exact hA q (Nat.le_trans hS.1 h)
set_option maxHeartbeats 4000000 in
theorem ck_simC {d : Nat} {md' : ck_MD} {as rest : List ck_PV} {r : Option Int} {σ' : ck_M} {X : ck_F} (Cx : ck_Cx p R s m args c D ad cs A H0 md) (hroom : d + 1 ≤ R.frames ∧ 30 * d + 30 ≤ R.locals) (hcs : cells ≤ R.cells ∧ slots ≤ R.slots) {ro : Bool} (hBA : ro = false → (∀ σ, va_D A (ck_ws ad cs σ)) ∧ ∀ q, H0.size ≤ q → A q) (hat : ck_at md X md' as rest) (hM : (∀ v ∈ as, ck_wt v) → ck_Met l D ad cs ro d md' as X.2.2.2 r σ')
    (k : ck_W p l e R s m args below meth c cells slots Q D ad cs A H0 (ck_mL md) (X.1 + 3, X.2.1, ck_psh r rest, σ')) : ck_W p l e R s m args below meth c cells slots Q D ad cs A H0 (ck_mL md) X := by
  obtain ⟨hx, hb, hml, hown, hts, hK, hD, hA, hmok, hR, hNW⟩ := Cx
  obtain ⟨pc, L, st, σ⟩ := X
  obtain ⟨en, hlk, hiv, hmd, hst, hlen, hrest, hthis⟩ := hat
  obtain ⟨hd, ho⟩ := ck_entry hmok hlk
  obtain ⟨ii, aux, hint, cst, tl⟩ := en
  dsimp only at hlk hiv hmd hst hd ho hM k
  subst hst
  have hmok' := ck_MOK md' (List.mem_of_getElem? hmd)
  obtain ⟨hcode, hinit, hpl, hname, hsta, hins, ⟨hl11, har⟩, -⟩ := id hmok'
  intro H locs ls hP hS hL hwl hws
  dsimp only at hP hS hL hwl hws ⊢
  have hwa : ∀ v ∈ as, ck_wt v := fun v hv => hws v (List.mem_append_left _ (List.mem_reverse.mpr hv))
  have hwr : ∀ v ∈ rest, ck_wt v := fun v hv => hws v (List.mem_append_right _ hv)
  have hM1 := hM hwa H.size
  have hF : ∀ q, ck_Bf ad ro H.size q → A q := fun q h => ck_hA (cs := cs) (hBA h.1).1 (hBA h.1).2 (σ := σ) hS q h.2
  have hpre : ∀ U : State, U.heap = H → s.WarmedH U.vm → ck_Pc D ad cs as σ H.size (as.map (ck_vv ad)).toArray U := fun U hU hW => ⟨rfl, by rw [hU], by rw [hU]; exact hP, va_K.moved hW.alike hK, hD σ, ck_NW_warm hW hNW⟩
  have hroom2 : (ck_rm d).frames + 1 ≤ R.frames ∧ 8 + (ck_mL md' + 11) + (ck_rm d).locals ≤ R.locals := by
    show d + 1 ≤ R.frames ∧ 8 + (ck_mL md' + 11) + 30 * d ≤ R.locals
    omega
  have hsum : 2 * (F0 m pc ls ((as.reverse ++ rest).map (ck_vv ad))).monitorRoom + ((rest.map (ck_vv ad)).map fun v => v.category).sum ≤ 8 := lv_room (by rw [ck_sum]; omega)
  have run : va_Run p l e R s m args below meth c H locs cells slots 0 0 (F0 m pc ls ((as.reverse ++ rest).map (ck_vv ad))) (rest.map (ck_vv ad)) (ck_Qc D ad cs ro r σ' H.size (as.map (ck_vv ad)).toArray) (ck_Bf ad ro H.size) := by
    rcases hiv with ⟨i, hi⟩ | ⟨i, hi⟩
    · subst hi
      have ho : ck_okC (ck_mN md).cls i aux hint false = true := ho
      unfold ck_okC at ho
      rw [hmd] at ho
      simp only [Bool.and_eq_true, Bool.false_and, Bool.or_false, beq_iff_eq] at ho
      obtain ⟨cc, as', rfl⟩ := hthis ho.2
      obtain ⟨hi1, hi2, hi3⟩ := hins ho.2
      have hcw := callB_of (R := R) (own := (ck_mN md).cls) (index := i) (y := ck_mN md') (bytes := ck_mB md') (maxL := ck_mL md') (ret := ck_mR md') (ws := ck_wsm md') (ws' := ck_GW) (rm := ck_rm d) (mc := 0) (ms := 0) (ck_mP md') hts (ck_good hmok') rfl rfl rfl (hts _ hinit) (hts _ (ck_wd_in ho.1)) hname hroom2
      have hw0 := hwa _ List.mem_cons_self
      have hcl : ∃ q : vw_C, ck_cl[ck_mC md']? = some q ∧ q.1 = (ck_mN md').cls := by
        cases hq : ck_cl[ck_mC md']? with
        | none => rw [hq] at hi3; cases hi3
        | some q => rw [hq] at hi3; exact ⟨q, rfl, Option.some.inj hi3⟩
      obtain ⟨q, hq1, hq2⟩ := hcl
      have hrecv := va_recv hK hP hq1 (a := ad cc.toNat) (q0 := cc.toNat) (fs := ck_fs ad σ (ck_mC md') cc) (by rw [ck_ws_get (ck_wt_lt hw0).1, ck_en3 hw0])
      rw [hq2] at hrecv
      have har2 : as'.length = ck_mP md' := by
        have h := hlen
        unfold ck_ar at h
        rw [ho.2] at h
        simpa using h
      exact va_runV (C := (ck_mN md').cls) (As := as'.map (ck_vv ad)) (b := ad cc.toNat) ⟨hx, hb, hml, hown, hts⟩ hM1 ⟨hcw, hts _ hi1, hts _ hi2⟩ ⟨ck_blind, hrecv, hpre⟩ rfl (by simpa using har2) hL.2.1 (by simp [ck_vv]) hsum hd ⟨hcs.1, hcs.2⟩
    · subst hi
      have ho : ck_okC (ck_mN md).cls i aux hint true = true := ho
      unfold ck_okC at ho
      rw [hmd] at ho
      simp only [Bool.and_eq_true, Bool.or_eq_true, Bool.true_and, decide_eq_true_eq, beq_iff_eq] at ho
      have har2 : as.length = ck_mP md' := by
        have h := hlen
        unfold ck_ar at h
        rw [ho.2] at h
        simpa using h
      rcases ho.1 with ho1 | ho1
      · have hcw := callB_of (R := R) (own := (ck_mN md).cls) (index := i) (y := ck_mN md') (bytes := ck_mB md') (maxL := ck_mL md') (ret := ck_mR md') (ws := ck_wsm md') (ws' := ck_GW) (rm := ck_rm d) (mc := 0) (ms := 0) (ck_mP md') hts (ck_good hmok') rfl rfl rfl (hts _ hinit) (hts _ (ck_wd_in ho1)) hname hroom2
        exact va_runS (As := as.map (ck_vv ad)) ⟨hx, hb, hml, hown, hts⟩ hM1 ⟨hcw, hts _ (hsta ho.2)⟩ ⟨ck_blind, hpre⟩ rfl (by simpa using har2) hL.2.1 (by simp) hsum hd ⟨hcs.1, hcs.2⟩
      · have hcw := va_cnB (R := R) (own := (ck_mN md).cls) (host := "CheckSaver") (index := i) (y := ck_mN md') (bytes := ck_mB md') (maxL := ck_mL md') (ret := ck_mR md') (ws := ck_wsm md') (ws' := ck_GW) (rm := ck_rm d) (mc := 0) (ms := 0) (ck_mP md') hts (ck_good hmok') rfl rfl rfl (hNW _ ho1) (hts _ hinit) hname hroom2
        exact va_runSN (As := as.map (ck_vv ad)) ⟨hx, hb, hml, hown, hts⟩ hM1 ⟨hcw, hts _ (hsta ho.2), trivial⟩ ⟨ck_blind, hpre⟩ rfl (by simpa using har2) hL.2.1 (by simp) hsum hd ⟨hcs.1, hcs.2⟩
  cases r with
  | none =>
    exact va_callv (a := (as.map (ck_vv ad)).toArray) run hS (fun q _ h => hF q h) hF (fun u t H1 locs1 ht hvm _ hB _ _ hS1 => k H1 locs1 ls (by rw [ht] at hB; exact hB) hS1 hL hwl hwr)
  | some x =>
    refine va_calli (a := (as.map (ck_vv ad)).toArray) run hS (fun q _ h => hF q h) hF (fun v u t H1 locs1 ht hvm hv hB _ _ hS1 => ?_)
    subst hv
    exact k H1 locs1 ls (by rw [ht] at hB; exact hB) hS1 hL hwl (List.forall_mem_cons.mpr ⟨trivial, hwr⟩)
theorem ck_simR {d : Nat} (Cx : ck_Cx p R s m args c D ad cs A H0 md) (hroom : d + 1 ≤ R.frames ∧ 30 * d + 30 ≤ R.locals) (hcs : cells ≤ R.cells ∧ slots ≤ R.slots)
    {ro : Bool} (hro : ro = true → ck_RO md) (hBA : ro = false → (∀ σ, va_D A (ck_ws ad cs σ)) ∧ ∀ q, H0.size ≤ q → A q) (hC : ∀ md' ∈ ck_MDs, (ro = true → ck_RO md') → ∀ as σ r σ', as.length = ck_ar md' → ck_call d md' as σ r σ' → (∀ v ∈ as, ck_wt v) → ck_Met l D ad cs ro d md' as σ r σ') {T : ck_F → Prop} (hT : ∀ X, T X → ck_W p l e R s m args below meth c cells slots Q D ad cs A H0 (ck_mL md) X) :
    ∀ (n : Nat) (X : ck_F), ck_rch (ck_call d) md n X T → ck_W p l e R s m args below meth c cells slots Q D ad cs A H0 (ck_mL md) X := by
  intro n
  induction n with
  | zero => exact fun X h => hT X h
  | succ n ih =>
    intro X h
    rcases h with h | ⟨k, ps, X1, h1, h2, h3⟩ | ⟨md', as, rest, r, σ', h1, h2, h3⟩
    · exact hT X h
    · exact ck_simN Cx k h1 h2 (ih X1 h3)
    · obtain ⟨en, hlk, hiv, hmd, hst, hlen, hrest, hthis⟩ := id h1
      refine ck_simC Cx hroom hcs hBA h1 (hC md' (List.mem_of_getElem? hmd) (fun q => ?_) as _ r σ' hlen h2) (ih _ h3)
      have z := ck_ro_no (hro q) hlk
      obtain ⟨ii, aux, hint, cst, tl⟩ := en
      have z2 : ck_ROi.contains aux = true := by
        rcases hiv with ⟨i, hi⟩ | ⟨i, hi⟩
        · dsimp only at hi
          subst hi
          exact z
        · dsimp only at hi
          subst hi
          exact z
      exact ⟨aux, List.contains_iff_mem.mp z2, hmd⟩
end CKT
theorem ck_args_in {ad : Nat → Nat} (as : List ck_PV) : ∀ (k i : Nat) (v : ck_PV), as[i]? = some v → (k + i, ck_vv ad v) ∈ lv_args k (as.map (ck_vv ad)) := by
  induction as with
  | nil => intro k i v h; simp at h
  | cons a r ih =>
    intro k i v h
    have hc : ¬ (ck_vv ad a).category = 2 := by rw [ck_cat]; decide
    rw [List.map_cons, lv_args, if_neg hc]
    cases i with
    | zero =>
      cases h
      exact List.mem_cons_self
    | succ i =>
      have h2 := ih (k + 1) i v (by simpa using h)
      rw [show k + 1 + i = k + (i + 1) by omega] at h2
      exact List.mem_cons_of_mem _ h2
theorem ck_sl_len {ad : Nat → Nat} (as : List ck_PV) : (lg_sl (as.map (ck_vv ad))).length = as.length := by
  induction as with
  | nil => rfl
  | cons a r ih =>
    have hc : ¬ (ck_vv ad a).category = 2 := by rw [ck_cat]; decide
    have h : lg_sl ((a :: r).map (ck_vv ad)) = [Slot.val (ck_vv ad a)] ++ lg_sl (r.map (ck_vv ad)) := by
      unfold lg_sl
      rw [List.map_cons, List.flatMap_cons, if_neg hc]
    rw [h, List.length_append, ih, List.length_cons, List.length_cons, List.length_nil]
    omega
set_option maxHeartbeats 4000000 in
theorem ck_sound (l : Launch) (D : va_G) (ad : Nat → Nat) (cs : ck_Cs) (ro : Bool) : ∀ (d : Nat) (md : ck_MD), md ∈ ck_MDs → (ro = true → ck_RO md) → ∀ (as : List ck_PV) (σ : ck_M) (r : Option Int) (σ' : ck_M), as.length = ck_ar md → ck_call d md as σ r σ' → (∀ v ∈ as, ck_wt v) → ck_Met l D ad cs ro d md as σ r σ' := by
  intro d
  induction d with
  | zero => exact fun _ _ _ _ _ _ _ _ h => False.elim h
  | succ d ih =>
    intro md hmd hro as σ r σ' hlen hcall hwa sz
    obtain ⟨n, hn⟩ := hcall
    have hmok := ck_MOK md hmd
    obtain ⟨hcode, hinit, hpl, hname, hsta, hins, ⟨hl11, har⟩, -⟩ := id hmok
    refine va_MetF (cc := ck_mB md) (maxL := ck_mL md) (ret := ck_mR md) hpl rfl ?_
    intro p e s m args below meth c s₁ B hml hv
    obtain ⟨rfl, hsz, hP, hK, hD0, hNW⟩ := hv
    have hx := B.exec
    have hb := B.bytes
    have hr := B.returns
    have hts0 := atoms_spec (ws := ck_wsm md) B.pre
    have hts : ∀ w ∈ ck_GW, w.before (as.map (ck_vv ad)).toArray s = true := fun w hw => hts0 w (List.mem_cons_of_mem _ hw)
    have hown : s.vm.findClass (ck_mN md).cls = some m.cls := findClass_of_methodNamed B.named
    have hlocks := B.notSynchronized
    subst hsz
    have hBA : ro = false → (∀ σ, va_D (ck_Bf ad ro s.heap.size) (ck_ws ad cs σ)) ∧ ∀ q : Nat, s.heap.size ≤ q → ck_Bf ad ro s.heap.size q := fun hr0 => ⟨fun σ2 => ck_D_any (σ := σ) ⟨hD0.1, fun k q hk => by
      obtain ⟨h1, rfl⟩ := ck_ws_inv hk
      exact ⟨hr0, Or.inl ⟨k, h1, rfl⟩⟩⟩ σ2, fun q h => ⟨hr0, Or.inr h⟩⟩
    have hA : ((∀ σ, va_D (ck_Bf ad ro s.heap.size) (ck_ws ad cs σ)) ∧ ∀ q : Nat, s.heap.size ≤ q → ck_Bf ad ro s.heap.size q) ∨ ck_RO md := by
      cases hr0 : ro with
      | false => exact Or.inl (by rw [hr0] at hBA; exact hBA rfl)
      | true => exact Or.inr (hro hr0)
    have hS : va_S (ck_Bf ad ro s.heap.size) s.heap s.heap [] := va_S.rf
    have Cx : ck_Cx p (headSpec (ck_wsm md) (ck_rm (d + 1))).room s m (as.map (ck_vv ad)).toArray c D ad cs (ck_Bf ad ro s.heap.size) s.heap md := ⟨hx, hb, hml, hown, hts, hK, fun σ2 => ck_D_any hD0 σ2, hA, hmok, by show 1 ≤ d + 1 ∧ 30 ≤ 30 * (d + 1); omega, hNW⟩
    have hle : (lg_sl (as.map (ck_vv ad))).length ≤ ck_mL md := by rw [ck_sl_len, hlen]; exact har
    have hl := lv_entry (as.map (ck_vv ad)) (n := ck_mL md) hle
    rw [lg_entry_eq]
    generalize (lg_sl (as.map (ck_vv ad)) ++ List.replicate (ck_mL md - (lg_sl (as.map (ck_vv ad))).length) Slot.unset).toArray = ls at hl ⊢
    have hLR : ck_LR ad ls (ck_mL md) (ck_ent md as σ).2.1 := by
      refine ⟨by simp [ck_ent]; omega, hl.1, hl.2.1, fun i v hi => ?_⟩
      have hi2 : as[i]? = some v := by
        show as[i]? = some v
        have h3 : (as.map some ++ List.replicate (ck_mL md - as.length) none)[i]? = some (some v) := hi
        by_cases hil : i < as.length
        · rw [List.getElem?_append_left (by simpa using hil), List.getElem?_map] at h3
          cases h4 : as[i]? with
          | none => rw [h4] at h3; cases h3
          | some w => rw [h4] at h3; cases h3; rfl
        · rw [List.getElem?_append_right (by simpa using hil)] at h3
          rw [List.getElem?_replicate] at h3
          split at h3 <;> cases h3
      have h5 := hl.2.2 _ (ck_args_in (ad := ad) as 0 i v hi2)
      simpa using h5
    have hwl : ∀ v, some v ∈ (ck_ent md as σ).2.1 → ck_wt v := by
      intro v hv
      have hv : some v ∈ as.map some ++ List.replicate (ck_mL md - as.length) none := hv
      rcases List.mem_append.mp hv with h | h
      · obtain ⟨w, hw, e2⟩ := List.mem_map.mp h
        rw [← Option.some.inj e2]
        exact hwa w hw
      · have h6 := List.eq_of_mem_replicate h
        cases h6
    refine ck_simR (d := d) Cx ⟨Nat.le_refl _, by show 30 * d + 30 ≤ 30 * (d + 1); omega⟩ ⟨Nat.le_refl _, Nat.le_refl _⟩ hro hBA (fun md' h' hr' as' σ1 r1 σ2 h1 h2 h3 => ih md' h' hr' as' σ1 r1 σ2 h1 h2 h3) (T := fun X => ck_ret md X r σ') ?_ n (ck_ent md as σ) hn s.heap [] ls hP hS hLR hwl (fun v hv => absurd hv List.not_mem_nil)
    intro X hX H locs ls' hP' hS' hL' hwl' hws'
    obtain ⟨rfl, en, hlk, hX⟩ := hX
    obtain ⟨hd, -⟩ := ck_entry hmok hlk
    obtain ⟨pc, L, st, σ2⟩ := X
    obtain ⟨i, aux, hint, cst, tl⟩ := en
    cases r with
    | none =>
      obtain ⟨h1, h2, h3⟩ := hX
      dsimp only at h1 h2 hd hP' hS' ⊢
      subst h1 h2
      exact W.vret hx hb (by rw [hr]; exact h3) (fun t ht _ => ⟨⟨(), rfl, trivial, by show va_P D ck_cl (ck_ws ad cs σ2) t.heap; rw [ht]; exact hP'⟩, hS'.F ht⟩) hS'.2.2 hd
    | some x =>
      obtain ⟨h1, h2, h3⟩ := hX
      dsimp only at h1 h2 hd hP' hS' ⊢
      subst h1 h2
      rcases h3 with h3 | ⟨h3, hz⟩
      · exact W.iret hx hb (by rw [hr]; exact h3) (fun t ht _ => ⟨⟨_, (), rfl, rfl, by show va_P D ck_cl (ck_ws ad cs σ2) t.heap; rw [ht]; exact hP'⟩, hS'.F ht⟩) hS'.2.2 hd
      · exact W.zret (ty := .boolean) hx hb (by rw [hr]; exact h3) (by rcases hz with h | h <;> subst h <;> decide +kernel) (fun t ht _ => ⟨⟨_, (), rfl, rfl, by show va_P D ck_cl (ck_ws ad cs σ2) t.heap; rw [ht]; exact hP'⟩, hS'.F ht⟩) hS'.2.2 hd
