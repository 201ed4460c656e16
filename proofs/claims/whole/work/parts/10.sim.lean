/-! One step of the pure machine is one instruction of the machine. -/
theorem ck_ild_inv {pc i : Nat} {L : ck_Ls} {st : List ck_PV} {σ : ck_M} {ps : List Prop} {X : ck_F} (h : ck_ild pc i L st σ = some (ps, X)) : ps = [] ∧ ∃ x, L[i]? = some (some (.inl x)) ∧ X = (pc, L, .inl x :: st, σ) := by
  unfold ck_ild at h
  split at h
  · rename_i x hx
    cases h
    exact ⟨rfl, x, hx, rfl⟩
  · cases h
theorem ck_ald_inv {pc i : Nat} {L : ck_Ls} {st : List ck_PV} {σ : ck_M} {ps : List Prop} {X : ck_F} (h : ck_ald pc i L st σ = some (ps, X)) : ps = [] ∧ ∃ x, L[i]? = some (some (.inr x)) ∧ X = (pc, L, .inr x :: st, σ) := by
  unfold ck_ald at h
  split at h
  · rename_i x hx
    cases h
    exact ⟨rfl, x, hx, rfl⟩
  · cases h
theorem ck_ist_inv {pc i : Nat} {L : ck_Ls} {st : List ck_PV} {σ : ck_M} {ps : List Prop} {X : ck_F} (h : ck_ist pc i L st σ = some (ps, X)) : ps = [] ∧ ∃ x r, st = .inl x :: r ∧ i < L.length ∧ X = (pc, L.set i (some (.inl x)), r, σ) := by
  unfold ck_ist at h
  split at h
  · rename_i x r
    split at h
    · rename_i hi
      cases h
      exact ⟨rfl, x, r, rfl, hi, rfl⟩
    · cases h
  · cases h
theorem ck_ast_inv {pc i : Nat} {L : ck_Ls} {st : List ck_PV} {σ : ck_M} {ps : List Prop} {X : ck_F} (h : ck_ast pc i L st σ = some (ps, X)) : ps = [] ∧ ∃ x r, st = .inr x :: r ∧ i < L.length ∧ X = (pc, L.set i (some (.inr x)), r, σ) := by
  unfold ck_ast at h
  split at h
  · rename_i x r
    split at h
    · rename_i hi
      cases h
      exact ⟨rfl, x, r, rfl, hi, rfl⟩
    · cases h
  · cases h
theorem ck_inc_inv {pc i : Nat} {n : Int} {L : ck_Ls} {st : List ck_PV} {σ : ck_M} {ps : List Prop} {X : ck_F} (h : ck_inc pc i n L st σ = some (ps, X)) : ps = [] ∧ ∃ x, L[i]? = some (some (.inl x)) ∧ X = (pc, L.set i (some (.inl (x + n))), st, σ) := by
  unfold ck_inc at h
  split at h
  · rename_i x hx
    cases h
    exact ⟨rfl, x, hx, rfl⟩
  · cases h
theorem ck_bin_inv {f : Int → Int → Int} {pc : Nat} {L : ck_Ls} {st : List ck_PV} {σ : ck_M} {ps : List Prop} {X : ck_F} (h : ck_bin f pc L st σ = some (ps, X)) : ps = [] ∧ ∃ x y r, st = .inl y :: .inl x :: r ∧ X = (pc + 1, L, .inl (f x y) :: r, σ) := by
  unfold ck_bin at h
  split at h
  · rename_i y x r
    cases h
    exact ⟨rfl, x, y, r, rfl, rfl⟩
  · cases h
theorem ck_getf_inv {pc aux : Nat} {L : ck_Ls} {st : List ck_PV} {σ : ck_M} {ps : List Prop} {X : ck_F} (h : ck_getf pc aux L st σ = some (ps, X)) : ps = [] ∧ ∃ c r, st = .inr (c, 3, aux / 100) :: r ∧ ((∃ q, ck_fr (aux / 100) (aux % 100) c = some q ∧ X = (pc + 3, L, .inr q :: r, σ)) ∨ (ck_fr (aux / 100) (aux % 100) c = none ∧ X = (pc + 3, L, .inl (σ c (aux % 100 : Nat)) :: r, σ))) := by
  unfold ck_getf at h
  split at h
  · rename_i c ci r
    split at h
    · rename_i hi
      subst hi
      split at h
      · rename_i q hq
        cases h
        exact ⟨rfl, c, r, rfl, Or.inl ⟨q, hq, rfl⟩⟩
      · rename_i hq
        cases h
        exact ⟨rfl, c, r, rfl, Or.inr ⟨hq, rfl⟩⟩
    · cases h
  · cases h
theorem ck_putf_inv {pc aux : Nat} {z : Int} {L : ck_Ls} {st : List ck_PV} {σ : ck_M} {ps : List Prop} {X : ck_F} (h : ck_putf pc aux z L st σ = some (ps, X)) : ∃ x c r, st = .inl x :: .inr (c, 3, aux / 100) :: r ∧ ck_fr (aux / 100) (aux % 100) c = none ∧ ps = (if z = 0 then [] else [x = 0 ∨ x = 1]) ∧ X = (pc + 3, L, r, ck_up σ c (aux % 100 : Nat) x) := by
  unfold ck_putf at h
  split at h
  · rename_i x c ci r
    split at h
    · rename_i hi
      subst hi
      split at h
      · cases h
      · rename_i hq
        cases h
        exact ⟨x, c, r, rfl, hq, rfl, rfl⟩
    · cases h
  · cases h
theorem ck_aldI_inv {pc : Nat} {L : ck_Ls} {st : List ck_PV} {σ : ck_M} {ps : List Prop} {X : ck_F} (h : ck_aldI pc L st σ = some (ps, X)) : ∃ i a n r, st = .inl i :: .inr (a, 0, n) :: r ∧ ps = [0 ≤ i ∧ i < (n : Int)] ∧ X = (pc + 1, L, .inl (σ a i) :: r, σ) := by
  unfold ck_aldI at h
  split at h
  · cases h
    exact ⟨_, _, _, _, rfl, rfl, rfl⟩
  · cases h
theorem ck_aldZ_inv {pc : Nat} {L : ck_Ls} {st : List ck_PV} {σ : ck_M} {ps : List Prop} {X : ck_F} (h : ck_aldZ pc L st σ = some (ps, X)) : ∃ i a n r, st = .inl i :: .inr (a, 1, n) :: r ∧ ps = [0 ≤ i ∧ i < (n : Int)] ∧ X = (pc + 1, L, .inl (σ a i) :: r, σ) := by
  unfold ck_aldZ at h
  split at h
  · cases h
    exact ⟨_, _, _, _, rfl, rfl, rfl⟩
  · cases h
theorem ck_aldA_inv {pc : Nat} {L : ck_Ls} {st : List ck_PV} {σ : ck_M} {ps : List Prop} {X : ck_F} (h : ck_aldA pc L st σ = some (ps, X)) : ∃ i a n r, st = .inl i :: .inr (a, 2, n) :: r ∧ ps = [0 ≤ i ∧ i < (n : Int)] ∧ X = (pc + 1, L, .inr (25 + 7 * i, 3, 0) :: r, σ) := by
  unfold ck_aldA at h
  split at h
  · cases h
    exact ⟨_, _, _, _, rfl, rfl, rfl⟩
  · cases h
theorem ck_astI_inv {pc : Nat} {L : ck_Ls} {st : List ck_PV} {σ : ck_M} {ps : List Prop} {X : ck_F} (h : ck_astI pc L st σ = some (ps, X)) : ∃ x i a n r, st = .inl x :: .inl i :: .inr (a, 0, n) :: r ∧ ps = [0 ≤ i ∧ i < (n : Int)] ∧ X = (pc + 1, L, r, ck_up σ a i x) := by
  unfold ck_astI at h
  split at h
  · cases h
    exact ⟨_, _, _, _, _, rfl, rfl, rfl⟩
  · cases h
theorem ck_astZ_inv {pc : Nat} {L : ck_Ls} {st : List ck_PV} {σ : ck_M} {ps : List Prop} {X : ck_F} (h : ck_astZ pc L st σ = some (ps, X)) : ∃ x i a n r, st = .inl x :: .inl i :: .inr (a, 1, n) :: r ∧ ps = [0 ≤ i ∧ i < (n : Int), x = 0 ∨ x = 1] ∧ X = (pc + 1, L, r, ck_up σ a i x) := by
  unfold ck_astZ at h
  split at h
  · cases h
    exact ⟨_, _, _, _, _, rfl, rfl, rfl⟩
  · cases h
theorem ck_aln_inv {pc : Nat} {L : ck_Ls} {st : List ck_PV} {σ : ck_M} {ps : List Prop} {X : ck_F} (h : ck_aln pc L st σ = some (ps, X)) : ps = [] ∧ ∃ a kd n r, st = .inr (a, kd, n) :: r ∧ (kd = 0 ∨ kd = 1 ∨ kd = 2) ∧ X = (pc + 1, L, .inl (n : Int) :: r, σ) := by
  unfold ck_aln at h
  split at h
  · cases h
    exact ⟨rfl, _, _, _, _, rfl, Or.inl rfl, rfl⟩
  · cases h
    exact ⟨rfl, _, _, _, _, rfl, Or.inr (Or.inl rfl), rfl⟩
  · cases h
    exact ⟨rfl, _, _, _, _, rfl, Or.inr (Or.inr rfl), rfl⟩
  · cases h
theorem ck_acp_inv {pc : Nat} {L : ck_Ls} {st : List ck_PV} {σ : ck_M} {ps : List Prop} {X : ck_F} (h : ck_acp pc L st σ = some (ps, X)) : ∃ n d b nb s0 a na, st = [.inl n, .inl d, .inr (b, 0, nb), .inl s0, .inr (a, 0, na)] ∧ ps = [s0 = 0, d = 0, 0 ≤ n, n ≤ (na : Int), n ≤ (nb : Int)] ∧ X = (pc + 3, L, [], ck_cpy σ a b n) := by
  unfold ck_acp at h
  split at h
  · cases h
    exact ⟨_, _, _, _, _, _, _, rfl, rfl, rfl⟩
  · cases h
theorem ck_lookup1 {l : List (Nat × ck_En)} {k : Nat} {v : ck_En} (h : ck_lk1 l k = some v) : (k, v) ∈ l := by
  induction l with
  | nil => cases h
  | cons a r ih =>
    obtain ⟨k', v'⟩ := a
    unfold ck_lk1 at h
    by_cases hk : Nat.beq k k' = true
    · rw [hk] at h
      cases h
      rw [Nat.eq_of_beq_eq_true hk]
      exact List.mem_cons_self
    · rw [Bool.not_eq_true] at hk
      rw [hk] at h
      exact List.mem_cons_of_mem _ (ih h)
theorem ck_lookup {l : ck_Tb} {k : Nat} {v : ck_En} (h : ck_lk l k = some v) : ∃ ch ∈ l, (k, v) ∈ ch.2 := by
  induction l with
  | nil => cases h
  | cons a r ih =>
    obtain ⟨b, c⟩ := a
    unfold ck_lk at h
    by_cases hk : Nat.ble b k = true
    · rw [hk] at h
      obtain ⟨ch, h1, h2⟩ := ih h
      exact ⟨ch, List.mem_cons_of_mem _ h1, h2⟩
    · rw [Bool.not_eq_true] at hk
      rw [hk] at h
      exact ⟨(b, c), List.mem_cons_self, ck_lookup1 h⟩
theorem ck_entry {md : ck_MD} {pc : Nat} {en : ck_En} (hm : ck_mok md) (h : ck_lk (ck_mT md) pc = some en) : decode (ck_mB md) pc = .ok (en.1, ck_len en) ∧ ck_okx (ck_mN md).cls pc en = true := by
  obtain ⟨ch, hc1, hc2⟩ := ck_lookup h
  have h1 := List.all_eq_true.mp (List.all_eq_true.mp hm.2.2.2.2.2.2.2 ch hc1) _ hc2
  simp only [ck_ok, Bool.and_eq_true, decide_eq_true_eq] at h1
  exact h1
theorem ck_ro_no {md : ck_MD} (h : ck_RO md) {pc : Nat} {en : ck_En} (hlk : ck_lk (ck_mT md) pc = some en) : ck_roI en = true := by
  obtain ⟨ch, h1, h2⟩ := ck_lookup hlk
  exact List.all_eq_true.mp (List.all_eq_true.mp (ck_RO_ok h) ch h1) _ h2
theorem ck_wd_in {hint : Nat} {w : Cond} (h : ck_wd hint w = true) : w ∈ ck_GW := by
  simp only [ck_wd, Bool.and_eq_true, decide_eq_true_eq] at h
  exact ck_gw hint h.1 h.2
set_option maxRecDepth 20000 in
theorem ck_natw : Cond.native arraycopyName ∈ ck_GW := ck_gw 531 (by decide +kernel) (by decide +kernel)
set_option maxRecDepth 20000 in
theorem ck_natS : Cond.static arraycopyName ∈ ck_GW := ck_gw 530 (by decide +kernel) (by decide +kernel)
set_option maxRecDepth 20000 in
theorem ck_natI : Cond.initialized "java/lang/System" ∈ ck_GW := ck_gw 70 (by decide +kernel) (by decide +kernel)
theorem ck_ofz : Int32.ofInt 0 = 0 := by decide
theorem ck_fs_get {ad : Nat → Nat} {σ : ck_M} {ci k : Nat} {c : Int} (hk : k < ck_nF ci) : (ck_fs ad σ ci c)[k]? = some (ck_fv ad σ ci c k) := by
  simp [ck_fs, hk]
theorem ck_fs_set {ad : Nat → Nat} {σ : ck_M} {ci k : Nat} {c x : Int} (hk : k < ck_nF ci) (hf : ck_fr ci k c = none) : (ck_fs ad σ ci c).set k (.int (Int32.ofInt x)) = ck_fs ad (ck_up σ c k x) ci c := by
  apply List.ext_getElem?
  intro j
  by_cases hj : j < ck_nF ci
  · by_cases hkj : k = j
    · subst hkj
      rw [List.getElem?_set_self (by simpa [ck_fs] using hk), ck_fs_get hk, ck_fv, hf]
      simp [ck_up]
    · rw [List.getElem?_set_ne hkj, ck_fs_get hj, ck_fs_get hj]
      have e : ck_up σ c k x c j = σ c j := by
        unfold ck_up
        rw [if_neg (by rintro ⟨-, h⟩; omega)]
      unfold ck_fv
      rw [e]
  · rw [List.getElem?_eq_none (by simp [ck_fs]; omega), List.getElem?_eq_none (by simp [ck_fs]; omega)]
theorem ck_up_ne {σ : ck_M} {c k x : Int} {b : Nat} (h : b ≠ c.toNat) (h0 : 0 ≤ c) (j : Int) : ck_up σ c k x b j = σ b j := by
  unfold ck_up
  rw [if_neg (by rintro ⟨h1, -⟩; omega)]
section CKS
variable {p : Program} {l : Launch} {e : Env} {R : Room} {s : State} {m : MethodId} {args : Array Value} {below : List Frame} {meth : Method} {c : Code} {cells slots : Nat} {Q : State → Prop}
variable {D : va_G} {ad : Nat → Nat} {cs : ck_Cs} {A : Nat → Prop} {H0 : Heap} {md : ck_MD}
/-- from every state of the machine that X describes -/
def ck_W (p : Program) (l : Launch) (e : Env) (R : Room) (s : State) (m : MethodId) (args : Array Value) (below : List Frame) (meth : Method) (c : Code) (cells slots : Nat) (Q : State → Prop) (D : va_G) (ad : Nat → Nat) (cs : ck_Cs) (A : Nat → Prop) (H0 : Heap) (nL : Nat) (X : ck_F) : Prop :=
  ∀ (H : Heap) (locs : List Loc) (ls : Array Slot), va_P D ck_cl (ck_ws ad cs X.2.2.2) H → va_S A H0 H locs → ck_LR ad ls nL X.2.1 → (∀ v, some v ∈ X.2.1 → ck_wt v) → (∀ v ∈ X.2.2.1, ck_wt v) → W p l e R s m args below meth c H locs cells slots Q (F0 m X.1 ls (X.2.2.1.map (ck_vv ad)))
/-- what holds all the while -/
def ck_Cx (p : Program) (R : Room) (s : State) (m : MethodId) (args : Array Value) (c : Code) (D : va_G) (ad : Nat → Nat) (cs : ck_Cs) (A : Nat → Prop) (H0 : Heap) (md : ck_MD) : Prop :=
  p.tables.exec = Jvm.exec ∧ c.code = ck_mB md ∧ c.maxLocals = ck_mL md ∧ s.vm.findClass (ck_mN md).cls = some m.cls ∧ (∀ w ∈ ck_GW, w.before args s = true) ∧ va_K D ck_cl (ck_tys cs) s ∧ (∀ σ, va_D (fun _ => True) (ck_ws ad cs σ)) ∧ (((∀ σ, va_D A (ck_ws ad cs σ)) ∧ ∀ q, H0.size ≤ q → A q) ∨ ck_RO md) ∧ ck_mok md ∧ (1 ≤ R.frames ∧ 30 ≤ R.locals) ∧ ∀ w ∈ ck_NW, va_Nw w s
theorem ck_wl_set {L : ck_Ls} {i : Nat} {v : ck_PV} (h : ∀ v, some v ∈ L → ck_wt v) (hv : ck_wt v) : ∀ w, some w ∈ L.set i (some v) → ck_wt w := by
  intro w hw
  rcases List.mem_or_eq_of_mem_set hw with h1 | h1
  · exact h w h1
  · cases h1
    exact hv
theorem ck_top {H : Heap} {locs : List Loc} {pc : Nat} {ls : Array Slot} {rest : List Value} {a b : Int32} (h : a = b) (k : W p l e R s m args below meth c H locs cells slots Q (F0 m pc ls (.int b :: rest))) : W p l e R s m args below meth c H locs cells slots Q (F0 m pc ls (.int a :: rest)) := h ▸ k
theorem ck_s_getf {H : Heap} {locs : List Loc} {ls : Array Slot} {pc idx aux hint : Nat} {cc : Int} {r : List ck_PV} {σ : ck_M} (Cx : ck_Cx p R s m args c D ad cs A H0 md) (hd : decode (ck_mB md) pc = .ok (.getfield idx, 3)) (ho : ck_okF (ck_mN md).cls idx aux hint = true) (hw : ck_wt (.inr (cc, 3, aux / 100))) (hP : va_P D ck_cl (ck_ws ad cs σ) H)
    (k : aux % 100 < ck_nF (aux / 100) → W p l e R s m args below meth c H locs cells slots Q (F0 m (pc + 3) ls (ck_fv ad σ (aux / 100) cc (aux % 100) :: r.map (ck_vv ad)))) : W p l e R s m args below meth c H locs cells slots Q (F0 m pc ls (.ref (ad cc.toNat) :: r.map (ck_vv ad))) := by
  obtain ⟨hx, hb, hml, hown, hts, hK, hD, hA, hmok, hR⟩ := Cx
  unfold ck_okF at ho
  split at ho
  · rename_i rr hr
    simp only [Bool.and_eq_true, decide_eq_true_eq] at ho
    obtain ⟨hN, hT, hin, -, -⟩ := ck_cl_r hr
    have hk : aux % 100 < ck_nF (aux / 100) := by rw [hN]; exact ho.1
    exact va_get (D := D) (cl := ck_cl) (tys := ck_tys cs) (ci := aux / 100) (C := rr.1) (T := rr.2.1) (N := rr.2.2) hx hb hts hin hown hK hP cc.toNat (fs := ck_fs ad σ (aux / 100) cc) (by rw [ck_ws_get (ck_wt_lt hw).1, ck_en3 hw]) hr (aux % 100) ho.1 (hts _ (ck_wd_in ho.2)) (fun x h => by rw [← hT _ ho.1]; exact h) (ck_fs_get hk) hd (k hk)
  · cases ho
theorem ck_s_putf {H : Heap} {locs : List Loc} {ls : Array Slot} {pc idx aux hint : Nat} {z x cc : Int} {r : List ck_PV} {σ : ck_M} (Cx : ck_Cx p R s m args c D ad cs A H0 md) (hd : decode (ck_mB md) pc = .ok (.putfield idx, 3)) (ho : ck_okF (ck_mN md).cls idx aux hint = true) (ho2 : ck_okP aux z = true) (hw : ck_wt (.inr (cc, 3, aux / 100))) (hf : ck_fr (aux / 100) (aux % 100) cc = none) (hz : ck_all (if z = 0 then [] else [x = 0 ∨ x = 1])) (hP : va_P D ck_cl (ck_ws ad cs σ) H) (hS : va_S A H0 H locs) (hro : ¬ ck_RO md)
    (k : ∀ (H1 : Heap) (locs1 : List Loc), va_P D ck_cl (ck_ws ad cs (ck_up σ cc (aux % 100 : Nat) x)) H1 → va_S A H0 H1 locs1 → W p l e R s m args below meth c H1 locs1 cells slots Q (F0 m (pc + 3) ls (r.map (ck_vv ad)))) : W p l e R s m args below meth c H locs cells slots Q (F0 m pc ls (.int (Int32.ofInt x) :: .ref (ad cc.toNat) :: r.map (ck_vv ad))) := by
  obtain ⟨hx, hb, hml, hown, hts, hK, -, hA, hmok, hR⟩ := Cx
  obtain ⟨hD, hA⟩ := hA.resolve_right hro
  unfold ck_okF at ho
  split at ho
  · rename_i rr hr
    simp only [Bool.and_eq_true, decide_eq_true_eq] at ho
    unfold ck_okP at ho2
    rw [hr] at ho2
    simp only [Bool.and_eq_true, decide_eq_true_eq, Bool.not_eq_true'] at ho2
    obtain ⟨hN, hT, hin, ⟨ty0, hty⟩, hnm⟩ := ck_cl_r hr
    have hk : aux % 100 < ck_nF (aux / 100) := by rw [hN]; exact ho.1
    have hlt := ck_wt_lt hw
    have hset : (ck_ws ad cs σ).set cc.toNat (ad cc.toNat, .inr (aux / 100, (ck_fs ad σ (aux / 100) cc).set (aux % 100) (.int (Int32.ofInt x)))) = ck_ws ad cs (ck_up σ cc (aux % 100 : Nat) x) :=
      ck_ws_set hlt.1 (by rw [ck_en3 hw, ck_fs_set hk hf]) (fun b hb' j => ck_up_ne hb' hlt.2 j)
    have hty2 : ∃ ty : FieldType, parseFieldDescriptor (rr.2.1 (aux % 100)).2.2.1 = some ty ∧ narrow ty (.int (Int32.ofInt x)) = .int (Int32.ofInt x) ∧ fits ty (.int (Int32.ofInt x)) = true := by
      by_cases h0 : z = 0
      · rw [if_pos h0] at ho2
        rw [ho2.2]
        exact ⟨.int, by decide +kernel, rfl, rfl⟩
      · rw [if_neg h0] at ho2 hz
        rw [ho2.2]
        refine ⟨.boolean, by decide +kernel, ?_⟩
        rcases hz.1 with h | h <;> subst h <;> exact ⟨by decide +kernel, by decide +kernel⟩
    obtain ⟨ty, hty1, hn, hfit⟩ := hty2
    refine va_put (D := D) (cl := ck_cl) (tys := ck_tys cs) (ci := aux / 100) (C := rr.1) (T := rr.2.1) (N := rr.2.2) (ty := ty) hx hb hts hin ty0 hty hnm hown hK hP (hD σ) hS cc.toNat (fs := ck_fs ad σ (aux / 100) cc) (by rw [ck_ws_get hlt.1, ck_en3 hw]) hr (aux % 100) ho.1 (hts _ (ck_wd_in ho.2)) (fun y h => by rw [← hT _ ho.1]; exact h) ho2.1 hty1 hn hfit (by simpa [ck_fs] using hk) hd (fun H1 locs1 hP1 _ hS1 => k H1 locs1 ?_ hS1)
    rw [hset] at hP1
    exact hP1
  · cases ho
end CKS
