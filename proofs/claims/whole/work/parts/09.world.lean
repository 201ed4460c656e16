/-! The machine's side of the pure machine: values, cells, variables. -/
def ck_vv (ad : Nat → Nat) (v : ck_PV) : Value := match v with
  | .inl x => .int (Int32.ofInt x)
  | .inr q => .ref (ad q.1.toNat)
def ck_wt (v : ck_PV) : Prop := match v with
  | .inl _ => True
  | .inr q => 0 ≤ q.1 ∧ q.1 < 501 ∧ ck_sh q.1.toNat = q.2
abbrev ck_Cs : Type := ClassId × ClassId × ClassId
def ck_fv (ad : Nat → Nat) (σ : ck_M) (ci : Nat) (c : Int) (k : Nat) : Value := match ck_fr ci k c with
  | some q => .ref (ad q.1.toNat)
  | none => .int (Int32.ofInt (σ c k))
def ck_fs (ad : Nat → Nat) (σ : ck_M) (ci : Nat) (c : Int) : List Value := (List.range (ck_nF ci)).map (ck_fv ad σ ci c)
def ck_en (ad : Nat → Nat) (cs : ck_Cs) (σ : ck_M) (c : Nat) : va_E := match (ck_sh c).1 with
  | 3 => .inr ((ck_sh c).2, ck_fs ad σ (ck_sh c).2 c)
  | 0 => .inl (cs.1, (ck_sh c).2, .inl (fun j => Int32.ofInt (σ c j)))
  | 1 => .inl (cs.2.1, (ck_sh c).2, .inl (fun j => Int32.ofInt (σ c j)))
  | _ => .inl (cs.2.2, (ck_sh c).2, .inr (.inr (.inr (.inr (fun j => some (ad (25 + 7 * j)))))))
def ck_ws (ad : Nat → Nat) (cs : ck_Cs) (σ : ck_M) : va_W := (List.range 501).map (fun c => (ad c, ck_en ad cs σ c))
abbrev ck_tys (cs : ck_Cs) : List (ClassId × FieldType) := [(cs.1, .int), (cs.2.1, .boolean), (cs.2.2, .object "CheckSaver$Facts")]
theorem ck_ws_get {ad : Nat → Nat} {cs : ck_Cs} {σ : ck_M} {c : Nat} (h : c < 501) : (ck_ws ad cs σ)[c]? = some (ad c, ck_en ad cs σ c) := by
  simp [ck_ws, h]
theorem ck_ws_inv {ad : Nat → Nat} {cs : ck_Cs} {σ : ck_M} {k : Nat} {q : Nat × va_E} (h : (ck_ws ad cs σ)[k]? = some q) : k < 501 ∧ q = (ad k, ck_en ad cs σ k) := by
  by_cases hk : k < 501
  · rw [ck_ws_get hk] at h
    exact ⟨hk, (Option.some.inj h).symm⟩
  · simp [ck_ws, hk] at h
theorem ck_en_congr {ad : Nat → Nat} {cs : ck_Cs} {σ σ' : ck_M} {c : Nat} (h : ∀ j, σ' (c : Int) j = σ c j) : ck_en ad cs σ' c = ck_en ad cs σ c := by
  have h2 : ck_fv ad σ' (ck_sh c).2 c = ck_fv ad σ (ck_sh c).2 c := by
    funext k
    unfold ck_fv
    rw [h]
  unfold ck_en ck_fs
  simp only [h, h2]
theorem ck_ws_set {ad : Nat → Nat} {cs : ck_Cs} {σ σ' : ck_M} {c : Nat} {e : va_E} (h : c < 501) (he : ck_en ad cs σ' c = e) (ho : ∀ b : Nat, b ≠ c → ∀ j, σ' (b : Int) j = σ b j) : (ck_ws ad cs σ).set c (ad c, e) = ck_ws ad cs σ' := by
  apply List.ext_getElem?
  intro i
  by_cases hi : i < 501
  · by_cases hc : c = i
    · subst hc
      rw [ck_ws_get h, he, List.getElem?_set_self (by simpa [ck_ws] using h)]
    · rw [List.getElem?_set_ne hc, ck_ws_get hi, ck_ws_get hi, ck_en_congr (σ' := σ') (fun j => ho i (fun q => hc q.symm) j)]
  · have h1 : (ck_ws ad cs σ').length ≤ i := by simp [ck_ws]; omega
    have h2 : ((ck_ws ad cs σ).set c (ad c, e)).length ≤ i := by simp [ck_ws]; omega
    rw [List.getElem?_eq_none h1, List.getElem?_eq_none h2]
theorem ck_D_any {A : Nat → Prop} {ad : Nat → Nat} {cs : ck_Cs} {σ : ck_M} (h : va_D A (ck_ws ad cs σ)) (σ' : ck_M) : va_D A (ck_ws ad cs σ') := by
  refine ⟨fun i j p q hi hj hpq => ?_, fun k q hk => ?_⟩
  · obtain ⟨h1, rfl⟩ := ck_ws_inv hi
    obtain ⟨h2, rfl⟩ := ck_ws_inv hj
    exact h.1 i j _ _ (ck_ws_get h1) (ck_ws_get h2) hpq
  · obtain ⟨h1, rfl⟩ := ck_ws_inv hk
    exact h.2 k (ad k, ck_en ad cs σ k) (ck_ws_get h1)
/-! what each cell is -/
def ck_shok (c : Nat) : Bool := ((ck_sh c).1 == 0 || (ck_sh c).1 == 1 || ((ck_sh c).1 == 2 && (ck_sh c).2 == 64) || ((ck_sh c).1 == 3 && decide ((ck_sh c).2 < 7))) && decide ((ck_sh c).2 ≤ 5248)
def ck_frok (c : Nat) : Bool := (ck_sh c).1 != 3 || (List.range (ck_nF (ck_sh c).2)).all (fun k => match ck_fr (ck_sh c).2 k c with
  | some q => decide (0 ≤ q.1 ∧ q.1 < 501) && (ck_sh q.1.toNat == q.2)
  | none => true)
theorem ck_shok_all : (List.range 501).all ck_shok = true := by decide +kernel
theorem ck_frok_all : (List.range 501).all ck_frok = true := by decide +kernel
theorem ck_sh_cases {c : Nat} (h : c < 501) : ((ck_sh c).1 = 0 ∨ (ck_sh c).1 = 1 ∨ ((ck_sh c).1 = 2 ∧ (ck_sh c).2 = 64) ∨ ((ck_sh c).1 = 3 ∧ (ck_sh c).2 < 7)) ∧ (ck_sh c).2 ≤ 5248 := by
  have h1 := List.all_eq_true.mp ck_shok_all c (List.mem_range.mpr h)
  simpa [ck_shok, or_assoc] using h1
theorem ck_fr_wt {c : Int} {ci k : Nat} {q : Int × Nat × Nat} (hw : ck_wt (.inr (c, 3, ci))) (hk : k < ck_nF ci) (hq : ck_fr ci k c = some q) : ck_wt (.inr q) := by
  obtain ⟨h0, h1, h2⟩ := hw
  have hc : ((c.toNat : Nat) : Int) = c := Int.toNat_of_nonneg h0
  have h3 := List.all_eq_true.mp ck_frok_all c.toNat (List.mem_range.mpr (by omega))
  simp only at h2 h1 h0
  rw [ck_frok, h2] at h3
  simp only [bne_self_eq_false, Bool.false_or] at h3
  have h4 := List.all_eq_true.mp h3 k (List.mem_range.mpr hk)
  rw [hc, hq] at h4
  simp only [Bool.and_eq_true, decide_eq_true_eq, beq_iff_eq] at h4
  exact ⟨h4.1.1, h4.1.2, h4.2⟩
theorem ck_cl_r {ci : Nat} {r : vw_C} (h : ck_cl[ci]? = some r) : ck_nF ci = r.2.2 ∧ (∀ k, k < r.2.2 → (r.2.1 k).1 = r.1) ∧ (∀ w ∈ u_ws r.1 r.2.1 r.2.2, w ∈ ck_GW) ∧ (∃ ty : Nat → FieldType, ∀ k, k < r.2.2 → parseFieldDescriptor (r.2.1 k).2.2.1 = some (ty k)) ∧ (∀ a, a < r.2.2 → ∀ b, b < r.2.2 → a ≠ b → (r.2.1 a).2.1 ≠ (r.2.1 b).2.1) := by
  match ci, h with
  | 0, h => cases h; exact ⟨rfl, by decide +kernel, ck_in0, ⟨ck_ty0, ck_tyok0⟩, ck_nm0⟩
  | 1, h => cases h; exact ⟨rfl, by decide +kernel, ck_in1, ⟨ck_ty1, ck_tyok1⟩, ck_nm1⟩
  | 2, h => cases h; exact ⟨rfl, by decide +kernel, ck_in2, ⟨ck_ty2, ck_tyok2⟩, ck_nm2⟩
  | 3, h => cases h; exact ⟨rfl, by decide +kernel, ck_in3, ⟨ck_ty3, ck_tyok3⟩, ck_nm3⟩
  | 4, h => cases h; exact ⟨rfl, by decide +kernel, ck_in4, ⟨ck_ty4, ck_tyok4⟩, ck_nm4⟩
  | 5, h => cases h; exact ⟨rfl, by decide +kernel, ck_in5, ⟨ck_ty5, ck_tyok5⟩, ck_nm5⟩
  | 6, h => cases h; exact ⟨rfl, by decide +kernel, ck_in6, ⟨ck_ty6, ck_tyok6⟩, ck_nm6⟩
theorem ck_en3 {ad : Nat → Nat} {cs : ck_Cs} {σ : ck_M} {c : Int} {ci : Nat} (hw : ck_wt (.inr (c, 3, ci))) : ck_en ad cs σ c.toNat = .inr (ci, ck_fs ad σ ci c) := by
  obtain ⟨h0, h1, h2⟩ := hw
  simp only at h0 h2
  unfold ck_en
  rw [h2, Int.toNat_of_nonneg h0]
  rfl
theorem ck_en0 {ad : Nat → Nat} {cs : ck_Cs} {σ : ck_M} {c : Int} {n : Nat} (hw : ck_wt (.inr (c, 0, n))) : ck_en ad cs σ c.toNat = .inl (cs.1, n, .inl (fun j => Int32.ofInt (σ c j))) := by
  obtain ⟨h0, h1, h2⟩ := hw
  simp only at h0 h2
  unfold ck_en
  rw [h2, Int.toNat_of_nonneg h0]
  rfl
theorem ck_en1 {ad : Nat → Nat} {cs : ck_Cs} {σ : ck_M} {c : Int} {n : Nat} (hw : ck_wt (.inr (c, 1, n))) : ck_en ad cs σ c.toNat = .inl (cs.2.1, n, .inl (fun j => Int32.ofInt (σ c j))) := by
  obtain ⟨h0, h1, h2⟩ := hw
  simp only at h0 h2
  unfold ck_en
  rw [h2, Int.toNat_of_nonneg h0]
  rfl
theorem ck_en2 {ad : Nat → Nat} {cs : ck_Cs} {σ : ck_M} {c : Int} {n : Nat} (hw : ck_wt (.inr (c, 2, n))) : ck_en ad cs σ c.toNat = .inl (cs.2.2, n, .inr (.inr (.inr (.inr (fun j => some (ad (25 + 7 * j))))))) ∧ n = 64 := by
  obtain ⟨h0, h1, h2⟩ := hw
  simp only at h0 h1 h2
  have h3 := ck_sh_cases (c := c.toNat) (by omega)
  rw [h2] at h3
  refine ⟨?_, ?_⟩
  · unfold ck_en
    rw [h2]
    rfl
  · rcases h3.1 with h | h | h | h
    · simp at h
    · simp at h
    · exact h.2
    · simp at h
theorem ck_wt_lt {c : Int} {q : Nat × Nat} (hw : ck_wt (.inr (c, q))) : c.toNat < 501 ∧ 0 ≤ c := by
  obtain ⟨h0, h1, -⟩ := hw
  simp only at h0 h1
  omega
theorem ck_wt_len {c : Int} {k n : Nat} (hw : ck_wt (.inr (c, k, n))) : n ≤ 5248 := by
  obtain ⟨h0, h1, h2⟩ := hw
  simp only at h0 h1 h2
  have h3 := (ck_sh_cases (c := c.toNat) (by omega)).2
  rw [h2] at h3
  exact h3
theorem ck_wt_before {i : Int} (h0 : 0 ≤ i) (h1 : i < 64) : ck_wt (.inr (25 + 7 * i, 3, 0)) := by
  refine ⟨by show 0 ≤ 25 + 7 * i; omega, by show 25 + 7 * i < 501; omega, ?_⟩
  show ck_sh (25 + 7 * i).toNat = (3, 0)
  have e : (25 + 7 * i).toNat = 25 + 7 * i.toNat := by omega
  rw [e]
  unfold ck_sh
  rw [if_neg (by omega), if_pos (by omega)]
  have e2 : (25 + 7 * i.toNat - 25) % 7 = 0 := by omega
  rw [e2]
  rfl
/-! variables -/
def ck_LR (ad : Nat → Nat) (ls : Array Slot) (nL : Nat) (L : ck_Ls) : Prop := L.length = nL ∧ ls.size = nL ∧ lv_wf ls ∧ ∀ (i : Nat) (v : ck_PV), L[i]? = some (some v) → ls[i]? = some (.val (ck_vv ad v))
theorem ck_cat (ad : Nat → Nat) (v : ck_PV) : (ck_vv ad v).category = 1 := by cases v <;> rfl
theorem ck_sum (ad : Nat → Nat) (st : List ck_PV) : ((st.map (ck_vv ad)).map fun v => v.category).sum = st.length := by
  induction st with
  | nil => rfl
  | cons a r ih => simp only [List.map_cons, List.sum_cons, ck_cat, ih, List.length_cons]; omega
def ck_lv (ad : Nat → Nat) (nL : Nat) (L : ck_Ls) : List (Nat × Value) := (List.range nL).filterMap (fun i => match L[i]? with
  | some (some v) => some (i, ck_vv ad v)
  | _ => none)
theorem ck_lv_mem {ad : Nat → Nat} {nL : Nat} {L : ck_Ls} {q : Nat × Value} : q ∈ ck_lv ad nL L ↔ q.1 < nL ∧ ∃ v, L[q.1]? = some (some v) ∧ q.2 = ck_vv ad v := by
  unfold ck_lv
  rw [List.mem_filterMap]
  constructor
  · rintro ⟨i, hi, h⟩
    have hi := List.mem_range.mp hi
    split at h
    · rename_i v hv
      cases h
      exact ⟨hi, v, hv, rfl⟩
    · cases h
  · rintro ⟨hi, v, hv, h⟩
    obtain ⟨i, w⟩ := q
    subst h
    exact ⟨i, List.mem_range.mpr hi, by simp only at hv ⊢; rw [hv]⟩
theorem ck_has {ad : Nat → Nat} {ls : Array Slot} {nL : Nat} {L : ck_Ls} (h : ck_LR ad ls nL L) : lv_has ls nL (ck_lv ad nL L) := by
  refine ⟨h.2.1, h.2.2.1, fun q hq => ?_⟩
  obtain ⟨-, v, hv, e⟩ := ck_lv_mem.mp hq
  rw [e]
  exact h.2.2.2 _ _ hv
theorem ck_set {ad : Nat → Nat} {ls' : Array Slot} {nL i : Nat} {L : ck_Ls} {v : ck_PV} (hl : L.length = nL) (h : lv_has ls' nL ((i, ck_vv ad v) :: (ck_lv ad nL L).filter (fun q => !(q.1 == i) && !(q.1 + 1 == i && q.2.category == 2)))) : ck_LR ad ls' nL (L.set i (some v)) := by
  refine ⟨by simpa using hl, h.1, h.2.1, fun j w hw => ?_⟩
  by_cases hj : i = j
  · subst hj
    by_cases hi : i < L.length
    · rw [List.getElem?_set_self hi] at hw
      cases hw
      exact h.2.2 _ List.mem_cons_self
    · rw [List.getElem?_eq_none (by simp; omega)] at hw
      cases hw
  · rw [List.getElem?_set_ne hj] at hw
    refine h.2.2 (j, ck_vv ad w) (List.mem_cons_of_mem _ (List.mem_filter.mpr ⟨ck_lv_mem.mpr ⟨?_, w, hw, rfl⟩, ?_⟩))
    · have := (List.getElem?_eq_some_iff.mp hw).1
      omega
    · have h1 : (j == i) = false := by simp; omega
      simp [h1, ck_cat]
/-! whole numbers and ints -/
theorem ck_toI {x : Int} (h : ck_rg x) : (Int32.ofInt x).toInt = x := Int32.toInt_ofInt_of_le (by have := h.1; omega) (by have := h.2; omega)
theorem ck_lt {x y : Int} (hx : ck_rg x) (hy : ck_rg y) : Int32.ofInt x < Int32.ofInt y ↔ x < y := by rw [Int32.lt_iff_toInt_lt, ck_toI hx, ck_toI hy]
theorem ck_le {x y : Int} (hx : ck_rg x) (hy : ck_rg y) : Int32.ofInt x ≤ Int32.ofInt y ↔ x ≤ y := by rw [Int32.le_iff_toInt_le, ck_toI hx, ck_toI hy]
theorem ck_eq {x y : Int} (hx : ck_rg x) (hy : ck_rg y) : Int32.ofInt x = Int32.ofInt y ↔ x = y := by rw [← Int32.toInt_inj, ck_toI hx, ck_toI hy]
theorem ck_rg0 : ck_rg 0 := ⟨by decide, by decide⟩
theorem ck_clamp {x : Int} (h0 : 0 ≤ x) (h : x < 2147483648) : (Int32.ofInt x).toNatClampNeg = x.toNat := Int32.toNatClampNeg_ofInt_of_le (by omega) (by omega)
theorem ck_vin {x : Int} {n : Nat} (h0 : 0 ≤ x) (h : x < n) (hn : n ≤ 5248) : vp_in (Int32.ofInt x) n := by
  refine vp_in_iff.mpr ?_
  rw [ck_toI ⟨by omega, by omega⟩]
  exact ⟨h0, h⟩
