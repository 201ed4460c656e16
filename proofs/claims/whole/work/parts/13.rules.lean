/-! Rules of the pure machine. -/
section CKR
variable {d : Nat} {md : ck_MD} {T : ck_F → Prop}
theorem ck_go_T {X : ck_F} (h : T X) : ck_go d md X T := ⟨0, h⟩
theorem ck_go_run {X : ck_F} (n : Nat) {ps : List Prop} {X1 : ck_F} (h : ck_run n (ck_mT md) X = some (ps, X1)) (hps : ck_all ps) (k : ck_go d md X1 T) : ck_go d md X T := by
  obtain ⟨j, hj⟩ := k
  exact ⟨j + 1, Or.inr (Or.inl ⟨n, ps, X1, h, hps, hj⟩)⟩
theorem ck_go_call {X : ck_F} {md' : ck_MD} {as rest : List ck_PV} {r : Option Int} {σ' : ck_M} (hc : ck_call d md' as X.2.2.2 r σ') (hat : ck_at md X md' as rest) (k : ck_go d md (X.1 + 3, X.2.1, ck_psh r rest, σ') T) : ck_go d md X T := by
  obtain ⟨j, hj⟩ := k
  exact ⟨j + 1, Or.inr (Or.inr ⟨md', as, rest, r, σ', hat, hc, hj⟩)⟩
theorem ck_go_ite {P : Prop} [Decidable P] {t f : Nat} {ls : ck_Ls} {st : List ck_PV} {σ : ck_M} (kt : P → ck_go d md (t, ls, st, σ) T) (kf : ¬ P → ck_go d md (f, ls, st, σ) T) : ck_go d md (if P then t else f, ls, st, σ) T := by
  by_cases h : P
  · rw [if_pos h]; exact kt h
  · rw [if_neg h]; exact kf h
theorem ck_rch_mono {C C' : ck_MD → List ck_PV → ck_M → Option Int → ck_M → Prop} (h : ∀ md as σ r σ', C md as σ r σ' → C' md as σ r σ') : ∀ (n : Nat) (X : ck_F), ck_rch C md n X T → ck_rch C' md n X T := by
  intro n
  induction n with
  | zero => exact fun X h => h
  | succ n ih =>
    intro X hX
    rcases hX with h1 | ⟨k, ps, X1, h1, h2, h3⟩ | ⟨md', as, rest, r, σ', h1, h2, h3⟩
    · exact Or.inl h1
    · exact Or.inr (Or.inl ⟨k, ps, X1, h1, h2, ih _ h3⟩)
    · exact Or.inr (Or.inr ⟨md', as, rest, r, σ', h1, h _ _ _ _ _ h2, ih _ h3⟩)
end CKR
theorem ck_call_s : ∀ (d : Nat) (md : ck_MD) (as : List ck_PV) (σ : ck_M) (r : Option Int) (σ' : ck_M), ck_call d md as σ r σ' → ck_call (d + 1) md as σ r σ' := by
  intro d
  induction d with
  | zero => exact fun _ _ _ _ _ h => False.elim h
  | succ d ih =>
    intro md as σ r σ' h
    obtain ⟨n, hn⟩ := h
    exact ⟨n, ck_rch_mono (fun md as σ r σ' => ih md as σ r σ') n _ hn⟩
theorem ck_call_le {d d' : Nat} (h : d ≤ d') {md : ck_MD} {as : List ck_PV} {σ : ck_M} {r : Option Int} {σ' : ck_M} (hc : ck_call d md as σ r σ') : ck_call d' md as σ r σ' := by
  induction h with
  | refl => exact hc
  | step _ ih => exact ck_call_s _ _ _ _ _ _ ih
theorem ck_call_of {d : Nat} {md : ck_MD} {as : List ck_PV} {σ : ck_M} {r : Option Int} {σ' : ck_M} (h : ck_go d md (ck_ent md as σ) (fun X => ck_ret md X r σ')) : ck_call (d + 1) md as σ r σ' := h
theorem ck_lfI {d : Nat} {md : ck_MD} {pc : Nat} {ls : ck_Ls} {x r : Int} {σ1 σ' : ck_M} {en : ck_En} (hx : x = r) (hσ : σ1 = σ') (hl : ck_lk (ck_mT md) pc = some en) (he : en.1 = .ireturn) (hr : ck_mR md = some .int) : ck_go d md (pc, ls, [.inl x], σ1) (fun X => ck_ret md X (some r) σ') := by
  subst hx hσ
  exact ck_go_T ⟨rfl, en, hl, he, rfl, Or.inl hr⟩
theorem ck_lfZ {d : Nat} {md : ck_MD} {pc : Nat} {ls : ck_Ls} {x r : Int} {σ1 σ' : ck_M} {en : ck_En} (hx : x = r) (hz : x = 0 ∨ x = 1) (hσ : σ1 = σ') (hl : ck_lk (ck_mT md) pc = some en) (he : en.1 = .ireturn) (hr : ck_mR md = some .boolean) : ck_go d md (pc, ls, [.inl x], σ1) (fun X => ck_ret md X (some r) σ') := by
  subst hx hσ
  exact ck_go_T ⟨rfl, en, hl, he, rfl, Or.inr ⟨hr, hz⟩⟩
theorem ck_lfV {d : Nat} {md : ck_MD} {pc : Nat} {ls : ck_Ls} {σ1 σ' : ck_M} {en : ck_En} (hσ : σ1 = σ') (hl : ck_lk (ck_mT md) pc = some en) (he : en.1 = .return_) (hr : ck_mR md = none) : ck_go d md (pc, ls, [], σ1) (fun X => ck_ret md X none σ') := by
  subst hσ
  exact ck_go_T ⟨rfl, en, hl, he, rfl, hr⟩
theorem ck_rgo {x : Int} (h1 : -2147483648 ≤ x) (h2 : x < 2147483648) : ck_rg x := ⟨h1, h2⟩
