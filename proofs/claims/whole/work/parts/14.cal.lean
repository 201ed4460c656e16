/-! Calls with what holds behind them. -/
def ck_cal (d : Nat) (md : ck_MD) (as : List ck_PV) (σ : ck_M) (Po : Option Int → ck_M → Prop) : Prop := ∃ r σ', ck_call d md as σ r σ' ∧ Po r σ'
def ck_end (md : ck_MD) (Po : Option Int → ck_M → Prop) (X : ck_F) : Prop := ∃ q : Option Int × ck_M, ck_ret md X q.1 q.2 ∧ Po q.1 q.2
theorem ck_rch_ex {α : Type} {C : ck_MD → List ck_PV → ck_M → Option Int → ck_M → Prop} {md : ck_MD} {T : α → ck_F → Prop} : ∀ (n : Nat) (X : ck_F), ck_rch C md n X (fun X => ∃ a, T a X) → ∃ a, ck_rch C md n X (T a) := by
  intro n
  induction n with
  | zero => exact fun X h => h
  | succ n ih =>
    intro X hX
    rcases hX with ⟨a, h1⟩ | ⟨k, ps, X1, h1, h2, h3⟩ | ⟨md', as, rest, r, σ', h1, h2, h3⟩
    · exact ⟨a, Or.inl h1⟩
    · obtain ⟨a, ha⟩ := ih X1 h3
      exact ⟨a, Or.inr (Or.inl ⟨k, ps, X1, h1, h2, ha⟩)⟩
    · obtain ⟨a, ha⟩ := ih _ h3
      exact ⟨a, Or.inr (Or.inr ⟨md', as, rest, r, σ', h1, h2, ha⟩)⟩
theorem ck_rch_and {P : Prop} {C : ck_MD → List ck_PV → ck_M → Option Int → ck_M → Prop} {md : ck_MD} {T : ck_F → Prop} : ∀ (n : Nat) (X : ck_F), ck_rch C md n X (fun X => T X ∧ P) → ck_rch C md n X T ∧ P := by
  intro n
  induction n with
  | zero => exact fun X h => h
  | succ n ih =>
    intro X hX
    rcases hX with h1 | ⟨k, ps, X1, h1, h2, h3⟩ | ⟨md', as, rest, r, σ', h1, h2, h3⟩
    · exact ⟨Or.inl h1.1, h1.2⟩
    · obtain ⟨ha, hp⟩ := ih X1 h3
      exact ⟨Or.inr (Or.inl ⟨k, ps, X1, h1, h2, ha⟩), hp⟩
    · obtain ⟨ha, hp⟩ := ih _ h3
      exact ⟨Or.inr (Or.inr ⟨md', as, rest, r, σ', h1, h2, ha⟩), hp⟩
theorem ck_cal_of {d : Nat} {md : ck_MD} {as : List ck_PV} {σ : ck_M} {Po : Option Int → ck_M → Prop} (h : ck_go d md (ck_ent md as σ) (ck_end md Po)) : ck_cal (d + 1) md as σ Po := by
  obtain ⟨n, hn⟩ := h
  obtain ⟨⟨r, σ'⟩, ha⟩ := ck_rch_ex n _ hn
  obtain ⟨h1, h2⟩ := ck_rch_and n _ ha
  exact ⟨r, σ', ⟨n, h1⟩, h2⟩
theorem ck_cal_le {d d' : Nat} (h : d ≤ d') {md : ck_MD} {as : List ck_PV} {σ : ck_M} {Po : Option Int → ck_M → Prop} (hc : ck_cal d md as σ Po) : ck_cal d' md as σ Po := by
  obtain ⟨r, σ', h1, h2⟩ := hc
  exact ⟨r, σ', ck_call_le h h1, h2⟩
theorem ck_cal_mono {d : Nat} {md : ck_MD} {as : List ck_PV} {σ : ck_M} {Po Po' : Option Int → ck_M → Prop} (hc : ck_cal d md as σ Po) (h : ∀ r σ', Po r σ' → Po' r σ') : ck_cal d md as σ Po' := by
  obtain ⟨r, σ', h1, h2⟩ := hc
  exact ⟨r, σ', h1, h _ _ h2⟩
theorem ck_eI {d : Nat} {md : ck_MD} {pc : Nat} {ls : ck_Ls} {x : Int} {σ : ck_M} {en : ck_En} {Po : Option Int → ck_M → Prop} (hp : Po (some x) σ) (hl : ck_lk (ck_mT md) pc = some en) (he : en.1 = .ireturn) (hr : ck_mR md = some .int) : ck_go d md (pc, ls, [.inl x], σ) (ck_end md Po) :=
  ck_go_T ⟨(some x, σ), ⟨rfl, en, hl, he, rfl, Or.inl hr⟩, hp⟩
theorem ck_eZ {d : Nat} {md : ck_MD} {pc : Nat} {ls : ck_Ls} {x : Int} {σ : ck_M} {en : ck_En} {Po : Option Int → ck_M → Prop} (hz : x = 0 ∨ x = 1) (hp : Po (some x) σ) (hl : ck_lk (ck_mT md) pc = some en) (he : en.1 = .ireturn) (hr : ck_mR md = some .boolean) : ck_go d md (pc, ls, [.inl x], σ) (ck_end md Po) :=
  ck_go_T ⟨(some x, σ), ⟨rfl, en, hl, he, rfl, Or.inr ⟨hr, hz⟩⟩, hp⟩
theorem ck_eV {d : Nat} {md : ck_MD} {pc : Nat} {ls : ck_Ls} {σ : ck_M} {en : ck_En} {Po : Option Int → ck_M → Prop} (hp : Po none σ) (hl : ck_lk (ck_mT md) pc = some en) (he : en.1 = .return_) (hr : ck_mR md = none) : ck_go d md (pc, ls, [], σ) (ck_end md Po) :=
  ck_go_T ⟨(none, σ), ⟨rfl, en, hl, he, rfl, hr⟩, hp⟩
section CKL
variable {d : Nat} {md : ck_MD} {T : ck_F → Prop}
theorem ck_go_t {P : Prop} {i : Decidable P} {t f : Nat} {ls : ck_Ls} {st : List ck_PV} {σ : ck_M} (h : P) (k : ck_go d md (t, ls, st, σ) T) : ck_go d md (@ite Nat P i t f, ls, st, σ) T := by rw [if_pos h]; exact k
theorem ck_go_f {P : Prop} {i : Decidable P} {t f : Nat} {ls : ck_Ls} {st : List ck_PV} {σ : ck_M} (h : ¬ P) (k : ck_go d md (f, ls, st, σ) T) : ck_go d md (@ite Nat P i t f, ls, st, σ) T := by rw [if_neg h]; exact k
theorem ck_go_cal {X : ck_F} {md' : ck_MD} {as rest : List ck_PV} {Po : Option Int → ck_M → Prop} (hc : ck_cal d md' as X.2.2.2 Po) (hat : ck_at md X md' as rest) (k : ∀ r σ', Po r σ' → ck_go d md (X.1 + 3, X.2.1, ck_psh r rest, σ') T) : ck_go d md X T := by
  obtain ⟨r, σ', h1, h2⟩ := hc
  exact ck_go_call h1 hat (k r σ' h2)
/-- a loop that counts up to B -/
theorem ck_for (hd : Nat) (ls : Int → ck_Ls) (B : Int) (I : Int → ck_M → Prop) (body : ∀ v σ, v < B → I v σ → (∀ σ', I (v + 1) σ' → ck_go d md (hd, ls (v + 1), [], σ') T) → ck_go d md (hd, ls v, [], σ) T) (stop : ∀ v σ, B ≤ v → I v σ → ck_go d md (hd, ls v, [], σ) T) : ∀ v σ, I v σ → ck_go d md (hd, ls v, [], σ) T := by
  have h : ∀ (n : Nat) (v : Int) (σ : ck_M), (B - v).toNat ≤ n → I v σ → ck_go d md (hd, ls v, [], σ) T := by
    intro n
    induction n with
    | zero => exact fun v σ hn hI => stop v σ (by omega) hI
    | succ n ih =>
      intro v σ hn hI
      by_cases hv : v < B
      · exact body v σ hv hI (fun σ' h' => ih (v + 1) σ' (by omega) h')
      · exact stop v σ (by omega) hI
  exact fun v σ hI => h _ v σ (Nat.le_refl _) hI
end CKL
theorem ck_ite_or {P1 P2 P3 : Prop} [Decidable P1] [Decidable P2] [Decidable P3] {α : Type} {x y : α} (h : P2 ↔ P1 ∨ P3) : (if P1 then x else if P3 then x else y) = if P2 then x else y := by
  by_cases h1 : P1
  · rw [if_pos h1, if_pos (h.mpr (Or.inl h1))]
  · by_cases h3 : P3
    · rw [if_neg h1, if_pos h3, if_pos (h.mpr (Or.inr h3))]
    · rw [if_neg h1, if_neg h3, if_neg (fun q => (h.mp q).elim h1 h3)]
/-! ## What is known at a point: the known numbers, the leasts, the highests, the values, the lengths, 'there' -/
abbrev ck_D : Type := (Int → Int) × (Int → Int) × (Int → Int → Int) × (Int → Int) × (Int → Int) × (Int → Int)
abbrev ck_kn (f : ck_D) : Int → Int := f.1
abbrev ck_lo (f : ck_D) : Int → Int := f.2.1
abbrev ck_hi (f : ck_D) : Int → Int → Int := f.2.2.1
abbrev ck_va (f : ck_D) : Int → Int := f.2.2.2.1
abbrev ck_sz (f : ck_D) : Int → Int := f.2.2.2.2.1
abbrev ck_th (f : ck_D) : Int → Int := f.2.2.2.2.2
def ck_N (k l : Int → Int) (h : Int → Int → Int) (v z t : Int → Int) : ck_D := (fun n => if 0 ≤ n ∧ n < 10 then k n else 0, fun n => if 0 ≤ n ∧ n < 10 then l n else 0, fun n r => if (0 ≤ n ∧ n < 10) ∧ 0 ≤ r ∧ r < 4 then h n r else 0, fun r => if 0 ≤ r ∧ r < 4 then v r else 0, fun r => if 0 ≤ r ∧ r < 4 then z r else 0, fun r => if 0 ≤ r ∧ r < 4 then t r else 0)
theorem ck_N_ext {k l v z t k' l' v' z' t' : Int → Int} {h h' : Int → Int → Int} (e1 : ∀ n, 0 ≤ n → n < 10 → k n = k' n) (e2 : ∀ n, 0 ≤ n → n < 10 → l n = l' n) (e3 : ∀ n r, 0 ≤ n → n < 10 → 0 ≤ r → r < 4 → h n r = h' n r) (e4 : ∀ r, 0 ≤ r → r < 4 → v r = v' r) (e5 : ∀ r, 0 ≤ r → r < 4 → z r = z' r) (e6 : ∀ r, 0 ≤ r → r < 4 → t r = t' r) : ck_N k l h v z t = ck_N k' l' h' v' z' t' := by
  unfold ck_N
  refine Prod.ext ?_ (Prod.ext ?_ (Prod.ext ?_ (Prod.ext ?_ (Prod.ext ?_ ?_))))
  · funext n
    by_cases hn : 0 ≤ n ∧ n < 10
    · simp only [if_pos hn]; exact e1 n hn.1 hn.2
    · simp only [if_neg hn]
  · funext n
    by_cases hn : 0 ≤ n ∧ n < 10
    · simp only [if_pos hn]; exact e2 n hn.1 hn.2
    · simp only [if_neg hn]
  · funext n r
    by_cases hn : (0 ≤ n ∧ n < 10) ∧ 0 ≤ r ∧ r < 4
    · simp only [if_pos hn]; exact e3 n r hn.1.1 hn.1.2 hn.2.1 hn.2.2
    · simp only [if_neg hn]
  · funext r
    by_cases hn : 0 ≤ r ∧ r < 4
    · simp only [if_pos hn]; exact e4 r hn.1 hn.2
    · simp only [if_neg hn]
  · funext r
    by_cases hn : 0 ≤ r ∧ r < 4
    · simp only [if_pos hn]; exact e5 r hn.1 hn.2
    · simp only [if_neg hn]
  · funext r
    by_cases hn : 0 ≤ r ∧ r < 4
    · simp only [if_pos hn]; exact e6 r hn.1 hn.2
    · simp only [if_neg hn]
section CKN
variable {k l v z t : Int → Int} {h : Int → Int → Int} {n r : Int}
theorem ck_N_kn (h0 : 0 ≤ n) (h1 : n < 10) : ck_kn (ck_N k l h v z t) n = k n := if_pos ⟨h0, h1⟩
theorem ck_N_lo (h0 : 0 ≤ n) (h1 : n < 10) : ck_lo (ck_N k l h v z t) n = l n := if_pos ⟨h0, h1⟩
theorem ck_N_hi (h0 : 0 ≤ n) (h1 : n < 10) (h2 : 0 ≤ r) (h3 : r < 4) : ck_hi (ck_N k l h v z t) n r = h n r := if_pos ⟨⟨h0, h1⟩, h2, h3⟩
theorem ck_N_va (h2 : 0 ≤ r) (h3 : r < 4) : ck_va (ck_N k l h v z t) r = v r := if_pos ⟨h2, h3⟩
theorem ck_N_sz (h2 : 0 ≤ r) (h3 : r < 4) : ck_sz (ck_N k l h v z t) r = z r := if_pos ⟨h2, h3⟩
theorem ck_N_th (h2 : 0 ≤ r) (h3 : r < 4) : ck_th (ck_N k l h v z t) r = t r := if_pos ⟨h2, h3⟩
end CKN
/-- what the class keeps in the Facts at the cell c -/
def ck_rd (σ : ck_M) (c : Int) : ck_D := ck_N (σ (c + 1)) (σ (c + 2)) (fun n r => σ (c + 3) (n * 4 + r)) (σ (c + 4)) (σ (c + 5)) (σ (c + 6))
/-- nothing but the Facts at c has changed -/
def ck_f6 (σ σ' : ck_M) (c : Int) : Prop := ∀ b j, (b ≤ c ∨ c + 6 < b) → σ' b j = σ b j
/-- all that memory holds are ints -/
def ck_RG (σ : ck_M) : Prop := ∀ b j, ck_rg (σ b j)
theorem ck_RGu {σ : ck_M} {a i x : Int} (h : ck_RG σ) (hx : ck_rg x) : ck_RG (ck_up σ a i x) := by
  intro b j
  unfold ck_up
  split
  · exact hx
  · exact h b j
def ck_bL (v : Int) : Int := if v < -200 then -1000000000 else v
def ck_bH (v : Int) : Int := if 200 < v then 1000000000 else v
def ck_mx (a b : Int) : Int := if a < b then b else a
def ck_mn (a b : Int) : Int := if b < a then b else a
def ck_hoc (f : ck_D) (v r : Int) : Int := if ck_va f r = 0 then 1000000000 else ck_bH (if ck_sz f r = 1000000000 then v else v - ck_sz f r)
abbrev ck_sm (f : ck_D) (r a : Int) : Prop := ck_va f r = ck_va f a ∧ ck_va f r ≠ 0
theorem ck_rg_bL {v : Int} (h : ck_rg v) : ck_rg (ck_bL v) := by unfold ck_bL; split; exact ⟨by decide, by decide⟩; exact h
theorem ck_rg_bH {v : Int} (h : ck_rg v) : ck_rg (ck_bH v) := by unfold ck_bH; split; exact ⟨by decide, by decide⟩; exact h
theorem ck_rg_mx {a b : Int} (h : ck_rg a) (h2 : ck_rg b) : ck_rg (ck_mx a b) := by unfold ck_mx; split; exact h2; exact h
theorem ck_rg_mn {a b : Int} (h : ck_rg a) (h2 : ck_rg b) : ck_rg (ck_mn a b) := by unfold ck_mn; split; exact h2; exact h
