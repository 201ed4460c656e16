/-! ## A value's known length -/
def co_sf (p : ck_M) (B : Int → ck_D) (v : Int) : Int := if 1 ≤ v ∧ v ≤ 64 then ck_kn (B (v - 1)) (p 8 (v - 1)) else 1000000000
def co_so (p : ck_M) (B : Int → ck_D) (f : ck_D) : Prop := ∀ q, 0 ≤ q → q < 4 → ck_sz f q = co_sf p B (ck_va f q)
theorem co_sf_hi {p : ck_M} {B : Int → ck_D} {v : Int} (h : 64 < v) : co_sf p B v = 1000000000 := if_neg (by omega)
theorem co_so_dEff {p : ck_M} {n : Int} (hp : co_pg p n) {B : Int → ck_D} {k : Int} (h0 : 0 ≤ k) (h1 : k < n) (h : co_so p B (B k)) : co_so p B (ck_dEff (p 6 k) (p 7 k) (p 8 k) (p 9 k) k (B k)) := by
  have hs := hp.2.1 k h0 h1
  have hn := hp.1
  unfold ck_sOk at hs
  intro q q0 q1
  have hq := h q q0 q1
  unfold ck_dEff
  split
  · unfold ck_dSet; rw [ck_N_sz q0 q1, ck_N_va q0 q1]; exact hq
  split
  · unfold ck_dSum; rw [ck_N_sz q0 q1, ck_N_va q0 q1]; exact hq
  split
  · unfold ck_dAny; rw [ck_N_sz q0 q1, ck_N_va q0 q1]; exact hq
  split
  · unfold ck_dLen; rw [ck_N_sz q0 q1, ck_N_va q0 q1]; exact hq
  split
  · unfold ck_dAny ck_dUse; rw [ck_N_sz q0 q1, ck_N_va q0 q1, ck_N_sz q0 q1, ck_N_va q0 q1]; exact hq
  split
  · unfold ck_dUse; rw [ck_N_sz q0 q1, ck_N_va q0 q1]; exact hq
  split
  · unfold ck_dNew
    rw [ck_N_sz q0 q1, ck_N_va q0 q1]
    split
    · unfold co_sf
      rw [if_pos (by omega)]
      have e : 1 + k - 1 = k := by omega
      rw [e]
    · exact hq
  split
  · unfold ck_dNull
    rw [ck_N_sz q0 q1, ck_N_va q0 q1]
    split
    · exact (if_neg (by omega)).symm
    · exact hq
  split
  · unfold ck_dLet
    rw [ck_N_sz q0 q1, ck_N_va q0 q1]
    split
    · exact h _ (by omega) (by omega)
    · exact hq
  · exact hq
theorem co_so_O {p : ck_M} {B : Int → ck_D} {h e : Int} (hh : co_so p B (B h)) (he : e ≠ -1 → co_so p B (B e)) : co_so p B (co_O p B h e) := by
  unfold co_O
  split
  · intro q q0 q1
    unfold ck_dNot
    rw [ck_N_sz q0 q1, ck_N_va q0 q1]
    exact hh q q0 q1
  · rename_i z; exact he z
theorem co_so_F {p : ck_M} {n : Int} (hp : co_pg p n) {B : Int → ck_D} {k : Int} (h0 : 0 ≤ k) (h1 : k < n) (h : ∀ j, 0 ≤ j → j ≤ k → co_so p B (B j)) : co_so p B (co_F p B k) := by
  have hk := h k h0 (Int.le_refl _)
  unfold co_F
  split
  · intro q q0 q1
    unfold ck_dBel
    rw [ck_N_sz q0 q1, ck_N_va q0 q1]
    exact hk q q0 q1
  split
  · rename_i h2 h3
    obtain ⟨a, -, -⟩ := hp.2.2.2.1 k h0 h1 (Or.inl h3)
    exact co_so_O (h _ a.1 (by omega)) (fun z => absurd rfl z)
  split
  · rename_i h2 h3 h4
    obtain ⟨a, -, b⟩ := hp.2.2.2.1 k h0 h1 (Or.inr h4)
    obtain ⟨c1, -, -, c4⟩ := hp.2.2.1 _ a.1 (by omega) (b h4).1
    have b2 := (b h4).2
    have hO : co_so p B (co_O p B (p 10 k) (p 11 (p 10 k))) := co_so_O (h _ a.1 (by omega)) (fun z => h _ (by omega) (by omega))
    split
    · intro q q0 q1
      unfold ck_dJw ck_dJwv
      rw [ck_N_sz q0 q1, ck_N_va q0 q1]
      split
      · rw [co_sf_hi (by omega)]
      · exact hO q q0 q1
    · exact hO
  · exact co_so_dEff hp h0 h1 hk
theorem co_so_A {p : ck_M} {n : Int} (hp : co_pg p n) {B Z : Int → ck_D} {r k : Int} (h0 : 0 ≤ k) (h1 : k < n) (h : ∀ j, 0 ≤ j → j < k → co_so p B (B j)) : co_so p B (co_A p B Z r k) := by
  have hA : co_so p B (co_A0 p B k) := by
    unfold co_A0
    split
    · intro q q0 q1
      unfold ck_dFirst
      rw [ck_N_sz q0 q1, ck_N_va q0 q1]
      exact (if_neg (by omega)).symm
    · exact co_so_F hp (by omega) (by omega) (fun j a b => h j a (by omega))
  unfold co_A
  split
  · have hw : co_so p B (if r = 0 then co_A0 p B k else ck_dJb (Z (p 12 k)) (co_A0 p B k)) := by
      split
      · exact hA
      · intro q q0 q1
        unfold ck_dJb
        rw [ck_N_sz q0 q1, ck_N_va q0 q1]
        exact hA q q0 q1
    intro q q0 q1
    unfold ck_dFc ck_dFcv
    rw [ck_N_sz q0 q1, ck_N_va q0 q1]
    split
    · rw [co_sf_hi (by omega)]
    · exact hw q q0 q1
  · exact hA
theorem co_so_fam {p : ck_M} {n : Int} (hp : co_pg p n) {B Z : Int → ck_D} {r : Int} (hB : ∀ k, 0 ≤ k → k < n → B k = co_A p B Z r k) : ∀ k, 0 ≤ k → k < n → co_so p B (B k) := by
  refine co_ind (fun k h0 h1 ih => ?_)
  rw [hB k h0 h1]
  exact co_so_A hp h0 h1 ih
/-! ## The reference's numbers -/
def co_jF (p : ck_M) (J : Int → Int → Int) (k : Int) : Int → Int := if p 6 k = 10 ∨ (p 6 k = 11 ∧ p 6 (p 10 k) = 12) then J (p 10 k) else co_jE (p 6 k) (p 7 k) (p 8 k) (p 9 k) (J k)
def co_jt (p : ck_M) : Nat → Int → Int → Int
  | 0 => fun _ _ => 0
  | m + 1 => fun j => if j = m then (if m = 0 then fun _ => 0 else co_jF p (co_jt p m) ((m : Int) - 1)) else co_jt p m j
def co_J (p : ck_M) (k : Int) : Int → Int := co_jt p (k.toNat + 1) k
theorem co_jt_st (p : ck_M) {j : Int} (hj : 0 ≤ j) : ∀ m : Nat, j < m → co_jt p m j = co_J p j := by
  intro m
  induction m with
  | zero => intro h; exact absurd h (by omega)
  | succ m ih =>
    intro h
    by_cases e : j = m
    · unfold co_J
      have : j.toNat + 1 = m + 1 := by omega
      rw [this]
    · rw [← ih (by omega)]
      exact if_neg e
theorem co_J_0 (p : ck_M) : co_J p 0 = fun _ => 0 := rfl
theorem co_J_s {p : ck_M} {n : Int} (hp : co_pg p n) {k : Int} (h0 : 0 ≤ k) (h1 : k < n) : co_J p (k + 1) = co_jF p (co_J p) k := by
  have e : ((k.toNat + 1 : Nat) : Int) = k + 1 := by omega
  have e2 : (k + 1).toNat + 1 = (k.toNat + 1) + 1 := by omega
  have h : co_J p (k + 1) = co_jF p (co_jt p (k.toNat + 1)) (((k.toNat + 1 : Nat) : Int) - 1) := by
    unfold co_J
    rw [e2]
    show (if k + 1 = ((k.toNat + 1 : Nat) : Int) then _ else _) = _
    rw [if_pos e.symm]
    rfl
  have e3 : ((k.toNat + 1 : Nat) : Int) - 1 = k := by omega
  rw [h, e3]
  unfold co_jF
  split
  · rename_i h2
    obtain ⟨a, -, -⟩ := hp.2.2.2.1 k h0 h1 (by omega)
    exact co_jt_st p a.1 _ (by omega)
  · rw [co_jt_st p h0 _ (by omega)]
theorem co_J_bd {p : ck_M} {n : Int} (hp : co_pg p n) : ∀ k, 0 ≤ k → k < n → ∀ m, 0 ≤ m → m < 10 → -(100 * k) ≤ co_J p k m ∧ co_J p k m ≤ 100 * k := by
  refine co_ind (fun k h0 h1 ih => ?_)
  intro m m0 m1
  by_cases e : k = 0
  · rw [e, co_J_0]; dsimp only; omega
  · have e2 : co_J p k = co_jF p (co_J p) (k - 1) := by
      have := co_J_s hp (k := k - 1) (by omega) (by omega)
      rwa [Int.sub_add_cancel] at this
    rw [e2]
    have hs := hp.2.1 (k - 1) (by omega) (by omega)
    unfold ck_sOk at hs
    unfold co_jF
    split
    · rename_i h2
      obtain ⟨a, -, -⟩ := hp.2.2.2.1 (k - 1) (by omega) (by omega) (by omega)
      have := ih _ a.1 (by omega) m m0 m1
      omega
    · have i1 := ih (k - 1) (by omega) (by omega) m m0 m1
      unfold co_jE
      split
      · dsimp only
        split
        · omega
        · omega
      split
      · have i2 := ih (k - 1) (by omega) (by omega) (p 8 (k - 1)) (by omega) (by omega)
        dsimp only
        split
        · omega
        · omega
      · omega
/-! ## The reference's number is the known one -/
theorem co_js_dEff {t x y z k : Int} {f : ck_D} {j : Int → Int} (hO : ck_sOk t x y z) (h : co_js f j) : co_js (ck_dEff t x y z k f) (co_jE t x y z j) := by
  unfold ck_sOk at hO
  intro m m0 m1
  have hm := h m m0 m1
  unfold ck_dEff co_jE
  by_cases h0 : t = 0
  · rw [if_pos h0, if_pos h0]
    unfold ck_dSet
    rw [ck_N_kn m0 m1]
    split
    · rename_i e; exact Or.inr rfl
    · exact hm
  rw [if_neg h0, if_neg h0]
  by_cases h1 : t = 1
  · rw [if_pos h1, if_pos h1]
    have hy := h y (by omega) (by omega)
    unfold ck_dSum
    rw [ck_N_kn m0 m1]
    split
    · split
      · exact Or.inl rfl
      · rename_i e; rcases hy with hy | hy
        · exact absurd hy e
        · rw [hy]; exact Or.inr rfl
    · exact hm
  rw [if_neg h1, if_neg h1]
  split
  · unfold ck_dAny; rw [ck_N_kn m0 m1]; split
    · exact Or.inl rfl
    · exact hm
  split
  · unfold ck_dLen; rw [ck_N_kn m0 m1]; split
    · exact Or.inl rfl
    · exact hm
  split
  · unfold ck_dAny ck_dUse; rw [ck_N_kn m0 m1]; split
    · exact Or.inl rfl
    · rw [ck_N_kn m0 m1]; exact hm
  split
  · unfold ck_dUse; rw [ck_N_kn m0 m1]; exact hm
  split
  · unfold ck_dNew; rw [ck_N_kn m0 m1]; exact hm
  split
  · unfold ck_dNull; rw [ck_N_kn m0 m1]; exact hm
  split
  · unfold ck_dLet; rw [ck_N_kn m0 m1]; exact hm
  · exact hm
theorem co_jE_i {t x y z : Int} {j : Int → Int} (h0 : t ≠ 0) (h1 : t ≠ 1) : co_jE t x y z j = j := by
  unfold co_jE
  rw [if_neg h0, if_neg h1]
section COJ
variable {p : ck_M} {n : Int} {B Z : Int → ck_D} {r : Int}
theorem co_js_F (hp : co_pg p n) {k : Int} (h0 : 0 ≤ k) (h1 : k < n) (h : ∀ j, 0 ≤ j → j ≤ k → co_js (B j) (co_J p j)) : co_js (co_F p B k) (co_J p (k + 1)) := by
  have hk := h k h0 (Int.le_refl _)
  rw [co_J_s hp h0 h1]
  unfold co_F co_jF
  split
  · rename_i h2
    rw [if_neg (by omega), co_jE_i (by omega) (by omega)]
    intro m m0 m1
    rw [co_kn_dBel m0 m1]
    exact hk m m0 m1
  split
  · rename_i h2 h3
    obtain ⟨a, -, -⟩ := hp.2.2.2.1 k h0 h1 (Or.inl h3)
    rw [if_pos (Or.inl h3)]
    unfold co_O
    rw [if_pos rfl]
    intro m m0 m1
    rw [co_kn_dNot m0 m1]
    exact h _ a.1 (by omega) m m0 m1
  split
  · rename_i h2 h3 h4
    obtain ⟨a, -, b⟩ := hp.2.2.2.1 k h0 h1 (Or.inr h4)
    obtain ⟨b1, b2⟩ := b h4
    obtain ⟨c1, -, -, c4⟩ := hp.2.2.1 _ a.1 (by omega) b1
    split
    · rename_i h5
      rw [if_neg (by omega), co_jE_i (by omega) (by omega)]
      intro m m0 m1
      rw [co_kn_dJw m0 m1]
      split
      · rename_i e; rw [e]; exact hk m m0 m1
      · exact Or.inl rfl
    · rename_i h5
      rw [if_pos (Or.inr ⟨h4, by omega⟩)]
      have e : p 11 (p 10 k) = -1 := by omega
      unfold co_O
      rw [if_pos e]
      intro m m0 m1
      rw [co_kn_dNot m0 m1]
      exact h _ a.1 (by omega) m m0 m1
  · rw [if_neg (by omega)]
    exact co_js_dEff (hp.2.1 k h0 h1) hk
theorem co_js_A0 (hp : co_pg p n) {k : Int} (h0 : 0 ≤ k) (h1 : k < n) (h : ∀ j, 0 ≤ j → j < k → co_js (B j) (co_J p j)) : co_js (co_A0 p B k) (co_J p k) := by
  unfold co_A0
  split
  · rename_i e
    rw [e, co_J_0]
    intro m m0 m1
    unfold ck_dFirst
    rw [ck_N_kn m0 m1]
    exact Or.inr rfl
  · have := co_js_F hp (B := B) (k := k - 1) (by omega) (by omega) (fun j a b => h j a (by omega))
    rwa [Int.sub_add_cancel] at this
theorem co_js_dFc {f : ck_D} {j : Int → Int} {nb ab k : Int} (h : co_js f j) : co_js (ck_dFc nb ab k f) j := by
  intro m m0 m1
  rw [co_kn_dFc m0 m1]
  split
  · exact h m m0 m1
  · exact Or.inl rfl
theorem co_js_A (hp : co_pg p n) {k : Int} (h0 : 0 ≤ k) (h1 : k < n) (h : ∀ j, 0 ≤ j → j < k → co_js (B j) (co_J p j)) : co_js (co_A p B Z r k) (co_J p k) := by
  have hA := co_js_A0 hp h0 h1 h
  unfold co_A
  split
  · refine co_js_dFc ?_
    split
    · exact hA
    · intro m m0 m1
      rw [co_kn_dJb m0 m1]
      exact hA m m0 m1
  · exact hA
theorem co_js_fam (hp : co_pg p n) (hB : ∀ k, 0 ≤ k → k < n → B k = co_A p B Z r k) : ∀ k, 0 ≤ k → k < n → co_js (B k) (co_J p k) := by
  refine co_ind (fun k h0 h1 ih => ?_)
  rw [hB k h0 h1]
  exact co_js_A hp h0 h1 ih
end COJ
