/-! ## Which values there are before a statement -/
def co_vb (k c : Int) (f : ck_D) : Prop := ∀ q, 0 ≤ q → q < 4 → (0 ≤ ck_va f q ∧ ck_va f q ≤ k) ∨ (65 ≤ ck_va f q ∧ ck_va f q < 65 + c * 4)
theorem co_vb_up {k c k' c' : Int} {f : ck_D} (h : co_vb k c f) (a : k ≤ k') (b : c ≤ c') : co_vb k' c' f := fun q x y => by
  have := h q x y
  omega
theorem co_vb_dEff {t x y z k : Int} {f : ck_D} (hO : ck_sOk t x y z) (k0 : 0 ≤ k) (h : co_vb k (k + 1) f) : co_vb (k + 1) (k + 1) (ck_dEff t x y z k f) := by
  intro q a b
  by_cases hc : (6 ≤ t ∧ t ≤ 8) ∧ x = q
  · have h3 : t = 6 ∨ t = 7 ∨ t = 8 := by omega
    rcases h3 with e | e | e
    · subst e
      have e2 : ck_va (ck_dEff 6 x y z k f) q = 1 + k := by
        unfold ck_dEff
        rw [if_neg (by decide), if_neg (by decide), if_neg (by decide), if_neg (by decide), if_neg (by decide), if_neg (by decide), if_pos rfl]
        unfold ck_dNew
        rw [ck_N_va a b, if_pos hc.2.symm]
      omega
    · subst e
      have e2 : ck_va (ck_dEff 7 x y z k f) q = 0 := by
        unfold ck_dEff
        rw [if_neg (by decide), if_neg (by decide), if_neg (by decide), if_neg (by decide), if_neg (by decide), if_neg (by decide), if_neg (by decide), if_pos rfl]
        unfold ck_dNull
        rw [ck_N_va a b, if_pos hc.2.symm]
      omega
    · subst e
      have e2 : ck_va (ck_dEff 8 x y z k f) q = ck_va f y := by
        unfold ck_dEff
        rw [if_neg (by decide), if_neg (by decide), if_neg (by decide), if_neg (by decide), if_neg (by decide), if_neg (by decide), if_neg (by decide), if_neg (by decide), if_pos rfl]
        unfold ck_dLet
        rw [ck_N_va a b, if_pos hc.2.symm]
      have := h y (by unfold ck_sOk at hO; omega) (by unfold ck_sOk at hO; omega)
      omega
  · rw [co_va_dEff a b hc]
    have := h q a b
    omega
section COV
variable {p : ck_M} {n : Int}
theorem co_vb_O {B : Int → ck_D} {h e c : Int} (hh : co_vb h (h + 1) (B h)) (h1 : h < c) (he : e ≠ -1 → co_vb e (e + 1) (B e) ∧ e < c) : co_vb c c (co_O p B h e) := by
  unfold co_O
  split
  · intro q a b
    rw [co_va_dNot a b]
    have := hh q a b
    omega
  · rename_i w
    exact co_vb_up (he w).1 (by have := (he w).2; omega) (by have := (he w).2; omega)
theorem co_vb_F (hp : co_pg p n) {B : Int → ck_D} {k : Int} (h0 : 0 ≤ k) (h1 : k < n) (h : ∀ j, 0 ≤ j → j ≤ k → co_vb j (j + 1) (B j)) : co_vb (k + 1) (k + 1) (co_F p B k) := by
  have hk := h k h0 (Int.le_refl _)
  obtain ⟨hn, hS, hH, hE, hN, hM⟩ := hp
  unfold co_F
  split
  · intro q a b
    rw [co_va_dBel a b]
    have := hk q a b
    omega
  split
  · rename_i h2 h3
    obtain ⟨a, -, -⟩ := hE k h0 h1 (Or.inl h3)
    exact co_vb_O (h _ a.1 (by omega)) (by omega) (fun w => absurd rfl w)
  split
  · rename_i h2 h3 h4
    obtain ⟨a, -, b⟩ := hE k h0 h1 (Or.inr h4)
    obtain ⟨b1, b2⟩ := b h4
    obtain ⟨c1, -, -, c4⟩ := hH _ a.1 (by omega) b1
    have hO : co_vb (k + 1) (k + 1) (co_O p B (p 10 k) (p 11 (p 10 k))) := co_vb_O (h _ a.1 (by omega)) (by omega) (fun w => ⟨h _ (by omega) (by omega), by omega⟩)
    split
    · intro q a b
      rw [co_va_dJw a b]
      have := hO q a b
      split <;> omega
    · exact hO
  · exact co_vb_dEff (hS k h0 h1) h0 hk
theorem co_vb_A0 (hp : co_pg p n) {B : Int → ck_D} {k : Int} (h0 : 0 ≤ k) (h1 : k < n) (h : ∀ j, 0 ≤ j → j < k → co_vb j (j + 1) (B j)) : co_vb k k (co_A0 p B k) := by
  unfold co_A0
  split
  · intro q a b
    have : ck_va ck_dFirst q = 0 := ck_N_va a b
    omega
  · have := co_vb_F hp (B := B) (k := k - 1) (by omega) (by omega) (fun j a b => h j a (by omega))
    rwa [Int.sub_add_cancel] at this
theorem co_vb_A (hp : co_pg p n) {B Z : Int → ck_D} {r k : Int} (h0 : 0 ≤ k) (h1 : k < n) (h : ∀ j, 0 ≤ j → j < k → co_vb j (j + 1) (B j)) : co_vb k (k + 1) (co_A p B Z r k) := by
  have hA := co_vb_A0 hp h0 h1 h
  unfold co_A
  split
  · intro q a b
    rw [co_va_dFc a b]
    have e : ck_va (if r = 0 then co_A0 p B k else ck_dJb (Z (p 12 k)) (co_A0 p B k)) q = ck_va (co_A0 p B k) q := by
      split
      · rfl
      · exact co_va_dJb a b
    rw [e]
    have := hA q a b
    split <;> omega
  · exact co_vb_up hA (by omega) (by omega)
theorem co_vb_fam (hp : co_pg p n) {B Z : Int → ck_D} {r : Int} (hB : ∀ k, 0 ≤ k → k < n → B k = co_A p B Z r k) : ∀ k, 0 ≤ k → k < n → co_vb k (k + 1) (B k) := by
  refine co_ind (fun k h0 h1 ih => ?_)
  rw [hB k h0 h1]
  exact co_vb_A hp h0 h1 ih
end COV
/-! ## Where a run goes, what is known is so -/
section COW
variable {p : ck_M} {n : Int} {X : Int → ck_D} {N R L : Int → Int}
theorem co_enter (hp : co_pg p n) (hX : co_sol p n X) {j : Int} (h0 : 0 ≤ j) (h1 : j < n) (h : co_sd (co_A0 p X j) N R L) : co_sd (X j) N R L := by
  have hv := co_vb_fam hp hX
  rw [hX j h0 h1]
  unfold co_A
  split
  · rw [if_neg (by decide)]
    refine co_sd_fcf h h0 (fun r a b => ?_)
    have := co_vb_A0 hp h0 h1 (fun i a b => hv i a (by omega)) r a b
    have := hp.1
    omega
  · exact h
theorem co_fwd (hp : co_pg p n) (hX : co_sol p n X) {k : Int} (h0 : 0 ≤ k) (h1 : k + 1 < n) (h : co_sd (co_F p X k) N R L) : co_sd (X (k + 1)) N R L := by
  refine co_enter hp hX (by omega) h1 ?_
  unfold co_A0
  rw [if_neg (by omega), Int.add_sub_cancel]
  exact h
theorem co_X_nw (hX : co_sol p n X) {k : Int} (h0 : 0 ≤ k) (h1 : k < n) (hw : p 6 k ≠ 12) : X k = co_A0 p X k := by
  refine (hX k h0 h1).trans ?_
  unfold co_A
  rw [if_neg hw]
theorem co_flow_t (hp : co_pg p n) (hX : co_sol p n X) {k : Int} (h0 : 0 ≤ k) (h1 : k + 1 < n) (hs : p 6 k = 9 ∨ p 6 k = 12) (h : co_sd (X k) N R L) (hl : ∀ r, 0 ≤ r → r < 4 → 0 ≤ co_ln R L r) (hN : ∀ m, 0 ≤ m → m < 10 → -1000000 ≤ N m ∧ N m ≤ 1000000) (hb : N (p 7 k) < (if p 8 k = 10 then 0 else N (p 8 k)) + p 9 k) : co_sd (X (k + 1)) N R L := by
  refine co_fwd hp hX h0 h1 ?_
  have hO := hp.2.1 k h0 (by omega)
  unfold ck_sOk at hO
  unfold co_F
  rw [if_pos hs]
  exact co_sd_bel h hl hN (by omega) (by omega) (by omega) (by omega) hb
theorem co_flow_f (hp : co_pg p n) (hX : co_sol p n X) {k : Int} (h0 : 0 ≤ k) (h1 : k < n) (hs : p 6 k = 9 ∨ p 6 k = 12) (h : co_sd (X k) N R L) (hl : ∀ r, 0 ≤ r → r < 4 → 0 ≤ co_ln R L r) (hN : ∀ m, 0 ≤ m → m < 10 → -1000000 ≤ N m ∧ N m ≤ 1000000) (hb : ¬ N (p 7 k) < (if p 8 k = 10 then 0 else N (p 8 k)) + p 9 k) (h2 : (if p 11 k = -1 then p 12 k else p 11 k) + 1 < n) : co_sd (X ((if p 11 k = -1 then p 12 k else p 11 k) + 1)) N R L := by
  have hO := hp.2.1 k h0 h1
  unfold ck_sOk at hO
  have hd : co_sd (ck_dNot (p 7 k) (p 8 k) (p 9 k) (X k)) N R L := co_sd_not h hl hN (by omega) (by omega) (by omega) (by omega) hb
  obtain ⟨a1, a2, a3, a4⟩ := hp.2.2.1 k h0 h1 hs
  have hv := co_vb_fam hp hX
  by_cases q : p 11 k = -1
  · rw [if_pos q] at h2 ⊢
    refine co_fwd hp hX (by omega) h2 ?_
    unfold co_F
    rw [if_neg (by omega), if_neg (by omega), if_pos a2, a3, q]
    have e : co_O p X k (-1) = ck_dNot (p 7 k) (p 8 k) (p 9 k) (X k) := if_pos rfl
    rw [e]
    split
    · refine co_sd_jwf hd (by omega) (fun r a b => ?_)
      rw [co_va_dNot a b]
      have := hv k h0 h1 r a b
      have := hp.1
      omega
    · exact hd
  · rw [if_neg q] at h2 ⊢
    rcases a4 with z | ⟨b1, b2, b3, b4⟩
    · exact absurd z q
    · refine co_fwd hp hX (by omega) h2 ?_
      unfold co_F
      rw [if_neg (by omega), if_pos b3, b4]
      have e : co_O p X k (-1) = ck_dNot (p 7 k) (p 8 k) (p 9 k) (X k) := if_pos rfl
      rw [e]
      exact hd
theorem co_flow_e (hp : co_pg p n) (hX : co_sol p n X) {k : Int} (h0 : 0 ≤ k) (h1 : k < n) (hs : p 6 k = 10) (h : co_sd (X k) N R L) (h2 : p 12 (p 10 k) + 1 < n) : co_sd (X (p 12 (p 10 k) + 1)) N R L := by
  obtain ⟨⟨b1, b2⟩, b3, -⟩ := hp.2.2.2.1 k h0 h1 (Or.inl hs)
  obtain ⟨c1, c2⟩ := b3 hs
  obtain ⟨a1, a2, a3, a4⟩ := hp.2.2.1 _ b1 (by omega) (Or.inl c1)
  have hv := co_vb_fam hp hX
  refine co_fwd hp hX (by omega) h2 ?_
  unfold co_F
  rw [if_neg (by omega), if_neg (by omega), if_pos a2, a3, c2, if_pos c1]
  have e : co_O p X (p 10 k) k = X k := if_neg (by omega)
  rw [e]
  refine co_sd_jwf h (by omega) (fun r a b => ?_)
  have := hv k h0 h1 r a b
  have := hp.1
  omega
theorem co_flow_n (hp : co_pg p n) (hX : co_sol p n X) {k : Int} (h0 : 0 ≤ k) (h1 : k + 1 < n) (hs : p 6 k = 11) (hw : p 6 (p 10 k) ≠ 12) (h : co_sd (X k) N R L) : co_sd (X (k + 1)) N R L := by
  obtain ⟨⟨b1, b2⟩, -, b3⟩ := hp.2.2.2.1 k h0 (by omega) (Or.inr hs)
  obtain ⟨c1, c2⟩ := b3 hs
  obtain ⟨a1, a2, a3, a4⟩ := hp.2.2.1 _ b1 (by omega) c1
  have hv := co_vb_fam hp hX
  have hz := co_so_fam hp hX
  refine co_fwd hp hX h0 h1 ?_
  unfold co_F
  rw [if_neg (by omega), if_neg (by omega), if_pos hs, if_pos (by omega)]
  refine co_sd_jwg h h0 (fun r a b => ?_) (fun r a b e => ?_)
  · rw [co_X_nw hX h0 (by omega) (by omega)]
    have := co_vb_A0 hp h0 (by omega) (fun i a b => hv i a (by omega)) r a b
    have := hp.1
    omega
  · have z1 := hz k h0 (by omega) r a b
    have z2 := co_so_O (p := p) (B := X) (h := p 10 k) (e := p 11 (p 10 k)) (hz _ b1 (by omega)) (fun w => hz _ (by omega) (by omega)) r a b
    rw [z1, z2, e]
theorem co_A_sz {B Z : Int → ck_D} {r0 j r : Int} (h0 : 0 ≤ r) (h1 : r < 4) (h : p 6 j = 12 → ck_and (ck_shr (p 14 j) r) 1 = 0) : ck_sz (co_A p B Z r0 j) r = ck_sz (co_A0 p B j) r := by
  unfold co_A
  split
  · rename_i w
    have e : ∀ f : ck_D, ck_sz (ck_dFc (p 13 j) (p 14 j) j f) r = ck_sz f r := fun f => by
      have : ck_sz (ck_dFc (p 13 j) (p 14 j) j f) r = if r < 4 ∧ ck_and (ck_shr (p 14 j) r) 1 ≠ 0 then 1000000000 else ck_sz f r := ck_N_sz h0 h1
      rw [this, if_neg (fun q => q.2 (h w))]
    rw [e]
    split
    · rfl
    · exact ck_N_sz h0 h1
  · rfl
theorem co_flow_w (hp : co_pg p n) (hX : co_sol p n X) {k : Int} (h0 : 0 ≤ k) (h1 : k < n) (hs : p 6 k = 11) (hw : p 6 (p 10 k) = 12) (h : co_sd (X k) N R L) : co_sd (X (p 10 k)) N R L := by
  obtain ⟨⟨b1, b2⟩, -, b3⟩ := hp.2.2.2.1 k h0 (by omega) (Or.inr hs)
  obtain ⟨c1, c2⟩ := b3 hs
  have hv := co_vb_fam hp hX
  have hz := co_so_fam hp hX
  have hM := hp.2.2.2.2.2 _ b1 (by omega) hw
  have e := hX _ b1 (by omega)
  have e2 : co_A p X X 1 (p 10 k) = ck_dFc (p 13 (p 10 k)) (p 14 (p 10 k)) (p 10 k) (ck_dJb (X k) (co_A0 p X (p 10 k))) := by
    unfold co_A
    rw [if_pos hw, if_neg (by decide), c2]
  rw [e, e2]
  refine co_sd_fcg h b1 (fun m a b q => ?_) (fun r a b q => ?_)
  · have z1 := co_inv_kn hp hX b1 (by omega) hw a b ((hM.1 m a b).mp q) k h0 h1 (by omega) (by omega)
    rw [z1, e]
    exact (co_A_kn a b (fun _ => q)).symm
  · have z1 := co_inv_va hp hX b1 (by omega) hw a b ((hM.2 r a b).mp q) k h0 h1 (by omega) (by omega)
    have z2 : ck_va (X (p 10 k)) r = ck_va (co_A0 p X (p 10 k)) r := by
      rw [e]
      exact co_A_va a b (fun _ => q)
    have z3 : ck_sz (X (p 10 k)) r = ck_sz (co_A0 p X (p 10 k)) r := by
      rw [e]
      exact co_A_sz a b (fun _ => q)
    refine ⟨by rw [z1, z2], ?_, ?_⟩
    · rw [← z3, hz _ b1 (by omega) r a b, hz k h0 h1 r a b, z1]
    · have := co_vb_A0 hp b1 (by omega) (fun i a b => hv i a (by omega)) r a b
      have := hp.1
      omega
end COW
