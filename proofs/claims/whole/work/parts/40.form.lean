/-! ## A program's form -/
def co_pS (p : ck_M) (n : Int) : Prop := ∀ k, 0 ≤ k → k < n → ck_sOk (p 6 k) (p 7 k) (p 8 k) (p 9 k)
def co_pH (p : ck_M) (n : Int) : Prop := ∀ k, 0 ≤ k → k < n → p 6 k = 9 ∨ p 6 k = 12 → (k < p 12 k ∧ p 12 k < n) ∧ p 6 (p 12 k) = 11 ∧ p 10 (p 12 k) = k ∧ (p 11 k = -1 ∨ (p 6 k = 9 ∧ (k < p 11 k ∧ p 11 k < p 12 k) ∧ p 6 (p 11 k) = 10 ∧ p 10 (p 11 k) = k))
def co_pE (p : ck_M) (n : Int) : Prop := ∀ k, 0 ≤ k → k < n → p 6 k = 10 ∨ p 6 k = 11 → (0 ≤ p 10 k ∧ p 10 k < k) ∧ (p 6 k = 10 → p 6 (p 10 k) = 9 ∧ p 11 (p 10 k) = k) ∧ (p 6 k = 11 → (p 6 (p 10 k) = 9 ∨ p 6 (p 10 k) = 12) ∧ p 12 (p 10 k) = k)
def co_pN (p : ck_M) (n : Int) : Prop := ∀ k, 0 ≤ k → k < n → p 6 k = 9 ∨ p 6 k = 12 → ∀ j, k < j → j < p 12 k → p 6 j = 10 ∨ p 6 j = 11 → k ≤ p 10 j
def co_cn (p : ck_M) (k e n : Int) : Prop := ∃ j, k < j ∧ j < e ∧ p 6 j < 5 ∧ p 7 j = n
def co_ca (p : ck_M) (k e r : Int) : Prop := ∃ j, k < j ∧ j < e ∧ 6 ≤ p 6 j ∧ p 6 j ≤ 8 ∧ p 7 j = r
def co_pM (p : ck_M) (n : Int) : Prop := ∀ k, 0 ≤ k → k < n → p 6 k = 12 → (∀ m, 0 ≤ m → m < 10 → (ck_and (ck_shr (p 13 k) m) 1 = 0 ↔ ¬ co_cn p k (p 12 k) m)) ∧ ∀ r, 0 ≤ r → r < 4 → (ck_and (ck_shr (p 14 k) r) 1 = 0 ↔ ¬ co_ca p k (p 12 k) r)
def co_pg (p : ck_M) (n : Int) : Prop := (0 ≤ n ∧ n ≤ 64) ∧ co_pS p n ∧ co_pH p n ∧ co_pE p n ∧ co_pN p n ∧ co_pM p n
/-! ## What follows from what is known before the statements -/
def co_O (p : ck_M) (B : Int → ck_D) (h e : Int) : ck_D := if e = -1 then ck_dNot (p 7 h) (p 8 h) (p 9 h) (B h) else B e
def co_F (p : ck_M) (B : Int → ck_D) (k : Int) : ck_D := if p 6 k = 9 ∨ p 6 k = 12 then ck_dBel (p 7 k) (p 8 k) (p 9 k) (B k) else if p 6 k = 10 then co_O p B (p 10 k) (-1) else if p 6 k = 11 then (if p 6 (p 10 k) = 9 then ck_dJw (B k) k (co_O p B (p 10 k) (p 11 (p 10 k))) else co_O p B (p 10 k) (p 11 (p 10 k))) else ck_dEff (p 6 k) (p 7 k) (p 8 k) (p 9 k) k (B k)
def co_A0 (p : ck_M) (B : Int → ck_D) (k : Int) : ck_D := if k = 0 then ck_dFirst else co_F p B (k - 1)
def co_A (p : ck_M) (B Z : Int → ck_D) (r : Int) (k : Int) : ck_D := if p 6 k = 12 then ck_dFc (p 13 k) (p 14 k) k (if r = 0 then co_A0 p B k else ck_dJb (Z (p 12 k)) (co_A0 p B k)) else co_A0 p B k
theorem co_fl_eq (σ : ck_M) (k : Int) : ck_fl σ k = co_F σ (ck_B σ) k := rfl
theorem co_ar0_eq (σ : ck_M) (k : Int) : ck_ar0 σ k = co_A0 σ (ck_B σ) k := rfl
theorem co_arr_eq (σ : ck_M) (k : Int) : ck_arr σ k = co_A σ (ck_B σ) (ck_B σ) (σ 18 (σ 12 k)) k := rfl
section COF
variable {p : ck_M} {n : Int}
theorem co_F_le (hp : co_pg p n) {B B' : Int → ck_D} {k : Int} (h0 : 0 ≤ k) (h1 : k < n) (h : ∀ j, 0 ≤ j → j ≤ k → co_le (B j) (B' j)) : co_le (co_F p B k) (co_F p B' k) := by
  obtain ⟨hn, hS, hH, hE, hN, hM⟩ := hp
  unfold co_F
  split
  · exact co_le_dBel (h k h0 (Int.le_refl _)) _ _ _
  split
  · rename_i h2 h3
    obtain ⟨a, -, -⟩ := hE k h0 h1 (Or.inl h3)
    unfold co_O
    rw [if_pos rfl, if_pos rfl]
    exact co_le_dNot (h _ a.1 (by omega)) _ _ _
  split
  · rename_i h2 h3 h4
    obtain ⟨a, -, b⟩ := hE k h0 h1 (Or.inr h4)
    obtain ⟨b1, b2⟩ := b h4
    obtain ⟨c1, -, -, c4⟩ := hH _ a.1 (by omega) b1
    have hO : co_le (co_O p B (p 10 k) (p 11 (p 10 k))) (co_O p B' (p 10 k) (p 11 (p 10 k))) := by
      unfold co_O
      split
      · exact co_le_dNot (h _ a.1 (by omega)) _ _ _
      · exact h _ (by omega) (by omega)
    split
    · exact co_le_dJw hO (h k h0 (Int.le_refl _)) _
    · exact hO
  · exact co_le_dEff (h k h0 (Int.le_refl _)) _ _ _ _ _
theorem co_F_congr (hp : co_pg p n) {B B' : Int → ck_D} {k : Int} (h0 : 0 ≤ k) (h1 : k < n) (h : ∀ j, 0 ≤ j → j ≤ k → B j = B' j) : co_F p B k = co_F p B' k := by
  obtain ⟨hn, hS, hH, hE, hN, hM⟩ := hp
  unfold co_F
  rw [h k h0 (Int.le_refl _)]
  split
  · rfl
  split
  · rename_i h2 h3
    obtain ⟨a, -, -⟩ := hE k h0 h1 (Or.inl h3)
    unfold co_O
    rw [if_pos rfl, if_pos rfl, h _ a.1 (by omega)]
  split
  · rename_i h2 h3 h4
    obtain ⟨a, -, b⟩ := hE k h0 h1 (Or.inr h4)
    obtain ⟨b1, b2⟩ := b h4
    obtain ⟨c1, -, -, c4⟩ := hH _ a.1 (by omega) b1
    have hO : co_O p B (p 10 k) (p 11 (p 10 k)) = co_O p B' (p 10 k) (p 11 (p 10 k)) := by
      unfold co_O
      split
      · rw [h _ a.1 (by omega)]
      · exact h _ (by omega) (by omega)
    rw [hO]
  · rfl
theorem co_A0_le (hp : co_pg p n) {B B' : Int → ck_D} {k : Int} (h0 : 0 ≤ k) (h1 : k < n) (h : ∀ j, 0 ≤ j → j < k → co_le (B j) (B' j)) : co_le (co_A0 p B k) (co_A0 p B' k) := by
  unfold co_A0
  split
  · exact co_le_rfl _
  · exact co_F_le hp (by omega) (by omega) (fun j a b => h j a (by omega))
theorem co_A0_congr (hp : co_pg p n) {B B' : Int → ck_D} {k : Int} (h0 : 0 ≤ k) (h1 : k < n) (h : ∀ j, 0 ≤ j → j < k → B j = B' j) : co_A0 p B k = co_A0 p B' k := by
  unfold co_A0
  split
  · rfl
  · exact co_F_congr hp (by omega) (by omega) (fun j a b => h j a (by omega))
theorem co_le_dFcJ {f g g' : ck_D} (h : co_le f g) (nb ab k : Int) : co_le (ck_dFc nb ab k f) (ck_dFc nb ab k (ck_dJb g' g)) := by
  obtain ⟨hk, hv, hz, hl, hh, ht⟩ := h
  refine co_le_N (fun n a b => ?_) (fun n a b => ?_) (fun n q a b c d => ?_) (fun q a b => ?_) (fun q a b => ?_) (fun q a b => ?_)
  · unfold ck_dJb
    rw [ck_N_kn a b, hk]
  · unfold ck_dJb
    rw [ck_N_lo a b]
    have := hl n
    unfold ck_mn; split <;> omega
  · unfold ck_dJb
    rw [ck_N_hi a b c d]
    have := hh n q
    unfold ck_mx; split <;> omega
  · unfold ck_dJb
    rw [ck_N_va a b, hv]
  · unfold ck_dJb
    rw [ck_N_sz a b, hz]
  · unfold ck_dJb
    rw [ck_N_th a b]
    intro hq
    rw [if_pos (Or.inl (ht q hq))]
theorem co_A_le (hp : co_pg p n) {B B' Z Z' : Int → ck_D} {r r' k : Int} (h0 : 0 ≤ k) (h1 : k < n) (h : ∀ j, 0 ≤ j → j < k → co_le (B j) (B' j)) (hr : p 6 k = 12 → r ≠ 0 → r' ≠ 0 ∧ co_le (Z (p 12 k)) (Z' (p 12 k))) : co_le (co_A p B Z r k) (co_A p B' Z' r' k) := by
  have hA := co_A0_le hp h0 h1 h
  unfold co_A
  split
  · rename_i ht
    by_cases hr0 : r = 0
    · rw [if_pos hr0]
      split
      · exact co_le_dFc hA _ _ _
      · exact co_le_dFcJ hA _ _ _
    · rw [if_neg hr0, if_neg (hr ht hr0).1]
      exact co_le_dFc (co_le_dJb hA (hr ht hr0).2) _ _ _
  · exact hA
theorem co_A_congr (hp : co_pg p n) {B B' : Int → ck_D} {Z : Int → ck_D} {r k : Int} (h0 : 0 ≤ k) (h1 : k < n) (h : ∀ j, 0 ≤ j → j < k → B j = B' j) : co_A p B Z r k = co_A p B' Z r k := by
  unfold co_A
  rw [co_A0_congr hp h0 h1 h]
theorem co_O_wb (hp : co_pg p n) {B : Int → ck_D} {k : Int} (h0 : 0 ≤ k) (h1 : k < n) (h2 : p 6 k = 10 ∨ p 6 k = 11) (h : ∀ j, 0 ≤ j → j ≤ k → co_wb j (B j)) : co_wb k (co_O p B (p 10 k) (-1)) ∧ co_wb k (co_O p B (p 10 k) (p 11 (p 10 k))) := by
  obtain ⟨hn, hS, hH, hE, hN, hM⟩ := hp
  obtain ⟨a, b, c⟩ := hE k h0 h1 h2
  have b1 : p 6 (p 10 k) = 9 ∨ p 6 (p 10 k) = 12 := by
    rcases h2 with h2 | h2
    · exact Or.inl (b h2).1
    · exact (c h2).1
  obtain ⟨c1, -, -, c4⟩ := hH _ a.1 (by omega) b1
  have hs := hS _ a.1 (by omega)
  have hz : -100 ≤ p 9 (p 10 k) ∧ p 9 (p 10 k) ≤ 100 := by unfold ck_sOk at hs; omega
  have hO : co_wb k (ck_dNot (p 7 (p 10 k)) (p 8 (p 10 k)) (p 9 (p 10 k)) (B (p 10 k))) := co_wb_up (j := p 10 k + 1) (by omega) (co_wb_dNot a.1 (h _ a.1 (by omega)) hz)
  refine ⟨?_, ?_⟩
  · unfold co_O
    rw [if_pos rfl]
    exact hO
  · unfold co_O
    split
    · exact hO
    · have e : p 11 (p 10 k) ≤ k := by
        rcases h2 with h2 | h2
        · have := (b h2).2; omega
        · have := (c h2).2; omega
      exact co_wb_up e (h _ (by omega) e)
theorem co_F_wb (hp : co_pg p n) {B : Int → ck_D} {k : Int} (h0 : 0 ≤ k) (h1 : k < n) (h : ∀ j, 0 ≤ j → j ≤ k → co_wb j (B j)) : co_wb (k + 1) (co_F p B k) := by
  have hk := h k h0 (Int.le_refl _)
  have hn := hp.1
  have hs := hp.2.1 k h0 h1
  unfold co_F
  split
  · rename_i h2
    exact co_wb_dBel h0 hk (by unfold ck_sOk at hs; omega)
  split
  · rename_i h2 h3
    exact co_wb_up (by omega) (co_O_wb hp h0 h1 (Or.inl h3) h).1
  split
  · rename_i h2 h3 h4
    have hO := (co_O_wb hp h0 h1 (Or.inr h4) h).2
    split
    · exact co_wb_dJw h0 hO hk
    · exact co_wb_up (by omega) hO
  · exact co_wb_dEff ⟨h0, by omega⟩ hk hs
theorem co_A0_wb (hp : co_pg p n) {B : Int → ck_D} {k : Int} (h0 : 0 ≤ k) (h1 : k < n) (h : ∀ j, 0 ≤ j → j < k → co_wb j (B j)) : co_wb k (co_A0 p B k) := by
  unfold co_A0
  split
  · rename_i e
    rw [e]
    exact co_wb_first
  · have := co_F_wb hp (B := B) (k := k - 1) (by omega) (by omega) (fun j a b => h j a (by omega))
    rwa [Int.sub_add_cancel] at this
theorem co_A_wb (hp : co_pg p n) {B Z : Int → ck_D} {r k : Int} (h0 : 0 ≤ k) (h1 : k < n) (h : ∀ j, 0 ≤ j → j < k → co_wb j (B j)) (hZ : p 6 k = 12 → r ≠ 0 → co_wb (p 12 k) (Z (p 12 k))) : co_wb k (co_A p B Z r k) := by
  have hA := co_A0_wb hp h0 h1 h
  unfold co_A
  split
  · rename_i ht
    split
    · exact co_wb_dFc h0 hA
    · rename_i hr
      exact co_wb_dFc h0 (co_wb_dJb h0 hA (hZ ht hr))
  · exact hA
end COF
/-! ## A pass through the statements, the ends of whiles by Z -/
def co_tb (p : ck_M) (Z : Int → ck_D) (r : Int) : Nat → Int → ck_D
  | 0 => fun _ => ck_dFirst
  | m + 1 => fun j => if j = m then co_A p (co_tb p Z r m) Z r m else co_tb p Z r m j
def co_ps (p : ck_M) (Z : Int → ck_D) (r : Int) (k : Int) : ck_D := co_tb p Z r (k.toNat + 1) k
theorem co_tb_st (p : ck_M) (Z : Int → ck_D) (r : Int) {j : Int} (hj : 0 ≤ j) : ∀ m : Nat, j < m → co_tb p Z r m j = co_ps p Z r j := by
  intro m
  induction m with
  | zero => intro h; exact absurd h (by omega)
  | succ m ih =>
    intro h
    by_cases e : j = m
    · unfold co_ps
      have : j.toNat + 1 = m + 1 := by omega
      rw [this]
    · rw [← ih (by omega)]
      exact if_neg e
theorem co_ps_eq {p : ck_M} {n : Int} (hp : co_pg p n) (Z : Int → ck_D) (r : Int) {k : Int} (h0 : 0 ≤ k) (h1 : k < n) : co_ps p Z r k = co_A p (co_ps p Z r) Z r k := by
  have e : (k.toNat : Int) = k := Int.toNat_of_nonneg h0
  have h : co_ps p Z r k = co_A p (co_tb p Z r k.toNat) Z r (k.toNat : Int) := if_pos e.symm
  rw [h, e]
  exact co_A_congr hp h0 h1 (fun j a b => co_tb_st p Z r a _ (by omega))
theorem co_ind {P : Int → Prop} {n : Int} (h : ∀ k, 0 ≤ k → k < n → (∀ j, 0 ≤ j → j < k → P j) → P k) : ∀ k, 0 ≤ k → k < n → P k := by
  have : ∀ (m : Nat) (k : Int), 0 ≤ k → k < n → k < m → P k := by
    intro m
    induction m with
    | zero => intro k a b c; exact absurd c (by omega)
    | succ m ih => exact fun k a b c => h k a b (fun j a' b' => ih j a' (by omega) (by omega))
  exact fun k a b => this (k.toNat + 1) k a b (by omega)
/-- a solution: what is known before each statement fits together -/
def co_sol (p : ck_M) (n : Int) (X : Int → ck_D) : Prop := ∀ k, 0 ≤ k → k < n → X k = co_A p X X 1 k
section COP
variable {p : ck_M} {n : Int}
theorem co_ps_le (hp : co_pg p n) {Z Z' : Int → ck_D} {r r' : Int} (h : r ≠ 0 → r' ≠ 0 ∧ ∀ j, 0 ≤ j → j < n → co_le (Z j) (Z' j)) : ∀ k, 0 ≤ k → k < n → co_le (co_ps p Z r k) (co_ps p Z' r' k) := by
  refine co_ind (fun k h0 h1 ih => ?_)
  rw [co_ps_eq hp Z r h0 h1, co_ps_eq hp Z' r' h0 h1]
  refine co_A_le hp h0 h1 ih (fun ht hr => ⟨(h hr).1, (h hr).2 _ ?_ ?_⟩)
  · have := (hp.2.2.1 k h0 h1 (Or.inr ht)).1; omega
  · exact (hp.2.2.1 k h0 h1 (Or.inr ht)).1.2
theorem co_ps_sol (hp : co_pg p n) {Z X : Int → ck_D} {r : Int} (hX : co_sol p n X) (h : r ≠ 0 → ∀ j, 0 ≤ j → j < n → co_le (Z j) (X j)) : ∀ k, 0 ≤ k → k < n → co_le (co_ps p Z r k) (X k) := by
  refine co_ind (fun k h0 h1 ih => ?_)
  rw [co_ps_eq hp Z r h0 h1, hX k h0 h1]
  refine co_A_le hp h0 h1 ih (fun ht hr => ⟨by decide, h hr _ ?_ ?_⟩)
  · have := (hp.2.2.1 k h0 h1 (Or.inr ht)).1; omega
  · exact (hp.2.2.1 k h0 h1 (Or.inr ht)).1.2
theorem co_ps_wb (hp : co_pg p n) {Z : Int → ck_D} {r : Int} (h : r ≠ 0 → ∀ j, 0 ≤ j → j < n → co_wb j (Z j)) : ∀ k, 0 ≤ k → k < n → co_wb k (co_ps p Z r k) := by
  refine co_ind (fun k h0 h1 ih => ?_)
  rw [co_ps_eq hp Z r h0 h1]
  refine co_A_wb hp h0 h1 ih (fun ht hr => h hr _ ?_ ?_)
  · have := (hp.2.2.1 k h0 h1 (Or.inr ht)).1; omega
  · exact (hp.2.2.1 k h0 h1 (Or.inr ht)).1.2
end COP
/-- the passes -/
def co_Fi (p : ck_M) : Nat → Int → ck_D
  | 0 => co_ps p (fun _ => ck_dFirst) 0
  | i + 1 => co_ps p (co_Fi p i) 1
section COI
variable {p : ck_M} {n : Int}
theorem co_Fi_wb (hp : co_pg p n) : ∀ i k, 0 ≤ k → k < n → co_wb k (co_Fi p i k) := by
  intro i
  induction i with
  | zero => exact co_ps_wb hp (fun h => absurd rfl h)
  | succ i ih => exact co_ps_wb hp (fun _ => ih)
theorem co_Fi_sol (hp : co_pg p n) {X : Int → ck_D} (hX : co_sol p n X) : ∀ i k, 0 ≤ k → k < n → co_le (co_Fi p i k) (X k) := by
  intro i
  induction i with
  | zero => exact co_ps_sol hp hX (fun h => absurd rfl h)
  | succ i ih => exact co_ps_sol hp hX (fun _ => ih)
theorem co_Fi_le (hp : co_pg p n) : ∀ i k, 0 ≤ k → k < n → co_le (co_Fi p i k) (co_Fi p (i + 1) k) := by
  intro i
  induction i with
  | zero => exact co_ps_le hp (fun h => absurd rfl h)
  | succ i ih => exact co_ps_le hp (fun _ => ⟨by decide, ih⟩)
theorem co_Fi_end (hp : co_pg p n) {i : Nat} (h : ∀ k, 0 ≤ k → k < n → co_Fi p i k = co_Fi p (i + 1) k) : co_sol p n (co_Fi p (i + 1)) := by
  intro k h0 h1
  have e : co_Fi p (i + 1) k = co_A p (co_Fi p (i + 1)) (co_Fi p i) 1 k := co_ps_eq hp _ _ h0 h1
  refine e.trans ?_
  unfold co_A
  split
  · rename_i ht
    rw [if_neg (by decide), if_neg (by decide)]
    have a := (hp.2.2.1 k h0 h1 (Or.inr ht)).1
    rw [h (p 12 k) (by omega) a.2]
  · rfl
end COI
