/-! ## What the statements within a while do not change -/
section COD
variable {m r : Int} {f g : ck_D}
theorem co_kn_dEff {t x y z k : Int} (h0 : 0 ≤ m) (h1 : m < 10) (ht : 0 ≤ t) (h : ¬ (t < 5 ∧ x = m)) : ck_kn (ck_dEff t x y z k f) m = ck_kn f m := by
  unfold ck_dEff
  split
  · unfold ck_dSet; rw [ck_N_kn h0 h1, if_neg (by omega)]
  split
  · unfold ck_dSum; rw [ck_N_kn h0 h1, if_neg (by omega)]
  split
  · unfold ck_dAny; rw [ck_N_kn h0 h1, if_neg (by omega)]
  split
  · unfold ck_dLen; rw [ck_N_kn h0 h1, if_neg (by omega)]
  split
  · unfold ck_dAny ck_dUse; rw [ck_N_kn h0 h1, if_neg (by omega), ck_N_kn h0 h1]
  split
  · unfold ck_dUse; rw [ck_N_kn h0 h1]
  split
  · unfold ck_dNew; rw [ck_N_kn h0 h1]
  split
  · unfold ck_dNull; rw [ck_N_kn h0 h1]
  split
  · unfold ck_dLet; rw [ck_N_kn h0 h1]
  · rfl
theorem co_va_dEff {t x y z k : Int} (h0 : 0 ≤ r) (h1 : r < 4) (h : ¬ ((6 ≤ t ∧ t ≤ 8) ∧ x = r)) : ck_va (ck_dEff t x y z k f) r = ck_va f r := by
  unfold ck_dEff
  split
  · unfold ck_dSet; rw [ck_N_va h0 h1]
  split
  · unfold ck_dSum; rw [ck_N_va h0 h1]
  split
  · unfold ck_dAny; rw [ck_N_va h0 h1]
  split
  · unfold ck_dLen; rw [ck_N_va h0 h1]
  split
  · unfold ck_dAny ck_dUse; rw [ck_N_va h0 h1, ck_N_va h0 h1]
  split
  · unfold ck_dUse; rw [ck_N_va h0 h1]
  split
  · unfold ck_dNew; rw [ck_N_va h0 h1, if_neg (by omega)]
  split
  · unfold ck_dNull; rw [ck_N_va h0 h1, if_neg (by omega)]
  split
  · unfold ck_dLet; rw [ck_N_va h0 h1, if_neg (by omega)]
  · rfl
theorem co_kn_dBel {x y z : Int} (h0 : 0 ≤ m) (h1 : m < 10) : ck_kn (ck_dBel x y z f) m = ck_kn f m := ck_N_kn h0 h1
theorem co_kn_dNot {x y z : Int} (h0 : 0 ≤ m) (h1 : m < 10) : ck_kn (ck_dNot x y z f) m = ck_kn f m := ck_N_kn h0 h1
theorem co_va_dBel {x y z : Int} (h0 : 0 ≤ r) (h1 : r < 4) : ck_va (ck_dBel x y z f) r = ck_va f r := ck_N_va h0 h1
theorem co_va_dNot {x y z : Int} (h0 : 0 ≤ r) (h1 : r < 4) : ck_va (ck_dNot x y z f) r = ck_va f r := ck_N_va h0 h1
theorem co_kn_dJw {k : Int} (h0 : 0 ≤ m) (h1 : m < 10) : ck_kn (ck_dJw g k f) m = if ck_kn f m = ck_kn g m then ck_kn f m else 1000000000 := ck_N_kn h0 h1
theorem co_va_dJw {k : Int} (h0 : 0 ≤ r) (h1 : r < 4) : ck_va (ck_dJw g k f) r = if r < 4 ∧ ck_va f r ≠ ck_va g r then 65 + k * 4 + r else ck_va f r := ck_N_va h0 h1
theorem co_kn_dFc {nb ab k : Int} (h0 : 0 ≤ m) (h1 : m < 10) : ck_kn (ck_dFc nb ab k f) m = if ck_and (ck_shr nb m) 1 = 0 then ck_kn f m else 1000000000 := ck_N_kn h0 h1
theorem co_va_dFc {nb ab k : Int} (h0 : 0 ≤ r) (h1 : r < 4) : ck_va (ck_dFc nb ab k f) r = if r < 4 ∧ ck_and (ck_shr ab r) 1 ≠ 0 then 65 + k * 4 + r else ck_va f r := ck_N_va h0 h1
theorem co_kn_dJb (h0 : 0 ≤ m) (h1 : m < 10) : ck_kn (ck_dJb g f) m = ck_kn f m := ck_N_kn h0 h1
theorem co_va_dJb (h0 : 0 ≤ r) (h1 : r < 4) : ck_va (ck_dJb g f) r = ck_va f r := ck_N_va h0 h1
end COD
section COK
variable {p : ck_M} {n : Int} {B Z : Int → ck_D} {r0 : Int}
theorem co_A_kn {j m : Int} (h0 : 0 ≤ m) (h1 : m < 10) (h : p 6 j = 12 → ck_and (ck_shr (p 13 j) m) 1 = 0) : ck_kn (co_A p B Z r0 j) m = ck_kn (co_A0 p B j) m := by
  unfold co_A
  split
  · rename_i ht
    rw [co_kn_dFc h0 h1, if_pos (h ht)]
    split
    · rfl
    · exact co_kn_dJb h0 h1
  · rfl
theorem co_A_va {j r : Int} (h0 : 0 ≤ r) (h1 : r < 4) (h : p 6 j = 12 → ck_and (ck_shr (p 14 j) r) 1 = 0) : ck_va (co_A p B Z r0 j) r = ck_va (co_A0 p B j) r := by
  unfold co_A
  split
  · rename_i ht
    rw [co_va_dFc h0 h1, if_neg (fun z => z.2 (h ht))]
    split
    · rfl
    · exact co_va_dJb h0 h1
  · rfl
/-- a while within a while ends within it -/
theorem co_nest (hp : co_pg p n) {h j : Int} (h0 : 0 ≤ h) (h1 : h < n) (hw : p 6 h = 9 ∨ p 6 h = 12) (a : h < j) (b : j < p 12 h) (hj : p 6 j = 9 ∨ p 6 j = 12) : p 12 j < p 12 h := by
  obtain ⟨hn, hS, hH, hE, hN, hM⟩ := hp
  have q1 := hH h h0 h1 hw
  have q2 := hH j (by omega) (by omega) hj
  rcases Int.lt_or_le (p 12 j) (p 12 h) with z | z
  · exact z
  · by_cases e : p 12 j = p 12 h
    · have z1 := q1.2.2.1
      rw [← e, q2.2.2.1] at z1
      omega
    · have := hN j (by omega) (by omega) hj (p 12 h) b (by omega) (Or.inr q1.2.1)
      rw [q1.2.2.1] at this
      omega
theorem co_inv_kn (hp : co_pg p n) (hB : ∀ k, 0 ≤ k → k < n → B k = co_A p B Z r0 k) {h : Int} (h0 : 0 ≤ h) (h1 : h < n) (hw : p 6 h = 12) {m : Int} (m0 : 0 ≤ m) (m1 : m < 10) (hc : ¬ co_cn p h (p 12 h) m) : ∀ j, 0 ≤ j → j < n → h ≤ j → j ≤ p 12 h → ck_kn (B j) m = ck_kn (B h) m := by
  have hp' := id hp
  obtain ⟨hn, hS, hH, hE, hN, hM⟩ := hp
  have qh := hH h h0 h1 (Or.inr hw)
  refine co_ind (fun j j0 j1 ih => ?_)
  intro a b
  by_cases ej : j = h
  · rw [ej]
  rw [hB j j0 j1, co_A_kn m0 m1 (fun ht => ?_)]
  · unfold co_A0
    rw [if_neg (by omega)]
    have hs := hS (j - 1) (by omega) (by omega)
    unfold co_F
    split
    · rw [co_kn_dBel m0 m1]
      exact ih (j - 1) (by omega) (by omega) (by omega) (by omega)
    split
    · rename_i e1 e2
      obtain ⟨a1, a2, -⟩ := hE (j - 1) (by omega) (by omega) (Or.inl e2)
      have a3 : h < j - 1 := by
        rcases Int.lt_or_le h (j - 1) with z | z
        · exact z
        · have : j - 1 = h := by omega
          rw [this] at e2
          omega
      have a4 := hN h h0 h1 (Or.inr hw) (j - 1) a3 (by omega) (Or.inl e2)
      unfold co_O
      rw [if_pos rfl, co_kn_dNot m0 m1]
      exact ih _ a1.1 (by omega) a4 (by omega)
    split
    · rename_i e1 e2 e3
      obtain ⟨a1, -, a2⟩ := hE (j - 1) (by omega) (by omega) (Or.inr e3)
      obtain ⟨b1, b2⟩ := a2 e3
      have a3 : h < j - 1 := by
        rcases Int.lt_or_le h (j - 1) with z | z
        · exact z
        · have : j - 1 = h := by omega
          rw [this] at e3
          omega
      have a4 := hN h h0 h1 (Or.inr hw) (j - 1) a3 (by omega) (Or.inr e3)
      obtain ⟨c1, -, -, c4⟩ := hH _ a1.1 (by omega) b1
      have hO : ck_kn (co_O p B (p 10 (j - 1)) (p 11 (p 10 (j - 1)))) m = ck_kn (B h) m := by
        unfold co_O
        split
        · rw [co_kn_dNot m0 m1]
          exact ih _ a1.1 (by omega) a4 (by omega)
        · exact ih _ (by omega) (by omega) (by omega) (by omega)
      split
      · rw [co_kn_dJw m0 m1, hO, ih (j - 1) (by omega) (by omega) (by omega) (by omega), if_pos rfl]
      · exact hO
    · rename_i e1 e2 e3
      have a3 : h < j - 1 := by
        rcases Int.lt_or_le h (j - 1) with z | z
        · exact z
        · have : j - 1 = h := by omega
          rw [this] at e1
          exact absurd (Or.inr hw) e1
      rw [co_kn_dEff m0 m1 (by unfold ck_sOk at hs; omega) (fun z => hc ⟨j - 1, a3, by omega, z.1, z.2⟩)]
      exact ih (j - 1) (by omega) (by omega) (by omega) (by omega)
  · have e1 : j ≠ p 12 h := fun e => by rw [e, qh.2.1] at ht; omega
    have e2 := co_nest hp' h0 h1 (Or.inr hw) (by omega) (by omega) (Or.inr ht)
    refine ((hM j j0 j1 ht).1 m m0 m1).mpr (fun z => hc ?_)
    obtain ⟨i, z1, z2, z3, z4⟩ := z
    exact ⟨i, by omega, by omega, z3, z4⟩
theorem co_inv_va (hp : co_pg p n) (hB : ∀ k, 0 ≤ k → k < n → B k = co_A p B Z r0 k) {h : Int} (h0 : 0 ≤ h) (h1 : h < n) (hw : p 6 h = 12) {m : Int} (m0 : 0 ≤ m) (m1 : m < 4) (hc : ¬ co_ca p h (p 12 h) m) : ∀ j, 0 ≤ j → j < n → h ≤ j → j ≤ p 12 h → ck_va (B j) m = ck_va (B h) m := by
  have hp' := id hp
  obtain ⟨hn, hS, hH, hE, hN, hM⟩ := hp
  have qh := hH h h0 h1 (Or.inr hw)
  refine co_ind (fun j j0 j1 ih => ?_)
  intro a b
  by_cases ej : j = h
  · rw [ej]
  rw [hB j j0 j1, co_A_va m0 m1 (fun ht => ?_)]
  · unfold co_A0
    rw [if_neg (by omega)]
    have hs := hS (j - 1) (by omega) (by omega)
    unfold co_F
    split
    · rw [co_va_dBel m0 m1]
      exact ih (j - 1) (by omega) (by omega) (by omega) (by omega)
    split
    · rename_i e1 e2
      obtain ⟨a1, a2, -⟩ := hE (j - 1) (by omega) (by omega) (Or.inl e2)
      have a3 : h < j - 1 := by
        rcases Int.lt_or_le h (j - 1) with z | z
        · exact z
        · have : j - 1 = h := by omega
          rw [this] at e2
          omega
      have a4 := hN h h0 h1 (Or.inr hw) (j - 1) a3 (by omega) (Or.inl e2)
      unfold co_O
      rw [if_pos rfl, co_va_dNot m0 m1]
      exact ih _ a1.1 (by omega) a4 (by omega)
    split
    · rename_i e1 e2 e3
      obtain ⟨a1, -, a2⟩ := hE (j - 1) (by omega) (by omega) (Or.inr e3)
      obtain ⟨b1, b2⟩ := a2 e3
      have a3 : h < j - 1 := by
        rcases Int.lt_or_le h (j - 1) with z | z
        · exact z
        · have : j - 1 = h := by omega
          rw [this] at e3
          omega
      have a4 := hN h h0 h1 (Or.inr hw) (j - 1) a3 (by omega) (Or.inr e3)
      obtain ⟨c1, -, -, c4⟩ := hH _ a1.1 (by omega) b1
      have hO : ck_va (co_O p B (p 10 (j - 1)) (p 11 (p 10 (j - 1)))) m = ck_va (B h) m := by
        unfold co_O
        split
        · rw [co_va_dNot m0 m1]
          exact ih _ a1.1 (by omega) a4 (by omega)
        · exact ih _ (by omega) (by omega) (by omega) (by omega)
      split
      · rw [co_va_dJw m0 m1, hO, ih (j - 1) (by omega) (by omega) (by omega) (by omega), if_neg (fun z => z.2 rfl)]
      · exact hO
    · rename_i e1 e2 e3
      have a3 : h < j - 1 := by
        rcases Int.lt_or_le h (j - 1) with z | z
        · exact z
        · have : j - 1 = h := by omega
          rw [this] at e1
          exact absurd (Or.inr hw) e1
      rw [co_va_dEff m0 m1 (fun z => hc ⟨j - 1, a3, by omega, z.1.1, z.1.2, z.2⟩)]
      exact ih (j - 1) (by omega) (by omega) (by omega) (by omega)
  · have e1 : j ≠ p 12 h := fun e => by rw [e, qh.2.1] at ht; omega
    have e2 := co_nest hp' h0 h1 (Or.inr hw) (by omega) (by omega) (Or.inr ht)
    refine ((hM j j0 j1 ht).2 m m0 m1).mpr (fun z => hc ?_)
    obtain ⟨i, z1, z2, z3, z4, z5⟩ := z
    exact ⟨i, by omega, by omega, z3, z4, z5⟩
end COK
