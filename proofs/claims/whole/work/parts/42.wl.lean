/-! ## The search of the class: what is due, what is reached -/
def co_ar (p : ck_M) (B : Int → ck_D) (R : Int → Int) (j : Int) : ck_D := co_A p B B (R (p 12 j)) j
def co_wI (p : ck_M) (n : Int) (X B : Int → ck_D) (R D : Int → Int) (k : Int) : Prop := (0 ≤ k ∧ k ≤ n) ∧ (∀ j, 0 ≤ j → j < n → R j = 0 ∨ R j = 1) ∧ (∀ j, 0 ≤ j → j < n → D j = 0 ∨ D j = 1) ∧ (∀ i j, 0 ≤ i → i < j → j < n → R j = 1 → R i = 1) ∧ (∀ j, 0 ≤ j → j < k → R j = 1) ∧ (∀ j, 0 ≤ j → j < n → R j = 1 → co_wb j (B j) ∧ co_le (B j) (X j) ∧ co_le (B j) (co_ar p B R j)) ∧ (∀ j, 0 ≤ j → j < n → (j < k → D j = 0) ∧ (D j = 0 → R j = 1 ∧ B j = co_ar p B R j)) ∧ ∀ h, 0 ≤ h → h < n → p 6 h = 9 → p 11 h ≠ -1 → p 12 h + 1 = n ∨ D (p 12 h + 1) = 1 ∨ ∀ j, h < j → j ≤ p 11 h → D j = 0
section COW
variable {p : ck_M} {n : Int} {X B : Int → ck_D} {R D : Int → Int} {k : Int}
theorem co_w_ar (hp : co_pg p n) (hX : co_sol p n X) (hI : co_wI p n X B R D k) (h1 : k < n) : co_wb k (co_ar p B R k) ∧ co_le (co_ar p B R k) (X k) := by
  obtain ⟨hk, hR, hD, hpre, hrk, hB, hd, hC⟩ := hI
  have hend : p 6 k = 12 → (k < p 12 k ∧ p 12 k < n) := fun ht => (hp.2.2.1 k hk.1 h1 (Or.inr ht)).1
  refine ⟨?_, ?_⟩
  · refine co_A_wb hp hk.1 h1 (fun j a b => (hB j a (by omega) (hrk j a b)).1) (fun ht hr => ?_)
    have := hend ht
    have e := hR (p 12 k) (by omega) (by omega)
    exact (hB _ (by omega) (by omega) (by omega)).1
  · rw [hX k hk.1 h1]
    refine co_A_le hp hk.1 h1 (fun j a b => (hB j a (by omega) (hrk j a b)).2.1) (fun ht hr => ⟨by decide, ?_⟩)
    have := hend ht
    have e := hR (p 12 k) (by omega) (by omega)
    exact (hB _ (by omega) (by omega) (by omega)).2.1
/-- statement j is not due, or what is known has not moved -/
theorem co_w_stay (hp : co_pg p n) (hX : co_sol p n X) (hnf : ∀ j, co_nf (B j)) (hI : co_wI p n X B R D k) (h1 : k < n) (h2 : D k = 0 ∨ (R k ≠ 0 ∧ ck_sb (B k) (co_ar p B R k))) {D' : Int → Int} (hD1 : ∀ j, 0 ≤ j → j ≤ n → j ≠ k → D' j = D j) (hD0 : D' k = 0) : co_wI p n X B R D' (k + 1) := by
  obtain ⟨hw, hl⟩ := co_w_ar hp hX hI h1
  obtain ⟨hk, hR, hD, hpre, hrk, hB, hd, hC⟩ := hI
  have hkk : R k = 1 ∧ B k = co_ar p B R k := by
    rcases h2 with h2 | ⟨h2, h3⟩
    · exact (hd k hk.1 h1).2 h2
    · have e := hR k hk.1 h1
      have e1 : R k = 1 := by omega
      exact ⟨e1, co_nf_eq (hnf k) (co_nf_A hp hk.1 h1 (fun j _ _ => hnf j)) (hB k hk.1 h1 e1).2.2 h3⟩
  have hDz : ∀ j, 0 ≤ j → j < k → D' j = 0 := fun j a b => (hD1 j a (by omega) (by omega)).trans ((hd j a (by omega)).1 b)
  refine ⟨by omega, hR, fun j a b => ?_, hpre, fun j a b => ?_, hB, fun j a b => ⟨fun c => ?_, fun c => ?_⟩, fun h a b c d => ?_⟩
  · by_cases e : j = k
    · rw [e]; exact Or.inl hD0
    · rw [hD1 j a (by omega) e]; exact hD j a b
  · by_cases e : j = k
    · rw [e]; exact hkk.1
    · exact hrk j a (by omega)
  · by_cases e : j = k
    · rw [e]; exact hD0
    · exact hDz j a (by omega)
  · by_cases e : j = k
    · rw [e]; exact hkk
    · rw [hD1 j a (by omega) e] at c
      exact (hd j a b).2 c
  · obtain ⟨b1, -, -, b4⟩ := hp.2.2.1 h a b (Or.inl c)
    have b5 : h < p 11 h ∧ p 11 h < p 12 h := by
      rcases b4 with b4 | b4
      · exact absurd b4 d
      · exact b4.2.1
    rcases hC h a b c d with q | q | q
    · exact Or.inl q
    · by_cases e : p 12 h + 1 = k
      · exact Or.inr (Or.inr (fun j c1 c2 => hDz j (by omega) (by omega)))
      · by_cases e2 : p 12 h + 1 = n
        · exact Or.inl e2
        · exact Or.inr (Or.inl ((hD1 _ (by omega) (by omega) e).trans q))
    · refine Or.inr (Or.inr (fun j c1 c2 => ?_))
      by_cases e : j = k
      · rw [e]; exact hD0
      · rw [hD1 j (by omega) (by omega) e]; exact q j c1 c2
/-- on which statements what comes to j depends -/
def co_dp (p : ck_M) (j k : Int) : Prop := k + 1 = j ∨ (0 < j ∧ p 6 (j - 1) = 10 ∧ k = p 10 (j - 1)) ∨ (0 < j ∧ p 6 (j - 1) = 11 ∧ (k = p 10 (j - 1) ∨ k = p 11 (p 10 (j - 1)))) ∨ (p 6 j = 12 ∧ k = p 12 j)
theorem co_ar_same (hp : co_pg p n) {B' : Int → ck_D} {R' : Int → Int} {j : Int} (h0 : 0 ≤ j) (h1 : j < n) (hj : ¬ co_dp p j k) (hB : ∀ i, 0 ≤ i → i < n → i ≠ k → B' i = B i) (hR : ∀ i, 0 ≤ i → i < n → i ≠ k → R' i = R i) : co_ar p B' R' j = co_ar p B R j := by
  have hA : co_A0 p B' j = co_A0 p B j := by
    unfold co_A0
    split
    · rfl
    · rename_i hj0
      have hb : B' (j - 1) = B (j - 1) := hB _ (by omega) (by omega) (fun e => hj (Or.inl (by omega)))
      unfold co_F
      rw [hb]
      split
      · rfl
      split
      · rename_i h2 h3
        obtain ⟨a, -, -⟩ := hp.2.2.2.1 (j - 1) (by omega) (by omega) (Or.inl h3)
        unfold co_O
        rw [if_pos rfl, if_pos rfl, hB _ a.1 (by omega) (fun e => hj (Or.inr (Or.inl ⟨by omega, h3, e.symm⟩)))]
      split
      · rename_i h2 h3 h4
        obtain ⟨a, -, b⟩ := hp.2.2.2.1 (j - 1) (by omega) (by omega) (Or.inr h4)
        obtain ⟨c1, -, -, c4⟩ := hp.2.2.1 _ a.1 (by omega) (b h4).1
        have hO : co_O p B' (p 10 (j - 1)) (p 11 (p 10 (j - 1))) = co_O p B (p 10 (j - 1)) (p 11 (p 10 (j - 1))) := by
          unfold co_O
          split
          · rw [hB _ a.1 (by omega) (fun e => hj (Or.inr (Or.inr (Or.inl ⟨by omega, h4, Or.inl e.symm⟩))))]
          · exact hB _ (by omega) (by omega) (fun e => hj (Or.inr (Or.inr (Or.inl ⟨by omega, h4, Or.inr e.symm⟩))))
        rw [hO]
      · rfl
  unfold co_ar co_A
  rw [hA]
  split
  · rename_i ht
    have a := (hp.2.2.1 j h0 h1 (Or.inr ht)).1
    have e : p 12 j ≠ k := fun e => hj (Or.inr (Or.inr (Or.inr ⟨ht, e.symm⟩)))
    rw [hB _ (by omega) a.2 e, hR _ (by omega) a.2 e]
  · rfl
/-- what is marked due behind a move -/
theorem co_w_du (hp : co_pg p n) {h : Int} (h0 : 0 ≤ k) (h1 : k < n) (a : 0 ≤ h) (b : h < n) (c : p 6 h = 9) (d : p 11 h ≠ -1) (hk : ¬ (h ≤ k ∧ k ≤ p 11 h)) {j : Int} (j1 : h < j) (j2 : j ≤ p 11 h) : ¬ ck_du p k j := by
  obtain ⟨hn, hS, hH, hE, hN, hM⟩ := hp
  obtain ⟨b1, -, -, b4⟩ := hH h a b (Or.inl c)
  have b5 : (h < p 11 h ∧ p 11 h < p 12 h) ∧ p 6 (p 11 h) = 10 ∧ p 10 (p 11 h) = h := by
    rcases b4 with b4 | b4
    · exact absurd b4 d
    · exact b4.2
  intro hd
  rcases hd with e | ⟨e, e2⟩ | ⟨e, e2, e3⟩
  · omega
  · obtain ⟨c1, c2, c3, c4⟩ := hH k h0 h1 e
    rcases e2 with e2 | ⟨e2, e3⟩
    · have q : p 12 k ≠ h := fun q => by rw [q] at c2; omega
      have := hN h a b (Or.inl c) (p 12 k) (by omega) (by omega) (Or.inr c2)
      omega
    · rcases c4 with c4 | c4
      · exact e2 c4
      · have q : p 11 k ≠ h := fun q => by rw [q] at c4; omega
        have := hN h a b (Or.inl c) (p 11 k) (by omega) (by omega) (Or.inl c4.2.2.1)
        omega
  · obtain ⟨a1, -, a3⟩ := hE k h0 h1 (Or.inr e)
    have a4 := (a3 e).2
    have q : j ≠ p 11 h := by
      intro q
      have z := b5.2.1
      rw [← q, e3] at z
      omega
    have := hN (p 10 k) a1.1 (by omega) (Or.inr e2) (p 11 h) (by omega) (by omega) (Or.inl b5.2.1)
    omega
theorem co_w_move (hp : co_pg p n) (hX : co_sol p n X) (hI : co_wI p n X B R D k) (h1 : k < n) (h2 : D k = 1) {B' : Int → ck_D} {R' D' : Int → Int} (hB1 : ∀ j, 0 ≤ j → j < n → j ≠ k → B' j = B j) (hB2 : B' k = co_ar p B R k) (hR1 : ∀ j, 0 ≤ j → j < n → j ≠ k → R' j = R j) (hR2 : R' k = 1) (hD1 : ∀ j, 0 ≤ j → j ≤ n → ck_du p k j → D' j = 1) (hD2 : ∀ j, 0 ≤ j → j ≤ n → ¬ ck_du p k j → D' j = if j = k then 0 else D j) : co_wI p n X B' R' D' (if p 6 k = 11 ∧ p 6 (p 10 k) = 12 then p 10 k else k + 1) := by
  obtain ⟨hw, hl⟩ := co_w_ar hp hX hI h1
  obtain ⟨hk, hR, hD, hpre, hrk, hB, hd, hC⟩ := hI
  have hp' := id hp
  obtain ⟨hn, hS, hH, hE, hN, hM⟩ := hp
  -- where it goes on
  have hk' : ∃ k', k' = (if p 6 k = 11 ∧ p 6 (p 10 k) = 12 then p 10 k else k + 1) := ⟨_, rfl⟩
  obtain ⟨k', ek⟩ := hk'
  have hk2 : (0 ≤ k' ∧ k' ≤ n) ∧ (k' ≤ k + 1) := by
    rw [ek]
    split
    · rename_i e
      have := (hE k hk.1 h1 (Or.inr e.1)).1
      omega
    · omega
  have hduk : ∀ j, ck_du p k j → k' ≤ j ∧ j ≠ k := by
    intro j hj
    rcases hj with e | ⟨e, e2⟩ | ⟨e, e2, e3⟩
    · omega
    · have c := hH k hk.1 h1 e
      omega
    · have := (hE k hk.1 h1 (Or.inr e)).1
      rw [ek, if_pos ⟨e, e2⟩, e3]
      omega
  rw [← ek]
  have hR1' : ∀ j, 0 ≤ j → j < n → R j = 1 → R' j = 1 := by
    intro j a b c
    by_cases e : j = k
    · rw [e]; exact hR2
    · rw [hR1 j a b e]; exact c
  have hBl : ∀ j, 0 ≤ j → j < n → R j = 1 → co_le (B j) (B' j) := by
    intro j a b c
    by_cases e : j = k
    · rw [e, hB2]
      rw [e] at c
      exact (hB k hk.1 h1 c).2.2
    · rw [hB1 j a b e]; exact co_le_rfl _
  have hal : ∀ j, 0 ≤ j → j < n → (∀ i, 0 ≤ i → i < j → R i = 1) → co_le (co_ar p B R j) (co_ar p B' R' j) := by
    intro j a b c
    refine co_A_le hp' a b (fun i a' b' => hBl i a' (by omega) (c i a' b')) (fun ht hr => ?_)
    have q := (hH j a b (Or.inr ht)).1
    have e := hR (p 12 j) (by omega) q.2
    have e1 : R (p 12 j) = 1 := by omega
    refine ⟨?_, hBl _ (by omega) q.2 e1⟩
    rw [hR1' _ (by omega) q.2 e1]
    decide
  have hDm : ∀ j, 0 ≤ j → j ≤ n → j ≠ k → D j = 1 → D' j = 1 := by
    intro j a b c d
    by_cases e : ck_du p k j
    · exact hD1 j a b e
    · rw [hD2 j a b e, if_neg c]; exact d
  have hdep : ∀ j, 0 ≤ j → j < n → co_dp p j k → D' j = 1 := by
    intro j a b c
    rcases c with c | ⟨hj, c, c2⟩ | ⟨hj, c, c2⟩ | ⟨c, c2⟩
    · exact hD1 j a (by omega) (Or.inl c.symm)
    · obtain ⟨a1, a2, -⟩ := hE (j - 1) (by omega) (by omega) (Or.inl c)
      obtain ⟨a3, a4⟩ := a2 c
      rw [← c2] at a3 a4
      exact hD1 j a (by omega) (Or.inr (Or.inl ⟨Or.inl a3, Or.inr ⟨by omega, by omega⟩⟩))
    · obtain ⟨a1, -, a2⟩ := hE (j - 1) (by omega) (by omega) (Or.inr c)
      obtain ⟨a3, a4⟩ := a2 c
      obtain ⟨c1, -, -, c4⟩ := hH _ a1.1 (by omega) a3
      rcases c2 with c2 | c2
      · rw [← c2] at a3 a4
        exact hD1 j a (by omega) (Or.inr (Or.inl ⟨a3, Or.inl (by omega)⟩))
      · rcases c4 with c4 | c4
        · omega
        · have q := hC (p 10 (j - 1)) a1.1 (by omega) c4.1 (by omega)
          have e : p 12 (p 10 (j - 1)) + 1 = j := by omega
          rw [e] at q
          rcases q with q | q | q
          · omega
          · exact hDm j a (by omega) (by omega) q
          · have := q k (by omega) (by omega)
            omega
    · have q := (hH j a b (Or.inr c)).2
      rw [← c2] at q
      refine hD1 j a (by omega) (Or.inr (Or.inr ⟨q.1, ?_, q.2.1.symm⟩))
      rw [q.2.1]; exact c
  have hself : co_ar p B' R' k = co_ar p B R k := by
    refine co_ar_same hp' hk.1 h1 (fun c => ?_) hB1 hR1
    have hdk := hdep k hk.1 h1 c
    rcases c with c | ⟨hj, c, c2⟩ | ⟨hj, c, c2⟩ | ⟨c, c2⟩
    · omega
    · have := (hE (k - 1) (by omega) (by omega) (Or.inl c)).1
      omega
    · obtain ⟨a1, -, a2⟩ := hE (k - 1) (by omega) (by omega) (Or.inr c)
      obtain ⟨a3, a4⟩ := a2 c
      obtain ⟨c1, -, -, c4⟩ := hH _ a1.1 (by omega) a3
      omega
    · have q := (hH k hk.1 h1 (Or.inr c)).1
      omega
  refine ⟨hk2.1, fun j a b => ?_, fun j a b => ?_, fun i j a b c d => ?_, fun j a b => ?_, fun j a b c => ?_, fun j a b => ⟨fun c => ?_, fun c => ?_⟩, fun h a b c d => ?_⟩
  · by_cases e : j = k
    · rw [e]; exact Or.inr hR2
    · rw [hR1 j a b e]; exact hR j a b
  · by_cases e : ck_du p k j
    · exact Or.inr (hD1 j a (by omega) e)
    · rw [hD2 j a (by omega) e]
      split
      · exact Or.inl rfl
      · exact hD j a b
  · by_cases e : j = k
    · exact hR1' i a (by omega) (hrk i a (by omega))
    · rw [hR1 j (by omega) c e] at d
      exact hR1' i a (by omega) (hpre i j a b c d)
  · by_cases e : j = k
    · rw [e]; exact hR2
    · exact hR1' j a (by omega) (hrk j a (by omega))
  · by_cases e : j = k
    · rw [e, hself, hB2]
      exact ⟨hw, hl, co_le_rfl _⟩
    · rw [hR1 j a b e] at c
      obtain ⟨c1, c2, c3⟩ := hB j a b c
      rw [hB1 j a b e]
      exact ⟨c1, c2, co_le_tr c3 (hal j a b (fun i a' b' => hpre i j a' b' b c))⟩
  · have e : ¬ ck_du p k j := fun e => by have := hduk j e; omega
    rw [hD2 j a (by omega) e]
    split
    · rfl
    · exact (hd j a b).1 (by omega)
  · have e : ¬ ck_du p k j := fun e => by have := hD1 j a (by omega) e; omega
    by_cases e2 : j = k
    · rw [e2, hself, hB2]
      exact ⟨hR2, rfl⟩
    · rw [hD2 j a (by omega) e, if_neg e2] at c
      obtain ⟨c1, c2⟩ := (hd j a b).2 c
      have e3 : ¬ co_dp p j k := fun e3 => by
        have z := hdep j a b e3
        rw [hD2 j a (by omega) e, if_neg e2] at z
        omega
      rw [hR1 j a b e2, hB1 j a b e2, co_ar_same hp' a b e3 hB1 hR1]
      exact ⟨c1, c2⟩
  · obtain ⟨b1, -, -, b4⟩ := hH h a b (Or.inl c)
    have b5 : h < p 11 h ∧ p 11 h < p 12 h := by
      rcases b4 with b4 | b4
      · exact absurd b4 d
      · exact b4.2.1
    by_cases e : p 12 h + 1 = n
    · exact Or.inl e
    by_cases eh : k = h
    · exact Or.inr (Or.inl (hD1 _ (by omega) (by omega) (Or.inr (Or.inl ⟨Or.inl (by rw [eh]; exact c), Or.inl (by rw [eh])⟩))))
    by_cases ei : h ≤ k ∧ k ≤ p 11 h
    · rcases hC h a b c d with q | q | q
      · exact absurd q e
      · exact Or.inr (Or.inl (hDm _ (by omega) (by omega) (by omega) q))
      · have := q k (by omega) ei.2
        omega
    · have hno : ∀ j, h < j → j ≤ p 11 h → D j = 0 → D' j = 0 := by
        intro j c1 c2 c3
        rw [hD2 j (by omega) (by omega) (co_w_du hp' hk.1 h1 a b c d ei c1 c2)]
        split
        · rfl
        · exact c3
      rcases hC h a b c d with q | q | q
      · exact absurd q e
      · by_cases ek2 : p 12 h + 1 = k
        · exact Or.inr (Or.inr (fun j c1 c2 => hno j c1 c2 ((hd j (by omega) (by omega)).1 (by omega))))
        · exact Or.inr (Or.inl (hDm _ (by omega) (by omega) ek2 q))
      · exact Or.inr (Or.inr (fun j c1 c2 => hno j c1 c2 (q j c1 c2)))
/-- how far the search has come -/
def co_ph (n : Int) (B : Int → ck_D) (R : Int → Int) : Int := ck_sum0 (fun j => if R j = 0 then 0 else 1 + co_mM j - co_mu (B j)) n.toNat
theorem co_sum_mono {g : Int → Int} (hg : ∀ i, 0 ≤ i → 0 ≤ g i) : ∀ m m' : Nat, m ≤ m' → ck_sum0 g m ≤ ck_sum0 g m' := by
  intro m m' h
  induction h with
  | refl => exact Int.le_refl _
  | @step q _ ih =>
    have := hg q (by omega)
    show ck_sum0 g m ≤ ck_sum0 g q + g q
    omega
theorem co_ph_bd (hn : 0 ≤ n ∧ n ≤ 64) (hB : ∀ j, 0 ≤ j → j < n → R j = 0 ∨ co_wb j (B j)) : 0 ≤ co_ph n B R ∧ co_ph n B R ≤ 18888320 := by
  have h1 := co_sum_le (f := fun j => if R j = 0 then 0 else 1 + co_mM j - co_mu (B j)) (g := fun j => 1 + co_mM j) n.toNat (fun j a b => by
    split
    · unfold co_mM; omega
    · rename_i hr
      rcases hB j a (by omega) with e | e
      · exact absurd e hr
      · have := (co_mu_bd a e).1
        omega)
  have h2 := co_sum_mono (g := fun j => 1 + co_mM j) (fun i a => by unfold co_mM; omega) n.toNat 64 (by omega)
  have h3 : ck_sum0 (fun j => 1 + co_mM j) 64 = 18888320 := by decide +kernel
  have h4 := co_sum_le (f := fun _ => 0) (g := fun j => if R j = 0 then 0 else 1 + co_mM j - co_mu (B j)) n.toNat (fun j a b => by
    split
    · exact Int.le_refl _
    · rename_i hr
      rcases hB j a (by omega) with e | e
      · exact absurd e hr
      · have := (co_mu_bd a e).2
        omega)
  rw [co_sum_c, Int.mul_zero] at h4
  unfold co_ph
  omega
theorem co_w_ph (hp : co_pg p n) (hX : co_sol p n X) (hnf : ∀ j, co_nf (B j)) (hI : co_wI p n X B R D k) (h1 : k < n) (hm : ¬ (R k ≠ 0 ∧ ck_sb (B k) (co_ar p B R k))) {B' : Int → ck_D} {R' : Int → Int} (hB1 : ∀ j, 0 ≤ j → j < n → j ≠ k → B' j = B j) (hB2 : B' k = co_ar p B R k) (hR1 : ∀ j, 0 ≤ j → j < n → j ≠ k → R' j = R j) (hR2 : R' k = 1) : co_ph n B R + 1 ≤ co_ph n B' R' := by
  obtain ⟨hw, hl⟩ := co_w_ar hp hX hI h1
  obtain ⟨hk, hR, hD, hpre, hrk, hB, hd, hC⟩ := hI
  have hbd := co_mu_bd hk.1 hw
  have hkk : (if R k = 0 then 0 else 1 + co_mM k - co_mu (B k)) < (if R' k = 0 then 0 else 1 + co_mM k - co_mu (B' k)) := by
    have hz : ¬ R' k = 0 := by rw [hR2]; decide
    rw [if_neg hz, hB2]
    split
    · omega
    · rename_i hr
      have e := hR k hk.1 h1
      obtain ⟨q1, q2, q3⟩ := hB k hk.1 h1 (by omega)
      rcases Int.lt_or_le (co_mu (co_ar p B R k)) (co_mu (B k)) with z | z
      · omega
      · exact absurd ⟨hr, co_mu_sb q1 hw q3 z⟩ hm
  have hle : ∀ i : Int, 0 ≤ i → i < (n.toNat : Int) → (fun j => if R j = 0 then 0 else 1 + co_mM j - co_mu (B j)) i ≤ (fun j => if R' j = 0 then 0 else 1 + co_mM j - co_mu (B' j)) i := by
    intro i a b
    by_cases e : i = k
    · rw [e]; exact Int.le_of_lt hkk
    · dsimp only
      rw [hR1 i a (by omega) e, hB1 i a (by omega) e]
      exact Int.le_refl _
  rcases Int.lt_or_le (co_ph n B R) (co_ph n B' R') with z | z
  · omega
  · have e := co_sum_eq (f := fun j => if R j = 0 then 0 else 1 + co_mM j - co_mu (B j)) (g := fun j => if R' j = 0 then 0 else 1 + co_mM j - co_mu (B' j)) n.toNat hle z k hk.1 (by omega)
    omega
/-- at the end: a solution, the strongest -/
theorem co_w_end (hp : co_pg p n) (hI : co_wI p n X B R D n) : (∀ k, 0 ≤ k → k < n → co_wb k (B k) ∧ co_le (B k) (X k)) ∧ co_sol p n B := by
  obtain ⟨hk, hR, hD, hpre, hrk, hB, hd, hC⟩ := hI
  refine ⟨fun k a b => ⟨(hB k a b (hrk k a b)).1, (hB k a b (hrk k a b)).2.1⟩, fun k a b => ?_⟩
  obtain ⟨c1, c2⟩ := (hd k a b).2 ((hd k a b).1 b)
  refine c2.trans ?_
  unfold co_ar co_A
  split
  · rename_i ht
    have q := (hp.2.2.1 k a b (Or.inr ht)).1
    rw [hrk (p 12 k) (by omega) q.2]
  · rfl
end COW
