def co_fr (σ s : ck_M) : Prop := ∀ b j, (b < 18 ∨ 19 < b) → (b < 25 ∨ 479 < b) → s b j = σ b j
def co_WI (σ : ck_M) (n : Int) (X : Int → ck_D) (v a : Int) (s : ck_M) : Prop := 0 ≤ v ∧ co_fr σ s ∧ co_wI (co_pr σ) n X (ck_B s) (s 18) (s 19) a ∧ v ≤ 65 * co_ph n (ck_B s) (s 18) + a
/-- what is known outside the program is free -/
theorem co_A_cong2 {p : ck_M} {n : Int} (hp : co_pg p n) {B B' : Int → ck_D} {r k : Int} (h0 : 0 ≤ k) (h1 : k < n) (h : ∀ j, 0 ≤ j → j < n → B' j = B j) : co_A p B' B' r k = co_A p B B r k := by
  rw [co_A_congr hp h0 h1 (B' := B) (fun j a b => h j a (by omega))]
  unfold co_A
  split
  · rename_i ht
    have a := (hp.2.2.1 k h0 h1 (Or.inr ht)).1
    rw [h (p 12 k) (by omega) a.2]
  · rfl
theorem co_wI_congr {p : ck_M} {n : Int} (hp : co_pg p n) {X B B' : Int → ck_D} {R D : Int → Int} {k : Int} (h : ∀ j, 0 ≤ j → j < n → B' j = B j) (hI : co_wI p n X B R D k) : co_wI p n X B' R D k := by
  obtain ⟨hk, hR, hD, hpre, hrk, hB, hd, hC⟩ := hI
  refine ⟨hk, hR, hD, hpre, hrk, fun j a b c => ?_, fun j a b => ⟨(hd j a b).1, fun c => ?_⟩, hC⟩
  · unfold co_ar
    rw [h j a b, co_A_cong2 hp a b h]
    exact hB j a b c
  · unfold co_ar
    rw [h j a b, co_A_cong2 hp a b h]
    exact (hd j a b).2 c
theorem co_ph_congr {n : Int} (hn : 0 ≤ n ∧ n ≤ 64) {B B' : Int → ck_D} {R : Int → Int} (h : ∀ j, 0 ≤ j → j < n → B' j = B j) : co_ph n B' R = co_ph n B R := co_sum_ext _ (fun j a b => by rw [h j a (by omega)])
section COV
variable {σ s : ck_M} {n v a : Int} {X : Int → ck_D}
theorem co_fr_pr (h : co_fr σ s) : co_pr s = co_pr σ := co_pr_eq (fun b j h1 h2 => h b j (by omega) (by omega))
theorem co_nfB (s : ck_M) (j : Int) : co_nf (ck_B s j) := co_nf_N _ _ _ _ _ _
theorem co_B_eq {s t : ck_M} {j : Int} (h : ∀ b i, 25 + 7 * j < b → b ≤ 25 + 7 * j + 6 → t b i = s b i) : ck_B t j = ck_B s j := by
  refine ck_N_ext (fun n _ _ => ?_) (fun n _ _ => ?_) (fun n r _ _ _ _ => ?_) (fun r _ _ => ?_) (fun r _ _ => ?_) (fun r _ _ => ?_) <;> exact h _ _ (by omega) (by omega)
theorem co_WI_v (hp : co_pg σ n) (h : co_WI σ n X v a s) : v < 2000000000 := by
  obtain ⟨-, -, hI, hv⟩ := h
  have hR := hI.2.1
  have hB := hI.2.2.2.2.2.1
  have := (co_ph_bd hp.1 (B := ck_B s) (R := s 18) (fun j q b => by
    rcases hR j q b with e | e
    · exact Or.inl e
    · exact Or.inr (hB j q b e).1)).2
  have := hI.1
  have := hp.1
  omega
theorem co_W_stay (hp : co_pg σ n) (hX : co_sol σ n X) (h : co_WI σ n X v a s) (h1 : a < n) (h2 : s 19 a = 0 ∨ (¬ s 18 a = 0 ∧ ck_sb (ck_B s a) (ck_arr s a))) {t : ck_M} (ht : ∀ b j, ¬ (b = 19 ∧ j = a) → (b ≤ 473 ∨ 479 < b) → t b j = s b j) (ht0 : t 19 a = 0) : co_WI σ n X (v + 1) (a + 1) t := by
  obtain ⟨h0, hf, hI, hv⟩ := h
  have e := co_fr_pr hf
  have hn := hp.1
  have hB : ∀ j, 0 ≤ j → j < n → ck_B t j = ck_B s j := fun j a b => co_B_eq (fun b i c d => ht b i (by omega) (by omega))
  have hR : t 18 = s 18 := funext fun j => ht 18 j (by omega) (by omega)
  have hk := hI.1
  have hB' : ∀ j, co_nf (ck_B s j) := co_nfB s
  have hI' := co_w_stay (p := co_pr σ) hp hX hB' hI h1 (by
    rcases h2 with h2 | h2
    · exact Or.inl h2
    · refine Or.inr ⟨h2.1, ?_⟩
      rw [← e]
      exact h2.2) (D' := t 19) (fun j a' b' c => ht 19 j (by omega) (by omega)) ht0
  refine ⟨by omega, fun b j q1 q2 => (ht b j (by omega) (by omega)).trans (hf b j q1 q2), ?_, ?_⟩
  · rw [hR]
    exact co_wI_congr hp hB hI'
  · rw [hR, co_ph_congr hp.1 hB]
    omega
theorem co_W_move (hp : co_pg σ n) (hX : co_sol σ n X) (h : co_WI σ n X v a s) (h1 : a < n) (h2 : ¬ s 19 a = 0) (hm : ¬ (¬ s 18 a = 0 ∧ ck_sb (ck_B s a) (ck_arr s a))) {s1 t : ck_M} (hs1 : ∀ b j, (b ≠ 18 ∨ j ≠ a) → (b ≤ 25 + 7 * a ∨ 25 + 7 * a + 6 < b) → (b ≤ 473 ∨ 479 < b) → s1 b j = s b j) (hs2 : s1 18 a = 1) (hs3 : ck_B s1 a = ck_arr s a) (ht : ∀ b j, b ≠ 19 → t b j = s1 b j) (hd : ∀ j, (ck_du s a j → t 19 j = 1) ∧ (¬ ck_du s a j → t 19 j = if j = a then 0 else s1 19 j)) : co_WI σ n X (v + 1) (if s 6 a = 11 ∧ s 6 (s 10 a) = 12 then s 10 a else a + 1) t := by
  obtain ⟨h0, hf, hI, hv⟩ := h
  have e := co_fr_pr hf
  have hn := hp.1
  have hk := hI.1
  have hD := hI.2.2.1 a hk.1 h1
  have hB1 : ∀ j, 0 ≤ j → j < n → j ≠ a → ck_B t j = ck_B s j := fun j q1 q2 q3 => co_B_eq (fun b i c d => (ht b i (by omega)).trans (hs1 b i (by omega) (by omega) (by omega)))
  have hB2 : ck_B t a = ck_arr s a := (co_B_eq (s := s1) (fun b i c d => ht b i (by omega))).trans hs3
  have hR1 : ∀ j, 0 ≤ j → j < n → j ≠ a → t 18 j = s 18 j := fun j q1 q2 q3 => (ht 18 j (by omega)).trans (hs1 18 j (by omega) (by omega) (by omega))
  have hR2 : t 18 a = 1 := (ht 18 a (by omega)).trans hs2
  have hI2 : co_wI s n X (ck_B s) (s 18) (s 19) a := by
    rw [← e] at hI
    exact hI
  have hp2 : co_pg s n := by
    have : co_pg (co_pr σ) n := hp
    rw [← e] at this
    exact this
  have hX2 : co_sol s n X := by
    have : co_sol (co_pr σ) n X := hX
    rw [← e] at this
    exact this
  have hI' := co_w_move (p := s) hp2 hX2 hI2 h1 (by omega) (B' := ck_B t) (R' := t 18) (D' := t 19) hB1 hB2 hR1 hR2 (fun j _ _ c => (hd j).1 c) (fun j q1 q2 c => by
    rw [(hd j).2 c]
    split
    · rfl
    · exact hs1 19 j (by omega) (by omega) (by omega))
  have hph := co_w_ph (p := s) hp2 hX2 (co_nfB s) hI2 h1 hm hB1 hB2 hR1 hR2
  have hI3 : co_wI (co_pr σ) n X (ck_B t) (t 18) (t 19) (if s 6 a = 11 ∧ s 6 (s 10 a) = 12 then s 10 a else a + 1) := by
    rw [← e]
    exact hI'
  have hk3 := hI3.1
  refine ⟨by omega, fun b j q1 q2 => (ht b j (by omega)).trans ((hs1 b j (by omega) (by omega) (by omega)).trans (hf b j q1 q2)), hI3, ?_⟩
  omega
theorem co_W_init (hp : co_pg σ n) {t : ck_M} (ht : ∀ b j, t b j = if 0 ≤ j ∧ j < n ∧ b = 18 then 0 else if 0 ≤ j ∧ j < n ∧ b = 19 then 1 else σ b j) : co_WI σ n X 0 0 t := by
  have hn := hp.1
  have hR : ∀ j, 0 ≤ j → j < n → t 18 j = 0 := fun j a b => by rw [ht, if_pos ⟨a, b, rfl⟩]
  have hD : ∀ j, 0 ≤ j → j < n → t 19 j = 1 := fun j a b => by rw [ht, if_neg (by omega), if_pos ⟨a, b, rfl⟩]
  have hph := co_ph_bd hn (B := ck_B t) (R := t 18) (fun j a b => Or.inl (hR j a b))
  refine ⟨by omega, fun b j q1 q2 => by rw [ht, if_neg (by omega), if_neg (by omega)], ⟨by omega, fun j a b => Or.inl (hR j a b), fun j a b => Or.inr (hD j a b), fun i j a b c d => ?_, fun j a b => ?_, fun j a b c => ?_, fun j a b => ⟨fun c => ?_, fun c => ?_⟩, fun h a b c d => ?_⟩, by omega⟩
  · have := hR j (by omega) c; omega
  · omega
  · have := hR j a b; omega
  · omega
  · have := hD j a b; omega
  · have a1 := (hp.2.2.1 h a b (Or.inl c)).1
    have a2 : (co_pr σ) 12 h = σ 12 h := rfl
    rw [a2]
    by_cases q : σ 12 h + 1 = n
    · exact Or.inl q
    · exact Or.inr (Or.inl (hD _ (by omega) (by omega)))
end COV
