theorem ck_whl {d : Nat} {md : ck_MD} {T : ck_F → Prop} {α : Type} (hd : Nat) (ls : α → ck_Ls) (I : α → ck_M → Prop) (me : α → ck_M → Nat) (body : ∀ u σ, I u σ → (∀ u' σ', I u' σ' → me u' σ' < me u σ → ck_go d md (hd, ls u', [], σ') T) → ck_go d md (hd, ls u, [], σ) T) : ∀ u σ, I u σ → ck_go d md (hd, ls u, [], σ) T := by
  have h : ∀ (n : Nat) (u : α) (σ : ck_M), me u σ < n → I u σ → ck_go d md (hd, ls u, [], σ) T := by
    intro n
    induction n with
    | zero => exact fun u σ hn _ => absurd hn (Nat.not_lt_zero _)
    | succ n ih => exact fun u σ hn hI => body u σ hI (fun u' σ' h1 h2 => ih u' σ' (by omega) h1)
  exact fun u σ hI => h _ u σ (Nat.lt_succ_self _) hI
/-- the program alone -/
def co_pr (p : ck_M) : ck_M := fun b j => if 6 ≤ b ∧ b ≤ 14 then p b j else 0
theorem co_pr_eq {s σ : ck_M} (h : ∀ b j, 6 ≤ b → b ≤ 14 → s b j = σ b j) : co_pr s = co_pr σ := by
  funext b j
  unfold co_pr
  split
  · rename_i e; exact h b j e.1 e.2
  · rfl
theorem co_pr_A (s : ck_M) (B Z : Int → ck_D) (r k : Int) : co_A (co_pr s) B Z r k = co_A s B Z r k := rfl
theorem co_pr_ar (s : ck_M) (k : Int) : co_ar (co_pr s) (ck_B s) (s 18) k = ck_arr s k := rfl
theorem co_pr_pg (s : ck_M) (n : Int) : co_pg (co_pr s) n = co_pg s n := rfl
theorem co_pr_sol (s : ck_M) (n : Int) (X : Int → ck_D) : co_sol (co_pr s) n X = co_sol s n X := rfl
theorem co_pr_wI (s : ck_M) (n : Int) (X B : Int → ck_D) (R D : Int → Int) (k : Int) : co_wI (co_pr s) n X B R D k = co_wI s n X B R D k := rfl
theorem co_pr_du (s : ck_M) (k j : Int) : ck_du (co_pr s) k j = ck_du s k j := rfl
theorem cx_arr {s : ck_M} {n k : Int} {X : Int → ck_D} (hp : co_pg s n) (hX : co_sol s n X) (hI : co_wI s n X (ck_B s) (s 18) (s 19) k) (h1 : k < n) : ck_cal 5 cm_Fi_arrive [.inr (4, 3, 1), .inl k] s (fun q s' => ∃ x, q = some x ∧ ((x = 0 ∧ (¬ s 18 k = 0 ∧ ck_sb (ck_B s k) (ck_arr s k)) ∧ ck_f6 s s' 473) ∨ (x = 1 ∧ ¬ (¬ s 18 k = 0 ∧ ck_sb (ck_B s k) (ck_arr s k)) ∧ (∀ b j, (b ≠ 18 ∨ j ≠ k) → (b ≤ 25 + 7 * k ∨ 25 + 7 * k + 6 < b) → (b ≤ 473 ∨ 479 < b) → s' b j = s b j) ∧ s' 18 k = 1 ∧ ck_B s' k = ck_arr s k))) := by
  have hw := (co_w_ar hp hX hI h1).1
  obtain ⟨hk, hR, hD, hpre, hrk, hB, hd, hC⟩ := hI
  have hp' := id hp
  obtain ⟨hn, hS, hH, hE, hN, hM⟩ := hp
  have hs := hS k hk.1 h1
  have hfb : ∀ j, 0 ≤ j → j < k → ck_fb (ck_B s j) := fun j a b => co_wb_fb ⟨a, by omega⟩ (hB j a (by omega) (hrk j a b)).1
  have hr := hR k hk.1 h1
  refine ck_cal_mono (cx_arrive (σ := s) (k := k) ⟨hk.1, by omega⟩ ?_ ?_ ?_ ?_ ?_ ?_ ?_) ?_
  · unfold ck_sOk at hs; exact ck_rgo (by omega) (by omega)
  · exact ck_rgo (by omega) (by omega)
  · intro h0
    have hs1 := hS (k - 1) (by omega) (by omega)
    refine cx_follow (k := k - 1) ⟨by omega, by omega⟩ hs1 (hfb _ (by omega) (by omega)) (fun h2 => ?_) (fun h2 => ?_)
    · obtain ⟨a, b, c⟩ := hE (k - 1) (by omega) (by omega) h2
      have b1 : s 6 (s 10 (k - 1)) = 9 ∨ s 6 (s 10 (k - 1)) = 12 := by
        rcases h2 with h2 | h2
        · exact Or.inl (b h2).1
        · exact (c h2).1
      have hs2 := hS (s 10 (k - 1)) a.1 (by omega)
      unfold ck_sOk at hs2
      exact ⟨by omega, by omega, by omega, by omega, hfb _ a.1 (by omega)⟩
    · obtain ⟨a, b, c⟩ := hE (k - 1) (by omega) (by omega) (Or.inr h2)
      have b1 := (c h2).1
      obtain ⟨c1, -, -, c4⟩ := hH _ a.1 (by omega) b1
      have b2 := (c h2).2
      have hO := (co_O_wb hp' (B := ck_B s) (k := k - 1) (by omega) (by omega) (Or.inr h2) (fun j a b => (hB j a (by omega) (hrk j a (by omega))).1)).2
      exact ⟨by omega, ck_rgo (by omega) (by omega), fun h3 => hfb _ (by omega) (by omega), co_wb_fb ⟨by omega, by omega⟩ hO⟩
  · exact co_wb_fb ⟨hk.1, by omega⟩ (co_A0_wb hp' hk.1 h1 (fun j a b => (hB j a (by omega) (hrk j a b)).1))
  · exact co_wb_fb ⟨hk.1, by omega⟩ hw
  · intro h2
    exact co_wb_fb ⟨hk.1, by omega⟩ (hB k hk.1 h1 (by omega)).1
  · intro h2
    have a := (hH k hk.1 h1 (Or.inr h2)).1
    have e := hR (s 12 k) (by omega) a.2
    exact ⟨by omega, ck_rgo (by omega) (by omega), fun h3 => co_wb_fb (k := s 12 k) ⟨by omega, by omega⟩ (hB _ (by omega) a.2 (by omega)).1⟩
  · rintro q s' ⟨ha, hb⟩
    by_cases h : ¬ s 18 k = 0 ∧ ck_sb (ck_B s k) (ck_arr s k)
    · obtain ⟨e, e2⟩ := ha h
      exact ⟨0, e, Or.inl ⟨rfl, h, e2⟩⟩
    · obtain ⟨e, e2⟩ := hb h
      exact ⟨1, e, Or.inr ⟨rfl, h, e2⟩⟩
