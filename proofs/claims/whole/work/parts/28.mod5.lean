theorem ck_forI {d : Nat} {md : ck_MD} {T : ck_F → Prop} (hd : Nat) (ls : Int → Int → ck_Ls) (B : Int) (I : Int → Int → ck_M → Prop) (body : ∀ v x σ, v < B → I v x σ → (∀ x' σ', I (v + 1) x' σ' → ck_go d md (hd, ls (v + 1) x', [], σ') T) → ck_go d md (hd, ls v x, [], σ) T) (stop : ∀ v x σ, B ≤ v → I v x σ → ck_go d md (hd, ls v x, [], σ) T) : ∀ v x σ, I v x σ → ck_go d md (hd, ls v x, [], σ) T := by
  have h : ∀ (n : Nat) (v x : Int) (σ : ck_M), (B - v).toNat ≤ n → I v x σ → ck_go d md (hd, ls v x, [], σ) T := by
    intro n
    induction n with
    | zero => exact fun v x σ hn hI => stop v x σ (by omega) hI
    | succ n ih =>
      intro v x σ hn hI
      by_cases hv : v < B
      · exact body v x σ hv hI (fun x' σ' h' => ih (v + 1) x' σ' (by omega) h')
      · exact stop v x σ (by omega) hI
  exact fun v x σ hI => h _ v x σ (Nat.le_refl _) hI
/-- 82 places of the array a, from 82 k on, hold what the cell 490 held; nothing else has changed -/
def ck_kp (σ σ' : ck_M) (a k : Int) : Prop := (∀ b j, (b ≠ a ∨ j < 82 * k ∨ 82 * k + 82 ≤ j) → σ' b j = σ b j) ∧ ∀ q, 0 ≤ q → q < 82 → σ' a (82 * k + q) = σ 490 q
theorem cx_keep {a k : Int} (ha : a ≠ 490) (hk : 0 ≤ k ∧ k < 64) {σ : ck_M} : ck_cal 1 cm_Mo_keep [.inr (480, 3, 6), .inr (a, 0, 5248), .inl k] σ (fun q σ' => q = none ∧ ck_kp σ σ' a k) := by
  refine ck_cal_of ?_
  refine ck_go_run 2 (X1 := (2, [some (.inr (480, 3, 6)), some (.inr (a, 0, 5248)), some (.inl k), some (.inl 0)], [], σ)) (ps := []) rfl trivial ?_
  refine ck_for 2 (fun v => [some (.inr (480, 3, 6)), some (.inr (a, 0, 5248)), some (.inl k), some (.inl v)]) 82 (fun v s => 0 ≤ v ∧ v ≤ 82 ∧ (∀ b j, (b ≠ a ∨ j < 82 * k ∨ 82 * k + v ≤ j) → s b j = σ b j) ∧ ∀ q, 0 ≤ q → q < v → s a (82 * k + q) = σ 490 q) (fun v s hv hI kk => ?_) (fun v s hv hI => ?_) 0 _ ⟨by omega, by omega, fun _ _ _ => rfl, fun _ _ _ => by omega⟩
  · obtain ⟨h0, h4, hI1, hI2⟩ := hI
    refine ck_go_run 3 (X1 := (if v < 82 then 8 else 28, [some (.inr (480, 3, 6)), some (.inr (a, 0, 5248)), some (.inl k), some (.inl v)], [], s)) (ps := [ck_rg v, ck_rg 82]) rfl ⟨(ck_rgo (by omega) (by omega)), (ck_rgo (by omega) (by omega)), trivial⟩ ?_
    refine ck_go_t hv ?_
    refine ck_go_run 13 (X1 := (2, [some (.inr (480, 3, 6)), some (.inr (a, 0, 5248)), some (.inl k), some (.inl (v + 1))], [], ck_up s a ((82 * k) + v) (s 490 v))) (ps := [0 ≤ v ∧ v < ((82 : Nat) : Int), 0 ≤ (82 * k) + v ∧ (82 * k) + v < ((5248 : Nat) : Int)]) rfl ⟨⟨by omega, by omega⟩, ⟨by omega, by omega⟩, trivial⟩ ?_
    exact kk _ ⟨by omega, by omega, ck_st1 (base := 82 * k) (g := fun q => σ 490 q) hI1 hI2 (hI1 490 v (by omega)) h0⟩
  · obtain ⟨h0, h4, hI1, hI2⟩ := hI
    refine ck_go_run 3 (X1 := (if v < 82 then 8 else 28, [some (.inr (480, 3, 6)), some (.inr (a, 0, 5248)), some (.inl k), some (.inl v)], [], s)) (ps := [ck_rg v, ck_rg 82]) rfl ⟨(ck_rgo (by omega) (by omega)), (ck_rgo (by omega) (by omega)), trivial⟩ ?_
    refine ck_go_f (by omega) ?_
    exact ck_eV ⟨rfl, fun b j hb => hI1 b j (by omega), fun q z0 z1 => hI2 q z0 (by omega)⟩ rfl rfl rfl
theorem cx_take {a k : Int} (ha : a ≠ 490) (hk : 0 ≤ k ∧ k < 64) {σ : ck_M} : ck_cal 1 cm_Mo_take [.inr (480, 3, 6), .inr (a, 0, 5248), .inl k] σ (fun q σ' => q = none ∧ ck_f1 σ σ' 490 ∧ ∀ q, 0 ≤ q → q < 82 → σ' 490 q = σ a (82 * k + q)) := by
  refine ck_cal_of ?_
  refine ck_go_run 2 (X1 := (2, [some (.inr (480, 3, 6)), some (.inr (a, 0, 5248)), some (.inl k), some (.inl 0)], [], σ)) (ps := []) rfl trivial ?_
  refine ck_for 2 (fun v => [some (.inr (480, 3, 6)), some (.inr (a, 0, 5248)), some (.inl k), some (.inl v)]) 82 (fun v s => 0 ≤ v ∧ v ≤ 82 ∧ (∀ b j, (b ≠ 490 ∨ j < 0 ∨ v ≤ j) → s b j = σ b j) ∧ ∀ q, 0 ≤ q → q < v → s 490 q = σ a (82 * k + q)) (fun v s hv hI kk => ?_) (fun v s hv hI => ?_) 0 _ ⟨by omega, by omega, fun _ _ _ => rfl, fun _ _ _ => by omega⟩
  · obtain ⟨h0, h4, hI1, hI2⟩ := hI
    refine ck_go_run 3 (X1 := (if v < 82 then 8 else 28, [some (.inr (480, 3, 6)), some (.inr (a, 0, 5248)), some (.inl k), some (.inl v)], [], s)) (ps := [ck_rg v, ck_rg 82]) rfl ⟨(ck_rgo (by omega) (by omega)), (ck_rgo (by omega) (by omega)), trivial⟩ ?_
    refine ck_go_t hv ?_
    refine ck_go_run 13 (X1 := (2, [some (.inr (480, 3, 6)), some (.inr (a, 0, 5248)), some (.inl k), some (.inl (v + 1))], [], ck_up s 490 v (s a ((82 * k) + v)))) (ps := [0 ≤ (82 * k) + v ∧ (82 * k) + v < ((5248 : Nat) : Int), 0 ≤ v ∧ v < ((82 : Nat) : Int)]) rfl ⟨⟨by omega, by omega⟩, ⟨by omega, by omega⟩, trivial⟩ ?_
    exact kk _ ⟨by omega, by omega, ck_st0 (g := fun q => σ a (82 * k + q)) hI1 hI2 (hI1 a (82 * k + v) (by omega)) h0⟩
  · obtain ⟨h0, h4, hI1, hI2⟩ := hI
    refine ck_go_run 3 (X1 := (if v < 82 then 8 else 28, [some (.inr (480, 3, 6)), some (.inr (a, 0, 5248)), some (.inl k), some (.inl v)], [], s)) (ps := [ck_rg v, ck_rg 82]) rfl ⟨(ck_rgo (by omega) (by omega)), (ck_rgo (by omega) (by omega)), trivial⟩ ?_
    refine ck_go_f (by omega) ?_
    exact ck_eV ⟨rfl, fun b j hb => hI1 b j (by omega), fun q z0 z1 => hI2 q z0 (by omega)⟩ rfl rfl rfl
theorem cx_tell {k : Int} (hk : 0 ≤ k ∧ k < 64) {σ : ck_M} (hW1 : ∀ q, 0 ≤ q → q < 82 → ck_rg (σ 491 (82 * k + q))) (hW2 : ∀ q, 0 ≤ q → q < 82 → ck_rg (σ 490 q)) : ck_cal 2 cm_Mo_tell [.inr (480, 3, 6), .inl k] σ (fun q σ' => ck_kp σ σ' 491 k ∧ ((q = some 0 ∧ ∀ q, 0 ≤ q → q < 82 → σ 491 (82 * k + q) = σ 490 q) ∨ (q = some 1 ∧ ¬ ∀ q, 0 ≤ q → q < 82 → σ 491 (82 * k + q) = σ 490 q))) := by
  refine ck_cal_of ?_
  refine ck_go_run 4 (X1 := (4, [some (.inr (480, 3, 6)), some (.inl k), some (.inl 0), some (.inl 0)], [], σ)) (ps := []) rfl trivial ?_
  refine ck_forI 4 (fun v x => [some (.inr (480, 3, 6)), some (.inl k), some (.inl x), some (.inl v)]) 82 (fun v x s => (0 ≤ v ∧ v ≤ 82) ∧ s = σ ∧ (x = 0 ∨ x = 1) ∧ (x = 0 ↔ ∀ q, 0 ≤ q → q < v → σ 491 (82 * k + q) = σ 490 q)) (fun v x s hv hI kk => ?_) (fun v x s hv hI => ?_) 0 0 _ ⟨⟨by omega, by omega⟩, rfl, Or.inl rfl, ⟨fun _ q z0 z1 => by omega, fun _ => rfl⟩⟩
  · obtain ⟨⟨h0, h4⟩, hs, hx, hI⟩ := hI
    have w1 := hW1 v h0 hv
    have w2 := hW2 v h0 hv
    rw [← hs] at w1 w2
    refine ck_go_run 3 (X1 := (if v < 82 then 10 else 46, [some (.inr (480, 3, 6)), some (.inl k), some (.inl x), some (.inl v)], [], s)) (ps := [ck_rg v, ck_rg 82]) rfl ⟨(ck_rgo (by omega) (by omega)), (ck_rgo (by omega) (by omega)), trivial⟩ ?_
    refine ck_go_t hv ?_
    refine ck_go_run 2 (X1 := (if x = 0 then 14 else 34, [some (.inr (480, 3, 6)), some (.inl k), some (.inl x), some (.inl v)], [], s)) (ps := [ck_rg x]) rfl ⟨(ck_rgo (by omega) (by omega)), trivial⟩ ?_
    refine ck_go_ite (fun h1 => ?_) (fun h1 => ?_)
    · refine ck_go_run 13 (X1 := (if s 491 ((82 * k) + v) = s 490 v then 38 else 34, [some (.inr (480, 3, 6)), some (.inl k), some (.inl x), some (.inl v)], [], s)) (ps := [0 ≤ (82 * k) + v ∧ (82 * k) + v < ((5248 : Nat) : Int), 0 ≤ v ∧ v < ((82 : Nat) : Int), ck_rg (s 491 ((82 * k) + v)), ck_rg (s 490 v)]) rfl ⟨⟨by omega, by omega⟩, ⟨by omega, by omega⟩, w1, w2, trivial⟩ ?_
      refine ck_go_ite (fun h2 => ?_) (fun h2 => ?_)
      · refine ck_go_run 4 (X1 := (4, [some (.inr (480, 3, 6)), some (.inl k), some (.inl 0), some (.inl (v + 1))], [], s)) (ps := []) rfl trivial ?_
        exact kk 0 _ ⟨⟨by omega, by omega⟩, hs, Or.inl rfl, ⟨fun _ q z0 z1 => by
          by_cases hq : q = v
          · subst hq
            rw [← hs]
            assumption
          · exact hI.mp (by assumption) q z0 (by omega), fun _ => rfl⟩⟩
      · refine ck_go_run 5 (X1 := (4, [some (.inr (480, 3, 6)), some (.inl k), some (.inl 1), some (.inl (v + 1))], [], s)) (ps := []) rfl trivial ?_
        exact kk 1 _ ⟨⟨by omega, by omega⟩, hs, Or.inr rfl, ⟨fun z => absurd z (by decide), fun z => by
          exfalso
          have hz := hI.mpr (fun q z0 z1 => z q z0 (by omega))
          have hz2 := z v h0 (by omega)
          rw [← hs] at hz2
          first | exact absurd hz (by assumption) | exact absurd hz2 (by assumption)⟩⟩
    · refine ck_go_run 5 (X1 := (4, [some (.inr (480, 3, 6)), some (.inl k), some (.inl 1), some (.inl (v + 1))], [], s)) (ps := []) rfl trivial ?_
      exact kk 1 _ ⟨⟨by omega, by omega⟩, hs, Or.inr rfl, ⟨fun z => absurd z (by decide), fun z => by
        exfalso
        have hz := hI.mpr (fun q z0 z1 => z q z0 (by omega))
        have hz2 := z v h0 (by omega)
        rw [← hs] at hz2
        first | exact absurd hz (by assumption) | exact absurd hz2 (by assumption)⟩⟩
  · obtain ⟨⟨h0, h4⟩, hs, hx, hI⟩ := hI
    refine ck_go_run 3 (X1 := (if v < 82 then 10 else 46, [some (.inr (480, 3, 6)), some (.inl k), some (.inl x), some (.inl v)], [], s)) (ps := [ck_rg v, ck_rg 82]) rfl ⟨(ck_rgo (by omega) (by omega)), (ck_rgo (by omega) (by omega)), trivial⟩ ?_
    refine ck_go_f (by omega) ?_
    refine ck_go_run 4 (X1 := (52, [some (.inr (480, 3, 6)), some (.inl k), some (.inl x), some (.inl v)], [.inl k, .inr (491, 0, 5248), .inr (480, 3, 6)], s)) (ps := []) rfl trivial ?_
    refine ck_go_cal (rest := []) (ck_cal_le (by decide) (cx_keep (a := 491) (k := k) (by decide) hk)) ⟨_, rfl, Or.inl ⟨_, rfl⟩, rfl, rfl, rfl, Nat.le_of_ble_eq_true rfl, fun _ => ⟨_, _, rfl⟩⟩ ?_
    rintro _ s1 ⟨rfl, g1⟩
    try dsimp only at g1
    rw [hs] at g1
    refine ck_go_run 1 (X1 := (56, [some (.inr (480, 3, 6)), some (.inl k), some (.inl x), some (.inl v)], [.inl x], s1)) (ps := []) rfl trivial ?_
    refine ck_eZ hx ⟨g1, ?_⟩ rfl rfl rfl
    rcases hx with hx | hx
    · left
      exact ⟨by rw [hx], fun q z0 z1 => hI.mp hx q z0 (by omega)⟩
    · right
      exact ⟨by rw [hx], fun z => absurd (hI.mpr (fun q z0 z1 => z q z0 (by omega))) (by omega)⟩
