theorem cx_fails00 (σ : ck_M) : ck_cal 1 cm_Mo_fails [.inr (480, 3, 6), .inl 0, .inl 0] σ (fun q σ' => q = some 0 ∧ σ' = ck_up σ 480 0 0) := by
  refine ck_cal_of ?_
  refine ck_go_run 3 (X1 := (if 0 = 0 then 9 else 5, [some (.inr (480, 3, 6)), some (.inl 0), some (.inl 0)], [.inr (480, 3, 6)], σ)) (ps := [ck_rg 0]) rfl ⟨(ck_rgo (by omega) (by omega)), trivial⟩ ?_
  refine ck_go_t (by decide) ?_
  refine ck_go_run 2 (X1 := (if 0 = 0 then 17 else 13, [some (.inr (480, 3, 6)), some (.inl 0), some (.inl 0)], [.inr (480, 3, 6)], σ)) (ps := [ck_rg 0]) rfl ⟨(ck_rgo (by omega) (by omega)), trivial⟩ ?_
  refine ck_go_t (by decide) ?_
  refine ck_go_run 5 (X1 := (if 0 < 0 then 28 else 32, [some (.inr (480, 3, 6)), some (.inl 0), some (.inl 0)], [], ck_up σ 480 0 0)) (ps := [ck_rg 0]) rfl ⟨(ck_rgo (by omega) (by omega)), trivial⟩ ?_
  refine ck_go_f (by decide) ?_
  refine ck_go_run 1 (X1 := (33, [some (.inr (480, 3, 6)), some (.inl 0), some (.inl 0)], [.inl 0], ck_up σ 480 0 0)) (ps := []) rfl trivial ?_
  exact ck_eZ (by decide) ⟨rfl, rfl⟩ rfl rfl rfl
theorem cx_fails01 (σ : ck_M) : ck_cal 1 cm_Mo_fails [.inr (480, 3, 6), .inl 0, .inl 1] σ (fun q σ' => q = some 1 ∧ σ' = ck_up σ 480 0 2) := by
  refine ck_cal_of ?_
  refine ck_go_run 3 (X1 := (if 0 = 0 then 9 else 5, [some (.inr (480, 3, 6)), some (.inl 0), some (.inl 1)], [.inr (480, 3, 6)], σ)) (ps := [ck_rg 0]) rfl ⟨(ck_rgo (by omega) (by omega)), trivial⟩ ?_
  refine ck_go_t (by decide) ?_
  refine ck_go_run 2 (X1 := (if 1 = 0 then 17 else 13, [some (.inr (480, 3, 6)), some (.inl 0), some (.inl 1)], [.inr (480, 3, 6)], σ)) (ps := [ck_rg 1]) rfl ⟨(ck_rgo (by omega) (by omega)), trivial⟩ ?_
  refine ck_go_f (by decide) ?_
  refine ck_go_run 6 (X1 := (if 0 < 2 then 28 else 32, [some (.inr (480, 3, 6)), some (.inl 0), some (.inl 1)], [], ck_up σ 480 0 2)) (ps := [ck_rg 2]) rfl ⟨(ck_rgo (by omega) (by omega)), trivial⟩ ?_
  refine ck_go_t (by decide) ?_
  refine ck_go_run 2 (X1 := (33, [some (.inr (480, 3, 6)), some (.inl 0), some (.inl 1)], [.inl 1], ck_up σ 480 0 2)) (ps := []) rfl trivial ?_
  exact ck_eZ (by decide) ⟨rfl, rfl⟩ rfl rfl rfl
theorem cx_fails10 (σ : ck_M) : ck_cal 1 cm_Mo_fails [.inr (480, 3, 6), .inl 1, .inl 0] σ (fun q σ' => q = some 1 ∧ σ' = ck_up σ 480 0 1) := by
  refine ck_cal_of ?_
  refine ck_go_run 3 (X1 := (if 1 = 0 then 9 else 5, [some (.inr (480, 3, 6)), some (.inl 1), some (.inl 0)], [.inr (480, 3, 6)], σ)) (ps := [ck_rg 1]) rfl ⟨(ck_rgo (by omega) (by omega)), trivial⟩ ?_
  refine ck_go_f (by decide) ?_
  refine ck_go_run 6 (X1 := (if 0 < 1 then 28 else 32, [some (.inr (480, 3, 6)), some (.inl 1), some (.inl 0)], [], ck_up σ 480 0 1)) (ps := [ck_rg 1]) rfl ⟨(ck_rgo (by omega) (by omega)), trivial⟩ ?_
  refine ck_go_t (by decide) ?_
  refine ck_go_run 2 (X1 := (33, [some (.inr (480, 3, 6)), some (.inl 1), some (.inl 0)], [.inl 1], ck_up σ 480 0 1)) (ps := []) rfl trivial ?_
  exact ck_eZ (by decide) ⟨rfl, rfl⟩ rfl rfl rfl
theorem cx_fails11 (σ : ck_M) : ck_cal 1 cm_Mo_fails [.inr (480, 3, 6), .inl 1, .inl 1] σ (fun q σ' => q = some 1 ∧ σ' = ck_up σ 480 0 1) := by
  refine ck_cal_of ?_
  refine ck_go_run 3 (X1 := (if 1 = 0 then 9 else 5, [some (.inr (480, 3, 6)), some (.inl 1), some (.inl 1)], [.inr (480, 3, 6)], σ)) (ps := [ck_rg 1]) rfl ⟨(ck_rgo (by omega) (by omega)), trivial⟩ ?_
  refine ck_go_f (by decide) ?_
  refine ck_go_run 6 (X1 := (if 0 < 1 then 28 else 32, [some (.inr (480, 3, 6)), some (.inl 1), some (.inl 1)], [], ck_up σ 480 0 1)) (ps := [ck_rg 1]) rfl ⟨(ck_rgo (by omega) (by omega)), trivial⟩ ?_
  refine ck_go_t (by decide) ?_
  refine ck_go_run 2 (X1 := (33, [some (.inr (480, 3, 6)), some (.inl 1), some (.inl 1)], [.inl 1], ck_up σ 480 0 1)) (ps := []) rfl trivial ?_
  exact ck_eZ (by decide) ⟨rfl, rfl⟩ rfl rfl rfl
theorem cx_start1 {σ : ck_M} (h : 0 < σ 480 2 ∧ σ 480 2 ≤ 8) : ck_cal 6 cm_Mo_start [.inr (480, 3, 6)] σ (fun q σ' => q = some 0 ∧ σ' = ck_up σ 480 0 1) := by
  refine ck_cal_of ?_
  refine ck_go_run 4 (X1 := (if 0 < σ 480 2 then 8 else 12, [some (.inr (480, 3, 6)), none, none, none], [.inr (480, 3, 6)], σ)) (ps := [ck_rg (σ 480 2)]) rfl ⟨(ck_rgo (by omega) (by omega)), trivial⟩ ?_
  refine ck_go_t h.1 ?_
  refine ck_go_run 3 (X1 := (14, [some (.inr (480, 3, 6)), none, none, none], [.inl 0, .inl 1, .inr (480, 3, 6)], σ)) (ps := []) rfl trivial ?_
  refine ck_go_cal (rest := []) (ck_cal_le (by decide) (cx_fails10 _)) ⟨_, rfl, Or.inl ⟨_, rfl⟩, rfl, rfl, rfl, Nat.le_of_ble_eq_true rfl, fun _ => ⟨_, _, rfl⟩⟩ ?_
  rintro _ s1 ⟨rfl, e1⟩
  refine ck_go_run 1 (X1 := (if 1 = 0 then 22 else 20, [some (.inr (480, 3, 6)), none, none, none], [], s1)) (ps := [ck_rg 1]) rfl ⟨(ck_rgo (by omega) (by omega)), trivial⟩ ?_
  refine ck_go_f (by decide) ?_
  refine ck_go_run 1 (X1 := (21, [some (.inr (480, 3, 6)), none, none, none], [.inl 0], s1)) (ps := []) rfl trivial ?_
  exact ck_eI ⟨rfl, e1⟩ rfl rfl rfl
theorem cx_pass' {σ p : ck_M} {n : Int} {i : Nat} (hp : co_pg p n) (hP : co_pP σ p n i) : ck_cal 5 cm_Mo_pass [.inr (480, 3, 6)] σ (fun q σ' => ∃ x, q = some x ∧ (x = 0 ∨ x = 1) ∧ (∀ b j, (b < 490 ∨ 495 < b) → σ' b j = σ b j) ∧ co_pP σ' p n (i + 1) ∧ (∀ k, 0 ≤ k → k < n → ck_rw σ' 491 k = co_R p i k) ∧ (x = 0 ↔ ∀ k, 0 ≤ k → k < n → ck_rw σ 491 k = co_R p i k)) := by
  refine ck_cal_mono (cx_pass hp hP) ?_
  rintro q s ⟨h1, h2, h3, ⟨h4, h5⟩ | ⟨h4, h5⟩⟩
  · exact ⟨0, h4, Or.inl rfl, h1, h2, h3, fun _ => h5, fun _ => rfl⟩
  · exact ⟨1, h4, Or.inr rfl, h1, h2, h3, fun z => absurd z (by decide), fun z => absurd z h5⟩
/-- how many passes there can be -/
def co_me (p : ck_M) (n : Int) : Nat → Nat
  | 0 => (co_Mu p n 0).toNat + 3
  | i + 1 => (co_Mu p n i).toNat + 2
theorem co_me_dec {p : ck_M} {n : Int} {i : Nat} (hp : co_pg p n) {w : Int → ck_Q} (hw : ∀ j, i = j + 1 → ∀ k, 0 ≤ k → k < n → w k = co_R p j k) (hc : ¬ ∀ k, 0 ≤ k → k < n → w k = co_R p i k) : co_me p n (i + 1) < co_me p n i := by
  cases i with
  | zero => exact Nat.lt_succ_self _
  | succ j =>
    show (co_Mu p n (j + 1)).toNat + 2 < (co_Mu p n j).toNat + 2
    have h0 := co_Mu_0 hp (j + 1)
    rcases Int.lt_or_le (co_Mu p n (j + 1)) (co_Mu p n j) with z | z
    · omega
    · exfalso
      refine hc (fun k a b => ?_)
      rw [hw j rfl k a b]
      unfold co_R
      rw [co_Mu_eq hp z k a b]
theorem co_R_Fi {p : ck_M} {n : Int} {j : Nat} (hp : co_pg p n) {k : Int} (a : 0 ≤ k) (b : k < n) (h : co_R p j k = co_R p (j + 1) k) : co_Fi p j k = co_Fi p (j + 1) k := co_enc_inj (co_Fi_nf hp j k a b) (co_Fi_nf hp (j + 1) k a b) (co_Fi_wb hp j k a b) (co_Fi_wb hp (j + 1) k a b) ⟨a, by have := hp.1; omega⟩ ⟨a, by have := hp.1; omega⟩ (co_Fi_js hp a b) (co_Fi_js hp a b) h
theorem co_bits {x : Int} (h : 0 ≤ x ∧ x ≤ 7) : (ck_and x 1 + ck_and (ck_shr x 1) 1) + ck_shr x 2 = ck_bc x := by
  have h2 : x = 0 ∨ x = 1 ∨ x = 2 ∨ x = 3 ∨ x = 4 ∨ x = 5 ∨ x = 6 ∨ x = 7 := by omega
  rcases h2 with rfl | rfl | rfl | rfl | rfl | rfl | rfl | rfl <;> decide +kernel
theorem co_ndl_bd {t x y z : Int} {f : ck_D} : 0 ≤ ck_ndl t x y z f ∧ ck_ndl t x y z f ≤ 7 := by
  unfold ck_ndl ck_nix
  (repeat' split) <;> omega
theorem co_spq {k : Int} (hk : 0 ≤ k ∧ k ≤ 64) {f : ck_D} {j : Int → Int} (hf : co_wb k f) {t x y z : Int} (hO : ck_sOk t x y z) : ck_spq t x y z (co_enc f j) = ck_ndl t x y z f := by
  obtain ⟨hk1, hl1, hh1, hv1, hz1, ht1⟩ := hf
  have hQ := hO
  unfold ck_sOk at hQ
  unfold ck_spq ck_ndl ck_nix
  by_cases h3 : t = 3
  · rw [if_neg (by omega), if_pos h3, if_pos h3, co_e_T (by omega) (by omega)]
    have := ht1 y
    split <;> omega
  · by_cases h4 : t = 4
    · rw [if_neg (by omega), if_neg h3, if_neg (by omega), if_neg h3, if_pos h4, co_e_T (by omega) (by omega), co_e_L (by omega) (by omega), co_e_H (by omega) (by omega) (by omega) (by omega)]
      have := ht1 y
      have := hl1 z
      have := hh1 z y
      (repeat' split) <;> omega
    · by_cases h5 : t = 5
      · rw [if_neg (by omega), if_neg h3, if_pos h5, if_neg h3, if_neg h4, if_pos h5, co_e_T (by omega) (by omega), co_e_L (by omega) (by omega), co_e_H (by omega) (by omega) (by omega) (by omega)]
        have := ht1 x
        have := hl1 y
        have := hh1 y x
        (repeat' split) <;> omega
      · rw [if_pos (by omega), if_neg h3, if_neg h4, if_neg h5]
theorem cx_spared' {k : Int} (hk : 0 ≤ k ∧ k < 64) {σ : ck_M} {t x y z : Int} (h1 : σ 481 k = t) (h2 : σ 482 k = x) (h3 : σ 483 k = y) (h4 : σ 484 k = z) (hO : ck_sOk t x y z) {f : ck_D} {j : Int → Int} (hf : ck_rw σ 491 k = co_enc f j) (hw : co_wb k f) (hj : ck_qb (co_enc f j)) : ck_cal 1 cm_Mo_spared [.inr (480, 3, 6), .inl k] σ (fun q σ' => q = some (ck_ndl t x y z f) ∧ σ' = σ) := by
  subst h1 h2 h3 h4
  have h := cx_spared hk hO hf hj
  rw [co_spq ⟨hk.1, by omega⟩ hw hO] at h
  exact h
set_option maxHeartbeats 8000000 in
theorem cx_start0 {σ p : ck_M} {n : Int} (hO : σ 480 2 = 0) (hp : co_pg p n) (hm : co_pm σ p n) (h3 : ∀ h, 0 ≤ h → h < 64 → ck_qb (ck_rw σ 493 h)) (h1 : ∀ k, 0 ≤ k → k < 64 → ck_qb (ck_rw σ 491 k)) : ck_cal 6 cm_Mo_start [.inr (480, 3, 6)] σ (fun q σ' => ∃ l : Nat, (∀ k, 0 ≤ k → k < n → co_Fi p l k = co_Fi p (l + 1) k) ∧ (∀ k, 0 ≤ k → k < n → ck_rw σ' 491 k = co_R p (l + 1) k) ∧ q = some (ck_sum0 (fun v => ck_bc (ck_ndl (p 6 v) (p 7 v) (p 8 v) (p 9 v) (co_Fi p (l + 1) v))) n.toNat) ∧ (∀ h, 0 ≤ h → h < 64 → ck_qb (ck_rw σ' 493 h) ∧ ck_qb (ck_rw σ' 491 h)) ∧ (∀ b j, (b < 490 ∨ 497 < b) → ¬ (b = 480 ∧ (j = 0 ∨ 19 ≤ j)) → σ' b j = σ b j) ∧ σ' 480 0 = 0 ∧ (σ' 480 19 = 1 ∧ σ' 480 20 = 0 ∧ σ' 480 21 = (if n = 0 then 1 else 0)) ∧ (σ' 480 22 = 0 ∧ σ' 480 23 = 0 ∧ σ' 480 24 = 0 ∧ σ' 480 25 = 0 ∧ σ' 480 26 = 0) ∧ (∀ j, 0 ≤ j → j < 10 → σ' 496 j = 0) ∧ ∀ j, 0 ≤ j → j < 4 → σ' 497 j = -1) := by
  refine ck_cal_of ?_
  refine ck_go_run 4 (X1 := (if 0 < σ 480 2 then 8 else 12, [some (.inr (480, 3, 6)), none, none, none], [.inr (480, 3, 6)], σ)) (ps := [ck_rg (σ 480 2)]) rfl ⟨(ck_rgo (by omega) (by omega)), trivial⟩ ?_
  refine ck_go_f (by omega) ?_
  refine ck_go_run 2 (X1 := (14, [some (.inr (480, 3, 6)), none, none, none], [.inl 0, .inl 0, .inr (480, 3, 6)], σ)) (ps := []) rfl trivial ?_
  refine ck_go_cal (rest := []) (ck_cal_le (by decide) (cx_fails00 _)) ⟨_, rfl, Or.inl ⟨_, rfl⟩, rfl, rfl, rfl, Nat.le_of_ble_eq_true rfl, fun _ => ⟨_, _, rfl⟩⟩ ?_
  rintro _ s1 ⟨rfl, e1⟩
  refine ck_go_run 1 (X1 := (if 0 = 0 then 22 else 20, [some (.inr (480, 3, 6)), none, none, none], [], s1)) (ps := [ck_rg 0]) rfl ⟨(ck_rgo (by omega) (by omega)), trivial⟩ ?_
  refine ck_go_t (by decide) ?_
  refine ck_go_run 2 (X1 := (24, [some (.inr (480, 3, 6)), some (.inl 0), none, none], [], s1)) (ps := []) rfl trivial ?_
  refine ck_for 24 (fun v => [some (.inr (480, 3, 6)), some (.inl v), none, none]) 64 (fun v s => (0 ≤ v ∧ v ≤ 64) ∧ ∀ b j, s b j = if b = 495 ∧ 0 ≤ j ∧ j < v then 0 else s1 b j) (fun v s hv hI kk => ?_) (fun v s hv hI => ?_) 0 _ ⟨⟨by omega, by omega⟩, fun b j => (if_neg (by omega)).symm⟩
  · obtain ⟨⟨v0, v1⟩, hc⟩ := hI
    refine ck_go_run 3 (X1 := (if v < 64 then 30 else 43, [some (.inr (480, 3, 6)), some (.inl v), none, none], [], s)) (ps := [ck_rg v, ck_rg 64]) rfl ⟨(ck_rgo (by omega) (by omega)), (ck_rgo (by omega) (by omega)), trivial⟩ ?_
    refine ck_go_t hv ?_
    refine ck_go_run 7 (X1 := (24, [some (.inr (480, 3, 6)), some (.inl (v + 1)), none, none], [], ck_up s 495 v 0)) (ps := [0 ≤ v ∧ v < ((64 : Nat) : Int), 0 = 0 ∨ 0 = 1]) rfl ⟨⟨by omega, by omega⟩, Or.inl rfl, trivial⟩ ?_
    exact kk _ ⟨⟨by omega, by omega⟩, fun b j => by
      simp only [ck_up, hc]
      (repeat' split) <;> first | rfl | omega⟩
  · obtain ⟨⟨v0, v1⟩, hc⟩ := hI
    refine ck_go_run 3 (X1 := (if v < 64 then 30 else 43, [some (.inr (480, 3, 6)), some (.inl v), none, none], [], s)) (ps := [ck_rg v, ck_rg 64]) rfl ⟨(ck_rgo (by omega) (by omega)), (ck_rgo (by omega) (by omega)), trivial⟩ ?_
    refine ck_go_f (by omega) ?_
    refine ck_go_run 2 (X1 := (45, [some (.inr (480, 3, 6)), some (.inl 1), none, none], [], s)) (ps := []) rfl trivial ?_
    refine ck_whl 45 (fun (u : Int × Nat) => [some (.inr (480, 3, 6)), some (.inl u.1), none, none]) (fun u s => (u.1 = 0 ∨ u.1 = 1) ∧ ((∀ b j, (b < 490 ∨ 495 < b) → ¬ (b = 480 ∧ j = 0) → s b j = σ b j) ∧ s 480 0 = 0) ∧ co_pP s p n u.2 ∧ (u.1 = 0 → 0 < u.2) ∧ ∀ j, u.2 = j + 1 → ∀ k, 0 ≤ k → k < n → ck_rw s 491 k = co_R p j k) (fun u s => if u.1 = 0 then 0 else co_me p n u.2) (fun u s hI kk => ?_) (1, 0) _ (by
        have hs : ∀ b j, b ≠ 495 → ¬ (b = 480 ∧ j = 0) → s b j = σ b j := fun b j z1 z2 => by
          rw [hc, if_neg (by omega), e1]
          exact if_neg z2
        have hrw : ∀ b j, b ≠ 495 → b ≠ 480 → ck_rw s b j = ck_rw σ b j := fun b j z1 z2 => co_rw_eq (fun q _ _ => hs _ _ z1 (by omega))
        refine ⟨Or.inr rfl, ⟨fun b j z1 z2 => hs b j (by omega) z2, by rw [hc, if_neg (by omega), e1]; rfl⟩, ⟨?_, fun h a b => ?_, fun k a b => ?_, fun h a b c => ?_⟩, fun z => absurd z (show ¬ (1 : Int) = 0 by decide), fun j z => absurd z (Nat.succ_ne_zero j).symm⟩
        · refine ⟨(hs _ _ (by decide) (by omega)).trans hm.1, fun k a b => ?_⟩
          rw [hs 481 k (by decide) (by omega), hs 482 k (by decide) (by omega), hs 483 k (by decide) (by omega), hs 484 k (by decide) (by omega), hs 485 k (by decide) (by omega), hs 486 k (by decide) (by omega), hs 487 k (by decide) (by omega)]
          exact hm.2 k a b
        · rw [hrw _ _ (by decide) (by decide)]; exact h3 h a b
        · rw [hrw _ _ (by decide) (by decide)]; exact h1 k a b
        · show s 495 h = 0
          rw [hc, if_pos ⟨rfl, a, by have := hp.1; omega⟩])
    obtain ⟨m, i⟩ := u
    dsimp only at hI kk
    obtain ⟨m01, ⟨hf, h00⟩, hP, hm0, hR⟩ := hI
    refine ck_go_run 2 (X1 := (if m = 0 then 57 else 49, [some (.inr (480, 3, 6)), some (.inl m), none, none], [], s)) (ps := [ck_rg m]) rfl ⟨(ck_rgo (by omega) (by omega)), trivial⟩ ?_
    refine ck_go_ite (fun h1 => ?_) (fun h1 => ?_)
    · refine ck_go_run 2 (X1 := (59, [some (.inr (480, 3, 6)), some (.inl 1), none, none], [], s)) (ps := []) rfl trivial ?_
      refine ck_whl 59 (fun (u : Int × Nat) => [some (.inr (480, 3, 6)), some (.inl u.1), none, none]) (fun u s => (u.1 = 0 ∨ u.1 = 1) ∧ ((∀ b j, (b < 490 ∨ 495 < b) → ¬ (b = 480 ∧ j = 0) → s b j = σ b j) ∧ s 480 0 = 0) ∧ co_pP s p n u.2 ∧ ∃ j, u.2 = j + 1 ∧ (∀ k, 0 ≤ k → k < n → ck_rw s 491 k = co_R p j k) ∧ (u.1 = 0 → ∃ l, j = l + 1 ∧ ∀ k, 0 ≤ k → k < n → co_Fi p l k = co_Fi p (l + 1) k)) (fun u s => if u.1 = 0 then 0 else co_me p n u.2) (fun u s hI kk => ?_) (1, i) _ (by
          have hi := hm0 (by assumption)
          obtain ⟨j, ej⟩ : ∃ j, i = j + 1 := ⟨i - 1, by omega⟩
          exact ⟨Or.inr rfl, ⟨hf, h00⟩, hP, j, ej, hR j ej, fun z => absurd z (show ¬ (1 : Int) = 0 by decide)⟩)
      obtain ⟨m, i⟩ := u
      dsimp only at hI kk
      obtain ⟨m01, ⟨hf, h00⟩, hP, j, ej, hR, hz⟩ := hI
      refine ck_go_run 2 (X1 := (if m = 0 then 71 else 63, [some (.inr (480, 3, 6)), some (.inl m), none, none], [], s)) (ps := [ck_rg m]) rfl ⟨(ck_rgo (by omega) (by omega)), trivial⟩ ?_
      refine ck_go_ite (fun h2 => ?_) (fun h2 => ?_)
      · obtain ⟨l, el, hl⟩ := hz (by assumption)
        have eN : s 480 1 = n := hP.1.1
        have hn := hp.1
        refine ck_mid 122 (fun u => [some (.inr (480, 3, 6)), some (.inl m), none, none]) (fun t => (∀ b j, (b ≠ 480 ∨ j < 19) → t b j = s b j) ∧ t 480 19 = 1 ∧ t 480 20 = 0 ∧ t 480 21 = (if n = 0 then 1 else 0) ∧ t 480 22 = 0 ∧ t 480 23 = 0 ∧ t 480 24 = 0 ∧ t 480 25 = 0 ∧ t 480 26 = 0) (fun u t hJ => ?_) (fun jj => ?_)
        · obtain ⟨ht, hF⟩ := hJ
          refine ck_go_run 2 (X1 := (124, [some (.inr (480, 3, 6)), some (.inl m), some (.inl 0), none], [], t)) (ps := []) rfl trivial ?_
          refine ck_for 124 (fun v => [some (.inr (480, 3, 6)), some (.inl m), some (.inl v), none]) 10 (fun v z => (0 ≤ v ∧ v ≤ 10) ∧ ∀ b j, z b j = if b = 496 ∧ 0 ≤ j ∧ j < v then 0 else t b j) (fun v z hv hI kk => ?_) (fun v z hv hI => ?_) 0 _ ⟨⟨by omega, by omega⟩, fun b j => (if_neg (by omega)).symm⟩
          · obtain ⟨⟨v0, v1⟩, hc1⟩ := hI
            refine ck_go_run 3 (X1 := (if v < 10 then 130 else 143, [some (.inr (480, 3, 6)), some (.inl m), some (.inl v), none], [], z)) (ps := [ck_rg v, ck_rg 10]) rfl ⟨(ck_rgo (by omega) (by omega)), (ck_rgo (by omega) (by omega)), trivial⟩ ?_
            refine ck_go_t hv ?_
            refine ck_go_run 7 (X1 := (124, [some (.inr (480, 3, 6)), some (.inl m), some (.inl (v + 1)), none], [], ck_up z 496 v 0)) (ps := [0 ≤ v ∧ v < ((10 : Nat) : Int)]) rfl ⟨⟨by omega, by omega⟩, trivial⟩ ?_
            exact kk _ ⟨⟨by omega, by omega⟩, fun b j => by
              simp only [ck_up, hc1]
              (repeat' split) <;> first | rfl | omega⟩
          · obtain ⟨⟨v0, v1⟩, hc1⟩ := hI
            refine ck_go_run 3 (X1 := (if v < 10 then 130 else 143, [some (.inr (480, 3, 6)), some (.inl m), some (.inl v), none], [], z)) (ps := [ck_rg v, ck_rg 10]) rfl ⟨(ck_rgo (by omega) (by omega)), (ck_rgo (by omega) (by omega)), trivial⟩ ?_
            refine ck_go_f (by omega) ?_
            refine ck_go_run 2 (X1 := (145, [some (.inr (480, 3, 6)), some (.inl m), some (.inl 0), none], [], z)) (ps := []) rfl trivial ?_
            refine ck_for 145 (fun w => [some (.inr (480, 3, 6)), some (.inl m), some (.inl w), none]) 4 (fun w y => (0 ≤ w ∧ w ≤ 4) ∧ ∀ b j, y b j = if b = 497 ∧ 0 ≤ j ∧ j < w then -1 else z b j) (fun w y hv hI kk => ?_) (fun w y hv hI => ?_) 0 _ ⟨⟨by omega, by omega⟩, fun b j => (if_neg (by omega)).symm⟩
            · obtain ⟨⟨w0, w1⟩, hc2⟩ := hI
              refine ck_go_run 3 (X1 := (if w < 4 then 150 else 163, [some (.inr (480, 3, 6)), some (.inl m), some (.inl w), none], [], y)) (ps := [ck_rg w, ck_rg 4]) rfl ⟨(ck_rgo (by omega) (by omega)), (ck_rgo (by omega) (by omega)), trivial⟩ ?_
              refine ck_go_t hv ?_
              refine ck_go_run 7 (X1 := (145, [some (.inr (480, 3, 6)), some (.inl m), some (.inl (w + 1)), none], [], ck_up y 497 w ((-1)))) (ps := [0 ≤ w ∧ w < ((4 : Nat) : Int)]) rfl ⟨⟨by omega, by omega⟩, trivial⟩ ?_
              exact kk _ ⟨⟨by omega, by omega⟩, fun b j => by
                simp only [ck_up, hc2]
                (repeat' split) <;> first | rfl | omega⟩
            · obtain ⟨⟨w0, w1⟩, hc2⟩ := hI
              refine ck_go_run 3 (X1 := (if w < 4 then 150 else 163, [some (.inr (480, 3, 6)), some (.inl m), some (.inl w), none], [], y)) (ps := [ck_rg w, ck_rg 4]) rfl ⟨(ck_rgo (by omega) (by omega)), (ck_rgo (by omega) (by omega)), trivial⟩ ?_
              refine ck_go_f (by omega) ?_
              have hy : ∀ b j, ¬ (b = 496 ∧ 0 ≤ j ∧ j < 10) → ¬ (b = 497 ∧ 0 ≤ j ∧ j < 4) → y b j = t b j := fun b j z1 z2 => by
                rw [hc2, if_neg (by omega), hc1, if_neg (by omega)]
              have hy6 : ∀ j, 0 ≤ j → j < 10 → y 496 j = 0 := fun j a b => by rw [hc2, if_neg (by omega), hc1, if_pos ⟨rfl, a, by omega⟩]
              have hy7 : ∀ j, 0 ≤ j → j < 4 → y 497 j = -1 := fun j a b => by rw [hc2, if_pos ⟨rfl, a, by omega⟩]
              have hys : ∀ b j, b ≠ 496 → b ≠ 497 → (b ≠ 480 ∨ j < 19) → y b j = s b j := fun b j z1 z2 z3 => (hy b j (by omega) (by omega)).trans (ht b j z3)
              have eNy : y 480 1 = n := (hys _ _ (by decide) (by decide) (by omega)).trans eN
              have hyR : ∀ k, 0 ≤ k → k < n → ck_rw y 491 k = co_R p (l + 1) k := fun k a b => by
                rw [co_rw_eq (s := s) (fun q _ _ => hys _ _ (by decide) (by decide) (by omega)), hR k a b, el]
              have hyS : ∀ k, 0 ≤ k → k < n → y 481 k = p 6 k ∧ y 482 k = p 7 k ∧ y 483 k = p 8 k ∧ y 484 k = p 9 k := fun k a b => by
                have z := (hP.1.2 k a b).1
                rw [hys 481 k (by decide) (by decide) (by omega), hys 482 k (by decide) (by decide) (by omega), hys 483 k (by decide) (by decide) (by omega), hys 484 k (by decide) (by decide) (by omega)]
                exact ⟨z.1, z.2.1, z.2.2.1, z.2.2.2.1⟩
              refine ck_go_run 4 (X1 := (167, [some (.inr (480, 3, 6)), some (.inl m), some (.inl 0), some (.inl 0)], [], y)) (ps := []) rfl trivial ?_
              refine ck_forI 167 (fun v a => [some (.inr (480, 3, 6)), some (.inl m), some (.inl a), some (.inl v)]) n (fun v a y1 => (0 ≤ v ∧ v ≤ n) ∧ y1 = y ∧ a = ck_sum0 (fun v => ck_bc (ck_ndl (p 6 v) (p 7 v) (p 8 v) (p 9 v) (co_Fi p (l + 1) v))) v.toNat) (fun v a y1 hv hI kk => ?_) (fun v a y1 hv hI => ?_) 0 0 _ ⟨⟨by omega, by omega⟩, rfl, rfl⟩
              · obtain ⟨⟨v0, v1⟩, e1y, ha⟩ := hI
                rw [e1y]
                have hlt : v < n := hv
                have hb := co_ndl_bd (t := p 6 v) (x := p 7 v) (y := p 8 v) (z := p 9 v) (f := co_Fi p (l + 1) v)
                refine ck_go_run 4 (X1 := (if v < y 480 1 then 175 else 209, [some (.inr (480, 3, 6)), some (.inl m), some (.inl a), some (.inl v)], [], y)) (ps := [ck_rg v, ck_rg (y 480 1)]) rfl ⟨(ck_rgo (by omega) (by omega)), (ck_rgo (by omega) (by omega)), trivial⟩ ?_
                refine ck_go_t (by omega) ?_
                refine ck_go_run 3 (X1 := (178, [some (.inr (480, 3, 6)), some (.inl m), some (.inl a), some (.inl v)], [.inl v, .inr (480, 3, 6), .inl a], y)) (ps := []) rfl trivial ?_
                refine ck_go_cal (rest := [.inl a]) (ck_cal_le (by decide) (cx_spared' (σ := y) (k := v) (f := co_Fi p (l + 1) v) (j := co_J p v) ⟨v0, by omega⟩ (hyS v v0 hlt).1 (hyS v v0 hlt).2.1 (hyS v v0 hlt).2.2.1 (hyS v v0 hlt).2.2.2 (hp.2.1 v v0 hlt) (hyR v v0 hlt) (co_Fi_wb hp _ v v0 hlt) (co_R_qb hp v0 hlt))) ⟨_, rfl, Or.inl ⟨_, rfl⟩, rfl, rfl, rfl, Nat.le_of_ble_eq_true rfl, fun _ => ⟨_, _, rfl⟩⟩ ?_
                rintro _ s' ⟨rfl, e'⟩
                rw [e']
                clear e' s'
                refine ck_go_run 4 (X1 := (185, [some (.inr (480, 3, 6)), some (.inl m), some (.inl a), some (.inl v)], [.inl v, .inr (480, 3, 6), .inl (ck_and (ck_ndl (p 6 v) (p 7 v) (p 8 v) (p 9 v) (co_Fi p (l + 1) v)) 1), .inl a], y)) (ps := []) rfl trivial ?_
                refine ck_go_cal (rest := [.inl (ck_and (ck_ndl (p 6 v) (p 7 v) (p 8 v) (p 9 v) (co_Fi p (l + 1) v)) 1), .inl a]) (ck_cal_le (by decide) (cx_spared' (σ := y) (k := v) (f := co_Fi p (l + 1) v) (j := co_J p v) ⟨v0, by omega⟩ (hyS v v0 hlt).1 (hyS v v0 hlt).2.1 (hyS v v0 hlt).2.2.1 (hyS v v0 hlt).2.2.2 (hp.2.1 v v0 hlt) (hyR v v0 hlt) (co_Fi_wb hp _ v v0 hlt) (co_R_qb hp v0 hlt))) ⟨_, rfl, Or.inl ⟨_, rfl⟩, rfl, rfl, rfl, Nat.le_of_ble_eq_true rfl, fun _ => ⟨_, _, rfl⟩⟩ ?_
                rintro _ s' ⟨rfl, e'⟩
                rw [e']
                clear e' s'
                refine ck_go_run 7 (X1 := (195, [some (.inr (480, 3, 6)), some (.inl m), some (.inl a), some (.inl v)], [.inl v, .inr (480, 3, 6), .inl ((ck_and (ck_ndl (p 6 v) (p 7 v) (p 8 v) (p 9 v) (co_Fi p (l + 1) v)) 1) + (ck_and (ck_shr (ck_ndl (p 6 v) (p 7 v) (p 8 v) (p 9 v) (co_Fi p (l + 1) v)) 1) 1)), .inl a], y)) (ps := []) rfl trivial ?_
                refine ck_go_cal (rest := [.inl ((ck_and (ck_ndl (p 6 v) (p 7 v) (p 8 v) (p 9 v) (co_Fi p (l + 1) v)) 1) + (ck_and (ck_shr (ck_ndl (p 6 v) (p 7 v) (p 8 v) (p 9 v) (co_Fi p (l + 1) v)) 1) 1)), .inl a]) (ck_cal_le (by decide) (cx_spared' (σ := y) (k := v) (f := co_Fi p (l + 1) v) (j := co_J p v) ⟨v0, by omega⟩ (hyS v v0 hlt).1 (hyS v v0 hlt).2.1 (hyS v v0 hlt).2.2.1 (hyS v v0 hlt).2.2.2 (hp.2.1 v v0 hlt) (hyR v v0 hlt) (co_Fi_wb hp _ v v0 hlt) (co_R_qb hp v0 hlt))) ⟨_, rfl, Or.inl ⟨_, rfl⟩, rfl, rfl, rfl, Nat.le_of_ble_eq_true rfl, fun _ => ⟨_, _, rfl⟩⟩ ?_
                rintro _ s' ⟨rfl, e'⟩
                rw [e']
                clear e' s'
                refine ck_go_run 7 (X1 := (167, [some (.inr (480, 3, 6)), some (.inl m), some (.inl (a + (((ck_and (ck_ndl (p 6 v) (p 7 v) (p 8 v) (p 9 v) (co_Fi p (l + 1) v)) 1) + (ck_and (ck_shr (ck_ndl (p 6 v) (p 7 v) (p 8 v) (p 9 v) (co_Fi p (l + 1) v)) 1) 1)) + (ck_shr (ck_ndl (p 6 v) (p 7 v) (p 8 v) (p 9 v) (co_Fi p (l + 1) v)) 2)))), some (.inl (v + 1))], [], y)) (ps := []) rfl trivial ?_
                exact kk (a + (((ck_and (ck_ndl (p 6 v) (p 7 v) (p 8 v) (p 9 v) (co_Fi p (l + 1) v)) 1) + (ck_and (ck_shr (ck_ndl (p 6 v) (p 7 v) (p 8 v) (p 9 v) (co_Fi p (l + 1) v)) 1) 1)) + (ck_shr (ck_ndl (p 6 v) (p 7 v) (p 8 v) (p 9 v) (co_Fi p (l + 1) v)) 2))) _ ⟨⟨by omega, by omega⟩, rfl, by
                  have e1 : (v + 1).toNat = v.toNat + 1 := by omega
                  rw [e1, ck_sum0, ha, Int.toNat_of_nonneg v0, co_bits hb]⟩
              · obtain ⟨⟨v0, v1⟩, e1y, ha⟩ := hI
                rw [e1y]
                refine ck_go_run 4 (X1 := (if v < y 480 1 then 175 else 209, [some (.inr (480, 3, 6)), some (.inl m), some (.inl a), some (.inl v)], [], y)) (ps := [ck_rg v, ck_rg (y 480 1)]) rfl ⟨(ck_rgo (by omega) (by omega)), (ck_rgo (by omega) (by omega)), trivial⟩ ?_
                refine ck_go_f (by omega) ?_
                refine ck_go_run 1 (X1 := (210, [some (.inr (480, 3, 6)), some (.inl m), some (.inl a), some (.inl v)], [.inl a], y)) (ps := []) rfl trivial ?_
                have evn : v = n := by omega
                refine ck_eI ⟨l, hl, hyR, ?_, fun h a b => ?_, fun b j z1 z2 => ?_, ?_, ?_, ?_, hy6, hy7⟩ rfl rfl rfl
                · rw [ha, evn]
                · rw [co_rw_eq (s := s) (a := 493) (fun q _ _ => hys _ _ (by decide) (by decide) (by omega)), co_rw_eq (s := s) (a := 491) (fun q _ _ => hys _ _ (by decide) (by decide) (by omega))]
                  exact ⟨hP.2.1 h a b, hP.2.2.1 h a b⟩
                · rw [hys b j (by omega) (by omega) (by omega)]
                  exact hf b j (by omega) (by omega)
                · exact (hys _ _ (by decide) (by decide) (by omega)).trans h00
                · rw [hy 480 19 (by omega) (by omega), hy 480 20 (by omega) (by omega), hy 480 21 (by omega) (by omega)]
                  exact ⟨hF.1, hF.2.1, hF.2.2.1⟩
                · rw [hy 480 22 (by omega) (by omega), hy 480 23 (by omega) (by omega), hy 480 24 (by omega) (by omega), hy 480 25 (by omega) (by omega), hy 480 26 (by omega) (by omega)]
                  exact hF.2.2.2
        · obtain ⟨l, el, hl⟩ := hz (by assumption)
          have eN : s 480 1 = n := hP.1.1
          have hn := hp.1
          refine ck_go_run 10 (X1 := (if s 480 1 = 0 then 89 else 93, [some (.inr (480, 3, 6)), some (.inl m), none, none], [.inr (480, 3, 6)], ck_up (ck_up s 480 19 1) 480 20 0)) (ps := [1 = 0 ∨ 1 = 1, ck_rg (s 480 1)]) rfl ⟨Or.inr rfl, (ck_rgo (by omega) (by omega)), trivial⟩ ?_
          refine ck_go_ite (fun h3 => ?_) (fun h3 => ?_)
          · refine ck_go_run 18 (X1 := (122, [some (.inr (480, 3, 6)), some (.inl m), none, none], [], ck_up (ck_up (ck_up (ck_up (ck_up (ck_up (ck_up (ck_up s 480 19 1) 480 20 0) 480 21 1) 480 22 0) 480 23 0) 480 24 0) 480 25 0) 480 26 0)) (ps := []) rfl trivial ?_
            exact jj (none, none, none) _ ⟨fun b j z => by
              simp only [ck_up]
              rw [if_neg (by omega), if_neg (by omega), if_neg (by omega), if_neg (by omega), if_neg (by omega), if_neg (by omega), if_neg (by omega), if_neg (by omega)], rfl, rfl, by
              first | rw [if_pos (by omega)]; rfl | rw [if_neg (by omega)]; rfl, rfl, rfl, rfl, rfl, rfl⟩
          · refine ck_go_run 17 (X1 := (122, [some (.inr (480, 3, 6)), some (.inl m), none, none], [], ck_up (ck_up (ck_up (ck_up (ck_up (ck_up (ck_up (ck_up s 480 19 1) 480 20 0) 480 21 0) 480 22 0) 480 23 0) 480 24 0) 480 25 0) 480 26 0)) (ps := []) rfl trivial ?_
            exact jj (none, none, none) _ ⟨fun b j z => by
              simp only [ck_up]
              rw [if_neg (by omega), if_neg (by omega), if_neg (by omega), if_neg (by omega), if_neg (by omega), if_neg (by omega), if_neg (by omega), if_neg (by omega)], rfl, rfl, by
              first | rw [if_pos (by omega)]; rfl | rw [if_neg (by omega)]; rfl, rfl, rfl, rfl, rfl, rfl⟩
      · refine ck_go_run 1 (X1 := (64, [some (.inr (480, 3, 6)), some (.inl m), none, none], [.inr (480, 3, 6)], s)) (ps := []) rfl trivial ?_
        refine ck_go_cal (rest := []) (ck_cal_le (by decide) (cx_pass' hp hP)) ⟨_, rfl, Or.inl ⟨_, rfl⟩, rfl, rfl, rfl, Nat.le_of_ble_eq_true rfl, fun _ => ⟨_, _, rfl⟩⟩ ?_
        rintro _ s2 ⟨x, rfl, x01, q1, q2, q3, q4⟩
        refine ck_go_run 2 (X1 := (59, [some (.inr (480, 3, 6)), some (.inl x), none, none], [], s2)) (ps := []) rfl trivial ?_
        exact kk (x, i + 1) _ ⟨x01, ⟨fun b j z1 z2 => (q1 b j z1).trans (hf b j z1 z2), (q1 _ _ (by decide)).trans h00⟩, q2, i, rfl, q3, fun z => ⟨j, ej, fun k a b => co_R_Fi hp a b (by
          have w := q4.mp z k a b
          rw [hR k a b, ej] at w
          exact w)⟩⟩ (by
          show (if x = 0 then 0 else co_me p n (i + 1)) < (if m = 0 then 0 else co_me p n i)
          rw [if_neg (show ¬ m = 0 by assumption)]
          by_cases z : x = 0
          · rw [if_pos z]
            cases i <;> exact Nat.succ_pos _
          · rw [if_neg z]
            exact co_me_dec hp (fun j1 e1 k a b => by
              have : j1 = j := by omega
              rw [this]
              exact hR k a b) (fun w => z (q4.mpr w)))
    · refine ck_go_run 1 (X1 := (50, [some (.inr (480, 3, 6)), some (.inl m), none, none], [.inr (480, 3, 6)], s)) (ps := []) rfl trivial ?_
      refine ck_go_cal (rest := []) (ck_cal_le (by decide) (cx_pass' hp hP)) ⟨_, rfl, Or.inl ⟨_, rfl⟩, rfl, rfl, rfl, Nat.le_of_ble_eq_true rfl, fun _ => ⟨_, _, rfl⟩⟩ ?_
      rintro _ s3 ⟨x, rfl, x01, q1, q2, q3, q4⟩
      refine ck_go_run 2 (X1 := (45, [some (.inr (480, 3, 6)), some (.inl x), none, none], [], s3)) (ps := []) rfl trivial ?_
      exact kk (x, i + 1) _ ⟨x01, ⟨fun b j z1 z2 => (q1 b j z1).trans (hf b j z1 z2), (q1 _ _ (by decide)).trans h00⟩, q2, fun _ => Nat.succ_pos i, fun j z k a b => by
        have : j = i := by omega
        rw [this]
        exact q3 k a b⟩ (by
        show (if x = 0 then 0 else co_me p n (i + 1)) < (if m = 0 then 0 else co_me p n i)
        rw [if_neg (show ¬ m = 0 by assumption)]
        by_cases z : x = 0
        · rw [if_pos z]
          cases i <;> exact Nat.succ_pos _
        · rw [if_neg z]
          exact co_me_dec hp hR (fun w => z (q4.mpr w)))
