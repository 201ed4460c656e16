/-! ## The reference: what it tells -/
theorem cx_refusesA {h : Int} (h01 : h = 0 ∨ h = 1) {σ : ck_M} (hb : σ 480 19 = 0) : ck_cal 2 cm_Mo_refuses [.inr (480, 3, 6), .inl h] σ (fun q σ' => q = some 1 ∧ σ' = ck_up σ 480 0 1) := by
  refine ck_cal_of ?_
  refine ck_go_run 4 (X1 := (if σ 480 19 = 0 then 8 else 12, [some (.inr (480, 3, 6)), some (.inl h)], [.inr (480, 3, 6)], σ)) (ps := [ck_rg (σ 480 19)]) rfl ⟨(ck_rgo (by omega) (by omega)), trivial⟩ ?_
  refine ck_go_t (by omega) ?_
  refine ck_go_run 5 (X1 := (if σ 480 19 = 0 then 28 else 20, [some (.inr (480, 3, 6)), some (.inl h)], [.inl 1, .inr (480, 3, 6)], σ)) (ps := [ck_rg (σ 480 19)]) rfl ⟨(ck_rgo (by omega) (by omega)), trivial⟩ ?_
  refine ck_go_t (by omega) ?_
  refine ck_go_run 1 (X1 := (29, [some (.inr (480, 3, 6)), some (.inl h)], [.inl 0, .inl 1, .inr (480, 3, 6)], σ)) (ps := []) rfl trivial ?_
  refine ck_go_cal (rest := []) (ck_cal_le (by decide) (cx_fails10 _)) ⟨_, rfl, Or.inl ⟨_, rfl⟩, rfl, rfl, rfl, Nat.le_of_ble_eq_true rfl, fun _ => ⟨_, _, rfl⟩⟩ ?_
  rintro _ s1 ⟨rfl, e1⟩
  rw [e1]
  clear e1 s1
  exact ck_eZ (by decide) ⟨rfl, rfl⟩ rfl rfl rfl
theorem cx_refusesB {h : Int} (h01 : h = 0 ∨ h = 1) {σ : ck_M} (hb : σ 480 19 = 1) (hh : h = 0) : ck_cal 2 cm_Mo_refuses [.inr (480, 3, 6), .inl h] σ (fun q σ' => q = some 1 ∧ σ' = ck_up σ 480 0 2) := by
  refine ck_cal_of ?_
  refine ck_go_run 4 (X1 := (if σ 480 19 = 0 then 8 else 12, [some (.inr (480, 3, 6)), some (.inl h)], [.inr (480, 3, 6)], σ)) (ps := [ck_rg (σ 480 19)]) rfl ⟨(ck_rgo (by omega) (by omega)), trivial⟩ ?_
  refine ck_go_f (by omega) ?_
  refine ck_go_run 4 (X1 := (if σ 480 19 = 0 then 28 else 20, [some (.inr (480, 3, 6)), some (.inl h)], [.inl 0, .inr (480, 3, 6)], σ)) (ps := [ck_rg (σ 480 19)]) rfl ⟨(ck_rgo (by omega) (by omega)), trivial⟩ ?_
  refine ck_go_f (by omega) ?_
  refine ck_go_run 2 (X1 := (if h = 0 then 24 else 28, [some (.inr (480, 3, 6)), some (.inl h)], [.inl 0, .inr (480, 3, 6)], σ)) (ps := [ck_rg h]) rfl ⟨(ck_rgo (by omega) (by omega)), trivial⟩ ?_
  refine ck_go_t (by omega) ?_
  refine ck_go_run 2 (X1 := (29, [some (.inr (480, 3, 6)), some (.inl h)], [.inl 1, .inl 0, .inr (480, 3, 6)], σ)) (ps := []) rfl trivial ?_
  refine ck_go_cal (rest := []) (ck_cal_le (by decide) (cx_fails01 _)) ⟨_, rfl, Or.inl ⟨_, rfl⟩, rfl, rfl, rfl, Nat.le_of_ble_eq_true rfl, fun _ => ⟨_, _, rfl⟩⟩ ?_
  rintro _ s1 ⟨rfl, e1⟩
  rw [e1]
  clear e1 s1
  exact ck_eZ (by decide) ⟨rfl, rfl⟩ rfl rfl rfl
theorem cx_refusesC {h : Int} (h01 : h = 0 ∨ h = 1) {σ : ck_M} (hb : σ 480 19 = 1) (hh : h = 1) : ck_cal 2 cm_Mo_refuses [.inr (480, 3, 6), .inl h] σ (fun q σ' => q = some 0 ∧ σ' = ck_up σ 480 0 0) := by
  refine ck_cal_of ?_
  refine ck_go_run 4 (X1 := (if σ 480 19 = 0 then 8 else 12, [some (.inr (480, 3, 6)), some (.inl h)], [.inr (480, 3, 6)], σ)) (ps := [ck_rg (σ 480 19)]) rfl ⟨(ck_rgo (by omega) (by omega)), trivial⟩ ?_
  refine ck_go_f (by omega) ?_
  refine ck_go_run 4 (X1 := (if σ 480 19 = 0 then 28 else 20, [some (.inr (480, 3, 6)), some (.inl h)], [.inl 0, .inr (480, 3, 6)], σ)) (ps := [ck_rg (σ 480 19)]) rfl ⟨(ck_rgo (by omega) (by omega)), trivial⟩ ?_
  refine ck_go_f (by omega) ?_
  refine ck_go_run 2 (X1 := (if h = 0 then 24 else 28, [some (.inr (480, 3, 6)), some (.inl h)], [.inl 0, .inr (480, 3, 6)], σ)) (ps := [ck_rg h]) rfl ⟨(ck_rgo (by omega) (by omega)), trivial⟩ ?_
  refine ck_go_f (by omega) ?_
  refine ck_go_run 1 (X1 := (29, [some (.inr (480, 3, 6)), some (.inl h)], [.inl 0, .inl 0, .inr (480, 3, 6)], σ)) (ps := []) rfl trivial ?_
  refine ck_go_cal (rest := []) (ck_cal_le (by decide) (cx_fails00 _)) ⟨_, rfl, Or.inl ⟨_, rfl⟩, rfl, rfl, rfl, Nat.le_of_ble_eq_true rfl, fun _ => ⟨_, _, rfl⟩⟩ ?_
  rintro _ s1 ⟨rfl, e1⟩
  rw [e1]
  clear e1 s1
  exact ck_eZ (by decide) ⟨rfl, rfl⟩ rfl rfl rfl
theorem cx_needlessMA {k : Int} (hk : ck_rg k) {σ : ck_M} (hb : σ 480 19 = 0) (hn : 0 ≤ σ 480 1 ∧ σ 480 1 ≤ 64) : ck_cal 3 cm_Mo_needless [.inr (480, 3, 6), .inl k] σ (fun q σ' => q = some 0 ∧ σ' = ck_up σ 480 0 1) := by
  refine ck_cal_of ?_
  have rk := id hk
  unfold ck_rg at rk
  refine ck_go_run 7 (X1 := (9, [some (.inr (480, 3, 6)), some (.inl k)], [.inl ((σ 480 1) - 1), .inl 0, .inl k, .inr (480, 3, 6)], σ)) (ps := []) rfl trivial ?_
  refine ck_go_cal (rest := [.inr (480, 3, 6)]) (ck_cal_le (by decide) (cx_in (v := k) (f := 0) (t := (σ 480 1) - 1) (by first | assumption | exact ck_rgo (by omega) (by omega)) (by exact ck_rgo (by omega) (by omega)) (by exact ck_rgo (by omega) (by omega)) _)) ⟨_, rfl, Or.inr ⟨_, rfl⟩, rfl, rfl, rfl, Nat.le_of_ble_eq_true rfl, fun h => absurd h (by decide)⟩ ?_
  rintro _ s' ⟨rfl, e'⟩
  rw [e']
  clear e' s'
  refine ck_go_cal (rest := []) (ck_cal_le (by decide) (cx_refusesA (σ := σ) (h := ck_in k 0 ((σ 480 1) - 1)) (co_in01 _ _ _) hb)) ⟨_, rfl, Or.inl ⟨_, rfl⟩, rfl, rfl, rfl, Nat.le_of_ble_eq_true rfl, fun _ => ⟨_, _, rfl⟩⟩ ?_
  rintro _ s1 ⟨rfl, e1⟩
  rw [e1]
  clear e1 s1
  refine ck_go_run 1 (X1 := (if 1 = 0 then 20 else 18, [some (.inr (480, 3, 6)), some (.inl k)], [], ck_up σ 480 0 1)) (ps := [ck_rg 1]) rfl ⟨(ck_rgo (by omega) (by omega)), trivial⟩ ?_
  refine ck_go_f (by decide) ?_
  refine ck_go_run 1 (X1 := (19, [some (.inr (480, 3, 6)), some (.inl k)], [.inl 0], ck_up σ 480 0 1)) (ps := []) rfl trivial ?_
  exact ck_eI ⟨rfl, rfl⟩ rfl rfl rfl
theorem cx_needlessMB {k : Int} (hk : ck_rg k) {σ : ck_M} (hb : σ 480 19 = 1) (hn : 0 ≤ σ 480 1 ∧ σ 480 1 ≤ 64) (hok : ¬ (0 ≤ k ∧ k < σ 480 1)) : ck_cal 3 cm_Mo_needless [.inr (480, 3, 6), .inl k] σ (fun q σ' => q = some 0 ∧ σ' = ck_up σ 480 0 2) := by
  refine ck_cal_of ?_
  have rk := id hk
  unfold ck_rg at rk
  refine ck_go_run 7 (X1 := (9, [some (.inr (480, 3, 6)), some (.inl k)], [.inl ((σ 480 1) - 1), .inl 0, .inl k, .inr (480, 3, 6)], σ)) (ps := []) rfl trivial ?_
  refine ck_go_cal (rest := [.inr (480, 3, 6)]) (ck_cal_le (by decide) (cx_in (v := k) (f := 0) (t := (σ 480 1) - 1) (by first | assumption | exact ck_rgo (by omega) (by omega)) (by exact ck_rgo (by omega) (by omega)) (by exact ck_rgo (by omega) (by omega)) _)) ⟨_, rfl, Or.inr ⟨_, rfl⟩, rfl, rfl, rfl, Nat.le_of_ble_eq_true rfl, fun h => absurd h (by decide)⟩ ?_
  rintro _ s' ⟨rfl, e'⟩
  rw [e']
  clear e' s'
  refine ck_go_cal (rest := []) (ck_cal_le (by decide) (cx_refusesB (σ := σ) (h := ck_in k 0 ((σ 480 1) - 1)) (co_in01 _ _ _) hb (by unfold ck_in; rw [if_neg (by omega)]))) ⟨_, rfl, Or.inl ⟨_, rfl⟩, rfl, rfl, rfl, Nat.le_of_ble_eq_true rfl, fun _ => ⟨_, _, rfl⟩⟩ ?_
  rintro _ s1 ⟨rfl, e1⟩
  rw [e1]
  clear e1 s1
  refine ck_go_run 1 (X1 := (if 1 = 0 then 20 else 18, [some (.inr (480, 3, 6)), some (.inl k)], [], ck_up σ 480 0 2)) (ps := [ck_rg 1]) rfl ⟨(ck_rgo (by omega) (by omega)), trivial⟩ ?_
  refine ck_go_f (by decide) ?_
  refine ck_go_run 1 (X1 := (19, [some (.inr (480, 3, 6)), some (.inl k)], [.inl 0], ck_up σ 480 0 2)) (ps := []) rfl trivial ?_
  exact ck_eI ⟨rfl, rfl⟩ rfl rfl rfl
theorem cx_needlessMC {k : Int} (hk : ck_rg k) {σ : ck_M} (hb : σ 480 19 = 1) (hn : 0 ≤ σ 480 1 ∧ σ 480 1 ≤ 64) (hok : 0 ≤ k ∧ k < σ 480 1) {nd : Int} (hsp : ck_cal 1 cm_Mo_spared [.inr (480, 3, 6), .inl k] (ck_up σ 480 0 0) (fun q s' => q = some nd ∧ s' = ck_up σ 480 0 0)) : ck_cal 3 cm_Mo_needless [.inr (480, 3, 6), .inl k] σ (fun q σ' => q = some nd ∧ σ' = ck_up σ 480 0 0) := by
  refine ck_cal_of ?_
  have rk := id hk
  unfold ck_rg at rk
  refine ck_go_run 7 (X1 := (9, [some (.inr (480, 3, 6)), some (.inl k)], [.inl ((σ 480 1) - 1), .inl 0, .inl k, .inr (480, 3, 6)], σ)) (ps := []) rfl trivial ?_
  refine ck_go_cal (rest := [.inr (480, 3, 6)]) (ck_cal_le (by decide) (cx_in (v := k) (f := 0) (t := (σ 480 1) - 1) (by first | assumption | exact ck_rgo (by omega) (by omega)) (by exact ck_rgo (by omega) (by omega)) (by exact ck_rgo (by omega) (by omega)) _)) ⟨_, rfl, Or.inr ⟨_, rfl⟩, rfl, rfl, rfl, Nat.le_of_ble_eq_true rfl, fun h => absurd h (by decide)⟩ ?_
  rintro _ s' ⟨rfl, e'⟩
  rw [e']
  clear e' s'
  refine ck_go_cal (rest := []) (ck_cal_le (by decide) (cx_refusesC (σ := σ) (h := ck_in k 0 ((σ 480 1) - 1)) (co_in01 _ _ _) hb (by unfold ck_in; rw [if_pos (by omega)]))) ⟨_, rfl, Or.inl ⟨_, rfl⟩, rfl, rfl, rfl, Nat.le_of_ble_eq_true rfl, fun _ => ⟨_, _, rfl⟩⟩ ?_
  rintro _ s1 ⟨rfl, e1⟩
  rw [e1]
  clear e1 s1
  refine ck_go_run 1 (X1 := (if 0 = 0 then 20 else 18, [some (.inr (480, 3, 6)), some (.inl k)], [], ck_up σ 480 0 0)) (ps := [ck_rg 0]) rfl ⟨(ck_rgo (by omega) (by omega)), trivial⟩ ?_
  refine ck_go_t (by decide) ?_
  refine ck_go_run 2 (X1 := (22, [some (.inr (480, 3, 6)), some (.inl k)], [.inl k, .inr (480, 3, 6)], ck_up σ 480 0 0)) (ps := []) rfl trivial ?_
  refine ck_go_cal (rest := []) (ck_cal_le (by decide) (hsp)) ⟨_, rfl, Or.inl ⟨_, rfl⟩, rfl, rfl, rfl, Nat.le_of_ble_eq_true rfl, fun _ => ⟨_, _, rfl⟩⟩ ?_
  rintro _ s' ⟨rfl, e'⟩
  rw [e']
  clear e' s'
  exact ck_eI ⟨rfl, rfl⟩ rfl rfl rfl
theorem cx_leastMA {k m : Int} (hk : ck_rg k) (hm : ck_rg m) {σ : ck_M} (hb : σ 480 19 = 0) (hn : 0 ≤ σ 480 1 ∧ σ 480 1 ≤ 64) : ck_cal 3 cm_Mo_least [.inr (480, 3, 6), .inl k, .inl m] σ (fun q σ' => q = some 0 ∧ σ' = ck_up σ 480 0 1) := by
  refine ck_cal_of ?_
  have rk := id hk
  unfold ck_rg at rk
  have rm := id hm
  unfold ck_rg at rm
  refine ck_go_run 7 (X1 := (9, [some (.inr (480, 3, 6)), some (.inl k), some (.inl m)], [.inl ((σ 480 1) - 1), .inl 0, .inl k, .inr (480, 3, 6)], σ)) (ps := []) rfl trivial ?_
  refine ck_go_cal (rest := [.inr (480, 3, 6)]) (ck_cal_le (by decide) (cx_in (v := k) (f := 0) (t := (σ 480 1) - 1) (by first | assumption | exact ck_rgo (by omega) (by omega)) (by exact ck_rgo (by omega) (by omega)) (by exact ck_rgo (by omega) (by omega)) _)) ⟨_, rfl, Or.inr ⟨_, rfl⟩, rfl, rfl, rfl, Nat.le_of_ble_eq_true rfl, fun h => absurd h (by decide)⟩ ?_
  rintro _ s' ⟨rfl, e'⟩
  rw [e']
  clear e' s'
  refine ck_go_run 1 (X1 := (if ck_in k 0 ((σ 480 1) - 1) = 0 then 29 else 15, [some (.inr (480, 3, 6)), some (.inl k), some (.inl m)], [.inr (480, 3, 6)], σ)) (ps := [ck_rg (ck_in k 0 ((σ 480 1) - 1))]) rfl ⟨(co_inrg _ _ _), trivial⟩ ?_
  refine ck_go_ite (fun h1 => ?_) (fun h1 => ?_)
  · refine ck_go_run 1 (X1 := (30, [some (.inr (480, 3, 6)), some (.inl k), some (.inl m)], [.inl 0, .inr (480, 3, 6)], σ)) (ps := []) rfl trivial ?_
    refine ck_go_cal (rest := []) (ck_cal_le (by decide) (cx_refusesA (σ := σ) (h := 0) (by decide) hb)) ⟨_, rfl, Or.inl ⟨_, rfl⟩, rfl, rfl, rfl, Nat.le_of_ble_eq_true rfl, fun _ => ⟨_, _, rfl⟩⟩ ?_
    rintro _ s1 ⟨rfl, e1⟩
    rw [e1]
    clear e1 s1
    refine ck_go_run 1 (X1 := (if 1 = 0 then 38 else 36, [some (.inr (480, 3, 6)), some (.inl k), some (.inl m)], [], ck_up σ 480 0 1)) (ps := [ck_rg 1]) rfl ⟨(ck_rgo (by omega) (by omega)), trivial⟩ ?_
    refine ck_go_f (by decide) ?_
    refine ck_go_run 1 (X1 := (37, [some (.inr (480, 3, 6)), some (.inl k), some (.inl m)], [.inl 0], ck_up σ 480 0 1)) (ps := []) rfl trivial ?_
    exact ck_eI ⟨rfl, rfl⟩ rfl rfl rfl
  · refine ck_go_run 3 (X1 := (19, [some (.inr (480, 3, 6)), some (.inl k), some (.inl m)], [.inl 9, .inl 0, .inl m, .inr (480, 3, 6)], σ)) (ps := []) rfl trivial ?_
    refine ck_go_cal (rest := [.inr (480, 3, 6)]) (ck_cal_le (by decide) (cx_in (v := m) (f := 0) (t := 9) (by first | assumption | exact ck_rgo (by omega) (by omega)) (by exact ck_rgo (by omega) (by omega)) (by exact ck_rgo (by omega) (by omega)) _)) ⟨_, rfl, Or.inr ⟨_, rfl⟩, rfl, rfl, rfl, Nat.le_of_ble_eq_true rfl, fun h => absurd h (by decide)⟩ ?_
    rintro _ s' ⟨rfl, e'⟩
    rw [e']
    clear e' s'
    refine ck_go_run 1 (X1 := (if ck_in m 0 9 = 0 then 29 else 25, [some (.inr (480, 3, 6)), some (.inl k), some (.inl m)], [.inr (480, 3, 6)], σ)) (ps := [ck_rg (ck_in m 0 9)]) rfl ⟨(co_inrg _ _ _), trivial⟩ ?_
    refine ck_go_ite (fun h2 => ?_) (fun h2 => ?_)
    · refine ck_go_run 1 (X1 := (30, [some (.inr (480, 3, 6)), some (.inl k), some (.inl m)], [.inl 0, .inr (480, 3, 6)], σ)) (ps := []) rfl trivial ?_
      refine ck_go_cal (rest := []) (ck_cal_le (by decide) (cx_refusesA (σ := σ) (h := 0) (by decide) hb)) ⟨_, rfl, Or.inl ⟨_, rfl⟩, rfl, rfl, rfl, Nat.le_of_ble_eq_true rfl, fun _ => ⟨_, _, rfl⟩⟩ ?_
      rintro _ s2 ⟨rfl, e2⟩
      rw [e2]
      clear e2 s2
      refine ck_go_run 1 (X1 := (if 1 = 0 then 38 else 36, [some (.inr (480, 3, 6)), some (.inl k), some (.inl m)], [], ck_up σ 480 0 1)) (ps := [ck_rg 1]) rfl ⟨(ck_rgo (by omega) (by omega)), trivial⟩ ?_
      refine ck_go_f (by decide) ?_
      refine ck_go_run 1 (X1 := (37, [some (.inr (480, 3, 6)), some (.inl k), some (.inl m)], [.inl 0], ck_up σ 480 0 1)) (ps := []) rfl trivial ?_
      exact ck_eI ⟨rfl, rfl⟩ rfl rfl rfl
    · refine ck_go_run 2 (X1 := (30, [some (.inr (480, 3, 6)), some (.inl k), some (.inl m)], [.inl 1, .inr (480, 3, 6)], σ)) (ps := []) rfl trivial ?_
      refine ck_go_cal (rest := []) (ck_cal_le (by decide) (cx_refusesA (σ := σ) (h := 1) (by decide) hb)) ⟨_, rfl, Or.inl ⟨_, rfl⟩, rfl, rfl, rfl, Nat.le_of_ble_eq_true rfl, fun _ => ⟨_, _, rfl⟩⟩ ?_
      rintro _ s3 ⟨rfl, e3⟩
      rw [e3]
      clear e3 s3
      refine ck_go_run 1 (X1 := (if 1 = 0 then 38 else 36, [some (.inr (480, 3, 6)), some (.inl k), some (.inl m)], [], ck_up σ 480 0 1)) (ps := [ck_rg 1]) rfl ⟨(ck_rgo (by omega) (by omega)), trivial⟩ ?_
      refine ck_go_f (by decide) ?_
      refine ck_go_run 1 (X1 := (37, [some (.inr (480, 3, 6)), some (.inl k), some (.inl m)], [.inl 0], ck_up σ 480 0 1)) (ps := []) rfl trivial ?_
      exact ck_eI ⟨rfl, rfl⟩ rfl rfl rfl
theorem cx_leastMB {k m : Int} (hk : ck_rg k) (hm : ck_rg m) {σ : ck_M} (hb : σ 480 19 = 1) (hn : 0 ≤ σ 480 1 ∧ σ 480 1 ≤ 64) (hok : ¬ ((0 ≤ k ∧ k < σ 480 1) ∧ 0 ≤ m ∧ m < 10)) : ck_cal 3 cm_Mo_least [.inr (480, 3, 6), .inl k, .inl m] σ (fun q σ' => q = some 0 ∧ σ' = ck_up σ 480 0 2) := by
  refine ck_cal_of ?_
  have rk := id hk
  unfold ck_rg at rk
  have rm := id hm
  unfold ck_rg at rm
  refine ck_go_run 7 (X1 := (9, [some (.inr (480, 3, 6)), some (.inl k), some (.inl m)], [.inl ((σ 480 1) - 1), .inl 0, .inl k, .inr (480, 3, 6)], σ)) (ps := []) rfl trivial ?_
  refine ck_go_cal (rest := [.inr (480, 3, 6)]) (ck_cal_le (by decide) (cx_in (v := k) (f := 0) (t := (σ 480 1) - 1) (by first | assumption | exact ck_rgo (by omega) (by omega)) (by exact ck_rgo (by omega) (by omega)) (by exact ck_rgo (by omega) (by omega)) _)) ⟨_, rfl, Or.inr ⟨_, rfl⟩, rfl, rfl, rfl, Nat.le_of_ble_eq_true rfl, fun h => absurd h (by decide)⟩ ?_
  rintro _ s' ⟨rfl, e'⟩
  rw [e']
  clear e' s'
  refine ck_go_run 1 (X1 := (if ck_in k 0 ((σ 480 1) - 1) = 0 then 29 else 15, [some (.inr (480, 3, 6)), some (.inl k), some (.inl m)], [.inr (480, 3, 6)], σ)) (ps := [ck_rg (ck_in k 0 ((σ 480 1) - 1))]) rfl ⟨(co_inrg _ _ _), trivial⟩ ?_
  refine ck_go_ite (fun h1 => ?_) (fun h1 => ?_)
  · refine ck_go_run 1 (X1 := (30, [some (.inr (480, 3, 6)), some (.inl k), some (.inl m)], [.inl 0, .inr (480, 3, 6)], σ)) (ps := []) rfl trivial ?_
    refine ck_go_cal (rest := []) (ck_cal_le (by decide) (cx_refusesB (σ := σ) (h := 0) (by decide) hb rfl)) ⟨_, rfl, Or.inl ⟨_, rfl⟩, rfl, rfl, rfl, Nat.le_of_ble_eq_true rfl, fun _ => ⟨_, _, rfl⟩⟩ ?_
    rintro _ s1 ⟨rfl, e1⟩
    rw [e1]
    clear e1 s1
    refine ck_go_run 1 (X1 := (if 1 = 0 then 38 else 36, [some (.inr (480, 3, 6)), some (.inl k), some (.inl m)], [], ck_up σ 480 0 2)) (ps := [ck_rg 1]) rfl ⟨(ck_rgo (by omega) (by omega)), trivial⟩ ?_
    refine ck_go_f (by decide) ?_
    refine ck_go_run 1 (X1 := (37, [some (.inr (480, 3, 6)), some (.inl k), some (.inl m)], [.inl 0], ck_up σ 480 0 2)) (ps := []) rfl trivial ?_
    exact ck_eI ⟨rfl, rfl⟩ rfl rfl rfl
  · refine ck_go_run 3 (X1 := (19, [some (.inr (480, 3, 6)), some (.inl k), some (.inl m)], [.inl 9, .inl 0, .inl m, .inr (480, 3, 6)], σ)) (ps := []) rfl trivial ?_
    refine ck_go_cal (rest := [.inr (480, 3, 6)]) (ck_cal_le (by decide) (cx_in (v := m) (f := 0) (t := 9) (by first | assumption | exact ck_rgo (by omega) (by omega)) (by exact ck_rgo (by omega) (by omega)) (by exact ck_rgo (by omega) (by omega)) _)) ⟨_, rfl, Or.inr ⟨_, rfl⟩, rfl, rfl, rfl, Nat.le_of_ble_eq_true rfl, fun h => absurd h (by decide)⟩ ?_
    rintro _ s' ⟨rfl, e'⟩
    rw [e']
    clear e' s'
    refine ck_go_run 1 (X1 := (if ck_in m 0 9 = 0 then 29 else 25, [some (.inr (480, 3, 6)), some (.inl k), some (.inl m)], [.inr (480, 3, 6)], σ)) (ps := [ck_rg (ck_in m 0 9)]) rfl ⟨(co_inrg _ _ _), trivial⟩ ?_
    refine ck_go_ite (fun h2 => ?_) (fun h2 => ?_)
    · refine ck_go_run 1 (X1 := (30, [some (.inr (480, 3, 6)), some (.inl k), some (.inl m)], [.inl 0, .inr (480, 3, 6)], σ)) (ps := []) rfl trivial ?_
      refine ck_go_cal (rest := []) (ck_cal_le (by decide) (cx_refusesB (σ := σ) (h := 0) (by decide) hb rfl)) ⟨_, rfl, Or.inl ⟨_, rfl⟩, rfl, rfl, rfl, Nat.le_of_ble_eq_true rfl, fun _ => ⟨_, _, rfl⟩⟩ ?_
      rintro _ s2 ⟨rfl, e2⟩
      rw [e2]
      clear e2 s2
      refine ck_go_run 1 (X1 := (if 1 = 0 then 38 else 36, [some (.inr (480, 3, 6)), some (.inl k), some (.inl m)], [], ck_up σ 480 0 2)) (ps := [ck_rg 1]) rfl ⟨(ck_rgo (by omega) (by omega)), trivial⟩ ?_
      refine ck_go_f (by decide) ?_
      refine ck_go_run 1 (X1 := (37, [some (.inr (480, 3, 6)), some (.inl k), some (.inl m)], [.inl 0], ck_up σ 480 0 2)) (ps := []) rfl trivial ?_
      exact ck_eI ⟨rfl, rfl⟩ rfl rfl rfl
    · exfalso
      simp only [co_in0] at *
      omega
theorem cx_leastMC {k m : Int} (hk : ck_rg k) (hm : ck_rg m) {σ : ck_M} (hb : σ 480 19 = 1) (hn : 0 ≤ σ 480 1 ∧ σ 480 1 ≤ 64) (hok : (0 ≤ k ∧ k < σ 480 1) ∧ 0 ≤ m ∧ m < 10) : ck_cal 3 cm_Mo_least [.inr (480, 3, 6), .inl k, .inl m] σ (fun q σ' => q = some (σ 491 (82 * k + 20 + m)) ∧ σ' = ck_up σ 480 0 0) := by
  refine ck_cal_of ?_
  have rk := id hk
  unfold ck_rg at rk
  have rm := id hm
  unfold ck_rg at rm
  refine ck_go_run 7 (X1 := (9, [some (.inr (480, 3, 6)), some (.inl k), some (.inl m)], [.inl ((σ 480 1) - 1), .inl 0, .inl k, .inr (480, 3, 6)], σ)) (ps := []) rfl trivial ?_
  refine ck_go_cal (rest := [.inr (480, 3, 6)]) (ck_cal_le (by decide) (cx_in (v := k) (f := 0) (t := (σ 480 1) - 1) (by first | assumption | exact ck_rgo (by omega) (by omega)) (by exact ck_rgo (by omega) (by omega)) (by exact ck_rgo (by omega) (by omega)) _)) ⟨_, rfl, Or.inr ⟨_, rfl⟩, rfl, rfl, rfl, Nat.le_of_ble_eq_true rfl, fun h => absurd h (by decide)⟩ ?_
  rintro _ s' ⟨rfl, e'⟩
  rw [e']
  clear e' s'
  refine ck_go_run 1 (X1 := (if ck_in k 0 ((σ 480 1) - 1) = 0 then 29 else 15, [some (.inr (480, 3, 6)), some (.inl k), some (.inl m)], [.inr (480, 3, 6)], σ)) (ps := [ck_rg (ck_in k 0 ((σ 480 1) - 1))]) rfl ⟨(co_inrg _ _ _), trivial⟩ ?_
  refine ck_go_f (by rw [co_in0]; omega) ?_
  refine ck_go_run 3 (X1 := (19, [some (.inr (480, 3, 6)), some (.inl k), some (.inl m)], [.inl 9, .inl 0, .inl m, .inr (480, 3, 6)], σ)) (ps := []) rfl trivial ?_
  refine ck_go_cal (rest := [.inr (480, 3, 6)]) (ck_cal_le (by decide) (cx_in (v := m) (f := 0) (t := 9) (by first | assumption | exact ck_rgo (by omega) (by omega)) (by exact ck_rgo (by omega) (by omega)) (by exact ck_rgo (by omega) (by omega)) _)) ⟨_, rfl, Or.inr ⟨_, rfl⟩, rfl, rfl, rfl, Nat.le_of_ble_eq_true rfl, fun h => absurd h (by decide)⟩ ?_
  rintro _ s' ⟨rfl, e'⟩
  rw [e']
  clear e' s'
  refine ck_go_run 1 (X1 := (if ck_in m 0 9 = 0 then 29 else 25, [some (.inr (480, 3, 6)), some (.inl k), some (.inl m)], [.inr (480, 3, 6)], σ)) (ps := [ck_rg (ck_in m 0 9)]) rfl ⟨(co_inrg _ _ _), trivial⟩ ?_
  refine ck_go_f (by rw [co_in0]; omega) ?_
  refine ck_go_run 2 (X1 := (30, [some (.inr (480, 3, 6)), some (.inl k), some (.inl m)], [.inl 1, .inr (480, 3, 6)], σ)) (ps := []) rfl trivial ?_
  refine ck_go_cal (rest := []) (ck_cal_le (by decide) (cx_refusesC (σ := σ) (h := 1) (by decide) hb rfl)) ⟨_, rfl, Or.inl ⟨_, rfl⟩, rfl, rfl, rfl, Nat.le_of_ble_eq_true rfl, fun _ => ⟨_, _, rfl⟩⟩ ?_
  rintro _ s1 ⟨rfl, e1⟩
  rw [e1]
  clear e1 s1
  refine ck_go_run 1 (X1 := (if 0 = 0 then 38 else 36, [some (.inr (480, 3, 6)), some (.inl k), some (.inl m)], [], ck_up σ 480 0 0)) (ps := [ck_rg 0]) rfl ⟨(ck_rgo (by omega) (by omega)), trivial⟩ ?_
  refine ck_go_t (by decide) ?_
  refine ck_go_run 10 (X1 := (52, [some (.inr (480, 3, 6)), some (.inl k), some (.inl m)], [.inl (σ 491 (((82 * k) + 20) + m))], ck_up σ 480 0 0)) (ps := [0 ≤ ((82 * k) + 20) + m ∧ ((82 * k) + 20) + m < ((5248 : Nat) : Int)]) rfl ⟨⟨by omega, by omega⟩, trivial⟩ ?_
  exact ck_eI ⟨rfl, rfl⟩ rfl rfl rfl
theorem cx_highestMA {k m r : Int} (hk : ck_rg k) (hm : ck_rg m) (hr : ck_rg r) {σ : ck_M} (hb : σ 480 19 = 0) (hn : 0 ≤ σ 480 1 ∧ σ 480 1 ≤ 64) : ck_cal 3 cm_Mo_highest [.inr (480, 3, 6), .inl k, .inl m, .inl r] σ (fun q σ' => q = some 0 ∧ σ' = ck_up σ 480 0 1) := by
  refine ck_cal_of ?_
  have rk := id hk
  unfold ck_rg at rk
  have rm := id hm
  unfold ck_rg at rm
  have rr := id hr
  unfold ck_rg at rr
  refine ck_go_run 7 (X1 := (9, [some (.inr (480, 3, 6)), some (.inl k), some (.inl m), some (.inl r)], [.inl ((σ 480 1) - 1), .inl 0, .inl k, .inr (480, 3, 6)], σ)) (ps := []) rfl trivial ?_
  refine ck_go_cal (rest := [.inr (480, 3, 6)]) (ck_cal_le (by decide) (cx_in (v := k) (f := 0) (t := (σ 480 1) - 1) (by first | assumption | exact ck_rgo (by omega) (by omega)) (by exact ck_rgo (by omega) (by omega)) (by exact ck_rgo (by omega) (by omega)) _)) ⟨_, rfl, Or.inr ⟨_, rfl⟩, rfl, rfl, rfl, Nat.le_of_ble_eq_true rfl, fun h => absurd h (by decide)⟩ ?_
  rintro _ s' ⟨rfl, e'⟩
  rw [e']
  clear e' s'
  refine ck_go_run 1 (X1 := (if ck_in k 0 ((σ 480 1) - 1) = 0 then 38 else 15, [some (.inr (480, 3, 6)), some (.inl k), some (.inl m), some (.inl r)], [.inr (480, 3, 6)], σ)) (ps := [ck_rg (ck_in k 0 ((σ 480 1) - 1))]) rfl ⟨(co_inrg _ _ _), trivial⟩ ?_
  refine ck_go_ite (fun h1 => ?_) (fun h1 => ?_)
  · refine ck_go_run 1 (X1 := (39, [some (.inr (480, 3, 6)), some (.inl k), some (.inl m), some (.inl r)], [.inl 0, .inr (480, 3, 6)], σ)) (ps := []) rfl trivial ?_
    refine ck_go_cal (rest := []) (ck_cal_le (by decide) (cx_refusesA (σ := σ) (h := 0) (by decide) hb)) ⟨_, rfl, Or.inl ⟨_, rfl⟩, rfl, rfl, rfl, Nat.le_of_ble_eq_true rfl, fun _ => ⟨_, _, rfl⟩⟩ ?_
    rintro _ s1 ⟨rfl, e1⟩
    rw [e1]
    clear e1 s1
    refine ck_go_run 1 (X1 := (if 1 = 0 then 47 else 45, [some (.inr (480, 3, 6)), some (.inl k), some (.inl m), some (.inl r)], [], ck_up σ 480 0 1)) (ps := [ck_rg 1]) rfl ⟨(ck_rgo (by omega) (by omega)), trivial⟩ ?_
    refine ck_go_f (by decide) ?_
    refine ck_go_run 1 (X1 := (46, [some (.inr (480, 3, 6)), some (.inl k), some (.inl m), some (.inl r)], [.inl 0], ck_up σ 480 0 1)) (ps := []) rfl trivial ?_
    exact ck_eI ⟨rfl, rfl⟩ rfl rfl rfl
  · refine ck_go_run 3 (X1 := (19, [some (.inr (480, 3, 6)), some (.inl k), some (.inl m), some (.inl r)], [.inl 9, .inl 0, .inl m, .inr (480, 3, 6)], σ)) (ps := []) rfl trivial ?_
    refine ck_go_cal (rest := [.inr (480, 3, 6)]) (ck_cal_le (by decide) (cx_in (v := m) (f := 0) (t := 9) (by first | assumption | exact ck_rgo (by omega) (by omega)) (by exact ck_rgo (by omega) (by omega)) (by exact ck_rgo (by omega) (by omega)) _)) ⟨_, rfl, Or.inr ⟨_, rfl⟩, rfl, rfl, rfl, Nat.le_of_ble_eq_true rfl, fun h => absurd h (by decide)⟩ ?_
    rintro _ s' ⟨rfl, e'⟩
    rw [e']
    clear e' s'
    refine ck_go_run 1 (X1 := (if ck_in m 0 9 = 0 then 38 else 25, [some (.inr (480, 3, 6)), some (.inl k), some (.inl m), some (.inl r)], [.inr (480, 3, 6)], σ)) (ps := [ck_rg (ck_in m 0 9)]) rfl ⟨(co_inrg _ _ _), trivial⟩ ?_
    refine ck_go_ite (fun h2 => ?_) (fun h2 => ?_)
    · refine ck_go_run 1 (X1 := (39, [some (.inr (480, 3, 6)), some (.inl k), some (.inl m), some (.inl r)], [.inl 0, .inr (480, 3, 6)], σ)) (ps := []) rfl trivial ?_
      refine ck_go_cal (rest := []) (ck_cal_le (by decide) (cx_refusesA (σ := σ) (h := 0) (by decide) hb)) ⟨_, rfl, Or.inl ⟨_, rfl⟩, rfl, rfl, rfl, Nat.le_of_ble_eq_true rfl, fun _ => ⟨_, _, rfl⟩⟩ ?_
      rintro _ s2 ⟨rfl, e2⟩
      rw [e2]
      clear e2 s2
      refine ck_go_run 1 (X1 := (if 1 = 0 then 47 else 45, [some (.inr (480, 3, 6)), some (.inl k), some (.inl m), some (.inl r)], [], ck_up σ 480 0 1)) (ps := [ck_rg 1]) rfl ⟨(ck_rgo (by omega) (by omega)), trivial⟩ ?_
      refine ck_go_f (by decide) ?_
      refine ck_go_run 1 (X1 := (46, [some (.inr (480, 3, 6)), some (.inl k), some (.inl m), some (.inl r)], [.inl 0], ck_up σ 480 0 1)) (ps := []) rfl trivial ?_
      exact ck_eI ⟨rfl, rfl⟩ rfl rfl rfl
    · refine ck_go_run 3 (X1 := (28, [some (.inr (480, 3, 6)), some (.inl k), some (.inl m), some (.inl r)], [.inl 3, .inl 0, .inl r, .inr (480, 3, 6)], σ)) (ps := []) rfl trivial ?_
      refine ck_go_cal (rest := [.inr (480, 3, 6)]) (ck_cal_le (by decide) (cx_in (v := r) (f := 0) (t := 3) (by first | assumption | exact ck_rgo (by omega) (by omega)) (by exact ck_rgo (by omega) (by omega)) (by exact ck_rgo (by omega) (by omega)) _)) ⟨_, rfl, Or.inr ⟨_, rfl⟩, rfl, rfl, rfl, Nat.le_of_ble_eq_true rfl, fun h => absurd h (by decide)⟩ ?_
      rintro _ s' ⟨rfl, e'⟩
      rw [e']
      clear e' s'
      refine ck_go_run 1 (X1 := (if ck_in r 0 3 = 0 then 38 else 34, [some (.inr (480, 3, 6)), some (.inl k), some (.inl m), some (.inl r)], [.inr (480, 3, 6)], σ)) (ps := [ck_rg (ck_in r 0 3)]) rfl ⟨(co_inrg _ _ _), trivial⟩ ?_
      refine ck_go_ite (fun h3 => ?_) (fun h3 => ?_)
      · refine ck_go_run 1 (X1 := (39, [some (.inr (480, 3, 6)), some (.inl k), some (.inl m), some (.inl r)], [.inl 0, .inr (480, 3, 6)], σ)) (ps := []) rfl trivial ?_
        refine ck_go_cal (rest := []) (ck_cal_le (by decide) (cx_refusesA (σ := σ) (h := 0) (by decide) hb)) ⟨_, rfl, Or.inl ⟨_, rfl⟩, rfl, rfl, rfl, Nat.le_of_ble_eq_true rfl, fun _ => ⟨_, _, rfl⟩⟩ ?_
        rintro _ s3 ⟨rfl, e3⟩
        rw [e3]
        clear e3 s3
        refine ck_go_run 1 (X1 := (if 1 = 0 then 47 else 45, [some (.inr (480, 3, 6)), some (.inl k), some (.inl m), some (.inl r)], [], ck_up σ 480 0 1)) (ps := [ck_rg 1]) rfl ⟨(ck_rgo (by omega) (by omega)), trivial⟩ ?_
        refine ck_go_f (by decide) ?_
        refine ck_go_run 1 (X1 := (46, [some (.inr (480, 3, 6)), some (.inl k), some (.inl m), some (.inl r)], [.inl 0], ck_up σ 480 0 1)) (ps := []) rfl trivial ?_
        exact ck_eI ⟨rfl, rfl⟩ rfl rfl rfl
      · refine ck_go_run 2 (X1 := (39, [some (.inr (480, 3, 6)), some (.inl k), some (.inl m), some (.inl r)], [.inl 1, .inr (480, 3, 6)], σ)) (ps := []) rfl trivial ?_
        refine ck_go_cal (rest := []) (ck_cal_le (by decide) (cx_refusesA (σ := σ) (h := 1) (by decide) hb)) ⟨_, rfl, Or.inl ⟨_, rfl⟩, rfl, rfl, rfl, Nat.le_of_ble_eq_true rfl, fun _ => ⟨_, _, rfl⟩⟩ ?_
        rintro _ s4 ⟨rfl, e4⟩
        rw [e4]
        clear e4 s4
        refine ck_go_run 1 (X1 := (if 1 = 0 then 47 else 45, [some (.inr (480, 3, 6)), some (.inl k), some (.inl m), some (.inl r)], [], ck_up σ 480 0 1)) (ps := [ck_rg 1]) rfl ⟨(ck_rgo (by omega) (by omega)), trivial⟩ ?_
        refine ck_go_f (by decide) ?_
        refine ck_go_run 1 (X1 := (46, [some (.inr (480, 3, 6)), some (.inl k), some (.inl m), some (.inl r)], [.inl 0], ck_up σ 480 0 1)) (ps := []) rfl trivial ?_
        exact ck_eI ⟨rfl, rfl⟩ rfl rfl rfl
theorem cx_highestMB {k m r : Int} (hk : ck_rg k) (hm : ck_rg m) (hr : ck_rg r) {σ : ck_M} (hb : σ 480 19 = 1) (hn : 0 ≤ σ 480 1 ∧ σ 480 1 ≤ 64) (hok : ¬ ((0 ≤ k ∧ k < σ 480 1) ∧ (0 ≤ m ∧ m < 10) ∧ 0 ≤ r ∧ r < 4)) : ck_cal 3 cm_Mo_highest [.inr (480, 3, 6), .inl k, .inl m, .inl r] σ (fun q σ' => q = some 0 ∧ σ' = ck_up σ 480 0 2) := by
  refine ck_cal_of ?_
  have rk := id hk
  unfold ck_rg at rk
  have rm := id hm
  unfold ck_rg at rm
  have rr := id hr
  unfold ck_rg at rr
  refine ck_go_run 7 (X1 := (9, [some (.inr (480, 3, 6)), some (.inl k), some (.inl m), some (.inl r)], [.inl ((σ 480 1) - 1), .inl 0, .inl k, .inr (480, 3, 6)], σ)) (ps := []) rfl trivial ?_
  refine ck_go_cal (rest := [.inr (480, 3, 6)]) (ck_cal_le (by decide) (cx_in (v := k) (f := 0) (t := (σ 480 1) - 1) (by first | assumption | exact ck_rgo (by omega) (by omega)) (by exact ck_rgo (by omega) (by omega)) (by exact ck_rgo (by omega) (by omega)) _)) ⟨_, rfl, Or.inr ⟨_, rfl⟩, rfl, rfl, rfl, Nat.le_of_ble_eq_true rfl, fun h => absurd h (by decide)⟩ ?_
  rintro _ s' ⟨rfl, e'⟩
  rw [e']
  clear e' s'
  refine ck_go_run 1 (X1 := (if ck_in k 0 ((σ 480 1) - 1) = 0 then 38 else 15, [some (.inr (480, 3, 6)), some (.inl k), some (.inl m), some (.inl r)], [.inr (480, 3, 6)], σ)) (ps := [ck_rg (ck_in k 0 ((σ 480 1) - 1))]) rfl ⟨(co_inrg _ _ _), trivial⟩ ?_
  refine ck_go_ite (fun h1 => ?_) (fun h1 => ?_)
  · refine ck_go_run 1 (X1 := (39, [some (.inr (480, 3, 6)), some (.inl k), some (.inl m), some (.inl r)], [.inl 0, .inr (480, 3, 6)], σ)) (ps := []) rfl trivial ?_
    refine ck_go_cal (rest := []) (ck_cal_le (by decide) (cx_refusesB (σ := σ) (h := 0) (by decide) hb rfl)) ⟨_, rfl, Or.inl ⟨_, rfl⟩, rfl, rfl, rfl, Nat.le_of_ble_eq_true rfl, fun _ => ⟨_, _, rfl⟩⟩ ?_
    rintro _ s1 ⟨rfl, e1⟩
    rw [e1]
    clear e1 s1
    refine ck_go_run 1 (X1 := (if 1 = 0 then 47 else 45, [some (.inr (480, 3, 6)), some (.inl k), some (.inl m), some (.inl r)], [], ck_up σ 480 0 2)) (ps := [ck_rg 1]) rfl ⟨(ck_rgo (by omega) (by omega)), trivial⟩ ?_
    refine ck_go_f (by decide) ?_
    refine ck_go_run 1 (X1 := (46, [some (.inr (480, 3, 6)), some (.inl k), some (.inl m), some (.inl r)], [.inl 0], ck_up σ 480 0 2)) (ps := []) rfl trivial ?_
    exact ck_eI ⟨rfl, rfl⟩ rfl rfl rfl
  · refine ck_go_run 3 (X1 := (19, [some (.inr (480, 3, 6)), some (.inl k), some (.inl m), some (.inl r)], [.inl 9, .inl 0, .inl m, .inr (480, 3, 6)], σ)) (ps := []) rfl trivial ?_
    refine ck_go_cal (rest := [.inr (480, 3, 6)]) (ck_cal_le (by decide) (cx_in (v := m) (f := 0) (t := 9) (by first | assumption | exact ck_rgo (by omega) (by omega)) (by exact ck_rgo (by omega) (by omega)) (by exact ck_rgo (by omega) (by omega)) _)) ⟨_, rfl, Or.inr ⟨_, rfl⟩, rfl, rfl, rfl, Nat.le_of_ble_eq_true rfl, fun h => absurd h (by decide)⟩ ?_
    rintro _ s' ⟨rfl, e'⟩
    rw [e']
    clear e' s'
    refine ck_go_run 1 (X1 := (if ck_in m 0 9 = 0 then 38 else 25, [some (.inr (480, 3, 6)), some (.inl k), some (.inl m), some (.inl r)], [.inr (480, 3, 6)], σ)) (ps := [ck_rg (ck_in m 0 9)]) rfl ⟨(co_inrg _ _ _), trivial⟩ ?_
    refine ck_go_ite (fun h2 => ?_) (fun h2 => ?_)
    · refine ck_go_run 1 (X1 := (39, [some (.inr (480, 3, 6)), some (.inl k), some (.inl m), some (.inl r)], [.inl 0, .inr (480, 3, 6)], σ)) (ps := []) rfl trivial ?_
      refine ck_go_cal (rest := []) (ck_cal_le (by decide) (cx_refusesB (σ := σ) (h := 0) (by decide) hb rfl)) ⟨_, rfl, Or.inl ⟨_, rfl⟩, rfl, rfl, rfl, Nat.le_of_ble_eq_true rfl, fun _ => ⟨_, _, rfl⟩⟩ ?_
      rintro _ s2 ⟨rfl, e2⟩
      rw [e2]
      clear e2 s2
      refine ck_go_run 1 (X1 := (if 1 = 0 then 47 else 45, [some (.inr (480, 3, 6)), some (.inl k), some (.inl m), some (.inl r)], [], ck_up σ 480 0 2)) (ps := [ck_rg 1]) rfl ⟨(ck_rgo (by omega) (by omega)), trivial⟩ ?_
      refine ck_go_f (by decide) ?_
      refine ck_go_run 1 (X1 := (46, [some (.inr (480, 3, 6)), some (.inl k), some (.inl m), some (.inl r)], [.inl 0], ck_up σ 480 0 2)) (ps := []) rfl trivial ?_
      exact ck_eI ⟨rfl, rfl⟩ rfl rfl rfl
    · refine ck_go_run 3 (X1 := (28, [some (.inr (480, 3, 6)), some (.inl k), some (.inl m), some (.inl r)], [.inl 3, .inl 0, .inl r, .inr (480, 3, 6)], σ)) (ps := []) rfl trivial ?_
      refine ck_go_cal (rest := [.inr (480, 3, 6)]) (ck_cal_le (by decide) (cx_in (v := r) (f := 0) (t := 3) (by first | assumption | exact ck_rgo (by omega) (by omega)) (by exact ck_rgo (by omega) (by omega)) (by exact ck_rgo (by omega) (by omega)) _)) ⟨_, rfl, Or.inr ⟨_, rfl⟩, rfl, rfl, rfl, Nat.le_of_ble_eq_true rfl, fun h => absurd h (by decide)⟩ ?_
      rintro _ s' ⟨rfl, e'⟩
      rw [e']
      clear e' s'
      refine ck_go_run 1 (X1 := (if ck_in r 0 3 = 0 then 38 else 34, [some (.inr (480, 3, 6)), some (.inl k), some (.inl m), some (.inl r)], [.inr (480, 3, 6)], σ)) (ps := [ck_rg (ck_in r 0 3)]) rfl ⟨(co_inrg _ _ _), trivial⟩ ?_
      refine ck_go_ite (fun h3 => ?_) (fun h3 => ?_)
      · refine ck_go_run 1 (X1 := (39, [some (.inr (480, 3, 6)), some (.inl k), some (.inl m), some (.inl r)], [.inl 0, .inr (480, 3, 6)], σ)) (ps := []) rfl trivial ?_
        refine ck_go_cal (rest := []) (ck_cal_le (by decide) (cx_refusesB (σ := σ) (h := 0) (by decide) hb rfl)) ⟨_, rfl, Or.inl ⟨_, rfl⟩, rfl, rfl, rfl, Nat.le_of_ble_eq_true rfl, fun _ => ⟨_, _, rfl⟩⟩ ?_
        rintro _ s3 ⟨rfl, e3⟩
        rw [e3]
        clear e3 s3
        refine ck_go_run 1 (X1 := (if 1 = 0 then 47 else 45, [some (.inr (480, 3, 6)), some (.inl k), some (.inl m), some (.inl r)], [], ck_up σ 480 0 2)) (ps := [ck_rg 1]) rfl ⟨(ck_rgo (by omega) (by omega)), trivial⟩ ?_
        refine ck_go_f (by decide) ?_
        refine ck_go_run 1 (X1 := (46, [some (.inr (480, 3, 6)), some (.inl k), some (.inl m), some (.inl r)], [.inl 0], ck_up σ 480 0 2)) (ps := []) rfl trivial ?_
        exact ck_eI ⟨rfl, rfl⟩ rfl rfl rfl
      · exfalso
        simp only [co_in0] at *
        omega
theorem cx_highestMC {k m r : Int} (hk : ck_rg k) (hm : ck_rg m) (hr : ck_rg r) {σ : ck_M} (hb : σ 480 19 = 1) (hn : 0 ≤ σ 480 1 ∧ σ 480 1 ≤ 64) (hok : (0 ≤ k ∧ k < σ 480 1) ∧ (0 ≤ m ∧ m < 10) ∧ 0 ≤ r ∧ r < 4) : ck_cal 3 cm_Mo_highest [.inr (480, 3, 6), .inl k, .inl m, .inl r] σ (fun q σ' => q = some (σ 491 (82 * k + 42 + 4 * m + r)) ∧ σ' = ck_up σ 480 0 0) := by
  refine ck_cal_of ?_
  have rk := id hk
  unfold ck_rg at rk
  have rm := id hm
  unfold ck_rg at rm
  have rr := id hr
  unfold ck_rg at rr
  refine ck_go_run 7 (X1 := (9, [some (.inr (480, 3, 6)), some (.inl k), some (.inl m), some (.inl r)], [.inl ((σ 480 1) - 1), .inl 0, .inl k, .inr (480, 3, 6)], σ)) (ps := []) rfl trivial ?_
  refine ck_go_cal (rest := [.inr (480, 3, 6)]) (ck_cal_le (by decide) (cx_in (v := k) (f := 0) (t := (σ 480 1) - 1) (by first | assumption | exact ck_rgo (by omega) (by omega)) (by exact ck_rgo (by omega) (by omega)) (by exact ck_rgo (by omega) (by omega)) _)) ⟨_, rfl, Or.inr ⟨_, rfl⟩, rfl, rfl, rfl, Nat.le_of_ble_eq_true rfl, fun h => absurd h (by decide)⟩ ?_
  rintro _ s' ⟨rfl, e'⟩
  rw [e']
  clear e' s'
  refine ck_go_run 1 (X1 := (if ck_in k 0 ((σ 480 1) - 1) = 0 then 38 else 15, [some (.inr (480, 3, 6)), some (.inl k), some (.inl m), some (.inl r)], [.inr (480, 3, 6)], σ)) (ps := [ck_rg (ck_in k 0 ((σ 480 1) - 1))]) rfl ⟨(co_inrg _ _ _), trivial⟩ ?_
  refine ck_go_f (by rw [co_in0]; omega) ?_
  refine ck_go_run 3 (X1 := (19, [some (.inr (480, 3, 6)), some (.inl k), some (.inl m), some (.inl r)], [.inl 9, .inl 0, .inl m, .inr (480, 3, 6)], σ)) (ps := []) rfl trivial ?_
  refine ck_go_cal (rest := [.inr (480, 3, 6)]) (ck_cal_le (by decide) (cx_in (v := m) (f := 0) (t := 9) (by first | assumption | exact ck_rgo (by omega) (by omega)) (by exact ck_rgo (by omega) (by omega)) (by exact ck_rgo (by omega) (by omega)) _)) ⟨_, rfl, Or.inr ⟨_, rfl⟩, rfl, rfl, rfl, Nat.le_of_ble_eq_true rfl, fun h => absurd h (by decide)⟩ ?_
  rintro _ s' ⟨rfl, e'⟩
  rw [e']
  clear e' s'
  refine ck_go_run 1 (X1 := (if ck_in m 0 9 = 0 then 38 else 25, [some (.inr (480, 3, 6)), some (.inl k), some (.inl m), some (.inl r)], [.inr (480, 3, 6)], σ)) (ps := [ck_rg (ck_in m 0 9)]) rfl ⟨(co_inrg _ _ _), trivial⟩ ?_
  refine ck_go_f (by rw [co_in0]; omega) ?_
  refine ck_go_run 3 (X1 := (28, [some (.inr (480, 3, 6)), some (.inl k), some (.inl m), some (.inl r)], [.inl 3, .inl 0, .inl r, .inr (480, 3, 6)], σ)) (ps := []) rfl trivial ?_
  refine ck_go_cal (rest := [.inr (480, 3, 6)]) (ck_cal_le (by decide) (cx_in (v := r) (f := 0) (t := 3) (by first | assumption | exact ck_rgo (by omega) (by omega)) (by exact ck_rgo (by omega) (by omega)) (by exact ck_rgo (by omega) (by omega)) _)) ⟨_, rfl, Or.inr ⟨_, rfl⟩, rfl, rfl, rfl, Nat.le_of_ble_eq_true rfl, fun h => absurd h (by decide)⟩ ?_
  rintro _ s' ⟨rfl, e'⟩
  rw [e']
  clear e' s'
  refine ck_go_run 1 (X1 := (if ck_in r 0 3 = 0 then 38 else 34, [some (.inr (480, 3, 6)), some (.inl k), some (.inl m), some (.inl r)], [.inr (480, 3, 6)], σ)) (ps := [ck_rg (ck_in r 0 3)]) rfl ⟨(co_inrg _ _ _), trivial⟩ ?_
  refine ck_go_f (by rw [co_in0]; omega) ?_
  refine ck_go_run 2 (X1 := (39, [some (.inr (480, 3, 6)), some (.inl k), some (.inl m), some (.inl r)], [.inl 1, .inr (480, 3, 6)], σ)) (ps := []) rfl trivial ?_
  refine ck_go_cal (rest := []) (ck_cal_le (by decide) (cx_refusesC (σ := σ) (h := 1) (by decide) hb rfl)) ⟨_, rfl, Or.inl ⟨_, rfl⟩, rfl, rfl, rfl, Nat.le_of_ble_eq_true rfl, fun _ => ⟨_, _, rfl⟩⟩ ?_
  rintro _ s1 ⟨rfl, e1⟩
  rw [e1]
  clear e1 s1
  refine ck_go_run 1 (X1 := (if 0 = 0 then 47 else 45, [some (.inr (480, 3, 6)), some (.inl k), some (.inl m), some (.inl r)], [], ck_up σ 480 0 0)) (ps := [ck_rg 0]) rfl ⟨(ck_rgo (by omega) (by omega)), trivial⟩ ?_
  refine ck_go_t (by decide) ?_
  refine ck_go_run 14 (X1 := (65, [some (.inr (480, 3, 6)), some (.inl k), some (.inl m), some (.inl r)], [.inl (σ 491 ((((82 * k) + 42) + (4 * m)) + r))], ck_up σ 480 0 0)) (ps := [0 ≤ (((82 * k) + 42) + (4 * m)) + r ∧ (((82 * k) + 42) + (4 * m)) + r < ((5248 : Nat) : Int)]) rfl ⟨⟨by omega, by omega⟩, trivial⟩ ?_
  exact ck_eI ⟨rfl, rfl⟩ rfl rfl rfl
theorem cx_outputM {k : Int} (hk : ck_rg k) {σ : ck_M} (hb : σ 480 19 = 0 ∨ σ 480 19 = 1) (h : σ 480 19 = 1 → 0 ≤ σ 480 25 ∧ σ 480 25 ≤ 1000000000) : ck_cal 2 cm_Mo_output [.inr (480, 3, 6), .inl k] σ (fun q σ' => q = some (if σ 480 19 = 1 ∧ 0 ≤ k ∧ k < 16 ∧ k < σ 480 25 then σ 500 ((σ 480 25 - 1 - k) % 16) else 1000000000) ∧ σ' = ck_up σ 480 0 0) := by
  refine ck_cal_of ?_
  unfold ck_rg at hk
  refine ck_go_run 6 (X1 := (if σ 480 19 = 0 then 30 else 12, [some (.inr (480, 3, 6)), some (.inl k)], [], ck_up σ 480 0 0)) (ps := [ck_rg (σ 480 19)]) rfl ⟨(ck_rgo (by omega) (by omega)), trivial⟩ ?_
  refine ck_go_ite (fun h1 => ?_) (fun h1 => ?_)
  · refine ck_go_run 2 (X1 := (51, [some (.inr (480, 3, 6)), some (.inl k)], [.inl 1000000000], ck_up σ 480 0 0)) (ps := []) rfl trivial ?_
    refine ck_eI ⟨?_, rfl⟩ rfl rfl rfl
    rw [if_neg (by omega)]
  · have h := h (by omega)
    refine ck_go_run 2 (X1 := (if k < 0 then 30 else 16, [some (.inr (480, 3, 6)), some (.inl k)], [], ck_up σ 480 0 0)) (ps := [ck_rg k]) rfl ⟨(ck_rgo (by omega) (by omega)), trivial⟩ ?_
    refine ck_go_ite (fun h2 => ?_) (fun h2 => ?_)
    · refine ck_go_run 2 (X1 := (51, [some (.inr (480, 3, 6)), some (.inl k)], [.inl 1000000000], ck_up σ 480 0 0)) (ps := []) rfl trivial ?_
      refine ck_eI ⟨?_, rfl⟩ rfl rfl rfl
      rw [if_neg (by omega)]
    · refine ck_go_run 3 (X1 := (if 15 < k then 30 else 22, [some (.inr (480, 3, 6)), some (.inl k)], [], ck_up σ 480 0 0)) (ps := [ck_rg k, ck_rg 15]) rfl ⟨(ck_rgo (by omega) (by omega)), (ck_rgo (by omega) (by omega)), trivial⟩ ?_
      refine ck_go_ite (fun h3 => ?_) (fun h3 => ?_)
      · refine ck_go_run 2 (X1 := (51, [some (.inr (480, 3, 6)), some (.inl k)], [.inl 1000000000], ck_up σ 480 0 0)) (ps := []) rfl trivial ?_
        refine ck_eI ⟨?_, rfl⟩ rfl rfl rfl
        rw [if_neg (by omega)]
      · refine ck_go_run 4 (X1 := (if k < σ 480 25 then 35 else 30, [some (.inr (480, 3, 6)), some (.inl k)], [], ck_up σ 480 0 0)) (ps := [ck_rg k, ck_rg (σ 480 25)]) rfl ⟨(ck_rgo (by omega) (by omega)), (ck_rgo (by omega) (by omega)), trivial⟩ ?_
        refine ck_go_ite (fun h4 => ?_) (fun h4 => ?_)
        · have er : ck_rem (σ 480 25 - 1 - k) 16 = (σ 480 25 - 1 - k) % 16 := co_rem (by omega) (by decide)
          refine ck_go_run 11 (X1 := (51, [some (.inr (480, 3, 6)), some (.inl k)], [.inl (σ 500 (ck_rem (((σ 480 25) - 1) - k) 16))], ck_up σ 480 0 0)) (ps := [ck_rg 16 ∧ 16 ≠ 0, 0 ≤ ck_rem (((σ 480 25) - 1) - k) 16 ∧ ck_rem (((σ 480 25) - 1) - k) 16 < ((16 : Nat) : Int)]) rfl ⟨⟨ck_rgo (by omega) (by omega), by omega⟩, ⟨by omega, by omega⟩, trivial⟩ ?_
          refine ck_eI ⟨?_, rfl⟩ rfl rfl rfl
          rw [if_pos (by omega), er]
        · refine ck_go_run 2 (X1 := (51, [some (.inr (480, 3, 6)), some (.inl k)], [.inl 1000000000], ck_up σ 480 0 0)) (ps := []) rfl trivial ?_
          refine ck_eI ⟨?_, rfl⟩ rfl rfl rfl
          rw [if_neg (by omega)]
theorem cx_numberM {m : Int} (hm : ck_rg m) {σ : ck_M} (hb : σ 480 19 = 0 ∨ σ 480 19 = 1) : ck_cal 2 cm_Mo_number [.inr (480, 3, 6), .inl m] σ (fun q σ' => q = some (if σ 480 19 = 1 ∧ 0 ≤ m ∧ m < 10 then σ 496 m else 1000000000) ∧ σ' = ck_up σ 480 0 0) := by
  refine ck_cal_of ?_
  refine ck_go_run 6 (X1 := (if σ 480 19 = 0 then 22 else 12, [some (.inr (480, 3, 6)), some (.inl m)], [], ck_up σ 480 0 0)) (ps := [ck_rg (σ 480 19)]) rfl ⟨(ck_rgo (by omega) (by omega)), trivial⟩ ?_
  refine ck_go_ite (fun h1 => ?_) (fun h1 => ?_)
  · refine ck_go_run 2 (X1 := (33, [some (.inr (480, 3, 6)), some (.inl m)], [.inl 1000000000], ck_up σ 480 0 0)) (ps := []) rfl trivial ?_
    refine ck_eI ⟨?_, rfl⟩ rfl rfl rfl
    try simp only [co_in0] at *
    rw [if_neg (by omega)]
  · refine ck_go_run 3 (X1 := (16, [some (.inr (480, 3, 6)), some (.inl m)], [.inl 9, .inl 0, .inl m], ck_up σ 480 0 0)) (ps := []) rfl trivial ?_
    refine ck_go_cal (rest := []) (ck_cal_le (by decide) (cx_in (v := m) (f := 0) (t := 9) (by first | assumption | exact ck_rgo (by omega) (by omega)) (by exact ck_rgo (by omega) (by omega)) (by exact ck_rgo (by omega) (by omega)) _)) ⟨_, rfl, Or.inr ⟨_, rfl⟩, rfl, rfl, rfl, Nat.le_of_ble_eq_true rfl, fun h => absurd h (by decide)⟩ ?_
    rintro _ s' ⟨rfl, e'⟩
    rw [e']
    clear e' s'
    refine ck_go_run 1 (X1 := (if ck_in m 0 9 = 0 then 22 else 27, [some (.inr (480, 3, 6)), some (.inl m)], [], ck_up σ 480 0 0)) (ps := [ck_rg (ck_in m 0 9)]) rfl ⟨(co_inrg _ _ _), trivial⟩ ?_
    refine ck_go_ite (fun h2 => ?_) (fun h2 => ?_)
    · refine ck_go_run 2 (X1 := (33, [some (.inr (480, 3, 6)), some (.inl m)], [.inl 1000000000], ck_up σ 480 0 0)) (ps := []) rfl trivial ?_
      refine ck_eI ⟨?_, rfl⟩ rfl rfl rfl
      try simp only [co_in0] at *
      rw [if_neg (by omega)]
    · simp only [co_in0] at *
      refine ck_go_run 4 (X1 := (33, [some (.inr (480, 3, 6)), some (.inl m)], [.inl (σ 496 m)], ck_up σ 480 0 0)) (ps := [0 ≤ m ∧ m < ((10 : Nat) : Int)]) rfl ⟨⟨by omega, by omega⟩, trivial⟩ ?_
      refine ck_eI ⟨?_, rfl⟩ rfl rfl rfl
      try simp only [co_in0] at *
      rw [if_pos (by omega)]
theorem cx_lengthM {r : Int} (hr : ck_rg r) {σ : ck_M} (hb : σ 480 19 = 0 ∨ σ 480 19 = 1) (hA : σ 480 19 = 1 → ∀ r, 0 ≤ r → r < 4 → σ 497 r = -1 ∨ (0 ≤ σ 497 r ∧ σ 497 r < 40)) : ck_cal 2 cm_Mo_length [.inr (480, 3, 6), .inl r] σ (fun q σ' => q = some (if σ 480 19 = 1 ∧ (0 ≤ r ∧ r < 4) ∧ σ 497 r ≠ -1 then σ 498 (σ 497 r) else -1) ∧ σ' = ck_up σ 480 0 0) := by
  refine ck_cal_of ?_
  refine ck_go_run 6 (X1 := (if σ 480 19 = 0 then 31 else 12, [some (.inr (480, 3, 6)), some (.inl r)], [], ck_up σ 480 0 0)) (ps := [ck_rg (σ 480 19)]) rfl ⟨(ck_rgo (by omega) (by omega)), trivial⟩ ?_
  refine ck_go_ite (fun h1 => ?_) (fun h1 => ?_)
  · refine ck_go_run 2 (X1 := (46, [some (.inr (480, 3, 6)), some (.inl r)], [.inl ((-1))], ck_up σ 480 0 0)) (ps := []) rfl trivial ?_
    refine ck_eI ⟨?_, rfl⟩ rfl rfl rfl
    try simp only [co_in0] at *
    rw [if_neg (by omega)]
  · refine ck_go_run 3 (X1 := (15, [some (.inr (480, 3, 6)), some (.inl r)], [.inl 3, .inl 0, .inl r], ck_up σ 480 0 0)) (ps := []) rfl trivial ?_
    refine ck_go_cal (rest := []) (ck_cal_le (by decide) (cx_in (v := r) (f := 0) (t := 3) (by first | assumption | exact ck_rgo (by omega) (by omega)) (by exact ck_rgo (by omega) (by omega)) (by exact ck_rgo (by omega) (by omega)) _)) ⟨_, rfl, Or.inr ⟨_, rfl⟩, rfl, rfl, rfl, Nat.le_of_ble_eq_true rfl, fun h => absurd h (by decide)⟩ ?_
    rintro _ s' ⟨rfl, e'⟩
    rw [e']
    clear e' s'
    refine ck_go_run 1 (X1 := (if ck_in r 0 3 = 0 then 31 else 21, [some (.inr (480, 3, 6)), some (.inl r)], [], ck_up σ 480 0 0)) (ps := [ck_rg (ck_in r 0 3)]) rfl ⟨(co_inrg _ _ _), trivial⟩ ?_
    refine ck_go_ite (fun h2 => ?_) (fun h2 => ?_)
    · refine ck_go_run 2 (X1 := (46, [some (.inr (480, 3, 6)), some (.inl r)], [.inl ((-1))], ck_up σ 480 0 0)) (ps := []) rfl trivial ?_
      refine ck_eI ⟨?_, rfl⟩ rfl rfl rfl
      try simp only [co_in0] at *
      rw [if_neg (by omega)]
    · simp only [co_in0] at *
      have hA1 := hA (by omega) r (by omega) (by omega)
      refine ck_go_run 6 (X1 := (if σ 497 r = (-1) then 31 else 35, [some (.inr (480, 3, 6)), some (.inl r)], [], ck_up σ 480 0 0)) (ps := [0 ≤ r ∧ r < ((4 : Nat) : Int), ck_rg (σ 497 r), ck_rg ((-1))]) rfl ⟨⟨by omega, by omega⟩, (ck_rgo (by omega) (by omega)), (ck_rgo (by omega) (by omega)), trivial⟩ ?_
      refine ck_go_ite (fun h3 => ?_) (fun h3 => ?_)
      · refine ck_go_run 2 (X1 := (46, [some (.inr (480, 3, 6)), some (.inl r)], [.inl ((-1))], ck_up σ 480 0 0)) (ps := []) rfl trivial ?_
        refine ck_eI ⟨?_, rfl⟩ rfl rfl rfl
        try simp only [co_in0] at *
        rw [if_neg (by omega)]
      · refine ck_go_run 7 (X1 := (46, [some (.inr (480, 3, 6)), some (.inl r)], [.inl (σ 498 (σ 497 r))], ck_up σ 480 0 0)) (ps := [0 ≤ r ∧ r < ((4 : Nat) : Int), 0 ≤ σ 497 r ∧ σ 497 r < ((40 : Nat) : Int)]) rfl ⟨⟨by omega, by omega⟩, ⟨by omega, by omega⟩, trivial⟩ ?_
        refine ck_eI ⟨?_, rfl⟩ rfl rfl rfl
        try simp only [co_in0] at *
        rw [if_pos (by omega)]
theorem cx_placeM {r j : Int} (hr : ck_rg r) (hj : ck_rg j) {σ : ck_M} (hb : σ 480 19 = 0 ∨ σ 480 19 = 1) (hA : σ 480 19 = 1 → ∀ r, 0 ≤ r → r < 4 → σ 497 r = -1 ∨ (0 ≤ σ 497 r ∧ σ 497 r < 40)) (hL : σ 480 19 = 1 → ∀ r, 0 ≤ r → r < 4 → σ 497 r ≠ -1 → 0 ≤ σ 498 (σ 497 r) ∧ σ 498 (σ 497 r) ≤ 40) : ck_cal 2 cm_Mo_place [.inr (480, 3, 6), .inl r, .inl j] σ (fun q σ' => q = some (if σ 480 19 = 1 ∧ (0 ≤ r ∧ r < 4) ∧ σ 497 r ≠ -1 ∧ 0 ≤ j ∧ j < σ 498 (σ 497 r) then σ 499 (40 * σ 497 r + j) else 1000000000) ∧ σ' = ck_up σ 480 0 0) := by
  refine ck_cal_of ?_
  have rj := id hj
  unfold ck_rg at rj
  refine ck_go_run 6 (X1 := (if σ 480 19 = 0 then 52 else 12, [some (.inr (480, 3, 6)), some (.inl r), some (.inl j)], [], ck_up σ 480 0 0)) (ps := [ck_rg (σ 480 19)]) rfl ⟨(ck_rgo (by omega) (by omega)), trivial⟩ ?_
  refine ck_go_ite (fun h1 => ?_) (fun h1 => ?_)
  · refine ck_go_run 2 (X1 := (73, [some (.inr (480, 3, 6)), some (.inl r), some (.inl j)], [.inl 1000000000], ck_up σ 480 0 0)) (ps := []) rfl trivial ?_
    refine ck_eI ⟨?_, rfl⟩ rfl rfl rfl
    try simp only [co_in0] at *
    rw [if_neg (by omega)]
  · refine ck_go_run 3 (X1 := (15, [some (.inr (480, 3, 6)), some (.inl r), some (.inl j)], [.inl 3, .inl 0, .inl r], ck_up σ 480 0 0)) (ps := []) rfl trivial ?_
    refine ck_go_cal (rest := []) (ck_cal_le (by decide) (cx_in (v := r) (f := 0) (t := 3) (by first | assumption | exact ck_rgo (by omega) (by omega)) (by exact ck_rgo (by omega) (by omega)) (by exact ck_rgo (by omega) (by omega)) _)) ⟨_, rfl, Or.inr ⟨_, rfl⟩, rfl, rfl, rfl, Nat.le_of_ble_eq_true rfl, fun h => absurd h (by decide)⟩ ?_
    rintro _ s' ⟨rfl, e'⟩
    rw [e']
    clear e' s'
    refine ck_go_run 1 (X1 := (if ck_in r 0 3 = 0 then 52 else 21, [some (.inr (480, 3, 6)), some (.inl r), some (.inl j)], [], ck_up σ 480 0 0)) (ps := [ck_rg (ck_in r 0 3)]) rfl ⟨(co_inrg _ _ _), trivial⟩ ?_
    refine ck_go_ite (fun h2 => ?_) (fun h2 => ?_)
    · refine ck_go_run 2 (X1 := (73, [some (.inr (480, 3, 6)), some (.inl r), some (.inl j)], [.inl 1000000000], ck_up σ 480 0 0)) (ps := []) rfl trivial ?_
      refine ck_eI ⟨?_, rfl⟩ rfl rfl rfl
      try simp only [co_in0] at *
      rw [if_neg (by omega)]
    · simp only [co_in0] at *
      have hA1 := hA (by omega) r (by omega) (by omega)
      refine ck_go_run 6 (X1 := (if σ 497 r = (-1) then 52 else 31, [some (.inr (480, 3, 6)), some (.inl r), some (.inl j)], [], ck_up σ 480 0 0)) (ps := [0 ≤ r ∧ r < ((4 : Nat) : Int), ck_rg (σ 497 r), ck_rg ((-1))]) rfl ⟨⟨by omega, by omega⟩, (ck_rgo (by omega) (by omega)), (ck_rgo (by omega) (by omega)), trivial⟩ ?_
      refine ck_go_ite (fun h3 => ?_) (fun h3 => ?_)
      · refine ck_go_run 2 (X1 := (73, [some (.inr (480, 3, 6)), some (.inl r), some (.inl j)], [.inl 1000000000], ck_up σ 480 0 0)) (ps := []) rfl trivial ?_
        refine ck_eI ⟨?_, rfl⟩ rfl rfl rfl
        try simp only [co_in0] at *
        rw [if_neg (by omega)]
      · have hL1 := hL (by omega) r (by omega) (by omega) (by omega)
        refine ck_go_run 11 (X1 := (46, [some (.inr (480, 3, 6)), some (.inl r), some (.inl j)], [.inl ((σ 498 (σ 497 r)) - 1), .inl 0, .inl j], ck_up σ 480 0 0)) (ps := [0 ≤ r ∧ r < ((4 : Nat) : Int), 0 ≤ σ 497 r ∧ σ 497 r < ((40 : Nat) : Int)]) rfl ⟨⟨by omega, by omega⟩, ⟨by omega, by omega⟩, trivial⟩ ?_
        refine ck_go_cal (rest := []) (ck_cal_le (by decide) (cx_in (v := j) (f := 0) (t := (σ 498 (σ 497 r)) - 1) (by first | assumption | exact ck_rgo (by omega) (by omega)) (by exact ck_rgo (by omega) (by omega)) (by exact ck_rgo (by omega) (by omega)) _)) ⟨_, rfl, Or.inr ⟨_, rfl⟩, rfl, rfl, rfl, Nat.le_of_ble_eq_true rfl, fun h => absurd h (by decide)⟩ ?_
        rintro _ s' ⟨rfl, e'⟩
        rw [e']
        clear e' s'
        refine ck_go_run 1 (X1 := (if ck_in j 0 ((σ 498 (σ 497 r)) - 1) = 0 then 52 else 57, [some (.inr (480, 3, 6)), some (.inl r), some (.inl j)], [], ck_up σ 480 0 0)) (ps := [ck_rg (ck_in j 0 ((σ 498 (σ 497 r)) - 1))]) rfl ⟨(co_inrg _ _ _), trivial⟩ ?_
        refine ck_go_ite (fun h4 => ?_) (fun h4 => ?_)
        · refine ck_go_run 2 (X1 := (73, [some (.inr (480, 3, 6)), some (.inl r), some (.inl j)], [.inl 1000000000], ck_up σ 480 0 0)) (ps := []) rfl trivial ?_
          refine ck_eI ⟨?_, rfl⟩ rfl rfl rfl
          try simp only [co_in0] at *
          rw [if_neg (by omega)]
        · simp only [co_in0] at *
          refine ck_go_run 11 (X1 := (73, [some (.inr (480, 3, 6)), some (.inl r), some (.inl j)], [.inl (σ 499 ((40 * (σ 497 r)) + j))], ck_up σ 480 0 0)) (ps := [0 ≤ r ∧ r < ((4 : Nat) : Int), 0 ≤ (40 * (σ 497 r)) + j ∧ (40 * (σ 497 r)) + j < ((1600 : Nat) : Int)]) rfl ⟨⟨by omega, by omega⟩, ⟨by omega, by omega⟩, trivial⟩ ?_
          refine ck_eI ⟨?_, rfl⟩ rfl rfl rfl
          try simp only [co_in0] at *
          rw [if_pos (by omega)]
theorem cx_stateM0_0 {σ : ck_M} (hb : σ 480 19 = 0) : ck_cal 1 cm_Mo_state [.inr (480, 3, 6), .inl 0] σ (fun q σ' => q = some (-1) ∧ σ' = ck_up σ 480 0 0) := by
  refine ck_cal_of ?_
  refine ck_go_run 6 (X1 := (if σ 480 19 = 0 then 12 else 14, [some (.inr (480, 3, 6)), some (.inl 0)], [], ck_up σ 480 0 0)) (ps := [ck_rg (σ 480 19)]) rfl ⟨(ck_rgo (by omega) (by omega)), trivial⟩ ?_
  refine ck_go_t (by omega) ?_
  refine ck_go_run 1 (X1 := (13, [some (.inr (480, 3, 6)), some (.inl 0)], [.inl ((-1))], ck_up σ 480 0 0)) (ps := []) rfl trivial ?_
  exact ck_eI ⟨rfl, rfl⟩ rfl rfl rfl
theorem cx_stateM0_1 {σ : ck_M} (hb : σ 480 19 = 1) : ck_cal 1 cm_Mo_state [.inr (480, 3, 6), .inl 0] σ (fun q σ' => q = some (σ 480 20) ∧ σ' = ck_up σ 480 0 0) := by
  refine ck_cal_of ?_
  refine ck_go_run 6 (X1 := (if σ 480 19 = 0 then 12 else 14, [some (.inr (480, 3, 6)), some (.inl 0)], [], ck_up σ 480 0 0)) (ps := [ck_rg (σ 480 19)]) rfl ⟨(ck_rgo (by omega) (by omega)), trivial⟩ ?_
  refine ck_go_f (by omega) ?_
  refine ck_go_run 2 (X1 := (ck_sw 0 0 91 [56, 61, 66, 71, 76, 81, 86], [some (.inr (480, 3, 6)), some (.inl 0)], [], ck_up σ 480 0 0)) (ps := [ck_rg 0]) rfl ⟨(ck_rgo (by omega) (by omega)), trivial⟩ ?_
  refine ck_go_pc (q := 56) rfl ?_
  refine ck_go_run 2 (X1 := (60, [some (.inr (480, 3, 6)), some (.inl 0)], [.inl (σ 480 20)], ck_up σ 480 0 0)) (ps := []) rfl trivial ?_
  exact ck_eI ⟨rfl, rfl⟩ rfl rfl rfl
theorem cx_stateM1_0 {σ : ck_M} (hb : σ 480 19 = 0) : ck_cal 1 cm_Mo_state [.inr (480, 3, 6), .inl 1] σ (fun q σ' => q = some (-1) ∧ σ' = ck_up σ 480 0 0) := by
  refine ck_cal_of ?_
  refine ck_go_run 6 (X1 := (if σ 480 19 = 0 then 12 else 14, [some (.inr (480, 3, 6)), some (.inl 1)], [], ck_up σ 480 0 0)) (ps := [ck_rg (σ 480 19)]) rfl ⟨(ck_rgo (by omega) (by omega)), trivial⟩ ?_
  refine ck_go_t (by omega) ?_
  refine ck_go_run 1 (X1 := (13, [some (.inr (480, 3, 6)), some (.inl 1)], [.inl ((-1))], ck_up σ 480 0 0)) (ps := []) rfl trivial ?_
  exact ck_eI ⟨rfl, rfl⟩ rfl rfl rfl
theorem cx_stateM1_1 {σ : ck_M} (hb : σ 480 19 = 1) : ck_cal 1 cm_Mo_state [.inr (480, 3, 6), .inl 1] σ (fun q σ' => q = some (σ 480 21) ∧ σ' = ck_up σ 480 0 0) := by
  refine ck_cal_of ?_
  refine ck_go_run 6 (X1 := (if σ 480 19 = 0 then 12 else 14, [some (.inr (480, 3, 6)), some (.inl 1)], [], ck_up σ 480 0 0)) (ps := [ck_rg (σ 480 19)]) rfl ⟨(ck_rgo (by omega) (by omega)), trivial⟩ ?_
  refine ck_go_f (by omega) ?_
  refine ck_go_run 2 (X1 := (ck_sw 0 1 91 [56, 61, 66, 71, 76, 81, 86], [some (.inr (480, 3, 6)), some (.inl 1)], [], ck_up σ 480 0 0)) (ps := [ck_rg 1]) rfl ⟨(ck_rgo (by omega) (by omega)), trivial⟩ ?_
  refine ck_go_pc (q := 61) rfl ?_
  refine ck_go_run 2 (X1 := (65, [some (.inr (480, 3, 6)), some (.inl 1)], [.inl (σ 480 21)], ck_up σ 480 0 0)) (ps := []) rfl trivial ?_
  exact ck_eI ⟨rfl, rfl⟩ rfl rfl rfl
theorem cx_stateM2_0 {σ : ck_M} (hb : σ 480 19 = 0) : ck_cal 1 cm_Mo_state [.inr (480, 3, 6), .inl 2] σ (fun q σ' => q = some (-1) ∧ σ' = ck_up σ 480 0 0) := by
  refine ck_cal_of ?_
  refine ck_go_run 6 (X1 := (if σ 480 19 = 0 then 12 else 14, [some (.inr (480, 3, 6)), some (.inl 2)], [], ck_up σ 480 0 0)) (ps := [ck_rg (σ 480 19)]) rfl ⟨(ck_rgo (by omega) (by omega)), trivial⟩ ?_
  refine ck_go_t (by omega) ?_
  refine ck_go_run 1 (X1 := (13, [some (.inr (480, 3, 6)), some (.inl 2)], [.inl ((-1))], ck_up σ 480 0 0)) (ps := []) rfl trivial ?_
  exact ck_eI ⟨rfl, rfl⟩ rfl rfl rfl
theorem cx_stateM2_1 {σ : ck_M} (hb : σ 480 19 = 1) : ck_cal 1 cm_Mo_state [.inr (480, 3, 6), .inl 2] σ (fun q σ' => q = some (σ 480 22) ∧ σ' = ck_up σ 480 0 0) := by
  refine ck_cal_of ?_
  refine ck_go_run 6 (X1 := (if σ 480 19 = 0 then 12 else 14, [some (.inr (480, 3, 6)), some (.inl 2)], [], ck_up σ 480 0 0)) (ps := [ck_rg (σ 480 19)]) rfl ⟨(ck_rgo (by omega) (by omega)), trivial⟩ ?_
  refine ck_go_f (by omega) ?_
  refine ck_go_run 2 (X1 := (ck_sw 0 2 91 [56, 61, 66, 71, 76, 81, 86], [some (.inr (480, 3, 6)), some (.inl 2)], [], ck_up σ 480 0 0)) (ps := [ck_rg 2]) rfl ⟨(ck_rgo (by omega) (by omega)), trivial⟩ ?_
  refine ck_go_pc (q := 66) rfl ?_
  refine ck_go_run 2 (X1 := (70, [some (.inr (480, 3, 6)), some (.inl 2)], [.inl (σ 480 22)], ck_up σ 480 0 0)) (ps := []) rfl trivial ?_
  exact ck_eI ⟨rfl, rfl⟩ rfl rfl rfl
theorem cx_stateM3_0 {σ : ck_M} (hb : σ 480 19 = 0) : ck_cal 1 cm_Mo_state [.inr (480, 3, 6), .inl 3] σ (fun q σ' => q = some (-1) ∧ σ' = ck_up σ 480 0 0) := by
  refine ck_cal_of ?_
  refine ck_go_run 6 (X1 := (if σ 480 19 = 0 then 12 else 14, [some (.inr (480, 3, 6)), some (.inl 3)], [], ck_up σ 480 0 0)) (ps := [ck_rg (σ 480 19)]) rfl ⟨(ck_rgo (by omega) (by omega)), trivial⟩ ?_
  refine ck_go_t (by omega) ?_
  refine ck_go_run 1 (X1 := (13, [some (.inr (480, 3, 6)), some (.inl 3)], [.inl ((-1))], ck_up σ 480 0 0)) (ps := []) rfl trivial ?_
  exact ck_eI ⟨rfl, rfl⟩ rfl rfl rfl
theorem cx_stateM3_1 {σ : ck_M} (hb : σ 480 19 = 1) : ck_cal 1 cm_Mo_state [.inr (480, 3, 6), .inl 3] σ (fun q σ' => q = some (σ 480 23) ∧ σ' = ck_up σ 480 0 0) := by
  refine ck_cal_of ?_
  refine ck_go_run 6 (X1 := (if σ 480 19 = 0 then 12 else 14, [some (.inr (480, 3, 6)), some (.inl 3)], [], ck_up σ 480 0 0)) (ps := [ck_rg (σ 480 19)]) rfl ⟨(ck_rgo (by omega) (by omega)), trivial⟩ ?_
  refine ck_go_f (by omega) ?_
  refine ck_go_run 2 (X1 := (ck_sw 0 3 91 [56, 61, 66, 71, 76, 81, 86], [some (.inr (480, 3, 6)), some (.inl 3)], [], ck_up σ 480 0 0)) (ps := [ck_rg 3]) rfl ⟨(ck_rgo (by omega) (by omega)), trivial⟩ ?_
  refine ck_go_pc (q := 71) rfl ?_
  refine ck_go_run 2 (X1 := (75, [some (.inr (480, 3, 6)), some (.inl 3)], [.inl (σ 480 23)], ck_up σ 480 0 0)) (ps := []) rfl trivial ?_
  exact ck_eI ⟨rfl, rfl⟩ rfl rfl rfl
theorem cx_stateM4_0 {σ : ck_M} (hb : σ 480 19 = 0) : ck_cal 1 cm_Mo_state [.inr (480, 3, 6), .inl 4] σ (fun q σ' => q = some (-1) ∧ σ' = ck_up σ 480 0 0) := by
  refine ck_cal_of ?_
  refine ck_go_run 6 (X1 := (if σ 480 19 = 0 then 12 else 14, [some (.inr (480, 3, 6)), some (.inl 4)], [], ck_up σ 480 0 0)) (ps := [ck_rg (σ 480 19)]) rfl ⟨(ck_rgo (by omega) (by omega)), trivial⟩ ?_
  refine ck_go_t (by omega) ?_
  refine ck_go_run 1 (X1 := (13, [some (.inr (480, 3, 6)), some (.inl 4)], [.inl ((-1))], ck_up σ 480 0 0)) (ps := []) rfl trivial ?_
  exact ck_eI ⟨rfl, rfl⟩ rfl rfl rfl
theorem cx_stateM4_1 {σ : ck_M} (hb : σ 480 19 = 1) : ck_cal 1 cm_Mo_state [.inr (480, 3, 6), .inl 4] σ (fun q σ' => q = some (σ 480 24) ∧ σ' = ck_up σ 480 0 0) := by
  refine ck_cal_of ?_
  refine ck_go_run 6 (X1 := (if σ 480 19 = 0 then 12 else 14, [some (.inr (480, 3, 6)), some (.inl 4)], [], ck_up σ 480 0 0)) (ps := [ck_rg (σ 480 19)]) rfl ⟨(ck_rgo (by omega) (by omega)), trivial⟩ ?_
  refine ck_go_f (by omega) ?_
  refine ck_go_run 2 (X1 := (ck_sw 0 4 91 [56, 61, 66, 71, 76, 81, 86], [some (.inr (480, 3, 6)), some (.inl 4)], [], ck_up σ 480 0 0)) (ps := [ck_rg 4]) rfl ⟨(ck_rgo (by omega) (by omega)), trivial⟩ ?_
  refine ck_go_pc (q := 76) rfl ?_
  refine ck_go_run 2 (X1 := (80, [some (.inr (480, 3, 6)), some (.inl 4)], [.inl (σ 480 24)], ck_up σ 480 0 0)) (ps := []) rfl trivial ?_
  exact ck_eI ⟨rfl, rfl⟩ rfl rfl rfl
theorem cx_stateM5_0 {σ : ck_M} (hb : σ 480 19 = 0) : ck_cal 1 cm_Mo_state [.inr (480, 3, 6), .inl 5] σ (fun q σ' => q = some (-1) ∧ σ' = ck_up σ 480 0 0) := by
  refine ck_cal_of ?_
  refine ck_go_run 6 (X1 := (if σ 480 19 = 0 then 12 else 14, [some (.inr (480, 3, 6)), some (.inl 5)], [], ck_up σ 480 0 0)) (ps := [ck_rg (σ 480 19)]) rfl ⟨(ck_rgo (by omega) (by omega)), trivial⟩ ?_
  refine ck_go_t (by omega) ?_
  refine ck_go_run 1 (X1 := (13, [some (.inr (480, 3, 6)), some (.inl 5)], [.inl ((-1))], ck_up σ 480 0 0)) (ps := []) rfl trivial ?_
  exact ck_eI ⟨rfl, rfl⟩ rfl rfl rfl
theorem cx_stateM5_1 {σ : ck_M} (hb : σ 480 19 = 1) : ck_cal 1 cm_Mo_state [.inr (480, 3, 6), .inl 5] σ (fun q σ' => q = some (σ 480 25) ∧ σ' = ck_up σ 480 0 0) := by
  refine ck_cal_of ?_
  refine ck_go_run 6 (X1 := (if σ 480 19 = 0 then 12 else 14, [some (.inr (480, 3, 6)), some (.inl 5)], [], ck_up σ 480 0 0)) (ps := [ck_rg (σ 480 19)]) rfl ⟨(ck_rgo (by omega) (by omega)), trivial⟩ ?_
  refine ck_go_f (by omega) ?_
  refine ck_go_run 2 (X1 := (ck_sw 0 5 91 [56, 61, 66, 71, 76, 81, 86], [some (.inr (480, 3, 6)), some (.inl 5)], [], ck_up σ 480 0 0)) (ps := [ck_rg 5]) rfl ⟨(ck_rgo (by omega) (by omega)), trivial⟩ ?_
  refine ck_go_pc (q := 81) rfl ?_
  refine ck_go_run 2 (X1 := (85, [some (.inr (480, 3, 6)), some (.inl 5)], [.inl (σ 480 25)], ck_up σ 480 0 0)) (ps := []) rfl trivial ?_
  exact ck_eI ⟨rfl, rfl⟩ rfl rfl rfl
theorem cx_stateM6_0 {σ : ck_M} (hb : σ 480 19 = 0) : ck_cal 1 cm_Mo_state [.inr (480, 3, 6), .inl 6] σ (fun q σ' => q = some (-1) ∧ σ' = ck_up σ 480 0 0) := by
  refine ck_cal_of ?_
  refine ck_go_run 6 (X1 := (if σ 480 19 = 0 then 12 else 14, [some (.inr (480, 3, 6)), some (.inl 6)], [], ck_up σ 480 0 0)) (ps := [ck_rg (σ 480 19)]) rfl ⟨(ck_rgo (by omega) (by omega)), trivial⟩ ?_
  refine ck_go_t (by omega) ?_
  refine ck_go_run 1 (X1 := (13, [some (.inr (480, 3, 6)), some (.inl 6)], [.inl ((-1))], ck_up σ 480 0 0)) (ps := []) rfl trivial ?_
  exact ck_eI ⟨rfl, rfl⟩ rfl rfl rfl
theorem cx_stateM6_1 {σ : ck_M} (hb : σ 480 19 = 1) : ck_cal 1 cm_Mo_state [.inr (480, 3, 6), .inl 6] σ (fun q σ' => q = some (σ 480 26) ∧ σ' = ck_up σ 480 0 0) := by
  refine ck_cal_of ?_
  refine ck_go_run 6 (X1 := (if σ 480 19 = 0 then 12 else 14, [some (.inr (480, 3, 6)), some (.inl 6)], [], ck_up σ 480 0 0)) (ps := [ck_rg (σ 480 19)]) rfl ⟨(ck_rgo (by omega) (by omega)), trivial⟩ ?_
  refine ck_go_f (by omega) ?_
  refine ck_go_run 2 (X1 := (ck_sw 0 6 91 [56, 61, 66, 71, 76, 81, 86], [some (.inr (480, 3, 6)), some (.inl 6)], [], ck_up σ 480 0 0)) (ps := [ck_rg 6]) rfl ⟨(ck_rgo (by omega) (by omega)), trivial⟩ ?_
  refine ck_go_pc (q := 86) rfl ?_
  refine ck_go_run 2 (X1 := (90, [some (.inr (480, 3, 6)), some (.inl 6)], [.inl (σ 480 26)], ck_up σ 480 0 0)) (ps := []) rfl trivial ?_
  exact ck_eI ⟨rfl, rfl⟩ rfl rfl rfl
theorem cx_stateMX_0 {w : Int} (hw : ck_rg w) (hT : w < 0 ∨ 6 < w) {σ : ck_M} (hb : σ 480 19 = 0) : ck_cal 1 cm_Mo_state [.inr (480, 3, 6), .inl w] σ (fun q σ' => q = some (-1) ∧ σ' = ck_up σ 480 0 0) := by
  refine ck_cal_of ?_
  have rw_ := id hw
  unfold ck_rg at rw_
  refine ck_go_run 6 (X1 := (if σ 480 19 = 0 then 12 else 14, [some (.inr (480, 3, 6)), some (.inl w)], [], ck_up σ 480 0 0)) (ps := [ck_rg (σ 480 19)]) rfl ⟨(ck_rgo (by omega) (by omega)), trivial⟩ ?_
  refine ck_go_t (by omega) ?_
  refine ck_go_run 1 (X1 := (13, [some (.inr (480, 3, 6)), some (.inl w)], [.inl ((-1))], ck_up σ 480 0 0)) (ps := []) rfl trivial ?_
  exact ck_eI ⟨rfl, rfl⟩ rfl rfl rfl
theorem cx_stateMX_1 {w : Int} (hw : ck_rg w) (hT : w < 0 ∨ 6 < w) {σ : ck_M} (hb : σ 480 19 = 1) : ck_cal 1 cm_Mo_state [.inr (480, 3, 6), .inl w] σ (fun q σ' => q = some (-1) ∧ σ' = ck_up σ 480 0 0) := by
  refine ck_cal_of ?_
  have rw_ := id hw
  unfold ck_rg at rw_
  refine ck_go_run 6 (X1 := (if σ 480 19 = 0 then 12 else 14, [some (.inr (480, 3, 6)), some (.inl w)], [], ck_up σ 480 0 0)) (ps := [ck_rg (σ 480 19)]) rfl ⟨(ck_rgo (by omega) (by omega)), trivial⟩ ?_
  refine ck_go_f (by omega) ?_
  refine ck_go_run 2 (X1 := (ck_sw 0 w 91 [56, 61, 66, 71, 76, 81, 86], [some (.inr (480, 3, 6)), some (.inl w)], [], ck_up σ 480 0 0)) (ps := [ck_rg w]) rfl ⟨(ck_rgo (by omega) (by omega)), trivial⟩ ?_
  · refine ck_go_pc (q := 91) (by
      unfold ck_sw
      rcases hT with h | h
      · rw [if_pos h]
      · rw [if_neg (by omega), List.getElem?_eq_none (by show 7 ≤ _; omega)]
        rfl) ?_
    refine ck_go_run 1 (X1 := (92, [some (.inr (480, 3, 6)), some (.inl w)], [.inl ((-1))], ck_up σ 480 0 0)) (ps := []) rfl trivial ?_
    exact ck_eI ⟨rfl, rfl⟩ rfl rfl rfl
theorem cx_stateM {w : Int} (hw : ck_rg w) {σ : ck_M} (hb : σ 480 19 = 0 ∨ σ 480 19 = 1) : ck_cal 1 cm_Mo_state [.inr (480, 3, 6), .inl w] σ (fun q σ' => q = some (if σ 480 19 = 1 then co_tl (fun j => σ 480 (20 + j)) w else -1) ∧ σ' = ck_up σ 480 0 0) := by
  by_cases h : w < 0 ∨ 6 < w
  · rcases hb with hb | hb
    · rw [if_neg (by omega)]
      exact cx_stateMX_0 hw h hb
    · rw [if_pos hb, co_tl_x h]
      exact cx_stateMX_1 hw h hb
  · have h2 : w = 0 ∨ w = 1 ∨ w = 2 ∨ w = 3 ∨ w = 4 ∨ w = 5 ∨ w = 6 := by omega
    rcases hb with hb | hb
    · rw [if_neg (by omega)]
      rcases h2 with rfl | rfl | rfl | rfl | rfl | rfl | rfl
      · exact cx_stateM0_0 hb
      · exact cx_stateM1_0 hb
      · exact cx_stateM2_0 hb
      · exact cx_stateM3_0 hb
      · exact cx_stateM4_0 hb
      · exact cx_stateM5_0 hb
      · exact cx_stateM6_0 hb
    · rw [if_pos hb]
      rcases h2 with rfl | rfl | rfl | rfl | rfl | rfl | rfl
      · exact cx_stateM0_1 hb
      · exact cx_stateM1_1 hb
      · exact cx_stateM2_1 hb
      · exact cx_stateM3_1 hb
      · exact cx_stateM4_1 hb
      · exact cx_stateM5_1 hb
      · exact cx_stateM6_1 hb
