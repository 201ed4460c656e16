/-! ## The reference's run: a statement -/
theorem cx_sum' {σ : ck_M} {v : Int} (hk : 0 ≤ σ 480 20 ∧ σ 480 20 < 64) (hy : 0 ≤ σ 483 (σ 480 20) ∧ σ 483 (σ 480 20) ≤ 10) (hv : (if σ 483 (σ 480 20) = 10 then 0 else σ 496 (σ 483 (σ 480 20))) + σ 484 (σ 480 20) = v) : ck_cal 1 cm_Mo_sum [.inr (480, 3, 6)] σ (fun q σ' => q = some v ∧ σ' = σ) := by
  subst hv
  exact cx_sum hk hy
theorem cx_act0 {c nd : Int} {σ : ck_M} (hk : 0 ≤ σ 480 20 ∧ σ 480 20 < 64) (hmd : co_md c σ) (ht : σ 481 (σ 480 20) = 0) (hx : 0 ≤ σ 482 (σ 480 20) ∧ σ 482 (σ 480 20) < 10) : ck_cal 4 cm_Mo_act [.inr (480, 3, 6)] σ (fun q σ' => q = some (co_act 0 (σ 482 (σ 480 20)) (σ 483 (σ 480 20)) (σ 484 (σ 480 20)) nd σ).1 ∧ σ' = (co_act 0 (σ 482 (σ 480 20)) (σ 483 (σ 480 20)) (σ 484 (σ 480 20)) nd σ).2) := by
  refine ck_cal_of ?_
  refine ck_go_run 18 (X1 := (ck_sw 0 (σ 481 (σ 480 20)) 375 [100, 109, 141, 148, 196, 257, 310, 322, 331, 375, 375, 375, 375, 345], [some (.inr (480, 3, 6)), some (.inl (σ 482 (σ 480 20))), some (.inl (σ 483 (σ 480 20)))], [], σ)) (ps := [0 ≤ σ 480 20 ∧ σ 480 20 < ((64 : Nat) : Int), 0 ≤ σ 480 20 ∧ σ 480 20 < ((64 : Nat) : Int), 0 ≤ σ 480 20 ∧ σ 480 20 < ((64 : Nat) : Int), ck_rg (σ 481 (σ 480 20))]) rfl ⟨⟨by omega, by omega⟩, ⟨by omega, by omega⟩, ⟨by omega, by omega⟩, (ck_rgo (by omega) (by omega)), trivial⟩ ?_
  have hsw := ht
  · rw [hsw]
    refine ck_go_pc (q := 100) rfl ?_
    refine ck_go_run 6 (X1 := (108, [some (.inr (480, 3, 6)), some (.inl (σ 482 (σ 480 20))), some (.inl (σ 483 (σ 480 20)))], [.inl 1], ck_up σ 496 (σ 482 (σ 480 20)) (σ 483 (σ 480 20)))) (ps := [0 ≤ σ 482 (σ 480 20) ∧ σ 482 (σ 480 20) < ((10 : Nat) : Int)]) rfl ⟨⟨by omega, by omega⟩, trivial⟩ ?_
    exact ck_eZ (Or.inr rfl) ⟨rfl, rfl⟩ rfl rfl rfl
theorem cx_act1 {c nd : Int} {σ : ck_M} (hk : 0 ≤ σ 480 20 ∧ σ 480 20 < 64) (hmd : co_md c σ) (ht : σ 481 (σ 480 20) = 1) (hx : 0 ≤ σ 482 (σ 480 20) ∧ σ 482 (σ 480 20) < 10) (hy : 0 ≤ σ 483 (σ 480 20) ∧ σ 483 (σ 480 20) < 10) (hz : -100 ≤ σ 484 (σ 480 20) ∧ σ 484 (σ 480 20) ≤ 100) : ck_cal 4 cm_Mo_act [.inr (480, 3, 6)] σ (fun q σ' => q = some (co_act 1 (σ 482 (σ 480 20)) (σ 483 (σ 480 20)) (σ 484 (σ 480 20)) nd σ).1 ∧ σ' = (co_act 1 (σ 482 (σ 480 20)) (σ 483 (σ 480 20)) (σ 484 (σ 480 20)) nd σ).2) := by
  refine ck_cal_of ?_
  have hyn := hmd.1 _ hy.1 hy.2
  have hi01 := co_in01 (σ 496 (σ 483 (σ 480 20)) + σ 484 (σ 480 20)) (-1000000) 1000000
  refine ck_go_run 18 (X1 := (ck_sw 0 (σ 481 (σ 480 20)) 375 [100, 109, 141, 148, 196, 257, 310, 322, 331, 375, 375, 375, 375, 345], [some (.inr (480, 3, 6)), some (.inl (σ 482 (σ 480 20))), some (.inl (σ 483 (σ 480 20)))], [], σ)) (ps := [0 ≤ σ 480 20 ∧ σ 480 20 < ((64 : Nat) : Int), 0 ≤ σ 480 20 ∧ σ 480 20 < ((64 : Nat) : Int), 0 ≤ σ 480 20 ∧ σ 480 20 < ((64 : Nat) : Int), ck_rg (σ 481 (σ 480 20))]) rfl ⟨⟨by omega, by omega⟩, ⟨by omega, by omega⟩, ⟨by omega, by omega⟩, (ck_rgo (by omega) (by omega)), trivial⟩ ?_
  have hsw := ht
  · rw [hsw]
    refine ck_go_pc (q := 109) rfl ?_
    refine ck_go_run 1 (X1 := (110, [some (.inr (480, 3, 6)), some (.inl (σ 482 (σ 480 20))), some (.inl (σ 483 (σ 480 20)))], [.inr (480, 3, 6)], σ)) (ps := []) rfl trivial ?_
    refine ck_go_cal (rest := []) (ck_cal_le (by decide) (cx_sum' (σ := σ) (v := σ 496 (σ 483 (σ 480 20)) + σ 484 (σ 480 20)) hk (by omega) (by rw [if_neg (by omega)]))) ⟨_, rfl, Or.inl ⟨_, rfl⟩, rfl, rfl, rfl, Nat.le_of_ble_eq_true rfl, fun _ => ⟨_, _, rfl⟩⟩ ?_
    rintro _ s' ⟨rfl, e'⟩
    rw [e']
    clear e' s'
    refine ck_go_run 2 (X1 := (117, [some (.inr (480, 3, 6)), some (.inl (σ 482 (σ 480 20))), some (.inl (σ 483 (σ 480 20)))], [.inl 1000000, .inl ((-1000000)), .inl (σ 496 (σ 483 (σ 480 20)) + σ 484 (σ 480 20))], σ)) (ps := []) rfl trivial ?_
    refine ck_go_cal (rest := []) (ck_cal_le (by decide) (cx_in (v := σ 496 (σ 483 (σ 480 20)) + σ 484 (σ 480 20)) (f := (-1000000)) (t := 1000000) (by first | assumption | exact ck_rgo (by omega) (by omega)) (by exact ⟨by decide, by decide⟩) (by exact ⟨by decide, by decide⟩) _)) ⟨_, rfl, Or.inr ⟨_, rfl⟩, rfl, rfl, rfl, Nat.le_of_ble_eq_true rfl, fun h => absurd h (by decide)⟩ ?_
    rintro _ s' ⟨rfl, e'⟩
    rw [e']
    clear e' s'
    refine ck_go_run 1 (X1 := (if ck_in (σ 496 (σ 483 (σ 480 20)) + σ 484 (σ 480 20)) ((-1000000)) 1000000 = 0 then 123 else 129, [some (.inr (480, 3, 6)), some (.inl (σ 482 (σ 480 20))), some (.inl (σ 483 (σ 480 20)))], [], σ)) (ps := [ck_rg (ck_in (σ 496 (σ 483 (σ 480 20)) + σ 484 (σ 480 20)) ((-1000000)) 1000000)]) rfl ⟨(ck_rgo (by omega) (by omega)), trivial⟩ ?_
    refine ck_go_ite (fun h1 => ?_) (fun h1 => ?_)
    · refine ck_go_run 2 (X1 := (125, [some (.inr (480, 3, 6)), some (.inl (σ 482 (σ 480 20))), some (.inl (σ 483 (σ 480 20)))], [.inl 4, .inr (480, 3, 6)], σ)) (ps := []) rfl trivial ?_
      refine ck_go_cal (rest := []) (ck_cal_le (by decide) (cx_stops 4 σ)) ⟨_, rfl, Or.inl ⟨_, rfl⟩, rfl, rfl, rfl, Nat.le_of_ble_eq_true rfl, fun _ => ⟨_, _, rfl⟩⟩ ?_
      rintro _ s1 ⟨rfl, e1⟩
      refine ck_eZ (Or.inl rfl) ?_ rfl rfl rfl
      simp only [co_in0] at *
      have e : co_act 1 (σ 482 (σ 480 20)) (σ 483 (σ 480 20)) (σ 484 (σ 480 20)) nd σ = (if co_nb (σ 496 (σ 483 (σ 480 20)) + σ 484 (σ 480 20)) then (1, ck_up σ 496 (σ 482 (σ 480 20)) (σ 496 (σ 483 (σ 480 20)) + σ 484 (σ 480 20))) else (0, co_stp σ 4)) := rfl
      rw [e, if_neg (by assumption)]
      exact ⟨rfl, e1⟩
    · refine ck_go_run 4 (X1 := (135, [some (.inr (480, 3, 6)), some (.inl (σ 482 (σ 480 20))), some (.inl (σ 483 (σ 480 20)))], [.inr (480, 3, 6), .inl (σ 482 (σ 480 20)), .inr (496, 0, 10)], σ)) (ps := []) rfl trivial ?_
      refine ck_go_cal (rest := [.inl (σ 482 (σ 480 20)), .inr (496, 0, 10)]) (ck_cal_le (by decide) (cx_sum' (σ := σ) (v := σ 496 (σ 483 (σ 480 20)) + σ 484 (σ 480 20)) hk (by omega) (by rw [if_neg (by omega)]))) ⟨_, rfl, Or.inl ⟨_, rfl⟩, rfl, rfl, rfl, Nat.le_of_ble_eq_true rfl, fun _ => ⟨_, _, rfl⟩⟩ ?_
      rintro _ s' ⟨rfl, e'⟩
      rw [e']
      clear e' s'
      refine ck_go_run 2 (X1 := (140, [some (.inr (480, 3, 6)), some (.inl (σ 482 (σ 480 20))), some (.inl (σ 483 (σ 480 20)))], [.inl 1], ck_up σ 496 (σ 482 (σ 480 20)) (σ 496 (σ 483 (σ 480 20)) + σ 484 (σ 480 20)))) (ps := [0 ≤ σ 482 (σ 480 20) ∧ σ 482 (σ 480 20) < ((10 : Nat) : Int)]) rfl ⟨⟨by omega, by omega⟩, trivial⟩ ?_
      refine ck_eZ (Or.inr rfl) ?_ rfl rfl rfl
      simp only [co_in0] at *
      have e : co_act 1 (σ 482 (σ 480 20)) (σ 483 (σ 480 20)) (σ 484 (σ 480 20)) nd σ = (if co_nb (σ 496 (σ 483 (σ 480 20)) + σ 484 (σ 480 20)) then (1, ck_up σ 496 (σ 482 (σ 480 20)) (σ 496 (σ 483 (σ 480 20)) + σ 484 (σ 480 20))) else (0, co_stp σ 4)) := rfl
      rw [e, if_pos (Decidable.of_not_not (by assumption))]
      exact ⟨rfl, rfl⟩
theorem cx_act2 {c nd : Int} {σ : ck_M} (hk : 0 ≤ σ 480 20 ∧ σ 480 20 < 64) (hmd : co_md c σ) (ht : σ 481 (σ 480 20) = 2) (hx : 0 ≤ σ 482 (σ 480 20) ∧ σ 482 (σ 480 20) < 10) : ck_cal 4 cm_Mo_act [.inr (480, 3, 6)] σ (fun q σ' => q = some (co_act 2 (σ 482 (σ 480 20)) (σ 483 (σ 480 20)) (σ 484 (σ 480 20)) nd σ).1 ∧ σ' = (co_act 2 (σ 482 (σ 480 20)) (σ 483 (σ 480 20)) (σ 484 (σ 480 20)) nd σ).2) := by
  refine ck_cal_of ?_
  refine ck_go_run 18 (X1 := (ck_sw 0 (σ 481 (σ 480 20)) 375 [100, 109, 141, 148, 196, 257, 310, 322, 331, 375, 375, 375, 375, 345], [some (.inr (480, 3, 6)), some (.inl (σ 482 (σ 480 20))), some (.inl (σ 483 (σ 480 20)))], [], σ)) (ps := [0 ≤ σ 480 20 ∧ σ 480 20 < ((64 : Nat) : Int), 0 ≤ σ 480 20 ∧ σ 480 20 < ((64 : Nat) : Int), 0 ≤ σ 480 20 ∧ σ 480 20 < ((64 : Nat) : Int), ck_rg (σ 481 (σ 480 20))]) rfl ⟨⟨by omega, by omega⟩, ⟨by omega, by omega⟩, ⟨by omega, by omega⟩, (ck_rgo (by omega) (by omega)), trivial⟩ ?_
  have hsw := ht
  · rw [hsw]
    refine ck_go_pc (q := 141) rfl ?_
    refine ck_go_run 2 (X1 := (143, [some (.inr (480, 3, 6)), some (.inl (σ 482 (σ 480 20))), some (.inl (σ 483 (σ 480 20)))], [.inl (σ 482 (σ 480 20)), .inr (480, 3, 6)], σ)) (ps := []) rfl trivial ?_
    refine ck_go_cal (rest := []) (ck_cal_le (by decide) (cx_input (σ := σ) hx hmd)) ⟨_, rfl, Or.inl ⟨_, rfl⟩, rfl, rfl, rfl, Nat.le_of_ble_eq_true rfl, fun _ => ⟨_, _, rfl⟩⟩ ?_
    rintro _ s1 ⟨rfl, e1⟩
    refine ck_go_run 1 (X1 := (147, [some (.inr (480, 3, 6)), some (.inl (σ 482 (σ 480 20))), some (.inl (σ 483 (σ 480 20)))], [.inl 1], s1)) (ps := []) rfl trivial ?_
    exact ck_eZ (Or.inr rfl) ⟨rfl, e1⟩ rfl rfl rfl
theorem cx_act3 {c nd : Int} {σ : ck_M} (hk : 0 ≤ σ 480 20 ∧ σ 480 20 < 64) (hmd : co_md c σ) (ht : σ 481 (σ 480 20) = 3) (hx : 0 ≤ σ 482 (σ 480 20) ∧ σ 482 (σ 480 20) < 10) (hy : 0 ≤ σ 483 (σ 480 20) ∧ σ 483 (σ 480 20) < 4) (hsp : co_spc σ (σ 480 20) nd) (hlo : 0 < ck_and nd 1 → σ 497 (σ 483 (σ 480 20)) ≠ -1) : ck_cal 4 cm_Mo_act [.inr (480, 3, 6)] σ (fun q σ' => q = some (co_act 3 (σ 482 (σ 480 20)) (σ 483 (σ 480 20)) (σ 484 (σ 480 20)) nd σ).1 ∧ σ' = (co_act 3 (σ 482 (σ 480 20)) (σ 483 (σ 480 20)) (σ 484 (σ 480 20)) nd σ).2) := by
  refine ck_cal_of ?_
  have hR0 := hmd.2.2.1 (σ 483 (σ 480 20)) hy.1 hy.2
  have h260 := hmd.2.1
  refine ck_go_run 18 (X1 := (ck_sw 0 (σ 481 (σ 480 20)) 375 [100, 109, 141, 148, 196, 257, 310, 322, 331, 375, 375, 375, 375, 345], [some (.inr (480, 3, 6)), some (.inl (σ 482 (σ 480 20))), some (.inl (σ 483 (σ 480 20)))], [], σ)) (ps := [0 ≤ σ 480 20 ∧ σ 480 20 < ((64 : Nat) : Int), 0 ≤ σ 480 20 ∧ σ 480 20 < ((64 : Nat) : Int), 0 ≤ σ 480 20 ∧ σ 480 20 < ((64 : Nat) : Int), ck_rg (σ 481 (σ 480 20))]) rfl ⟨⟨by omega, by omega⟩, ⟨by omega, by omega⟩, ⟨by omega, by omega⟩, (ck_rgo (by omega) (by omega)), trivial⟩ ?_
  have hsw := ht
  · rw [hsw]
    refine ck_go_pc (q := 148) rfl ?_
    refine ck_go_run 8 (X1 := (if σ 497 (σ 483 (σ 480 20)) = (-1) then 164 else 160, [some (.inr (480, 3, 6)), some (.inl (σ 482 (σ 480 20))), some (.inl (σ 483 (σ 480 20)))], [.inl 1, .inr (480, 3, 6)], σ)) (ps := [0 ≤ σ 483 (σ 480 20) ∧ σ 483 (σ 480 20) < ((4 : Nat) : Int), ck_rg (σ 497 (σ 483 (σ 480 20))), ck_rg ((-1))]) rfl ⟨⟨by omega, by omega⟩, (ck_rgo (by omega) (by omega)), (ck_rgo (by omega) (by omega)), trivial⟩ ?_
    refine ck_go_ite (fun h1 => ?_) (fun h1 => ?_)
    · refine ck_go_run 1 (X1 := (165, [some (.inr (480, 3, 6)), some (.inl (σ 482 (σ 480 20))), some (.inl (σ 483 (σ 480 20)))], [.inl 0, .inl 1, .inr (480, 3, 6)], σ)) (ps := []) rfl trivial ?_
      refine ck_go_cal (rest := []) (ck_cal_le (by decide) (cx_check (σ := σ) (by decide) (by decide) (fun z => absurd (hlo z) (by omega)) hsp (co_rf_r σ) rfl)) ⟨_, rfl, Or.inl ⟨_, rfl⟩, rfl, rfl, rfl, Nat.le_of_ble_eq_true rfl, fun _ => ⟨_, _, rfl⟩⟩ ?_
      rintro _ s1 ⟨rfl, e1⟩
      refine ck_go_run 1 (X1 := (if 0 = 0 then 171 else 177, [some (.inr (480, 3, 6)), some (.inl (σ 482 (σ 480 20))), some (.inl (σ 483 (σ 480 20)))], [], s1)) (ps := [ck_rg 0]) rfl ⟨(ck_rgo (by omega) (by omega)), trivial⟩ ?_
      refine ck_go_t (by decide) ?_
      refine ck_go_run 2 (X1 := (173, [some (.inr (480, 3, 6)), some (.inl (σ 482 (σ 480 20))), some (.inl (σ 483 (σ 480 20)))], [.inl 1, .inr (480, 3, 6)], s1)) (ps := []) rfl trivial ?_
      refine ck_go_cal (rest := []) (ck_cal_le (by decide) (cx_stops 1 s1)) ⟨_, rfl, Or.inl ⟨_, rfl⟩, rfl, rfl, rfl, Nat.le_of_ble_eq_true rfl, fun _ => ⟨_, _, rfl⟩⟩ ?_
      rintro _ s2 ⟨rfl, e2⟩
      refine ck_eZ (Or.inl rfl) ?_ rfl rfl rfl
      have e : co_act 3 (σ 482 (σ 480 20)) (σ 483 (σ 480 20)) (σ 484 (σ 480 20)) nd σ = (if σ 497 (σ 483 (σ 480 20)) = -1 then (0, co_stp (co_cnt nd 1 σ) 1) else (1, ck_up (co_cnt nd 1 σ) 496 (σ 482 (σ 480 20)) (σ 498 (σ 497 (σ 483 (σ 480 20)))))) := rfl
      rw [e, if_pos (by assumption)]
      exact ⟨rfl, by rw [e2, e1]⟩
    · refine ck_go_run 2 (X1 := (165, [some (.inr (480, 3, 6)), some (.inl (σ 482 (σ 480 20))), some (.inl (σ 483 (σ 480 20)))], [.inl 1, .inl 1, .inr (480, 3, 6)], σ)) (ps := []) rfl trivial ?_
      refine ck_go_cal (rest := []) (ck_cal_le (by decide) (cx_check (σ := σ) (by decide) (by decide) (fun _ => rfl) hsp (co_rf_r σ) rfl)) ⟨_, rfl, Or.inl ⟨_, rfl⟩, rfl, rfl, rfl, Nat.le_of_ble_eq_true rfl, fun _ => ⟨_, _, rfl⟩⟩ ?_
      rintro _ s3 ⟨rfl, e3⟩
      refine ck_go_run 1 (X1 := (if 1 = 0 then 171 else 177, [some (.inr (480, 3, 6)), some (.inl (σ 482 (σ 480 20))), some (.inl (σ 483 (σ 480 20)))], [], s3)) (ps := [ck_rg 1]) rfl ⟨(ck_rgo (by omega) (by omega)), trivial⟩ ?_
      refine ck_go_f (by decide) ?_
      have v1 : s3 497 (σ 483 (σ 480 20)) = σ 497 (σ 483 (σ 480 20)) := by
        rw [e3]
        exact co_cnt_o _ _ (by omega)
      have v2 : s3 498 (s3 497 (σ 483 (σ 480 20))) = σ 498 (σ 497 (σ 483 (σ 480 20))) := by
        rw [v1, e3]
        exact co_cnt_o _ _ (by omega)
      have hR := hmd.2.2.1 (σ 483 (σ 480 20)) hy.1 hy.2
      have h26 := hmd.2.1
      refine ck_go_run 12 (X1 := (195, [some (.inr (480, 3, 6)), some (.inl (σ 482 (σ 480 20))), some (.inl (σ 483 (σ 480 20)))], [.inl 1], ck_up s3 496 (σ 482 (σ 480 20)) (s3 498 (s3 497 (σ 483 (σ 480 20)))))) (ps := [0 ≤ σ 483 (σ 480 20) ∧ σ 483 (σ 480 20) < ((4 : Nat) : Int), 0 ≤ s3 497 (σ 483 (σ 480 20)) ∧ s3 497 (σ 483 (σ 480 20)) < ((40 : Nat) : Int), 0 ≤ σ 482 (σ 480 20) ∧ σ 482 (σ 480 20) < ((10 : Nat) : Int)]) rfl ⟨⟨by omega, by omega⟩, ⟨by omega, by omega⟩, ⟨by omega, by omega⟩, trivial⟩ ?_
      refine ck_eZ (Or.inr rfl) ?_ rfl rfl rfl
      have e : co_act 3 (σ 482 (σ 480 20)) (σ 483 (σ 480 20)) (σ 484 (σ 480 20)) nd σ = (if σ 497 (σ 483 (σ 480 20)) = -1 then (0, co_stp (co_cnt nd 1 σ) 1) else (1, ck_up (co_cnt nd 1 σ) 496 (σ 482 (σ 480 20)) (σ 498 (σ 497 (σ 483 (σ 480 20)))))) := rfl
      rw [e, if_neg (by assumption)]
      exact ⟨rfl, by rw [v2, e3]⟩
theorem cx_act4 {c nd : Int} {σ : ck_M} (hk : 0 ≤ σ 480 20 ∧ σ 480 20 < 64) (hmd : co_md c σ) (ht : σ 481 (σ 480 20) = 4) (hx : 0 ≤ σ 482 (σ 480 20) ∧ σ 482 (σ 480 20) < 10) (hy : 0 ≤ σ 483 (σ 480 20) ∧ σ 483 (σ 480 20) < 4) (hz : 0 ≤ σ 484 (σ 480 20) ∧ σ 484 (σ 480 20) < 10) (hsp : co_spc σ (σ 480 20) nd) (hlo : co_lc nd (σ 483 (σ 480 20)) (σ 496 (σ 484 (σ 480 20))) σ) : ck_cal 4 cm_Mo_act [.inr (480, 3, 6)] σ (fun q σ' => q = some (co_act 4 (σ 482 (σ 480 20)) (σ 483 (σ 480 20)) (σ 484 (σ 480 20)) nd σ).1 ∧ σ' = (co_act 4 (σ 482 (σ 480 20)) (σ 483 (σ 480 20)) (σ 484 (σ 480 20)) nd σ).2) := by
  refine ck_cal_of ?_
  refine ck_go_run 18 (X1 := (ck_sw 0 (σ 481 (σ 480 20)) 375 [100, 109, 141, 148, 196, 257, 310, 322, 331, 375, 375, 375, 375, 345], [some (.inr (480, 3, 6)), some (.inl (σ 482 (σ 480 20))), some (.inl (σ 483 (σ 480 20)))], [], σ)) (ps := [0 ≤ σ 480 20 ∧ σ 480 20 < ((64 : Nat) : Int), 0 ≤ σ 480 20 ∧ σ 480 20 < ((64 : Nat) : Int), 0 ≤ σ 480 20 ∧ σ 480 20 < ((64 : Nat) : Int), ck_rg (σ 481 (σ 480 20))]) rfl ⟨⟨by omega, by omega⟩, ⟨by omega, by omega⟩, ⟨by omega, by omega⟩, (ck_rgo (by omega) (by omega)), trivial⟩ ?_
  have hsw := ht
  · rw [hsw]
    refine ck_go_pc (q := 196) rfl ?_
    refine ck_go_run 10 (X1 := (212, [some (.inr (480, 3, 6)), some (.inl (σ 482 (σ 480 20))), some (.inl (σ 483 (σ 480 20)))], [.inl (σ 496 (σ 484 (σ 480 20))), .inl (σ 483 (σ 480 20)), .inr (480, 3, 6)], σ)) (ps := [0 ≤ σ 480 20 ∧ σ 480 20 < ((64 : Nat) : Int), 0 ≤ σ 484 (σ 480 20) ∧ σ 484 (σ 480 20) < ((10 : Nat) : Int)]) rfl ⟨⟨by omega, by omega⟩, ⟨by omega, by omega⟩, trivial⟩ ?_
    refine ck_go_cal (rest := []) (ck_cal_le (by decide) (cx_checks (σ := σ) (r := σ 483 (σ 480 20)) (i := σ 496 (σ 484 (σ 480 20))) hy (hmd.1 _ hz.1 hz.2) hmd hsp hlo)) ⟨_, rfl, Or.inl ⟨_, rfl⟩, rfl, rfl, rfl, Nat.le_of_ble_eq_true rfl, fun _ => ⟨_, _, rfl⟩⟩ ?_
    rintro _ s1 ⟨v1, rfl, hv, hv01, e1⟩
    refine ck_go_run 1 (X1 := (if v1 = 0 then 218 else 220, [some (.inr (480, 3, 6)), some (.inl (σ 482 (σ 480 20))), some (.inl (σ 483 (σ 480 20)))], [], s1)) (ps := [ck_rg v1]) rfl ⟨(ck_rgo (by omega) (by omega)), trivial⟩ ?_
    refine ck_go_ite (fun h1 => ?_) (fun h1 => ?_)
    · refine ck_go_run 1 (X1 := (219, [some (.inr (480, 3, 6)), some (.inl (σ 482 (σ 480 20))), some (.inl (σ 483 (σ 480 20)))], [.inl 0], s1)) (ps := []) rfl trivial ?_
      refine ck_eZ (Or.inl rfl) ?_ rfl rfl rfl
      have e : co_act 4 (σ 482 (σ 480 20)) (σ 483 (σ 480 20)) (σ 484 (σ 480 20)) nd σ = (if (co_chs nd (σ 483 (σ 480 20)) (σ 496 (σ 484 (σ 480 20))) σ).1 = 0 then co_chs nd (σ 483 (σ 480 20)) (σ 496 (σ 484 (σ 480 20))) σ else (1, ck_up (co_chs nd (σ 483 (σ 480 20)) (σ 496 (σ 484 (σ 480 20))) σ).2 496 (σ 482 (σ 480 20)) (σ 499 (40 * σ 497 (σ 483 (σ 480 20)) + σ 496 (σ 484 (σ 480 20)))))) := rfl
      rw [e, if_pos (by omega)]
      exact ⟨by rw [show (co_chs nd (σ 483 (σ 480 20)) (σ 496 (σ 484 (σ 480 20))) σ).1 = 0 by omega], e1⟩
    · obtain ⟨q1, q2, q3⟩ := co_chs_ok hmd (nd := nd) (r := σ 483 (σ 480 20)) (i := σ 496 (σ 484 (σ 480 20))) hy.1 hy.2
      obtain ⟨q4, q5, q6, q7, q8⟩ := q3.resolve_right (fun z => absurd z.1 (by omega))
      have hR := hmd.2.2.1 (σ 483 (σ 480 20)) hy.1 hy.2
      have h26 := hmd.2.1
      have hL := hmd.2.2.2.1 (σ 497 (σ 483 (σ 480 20))) (by omega) (by omega)
      have k1 : s1 480 20 = σ 480 20 := by
        rw [e1]
        exact q2 _ _ (by omega)
      have z1 : s1 484 (s1 480 20) = σ 484 (σ 480 20) := by
        rw [k1, e1]
        exact q2 _ _ (by omega)
      have r1 : s1 497 (σ 483 (σ 480 20)) = σ 497 (σ 483 (σ 480 20)) := by
        rw [e1]
        exact q2 _ _ (by omega)
      have n1 : s1 496 (s1 484 (s1 480 20)) = σ 496 (σ 484 (σ 480 20)) := by
        rw [z1, e1]
        exact q2 _ _ (by omega)
      have w1 : s1 499 (40 * σ 497 (σ 483 (σ 480 20)) + σ 496 (σ 484 (σ 480 20))) = σ 499 (40 * σ 497 (σ 483 (σ 480 20)) + σ 496 (σ 484 (σ 480 20))) := by
        rw [e1]
        exact q2 _ _ (by omega)
      refine ck_go_run 23 (X1 := (256, [some (.inr (480, 3, 6)), some (.inl (σ 482 (σ 480 20))), some (.inl (σ 483 (σ 480 20)))], [.inl 1], ck_up s1 496 (σ 482 (σ 480 20)) (s1 499 ((40 * (s1 497 (σ 483 (σ 480 20)))) + (s1 496 (s1 484 (s1 480 20))))))) (ps := [0 ≤ σ 483 (σ 480 20) ∧ σ 483 (σ 480 20) < ((4 : Nat) : Int), 0 ≤ s1 480 20 ∧ s1 480 20 < ((64 : Nat) : Int), 0 ≤ s1 484 (s1 480 20) ∧ s1 484 (s1 480 20) < ((10 : Nat) : Int), 0 ≤ (40 * (s1 497 (σ 483 (σ 480 20)))) + (s1 496 (s1 484 (s1 480 20))) ∧ (40 * (s1 497 (σ 483 (σ 480 20)))) + (s1 496 (s1 484 (s1 480 20))) < ((1600 : Nat) : Int), 0 ≤ σ 482 (σ 480 20) ∧ σ 482 (σ 480 20) < ((10 : Nat) : Int)]) rfl ⟨⟨by omega, by omega⟩, ⟨by omega, by omega⟩, ⟨by omega, by omega⟩, ⟨by omega, by omega⟩, ⟨by omega, by omega⟩, trivial⟩ ?_
      refine ck_eZ (Or.inr rfl) ?_ rfl rfl rfl
      have e : co_act 4 (σ 482 (σ 480 20)) (σ 483 (σ 480 20)) (σ 484 (σ 480 20)) nd σ = (if (co_chs nd (σ 483 (σ 480 20)) (σ 496 (σ 484 (σ 480 20))) σ).1 = 0 then co_chs nd (σ 483 (σ 480 20)) (σ 496 (σ 484 (σ 480 20))) σ else (1, ck_up (co_chs nd (σ 483 (σ 480 20)) (σ 496 (σ 484 (σ 480 20))) σ).2 496 (σ 482 (σ 480 20)) (σ 499 (40 * σ 497 (σ 483 (σ 480 20)) + σ 496 (σ 484 (σ 480 20)))))) := rfl
      rw [e, if_neg (by omega)]
      exact ⟨rfl, by rw [r1, n1, w1, e1]⟩
theorem cx_act5 {c nd : Int} {σ : ck_M} (hk : 0 ≤ σ 480 20 ∧ σ 480 20 < 64) (hmd : co_md c σ) (ht : σ 481 (σ 480 20) = 5) (hx : 0 ≤ σ 482 (σ 480 20) ∧ σ 482 (σ 480 20) < 4) (hy : 0 ≤ σ 483 (σ 480 20) ∧ σ 483 (σ 480 20) < 10) (hz : 0 ≤ σ 484 (σ 480 20) ∧ σ 484 (σ 480 20) < 10) (hsp : co_spc σ (σ 480 20) nd) (hlo : co_lc nd (σ 482 (σ 480 20)) (σ 496 (σ 483 (σ 480 20))) σ) : ck_cal 4 cm_Mo_act [.inr (480, 3, 6)] σ (fun q σ' => q = some (co_act 5 (σ 482 (σ 480 20)) (σ 483 (σ 480 20)) (σ 484 (σ 480 20)) nd σ).1 ∧ σ' = (co_act 5 (σ 482 (σ 480 20)) (σ 483 (σ 480 20)) (σ 484 (σ 480 20)) nd σ).2) := by
  refine ck_cal_of ?_
  refine ck_go_run 18 (X1 := (ck_sw 0 (σ 481 (σ 480 20)) 375 [100, 109, 141, 148, 196, 257, 310, 322, 331, 375, 375, 375, 375, 345], [some (.inr (480, 3, 6)), some (.inl (σ 482 (σ 480 20))), some (.inl (σ 483 (σ 480 20)))], [], σ)) (ps := [0 ≤ σ 480 20 ∧ σ 480 20 < ((64 : Nat) : Int), 0 ≤ σ 480 20 ∧ σ 480 20 < ((64 : Nat) : Int), 0 ≤ σ 480 20 ∧ σ 480 20 < ((64 : Nat) : Int), ck_rg (σ 481 (σ 480 20))]) rfl ⟨⟨by omega, by omega⟩, ⟨by omega, by omega⟩, ⟨by omega, by omega⟩, (ck_rgo (by omega) (by omega)), trivial⟩ ?_
  have hsw := ht
  · rw [hsw]
    refine ck_go_pc (q := 257) rfl ?_
    refine ck_go_run 6 (X1 := (265, [some (.inr (480, 3, 6)), some (.inl (σ 482 (σ 480 20))), some (.inl (σ 483 (σ 480 20)))], [.inl (σ 496 (σ 483 (σ 480 20))), .inl (σ 482 (σ 480 20)), .inr (480, 3, 6)], σ)) (ps := [0 ≤ σ 483 (σ 480 20) ∧ σ 483 (σ 480 20) < ((10 : Nat) : Int)]) rfl ⟨⟨by omega, by omega⟩, trivial⟩ ?_
    refine ck_go_cal (rest := []) (ck_cal_le (by decide) (cx_checks (σ := σ) (r := σ 482 (σ 480 20)) (i := σ 496 (σ 483 (σ 480 20))) hx (hmd.1 _ hy.1 hy.2) hmd hsp hlo)) ⟨_, rfl, Or.inl ⟨_, rfl⟩, rfl, rfl, rfl, Nat.le_of_ble_eq_true rfl, fun _ => ⟨_, _, rfl⟩⟩ ?_
    rintro _ s1 ⟨v1, rfl, hv, hv01, e1⟩
    refine ck_go_run 1 (X1 := (if v1 = 0 then 271 else 273, [some (.inr (480, 3, 6)), some (.inl (σ 482 (σ 480 20))), some (.inl (σ 483 (σ 480 20)))], [], s1)) (ps := [ck_rg v1]) rfl ⟨(ck_rgo (by omega) (by omega)), trivial⟩ ?_
    refine ck_go_ite (fun h1 => ?_) (fun h1 => ?_)
    · refine ck_go_run 1 (X1 := (272, [some (.inr (480, 3, 6)), some (.inl (σ 482 (σ 480 20))), some (.inl (σ 483 (σ 480 20)))], [.inl 0], s1)) (ps := []) rfl trivial ?_
      refine ck_eZ (Or.inl rfl) ?_ rfl rfl rfl
      have e : co_act 5 (σ 482 (σ 480 20)) (σ 483 (σ 480 20)) (σ 484 (σ 480 20)) nd σ = (if (co_chs nd (σ 482 (σ 480 20)) (σ 496 (σ 483 (σ 480 20))) σ).1 = 0 then co_chs nd (σ 482 (σ 480 20)) (σ 496 (σ 483 (σ 480 20))) σ else (1, ck_up (co_chs nd (σ 482 (σ 480 20)) (σ 496 (σ 483 (σ 480 20))) σ).2 499 (40 * σ 497 (σ 482 (σ 480 20)) + σ 496 (σ 483 (σ 480 20))) (σ 496 (σ 484 (σ 480 20))))) := rfl
      rw [e, if_pos (by omega)]
      exact ⟨by rw [show (co_chs nd (σ 482 (σ 480 20)) (σ 496 (σ 483 (σ 480 20))) σ).1 = 0 by omega], e1⟩
    · obtain ⟨q1, q2, q3⟩ := co_chs_ok hmd (nd := nd) (r := σ 482 (σ 480 20)) (i := σ 496 (σ 483 (σ 480 20))) hx.1 hx.2
      obtain ⟨q4, q5, q6, q7, q8⟩ := q3.resolve_right (fun z => absurd z.1 (by omega))
      have hR := hmd.2.2.1 (σ 482 (σ 480 20)) hx.1 hx.2
      have h26 := hmd.2.1
      have hL := hmd.2.2.2.1 (σ 497 (σ 482 (σ 480 20))) (by omega) (by omega)
      have k1 : s1 480 20 = σ 480 20 := by
        rw [e1]
        exact q2 _ _ (by omega)
      have z1 : s1 484 (s1 480 20) = σ 484 (σ 480 20) := by
        rw [k1, e1]
        exact q2 _ _ (by omega)
      have r1 : s1 497 (σ 482 (σ 480 20)) = σ 497 (σ 482 (σ 480 20)) := by
        rw [e1]
        exact q2 _ _ (by omega)
      have n1 : s1 496 (σ 483 (σ 480 20)) = σ 496 (σ 483 (σ 480 20)) := by
        rw [e1]
        exact q2 _ _ (by omega)
      have n2 : s1 496 (s1 484 (s1 480 20)) = σ 496 (σ 484 (σ 480 20)) := by
        rw [z1, e1]
        exact q2 _ _ (by omega)
      refine ck_go_run 23 (X1 := (309, [some (.inr (480, 3, 6)), some (.inl (σ 482 (σ 480 20))), some (.inl (σ 483 (σ 480 20)))], [.inl 1], ck_up s1 499 ((40 * (s1 497 (σ 482 (σ 480 20)))) + (s1 496 (σ 483 (σ 480 20)))) (s1 496 (s1 484 (s1 480 20))))) (ps := [0 ≤ σ 482 (σ 480 20) ∧ σ 482 (σ 480 20) < ((4 : Nat) : Int), 0 ≤ σ 483 (σ 480 20) ∧ σ 483 (σ 480 20) < ((10 : Nat) : Int), 0 ≤ s1 480 20 ∧ s1 480 20 < ((64 : Nat) : Int), 0 ≤ s1 484 (s1 480 20) ∧ s1 484 (s1 480 20) < ((10 : Nat) : Int), 0 ≤ (40 * (s1 497 (σ 482 (σ 480 20)))) + (s1 496 (σ 483 (σ 480 20))) ∧ (40 * (s1 497 (σ 482 (σ 480 20)))) + (s1 496 (σ 483 (σ 480 20))) < ((1600 : Nat) : Int)]) rfl ⟨⟨by omega, by omega⟩, ⟨by omega, by omega⟩, ⟨by omega, by omega⟩, ⟨by omega, by omega⟩, ⟨by omega, by omega⟩, trivial⟩ ?_
      refine ck_eZ (Or.inr rfl) ?_ rfl rfl rfl
      have e : co_act 5 (σ 482 (σ 480 20)) (σ 483 (σ 480 20)) (σ 484 (σ 480 20)) nd σ = (if (co_chs nd (σ 482 (σ 480 20)) (σ 496 (σ 483 (σ 480 20))) σ).1 = 0 then co_chs nd (σ 482 (σ 480 20)) (σ 496 (σ 483 (σ 480 20))) σ else (1, ck_up (co_chs nd (σ 482 (σ 480 20)) (σ 496 (σ 483 (σ 480 20))) σ).2 499 (40 * σ 497 (σ 482 (σ 480 20)) + σ 496 (σ 483 (σ 480 20))) (σ 496 (σ 484 (σ 480 20))))) := rfl
      rw [e, if_neg (by omega)]
      exact ⟨rfl, by rw [r1, n1, n2, e1]⟩
theorem cx_act6 {c nd : Int} {σ : ck_M} (hk : 0 ≤ σ 480 20 ∧ σ 480 20 < 64) (hmd : co_md c σ) (ht : σ 481 (σ 480 20) = 6) (hx : 0 ≤ σ 482 (σ 480 20) ∧ σ 482 (σ 480 20) < 4) (hy : 0 ≤ σ 483 (σ 480 20) ∧ σ 483 (σ 480 20) < 10) : ck_cal 4 cm_Mo_act [.inr (480, 3, 6)] σ (fun q σ' => q = some (co_act 6 (σ 482 (σ 480 20)) (σ 483 (σ 480 20)) (σ 484 (σ 480 20)) nd σ).1 ∧ σ' = (co_act 6 (σ 482 (σ 480 20)) (σ 483 (σ 480 20)) (σ 484 (σ 480 20)) nd σ).2) := by
  refine ck_cal_of ?_
  refine ck_go_run 18 (X1 := (ck_sw 0 (σ 481 (σ 480 20)) 375 [100, 109, 141, 148, 196, 257, 310, 322, 331, 375, 375, 375, 375, 345], [some (.inr (480, 3, 6)), some (.inl (σ 482 (σ 480 20))), some (.inl (σ 483 (σ 480 20)))], [], σ)) (ps := [0 ≤ σ 480 20 ∧ σ 480 20 < ((64 : Nat) : Int), 0 ≤ σ 480 20 ∧ σ 480 20 < ((64 : Nat) : Int), 0 ≤ σ 480 20 ∧ σ 480 20 < ((64 : Nat) : Int), ck_rg (σ 481 (σ 480 20))]) rfl ⟨⟨by omega, by omega⟩, ⟨by omega, by omega⟩, ⟨by omega, by omega⟩, (ck_rgo (by omega) (by omega)), trivial⟩ ?_
  have hsw := ht
  · rw [hsw]
    refine ck_go_pc (q := 310) rfl ?_
    refine ck_go_run 6 (X1 := (318, [some (.inr (480, 3, 6)), some (.inl (σ 482 (σ 480 20))), some (.inl (σ 483 (σ 480 20)))], [.inl (σ 496 (σ 483 (σ 480 20))), .inl (σ 482 (σ 480 20)), .inr (480, 3, 6)], σ)) (ps := [0 ≤ σ 483 (σ 480 20) ∧ σ 483 (σ 480 20) < ((10 : Nat) : Int)]) rfl ⟨⟨by omega, by omega⟩, trivial⟩ ?_
    refine ck_go_cal (rest := []) (ck_cal_le (by decide) (cx_room (σ := σ) hx (hmd.1 _ hy.1 hy.2) hmd)) ⟨_, rfl, Or.inl ⟨_, rfl⟩, rfl, rfl, rfl, Nat.le_of_ble_eq_true rfl, fun _ => ⟨_, _, rfl⟩⟩ ?_
    rintro _ s1 ⟨rfl, e1⟩
    refine ck_eZ ?_ ⟨rfl, e1⟩ rfl rfl rfl
    unfold co_mk
    split
    · exact Or.inr rfl
    · exact Or.inl rfl
theorem cx_act7 {c nd : Int} {σ : ck_M} (hk : 0 ≤ σ 480 20 ∧ σ 480 20 < 64) (hmd : co_md c σ) (ht : σ 481 (σ 480 20) = 7) (hx : 0 ≤ σ 482 (σ 480 20) ∧ σ 482 (σ 480 20) < 4) : ck_cal 4 cm_Mo_act [.inr (480, 3, 6)] σ (fun q σ' => q = some (co_act 7 (σ 482 (σ 480 20)) (σ 483 (σ 480 20)) (σ 484 (σ 480 20)) nd σ).1 ∧ σ' = (co_act 7 (σ 482 (σ 480 20)) (σ 483 (σ 480 20)) (σ 484 (σ 480 20)) nd σ).2) := by
  refine ck_cal_of ?_
  refine ck_go_run 18 (X1 := (ck_sw 0 (σ 481 (σ 480 20)) 375 [100, 109, 141, 148, 196, 257, 310, 322, 331, 375, 375, 375, 375, 345], [some (.inr (480, 3, 6)), some (.inl (σ 482 (σ 480 20))), some (.inl (σ 483 (σ 480 20)))], [], σ)) (ps := [0 ≤ σ 480 20 ∧ σ 480 20 < ((64 : Nat) : Int), 0 ≤ σ 480 20 ∧ σ 480 20 < ((64 : Nat) : Int), 0 ≤ σ 480 20 ∧ σ 480 20 < ((64 : Nat) : Int), ck_rg (σ 481 (σ 480 20))]) rfl ⟨⟨by omega, by omega⟩, ⟨by omega, by omega⟩, ⟨by omega, by omega⟩, (ck_rgo (by omega) (by omega)), trivial⟩ ?_
  have hsw := ht
  · rw [hsw]
    refine ck_go_pc (q := 322) rfl ?_
    refine ck_go_run 6 (X1 := (330, [some (.inr (480, 3, 6)), some (.inl (σ 482 (σ 480 20))), some (.inl (σ 483 (σ 480 20)))], [.inl 1], ck_up σ 497 (σ 482 (σ 480 20)) ((-1)))) (ps := [0 ≤ σ 482 (σ 480 20) ∧ σ 482 (σ 480 20) < ((4 : Nat) : Int)]) rfl ⟨⟨by omega, by omega⟩, trivial⟩ ?_
    exact ck_eZ (Or.inr rfl) ⟨rfl, rfl⟩ rfl rfl rfl
theorem cx_act8 {c nd : Int} {σ : ck_M} (hk : 0 ≤ σ 480 20 ∧ σ 480 20 < 64) (hmd : co_md c σ) (ht : σ 481 (σ 480 20) = 8) (hx : 0 ≤ σ 482 (σ 480 20) ∧ σ 482 (σ 480 20) < 4) (hy : 0 ≤ σ 483 (σ 480 20) ∧ σ 483 (σ 480 20) < 4) : ck_cal 4 cm_Mo_act [.inr (480, 3, 6)] σ (fun q σ' => q = some (co_act 8 (σ 482 (σ 480 20)) (σ 483 (σ 480 20)) (σ 484 (σ 480 20)) nd σ).1 ∧ σ' = (co_act 8 (σ 482 (σ 480 20)) (σ 483 (σ 480 20)) (σ 484 (σ 480 20)) nd σ).2) := by
  refine ck_cal_of ?_
  refine ck_go_run 18 (X1 := (ck_sw 0 (σ 481 (σ 480 20)) 375 [100, 109, 141, 148, 196, 257, 310, 322, 331, 375, 375, 375, 375, 345], [some (.inr (480, 3, 6)), some (.inl (σ 482 (σ 480 20))), some (.inl (σ 483 (σ 480 20)))], [], σ)) (ps := [0 ≤ σ 480 20 ∧ σ 480 20 < ((64 : Nat) : Int), 0 ≤ σ 480 20 ∧ σ 480 20 < ((64 : Nat) : Int), 0 ≤ σ 480 20 ∧ σ 480 20 < ((64 : Nat) : Int), ck_rg (σ 481 (σ 480 20))]) rfl ⟨⟨by omega, by omega⟩, ⟨by omega, by omega⟩, ⟨by omega, by omega⟩, (ck_rgo (by omega) (by omega)), trivial⟩ ?_
  have hsw := ht
  · rw [hsw]
    refine ck_go_pc (q := 331) rfl ?_
    refine ck_go_run 9 (X1 := (344, [some (.inr (480, 3, 6)), some (.inl (σ 482 (σ 480 20))), some (.inl (σ 483 (σ 480 20)))], [.inl 1], ck_up σ 497 (σ 482 (σ 480 20)) (σ 497 (σ 483 (σ 480 20))))) (ps := [0 ≤ σ 483 (σ 480 20) ∧ σ 483 (σ 480 20) < ((4 : Nat) : Int), 0 ≤ σ 482 (σ 480 20) ∧ σ 482 (σ 480 20) < ((4 : Nat) : Int)]) rfl ⟨⟨by omega, by omega⟩, ⟨by omega, by omega⟩, trivial⟩ ?_
    exact ck_eZ (Or.inr rfl) ⟨rfl, rfl⟩ rfl rfl rfl
theorem cx_act13 {c nd : Int} {σ : ck_M} (hk : 0 ≤ σ 480 20 ∧ σ 480 20 < 64) (hmd : co_md c σ) (ht : σ 481 (σ 480 20) = 13) (hx : 0 ≤ σ 482 (σ 480 20) ∧ σ 482 (σ 480 20) < 10) (hc : c ≤ 1000000000) : ck_cal 4 cm_Mo_act [.inr (480, 3, 6)] σ (fun q σ' => q = some (co_act 13 (σ 482 (σ 480 20)) (σ 483 (σ 480 20)) (σ 484 (σ 480 20)) nd σ).1 ∧ σ' = (co_act 13 (σ 482 (σ 480 20)) (σ 483 (σ 480 20)) (σ 484 (σ 480 20)) nd σ).2) := by
  refine ck_cal_of ?_
  have h25 := hmd.2.2.2.2.2.2.2.2.2.2
  have er : ck_rem (σ 480 25) 16 = σ 480 25 % 16 := co_rem ⟨by omega, by omega⟩ (by decide)
  refine ck_go_run 18 (X1 := (ck_sw 0 (σ 481 (σ 480 20)) 375 [100, 109, 141, 148, 196, 257, 310, 322, 331, 375, 375, 375, 375, 345], [some (.inr (480, 3, 6)), some (.inl (σ 482 (σ 480 20))), some (.inl (σ 483 (σ 480 20)))], [], σ)) (ps := [0 ≤ σ 480 20 ∧ σ 480 20 < ((64 : Nat) : Int), 0 ≤ σ 480 20 ∧ σ 480 20 < ((64 : Nat) : Int), 0 ≤ σ 480 20 ∧ σ 480 20 < ((64 : Nat) : Int), ck_rg (σ 481 (σ 480 20))]) rfl ⟨⟨by omega, by omega⟩, ⟨by omega, by omega⟩, ⟨by omega, by omega⟩, (ck_rgo (by omega) (by omega)), trivial⟩ ?_
  have hsw := ht
  · rw [hsw]
    refine ck_go_pc (q := 345) rfl ?_
    refine ck_go_run 18 (X1 := (374, [some (.inr (480, 3, 6)), some (.inl (σ 482 (σ 480 20))), some (.inl (σ 483 (σ 480 20)))], [.inl 1], ck_up (ck_up σ 500 (ck_rem (σ 480 25) 16) (σ 496 (σ 482 (σ 480 20)))) 480 25 ((σ 480 25) + 1))) (ps := [ck_rg 16 ∧ 16 ≠ 0, 0 ≤ σ 482 (σ 480 20) ∧ σ 482 (σ 480 20) < ((10 : Nat) : Int), 0 ≤ ck_rem (σ 480 25) 16 ∧ ck_rem (σ 480 25) 16 < ((16 : Nat) : Int)]) rfl ⟨⟨ck_rgo (by omega) (by omega), by omega⟩, ⟨by omega, by omega⟩, ⟨by omega, by omega⟩, trivial⟩ ?_
    refine ck_eZ (Or.inr rfl) ⟨rfl, ?_⟩ rfl rfl rfl
    rw [er]
    rfl
def co_lo (t x y z nd : Int) (m : ck_M) : Prop := (t = 3 → 0 < ck_and nd 1 → m 497 y ≠ -1) ∧ (t = 4 → co_lc nd y (m 496 z) m) ∧ (t = 5 → co_lc nd x (m 496 y) m)
theorem cx_act {t x y z c nd : Int} {σ : ck_M} (hk : 0 ≤ σ 480 20 ∧ σ 480 20 < 64) (hmd : co_md c σ) (hc : c ≤ 1000000000) (ht : σ 481 (σ 480 20) = t) (ex : σ 482 (σ 480 20) = x) (ey : σ 483 (σ 480 20) = y) (ez : σ 484 (σ 480 20) = z) (hO : ck_sOk t x y z) (hn : t ≠ 9 ∧ t ≠ 10 ∧ t ≠ 11 ∧ t ≠ 12) (hsp : co_spc σ (σ 480 20) nd) (hlo : co_lo t x y z nd σ) : ck_cal 4 cm_Mo_act [.inr (480, 3, 6)] σ (fun q σ' => q = some (co_act t x y z nd σ).1 ∧ σ' = (co_act t x y z nd σ).2) := by
  subst ex ey ez
  unfold ck_sOk at hO
  have h2 : t = 0 ∨ t = 1 ∨ t = 2 ∨ t = 3 ∨ t = 4 ∨ t = 5 ∨ t = 6 ∨ t = 7 ∨ t = 8 ∨ t = 13 := by omega
  rcases h2 with rfl | rfl | rfl | rfl | rfl | rfl | rfl | rfl | rfl | rfl
  · exact cx_act0 hk hmd ht (by omega)
  · exact cx_act1 hk hmd ht (by omega) (by omega) (by omega)
  · exact cx_act2 hk hmd ht (by omega)
  · exact cx_act3 hk hmd ht (by omega) (by omega) hsp (hlo.1 rfl)
  · exact cx_act4 hk hmd ht (by omega) (by omega) (by omega) hsp (hlo.2.1 rfl)
  · exact cx_act5 hk hmd ht (by omega) (by omega) (by omega) hsp (hlo.2.2 rfl)
  · exact cx_act6 hk hmd ht (by omega) (by omega)
  · exact cx_act7 hk hmd ht (by omega)
  · exact cx_act8 hk hmd ht (by omega) (by omega)
  · exact cx_act13 hk hmd ht (by omega) hc
/-- what is found needless holds -/
theorem co_bit3 {a b c : Prop} [Decidable a] [Decidable b] [Decidable c] : (0 < ck_and ((if a then 0 else 1) + (if b then 2 else 0) + (if c then 4 else 0)) 1 → ¬ a) ∧ (0 < ck_and ((if a then 0 else 1) + (if b then 2 else 0) + (if c then 4 else 0)) 2 → b) ∧ (0 < ck_and ((if a then 0 else 1) + (if b then 2 else 0) + (if c then 4 else 0)) 4 → c) := by
  refine ⟨fun h => ?_, fun h => ?_, fun h => ?_⟩
  · intro w
    rw [if_pos w] at h
    revert h
    split <;> split <;> decide +kernel
  · refine Decidable.of_not_not (fun w => ?_)
    rw [if_neg w] at h
    revert h
    split <;> split <;> decide +kernel
  · refine Decidable.of_not_not (fun w => ?_)
    rw [if_neg w] at h
    revert h
    split <;> split <;> decide +kernel
theorem co_lc_of {f : ck_D} {m : ck_M} {r i : Int} (h : co_sd f (m 496) (m 497) (m 498)) (r0 : 0 ≤ r) (r1 : r < 4) (i0 : 0 ≤ i) (i1 : i < 10) : co_lc (ck_nix f r i) r (m 496 i) m := by
  obtain ⟨hK, hL, hH, hZ, hT, hE, hS⟩ := h
  obtain ⟨b1, b2, b3⟩ := co_bit3 (a := ck_th f r = 0) (b := 0 ≤ ck_lo f i) (c := ck_hi f i r ≤ -1)
  refine ⟨fun z => ?_, fun z => ?_, fun z w => ?_⟩
  · rcases hT r r0 r1 with q | q
    · exact absurd q (b1 z)
    · exact q
  · have := b2 z
    have := hL i i0 i1
    omega
  · have := b3 z
    have h2 := hH i r i0 i1 r0 r1
    unfold co_ln at h2
    rw [if_neg w] at h2
    omega
theorem co_lo_of {f : ck_D} {m : ck_M} {t x y z : Int} (h : co_sd f (m 496) (m 497) (m 498)) (hO : ck_sOk t x y z) : co_lo t x y z (ck_ndl t x y z f) m := by
  unfold ck_sOk at hO
  refine ⟨fun e w => ?_, fun e => ?_, fun e => ?_⟩
  · subst e
    have e2 : ck_ndl 3 x y z f = if ck_th f y = 0 then 0 else 1 := rfl
    rw [e2] at w
    rcases h.2.2.2.2.1 y (by omega) (by omega) with q | q
    · rw [if_pos q] at w
      exact absurd w (by decide +kernel)
    · exact q
  · subst e
    exact co_lc_of h (by omega) (by omega) (by omega) (by omega)
  · subst e
    exact co_lc_of h (by omega) (by omega) (by omega) (by omega)
theorem cx_one_if {σ p : ck_M} {n c : Int} {X : Int → ck_D} {nd : Int → Int} (hp : co_pg p n) (hm : co_pm σ p n) (hX : co_sol p n X) (hi : co_mi p n X c σ) (h0 : σ 480 21 = 0) (hc : c ≤ 1000000000) (hsp : co_spc σ (σ 480 20) (nd (σ 480 20))) (hnd : nd (σ 480 20) = ck_ndl (p 6 (σ 480 20)) (p 7 (σ 480 20)) (p 8 (σ 480 20)) (p 9 (σ 480 20)) (X (σ 480 20))) (hT : p 6 (σ 480 20) = 9 ∨ p 6 (σ 480 20) = 12) : ck_cal 5 cm_Mo_one [.inr (480, 3, 6)] σ (fun q σ' => ∃ v, q = some v ∧ v = (co_one p n nd σ).1 ∧ (v = 0 ∨ v = 1) ∧ σ' = (co_one p n nd σ).2) := by
  refine ck_cal_of ?_
  obtain ⟨hmd, ⟨k0, -⟩, hw, hsd⟩ := hi
  obtain ⟨k1, hs⟩ := hsd h0
  have hn := hp.1
  have hk : 0 ≤ σ 480 20 ∧ σ 480 20 < 64 := ⟨k0, by omega⟩
  obtain ⟨⟨e6, e7, e8, e9, e11⟩, e12, e10⟩ := hm.2 (σ 480 20) k0 k1
  have hO := hp.2.1 _ k0 k1
  have hQ := hO
  unfold ck_sOk at hQ
  have eN := hm.1
  have eE := e12 hT
  have hS : (if σ 483 (σ 480 20) = 10 then 0 else σ 496 (σ 483 (σ 480 20))) + σ 484 (σ 480 20) = co_sm p σ (σ 480 20) := by
    rw [e8, e9]
    rfl
  have hxn := hmd.1 (p 7 (σ 480 20)) (by omega) (by omega)
  have hb : -2000000 ≤ co_sm p σ (σ 480 20) ∧ co_sm p σ (σ 480 20) ≤ 2000000 := by
    unfold co_sm
    by_cases q : p 8 (σ 480 20) = 10
    · rw [if_pos q]; omega
    · rw [if_neg q]
      have := hmd.1 (p 8 (σ 480 20)) (by omega) (by omega)
      omega
  have exn : σ 496 (σ 482 (σ 480 20)) = σ 496 (p 7 (σ 480 20)) := by rw [e7]
  have q := hp.2.2.1 _ k0 k1 hT
  have hi01 := co_in01 (co_sm p σ (σ 480 20)) (-1000000) 1000000
  have eo : co_one p n nd σ = (if co_nb (co_sm p σ (σ 480 20)) then (1, co_adv n σ (if σ 496 (p 7 (σ 480 20)) < co_sm p σ (σ 480 20) then σ 480 20 + 1 else (if p 11 (σ 480 20) = -1 then p 12 (σ 480 20) else p 11 (σ 480 20)) + 1)) else (0, co_stp σ 4)) := by
    unfold co_one co_onk
    rw [if_pos hT]
  refine ck_go_run 12 (X1 := (if σ 481 (σ 480 20) = 9 then 35 else 21, [some (.inr (480, 3, 6)), some (.inl ((σ 480 20) + 1))], [], σ)) (ps := [0 ≤ σ 480 20 ∧ σ 480 20 < ((64 : Nat) : Int), ck_rg (σ 481 (σ 480 20)), ck_rg 9]) rfl ⟨⟨by omega, by omega⟩, (ck_rgo (by omega) (by omega)), (ck_rgo (by omega) (by omega)), trivial⟩ ?_
  refine ck_go_ite (fun h1 => ?_) (fun h1 => ?_)
  · refine ck_go_run 1 (X1 := (36, [some (.inr (480, 3, 6)), some (.inl ((σ 480 20) + 1))], [.inr (480, 3, 6)], σ)) (ps := []) rfl trivial ?_
    refine ck_go_cal (rest := []) (ck_cal_le (by decide) (cx_sum' (σ := σ) (v := co_sm p σ (σ 480 20)) hk (by rw [e8]; omega) hS)) ⟨_, rfl, Or.inl ⟨_, rfl⟩, rfl, rfl, rfl, Nat.le_of_ble_eq_true rfl, fun _ => ⟨_, _, rfl⟩⟩ ?_
    rintro _ s' ⟨rfl, e'⟩
    rw [e']
    clear e' s'
    refine ck_go_run 2 (X1 := (43, [some (.inr (480, 3, 6)), some (.inl ((σ 480 20) + 1))], [.inl 1000000, .inl ((-1000000)), .inl (co_sm p σ (σ 480 20))], σ)) (ps := []) rfl trivial ?_
    refine ck_go_cal (rest := []) (ck_cal_le (by decide) (cx_in (v := co_sm p σ (σ 480 20)) (f := (-1000000)) (t := 1000000) (by first | assumption | exact ck_rgo (by omega) (by omega)) (by exact ⟨by decide, by decide⟩) (by exact ⟨by decide, by decide⟩) _)) ⟨_, rfl, Or.inr ⟨_, rfl⟩, rfl, rfl, rfl, Nat.le_of_ble_eq_true rfl, fun h => absurd h (by decide)⟩ ?_
    rintro _ s' ⟨rfl, e'⟩
    rw [e']
    clear e' s'
    refine ck_go_run 1 (X1 := (if ck_in (co_sm p σ (σ 480 20)) ((-1000000)) 1000000 = 0 then 49 else 55, [some (.inr (480, 3, 6)), some (.inl ((σ 480 20) + 1))], [], σ)) (ps := [ck_rg (ck_in (co_sm p σ (σ 480 20)) ((-1000000)) 1000000)]) rfl ⟨(ck_rgo (by omega) (by omega)), trivial⟩ ?_
    refine ck_go_ite (fun h2 => ?_) (fun h2 => ?_)
    · refine ck_go_run 2 (X1 := (51, [some (.inr (480, 3, 6)), some (.inl ((σ 480 20) + 1))], [.inl 4, .inr (480, 3, 6)], σ)) (ps := []) rfl trivial ?_
      refine ck_go_cal (rest := []) (ck_cal_le (by decide) (cx_stops 4 σ)) ⟨_, rfl, Or.inl ⟨_, rfl⟩, rfl, rfl, rfl, Nat.le_of_ble_eq_true rfl, fun _ => ⟨_, _, rfl⟩⟩ ?_
      rintro _ s1 ⟨rfl, e1⟩
      try simp only [co_in0] at *
      refine ck_eZ (Or.inl rfl) ⟨0, rfl, ?_, Or.inl rfl, ?_⟩ rfl rfl rfl
      · rw [eo, if_neg (by assumption)]
      · rw [eo, if_neg (by assumption)]
        exact e1
    · refine ck_go_run 9 (X1 := (70, [some (.inr (480, 3, 6)), some (.inl ((σ 480 20) + 1))], [.inr (480, 3, 6), .inl (σ 496 (σ 482 (σ 480 20)))], σ)) (ps := [0 ≤ σ 480 20 ∧ σ 480 20 < ((64 : Nat) : Int), 0 ≤ σ 482 (σ 480 20) ∧ σ 482 (σ 480 20) < ((10 : Nat) : Int)]) rfl ⟨⟨by omega, by omega⟩, ⟨by omega, by omega⟩, trivial⟩ ?_
      refine ck_go_cal (rest := [.inl (σ 496 (σ 482 (σ 480 20)))]) (ck_cal_le (by decide) (cx_sum' (σ := σ) (v := co_sm p σ (σ 480 20)) hk (by rw [e8]; omega) hS)) ⟨_, rfl, Or.inl ⟨_, rfl⟩, rfl, rfl, rfl, Nat.le_of_ble_eq_true rfl, fun _ => ⟨_, _, rfl⟩⟩ ?_
      rintro _ s' ⟨rfl, e'⟩
      rw [e']
      clear e' s'
      refine ck_go_run 1 (X1 := (if σ 496 (σ 482 (σ 480 20)) < co_sm p σ (σ 480 20) then 209 else 76, [some (.inr (480, 3, 6)), some (.inl ((σ 480 20) + 1))], [], σ)) (ps := [ck_rg (σ 496 (σ 482 (σ 480 20))), ck_rg (co_sm p σ (σ 480 20))]) rfl ⟨(ck_rgo (by omega) (by omega)), (ck_rgo (by omega) (by omega)), trivial⟩ ?_
      refine ck_go_ite (fun h3 => ?_) (fun h3 => ?_)
      · refine ck_go_run 15 (X1 := (if (σ 480 20) + 1 = σ 480 1 then 236 else 240, [some (.inr (480, 3, 6)), some (.inl ((σ 480 20) + 1))], [.inr (480, 3, 6)], ck_up (ck_up σ 480 20 ((σ 480 20) + 1)) 480 22 ((σ 480 22) + 1))) (ps := [ck_rg ((σ 480 20) + 1), ck_rg (σ 480 1)]) rfl ⟨(ck_rgo (by omega) (by omega)), (ck_rgo (by omega) (by omega)), trivial⟩ ?_
        refine ck_go_ite (fun h4 => ?_) (fun h4 => ?_)
        · refine ck_go_run 4 (X1 := (245, [some (.inr (480, 3, 6)), some (.inl ((σ 480 20) + 1))], [.inl 1], ck_up (ck_up (ck_up σ 480 20 ((σ 480 20) + 1)) 480 22 ((σ 480 22) + 1)) 480 21 1)) (ps := []) rfl trivial ?_
          try simp only [co_in0] at *
          refine ck_eZ (Or.inr rfl) ⟨1, rfl, ?_, Or.inr rfl, ?_⟩ rfl rfl rfl
          · rw [eo, if_pos (Decidable.of_not_not (by assumption))]
          · rw [eo, if_pos (Decidable.of_not_not (by assumption))]
            have g1 : ((σ 480 20) + 1) = (if σ 496 (p 7 (σ 480 20)) < co_sm p σ (σ 480 20) then σ 480 20 + 1 else (if p 11 (σ 480 20) = -1 then p 12 (σ 480 20) else p 11 (σ 480 20)) + 1) := by
              rw [if_pos (by omega)]
            have g2 : (1 : Int) = (if ((σ 480 20) + 1) = n then 1 else 0) := by
              first | exact (if_pos (by omega)).symm | exact (if_neg (by omega)).symm
            show _ = co_adv n σ (if σ 496 (p 7 (σ 480 20)) < co_sm p σ (σ 480 20) then σ 480 20 + 1 else (if p 11 (σ 480 20) = -1 then p 12 (σ 480 20) else p 11 (σ 480 20)) + 1)
            rw [← g1]
            unfold co_adv
            rw [← g2]
        · refine ck_go_run 3 (X1 := (245, [some (.inr (480, 3, 6)), some (.inl ((σ 480 20) + 1))], [.inl 1], ck_up (ck_up (ck_up σ 480 20 ((σ 480 20) + 1)) 480 22 ((σ 480 22) + 1)) 480 21 0)) (ps := []) rfl trivial ?_
          try simp only [co_in0] at *
          refine ck_eZ (Or.inr rfl) ⟨1, rfl, ?_, Or.inr rfl, ?_⟩ rfl rfl rfl
          · rw [eo, if_pos (Decidable.of_not_not (by assumption))]
          · rw [eo, if_pos (Decidable.of_not_not (by assumption))]
            have g1 : ((σ 480 20) + 1) = (if σ 496 (p 7 (σ 480 20)) < co_sm p σ (σ 480 20) then σ 480 20 + 1 else (if p 11 (σ 480 20) = -1 then p 12 (σ 480 20) else p 11 (σ 480 20)) + 1) := by
              rw [if_pos (by omega)]
            have g2 : (0 : Int) = (if ((σ 480 20) + 1) = n then 1 else 0) := by
              first | exact (if_pos (by omega)).symm | exact (if_neg (by omega)).symm
            show _ = co_adv n σ (if σ 496 (p 7 (σ 480 20)) < co_sm p σ (σ 480 20) then σ 480 20 + 1 else (if p 11 (σ 480 20) = -1 then p 12 (σ 480 20) else p 11 (σ 480 20)) + 1)
            rw [← g1]
            unfold co_adv
            rw [← g2]
      · refine ck_go_run 8 (X1 := (if σ 485 (σ 480 20) = (-1) then 90 else 102, [some (.inr (480, 3, 6)), some (.inl ((σ 480 20) + 1))], [.inl 1], σ)) (ps := [0 ≤ σ 480 20 ∧ σ 480 20 < ((64 : Nat) : Int), ck_rg (σ 485 (σ 480 20)), ck_rg ((-1))]) rfl ⟨⟨by omega, by omega⟩, (ck_rgo (by omega) (by omega)), (ck_rgo (by omega) (by omega)), trivial⟩ ?_
        refine ck_go_ite (fun h5 => ?_) (fun h5 => ?_)
        · refine ck_go_run 24 (X1 := (if 1 + (σ 486 (σ 480 20)) = σ 480 1 then 236 else 240, [some (.inr (480, 3, 6)), some (.inl (1 + (σ 486 (σ 480 20))))], [.inr (480, 3, 6)], ck_up (ck_up σ 480 20 (1 + (σ 486 (σ 480 20)))) 480 22 ((σ 480 22) + 1))) (ps := [0 ≤ σ 480 20 ∧ σ 480 20 < ((64 : Nat) : Int), ck_rg (1 + (σ 486 (σ 480 20))), ck_rg (σ 480 1)]) rfl ⟨⟨by omega, by omega⟩, (ck_rgo (by omega) (by omega)), (ck_rgo (by omega) (by omega)), trivial⟩ ?_
          refine ck_go_ite (fun h6 => ?_) (fun h6 => ?_)
          · refine ck_go_run 4 (X1 := (245, [some (.inr (480, 3, 6)), some (.inl (1 + (σ 486 (σ 480 20))))], [.inl 1], ck_up (ck_up (ck_up σ 480 20 (1 + (σ 486 (σ 480 20)))) 480 22 ((σ 480 22) + 1)) 480 21 1)) (ps := []) rfl trivial ?_
            try simp only [co_in0] at *
            refine ck_eZ (Or.inr rfl) ⟨1, rfl, ?_, Or.inr rfl, ?_⟩ rfl rfl rfl
            · rw [eo, if_pos (Decidable.of_not_not (by assumption))]
            · rw [eo, if_pos (Decidable.of_not_not (by assumption))]
              have g1 : (1 + (σ 486 (σ 480 20))) = (if σ 496 (p 7 (σ 480 20)) < co_sm p σ (σ 480 20) then σ 480 20 + 1 else (if p 11 (σ 480 20) = -1 then p 12 (σ 480 20) else p 11 (σ 480 20)) + 1) := by
                rw [if_neg (by omega), if_pos (by omega), eE]
                omega
              have g2 : (1 : Int) = (if (1 + (σ 486 (σ 480 20))) = n then 1 else 0) := by
                first | exact (if_pos (by omega)).symm | exact (if_neg (by omega)).symm
              show _ = co_adv n σ (if σ 496 (p 7 (σ 480 20)) < co_sm p σ (σ 480 20) then σ 480 20 + 1 else (if p 11 (σ 480 20) = -1 then p 12 (σ 480 20) else p 11 (σ 480 20)) + 1)
              rw [← g1]
              unfold co_adv
              rw [← g2]
          · refine ck_go_run 3 (X1 := (245, [some (.inr (480, 3, 6)), some (.inl (1 + (σ 486 (σ 480 20))))], [.inl 1], ck_up (ck_up (ck_up σ 480 20 (1 + (σ 486 (σ 480 20)))) 480 22 ((σ 480 22) + 1)) 480 21 0)) (ps := []) rfl trivial ?_
            try simp only [co_in0] at *
            refine ck_eZ (Or.inr rfl) ⟨1, rfl, ?_, Or.inr rfl, ?_⟩ rfl rfl rfl
            · rw [eo, if_pos (Decidable.of_not_not (by assumption))]
            · rw [eo, if_pos (Decidable.of_not_not (by assumption))]
              have g1 : (1 + (σ 486 (σ 480 20))) = (if σ 496 (p 7 (σ 480 20)) < co_sm p σ (σ 480 20) then σ 480 20 + 1 else (if p 11 (σ 480 20) = -1 then p 12 (σ 480 20) else p 11 (σ 480 20)) + 1) := by
                rw [if_neg (by omega), if_pos (by omega), eE]
                omega
              have g2 : (0 : Int) = (if (1 + (σ 486 (σ 480 20))) = n then 1 else 0) := by
                first | exact (if_pos (by omega)).symm | exact (if_neg (by omega)).symm
              show _ = co_adv n σ (if σ 496 (p 7 (σ 480 20)) < co_sm p σ (σ 480 20) then σ 480 20 + 1 else (if p 11 (σ 480 20) = -1 then p 12 (σ 480 20) else p 11 (σ 480 20)) + 1)
              rw [← g1]
              unfold co_adv
              rw [← g2]
        · refine ck_go_run 23 (X1 := (if 1 + (σ 485 (σ 480 20)) = σ 480 1 then 236 else 240, [some (.inr (480, 3, 6)), some (.inl (1 + (σ 485 (σ 480 20))))], [.inr (480, 3, 6)], ck_up (ck_up σ 480 20 (1 + (σ 485 (σ 480 20)))) 480 22 ((σ 480 22) + 1))) (ps := [0 ≤ σ 480 20 ∧ σ 480 20 < ((64 : Nat) : Int), ck_rg (1 + (σ 485 (σ 480 20))), ck_rg (σ 480 1)]) rfl ⟨⟨by omega, by omega⟩, (ck_rgo (by omega) (by omega)), (ck_rgo (by omega) (by omega)), trivial⟩ ?_
          refine ck_go_ite (fun h7 => ?_) (fun h7 => ?_)
          · refine ck_go_run 4 (X1 := (245, [some (.inr (480, 3, 6)), some (.inl (1 + (σ 485 (σ 480 20))))], [.inl 1], ck_up (ck_up (ck_up σ 480 20 (1 + (σ 485 (σ 480 20)))) 480 22 ((σ 480 22) + 1)) 480 21 1)) (ps := []) rfl trivial ?_
            try simp only [co_in0] at *
            refine ck_eZ (Or.inr rfl) ⟨1, rfl, ?_, Or.inr rfl, ?_⟩ rfl rfl rfl
            · rw [eo, if_pos (Decidable.of_not_not (by assumption))]
            · rw [eo, if_pos (Decidable.of_not_not (by assumption))]
              have g1 : (1 + (σ 485 (σ 480 20))) = (if σ 496 (p 7 (σ 480 20)) < co_sm p σ (σ 480 20) then σ 480 20 + 1 else (if p 11 (σ 480 20) = -1 then p 12 (σ 480 20) else p 11 (σ 480 20)) + 1) := by
                rw [if_neg (by omega), if_neg (by omega), e11]
                omega
              have g2 : (1 : Int) = (if (1 + (σ 485 (σ 480 20))) = n then 1 else 0) := by
                first | exact (if_pos (by omega)).symm | exact (if_neg (by omega)).symm
              show _ = co_adv n σ (if σ 496 (p 7 (σ 480 20)) < co_sm p σ (σ 480 20) then σ 480 20 + 1 else (if p 11 (σ 480 20) = -1 then p 12 (σ 480 20) else p 11 (σ 480 20)) + 1)
              rw [← g1]
              unfold co_adv
              rw [← g2]
          · refine ck_go_run 3 (X1 := (245, [some (.inr (480, 3, 6)), some (.inl (1 + (σ 485 (σ 480 20))))], [.inl 1], ck_up (ck_up (ck_up σ 480 20 (1 + (σ 485 (σ 480 20)))) 480 22 ((σ 480 22) + 1)) 480 21 0)) (ps := []) rfl trivial ?_
            try simp only [co_in0] at *
            refine ck_eZ (Or.inr rfl) ⟨1, rfl, ?_, Or.inr rfl, ?_⟩ rfl rfl rfl
            · rw [eo, if_pos (Decidable.of_not_not (by assumption))]
            · rw [eo, if_pos (Decidable.of_not_not (by assumption))]
              have g1 : (1 + (σ 485 (σ 480 20))) = (if σ 496 (p 7 (σ 480 20)) < co_sm p σ (σ 480 20) then σ 480 20 + 1 else (if p 11 (σ 480 20) = -1 then p 12 (σ 480 20) else p 11 (σ 480 20)) + 1) := by
                rw [if_neg (by omega), if_neg (by omega), e11]
                omega
              have g2 : (0 : Int) = (if (1 + (σ 485 (σ 480 20))) = n then 1 else 0) := by
                first | exact (if_pos (by omega)).symm | exact (if_neg (by omega)).symm
              show _ = co_adv n σ (if σ 496 (p 7 (σ 480 20)) < co_sm p σ (σ 480 20) then σ 480 20 + 1 else (if p 11 (σ 480 20) = -1 then p 12 (σ 480 20) else p 11 (σ 480 20)) + 1)
              rw [← g1]
              unfold co_adv
              rw [← g2]
  · refine ck_go_run 7 (X1 := (if σ 481 (σ 480 20) = 12 then 35 else 116, [some (.inr (480, 3, 6)), some (.inl ((σ 480 20) + 1))], [], σ)) (ps := [0 ≤ σ 480 20 ∧ σ 480 20 < ((64 : Nat) : Int), ck_rg (σ 481 (σ 480 20)), ck_rg 12]) rfl ⟨⟨by omega, by omega⟩, (ck_rgo (by omega) (by omega)), (ck_rgo (by omega) (by omega)), trivial⟩ ?_
    refine ck_go_t (by omega) ?_
    refine ck_go_run 1 (X1 := (36, [some (.inr (480, 3, 6)), some (.inl ((σ 480 20) + 1))], [.inr (480, 3, 6)], σ)) (ps := []) rfl trivial ?_
    refine ck_go_cal (rest := []) (ck_cal_le (by decide) (cx_sum' (σ := σ) (v := co_sm p σ (σ 480 20)) hk (by rw [e8]; omega) hS)) ⟨_, rfl, Or.inl ⟨_, rfl⟩, rfl, rfl, rfl, Nat.le_of_ble_eq_true rfl, fun _ => ⟨_, _, rfl⟩⟩ ?_
    rintro _ s' ⟨rfl, e'⟩
    rw [e']
    clear e' s'
    refine ck_go_run 2 (X1 := (43, [some (.inr (480, 3, 6)), some (.inl ((σ 480 20) + 1))], [.inl 1000000, .inl ((-1000000)), .inl (co_sm p σ (σ 480 20))], σ)) (ps := []) rfl trivial ?_
    refine ck_go_cal (rest := []) (ck_cal_le (by decide) (cx_in (v := co_sm p σ (σ 480 20)) (f := (-1000000)) (t := 1000000) (by first | assumption | exact ck_rgo (by omega) (by omega)) (by exact ⟨by decide, by decide⟩) (by exact ⟨by decide, by decide⟩) _)) ⟨_, rfl, Or.inr ⟨_, rfl⟩, rfl, rfl, rfl, Nat.le_of_ble_eq_true rfl, fun h => absurd h (by decide)⟩ ?_
    rintro _ s' ⟨rfl, e'⟩
    rw [e']
    clear e' s'
    refine ck_go_run 1 (X1 := (if ck_in (co_sm p σ (σ 480 20)) ((-1000000)) 1000000 = 0 then 49 else 55, [some (.inr (480, 3, 6)), some (.inl ((σ 480 20) + 1))], [], σ)) (ps := [ck_rg (ck_in (co_sm p σ (σ 480 20)) ((-1000000)) 1000000)]) rfl ⟨(ck_rgo (by omega) (by omega)), trivial⟩ ?_
    refine ck_go_ite (fun h8 => ?_) (fun h8 => ?_)
    · refine ck_go_run 2 (X1 := (51, [some (.inr (480, 3, 6)), some (.inl ((σ 480 20) + 1))], [.inl 4, .inr (480, 3, 6)], σ)) (ps := []) rfl trivial ?_
      refine ck_go_cal (rest := []) (ck_cal_le (by decide) (cx_stops 4 σ)) ⟨_, rfl, Or.inl ⟨_, rfl⟩, rfl, rfl, rfl, Nat.le_of_ble_eq_true rfl, fun _ => ⟨_, _, rfl⟩⟩ ?_
      rintro _ s2 ⟨rfl, e2⟩
      try simp only [co_in0] at *
      refine ck_eZ (Or.inl rfl) ⟨0, rfl, ?_, Or.inl rfl, ?_⟩ rfl rfl rfl
      · rw [eo, if_neg (by assumption)]
      · rw [eo, if_neg (by assumption)]
        exact e2
    · refine ck_go_run 9 (X1 := (70, [some (.inr (480, 3, 6)), some (.inl ((σ 480 20) + 1))], [.inr (480, 3, 6), .inl (σ 496 (σ 482 (σ 480 20)))], σ)) (ps := [0 ≤ σ 480 20 ∧ σ 480 20 < ((64 : Nat) : Int), 0 ≤ σ 482 (σ 480 20) ∧ σ 482 (σ 480 20) < ((10 : Nat) : Int)]) rfl ⟨⟨by omega, by omega⟩, ⟨by omega, by omega⟩, trivial⟩ ?_
      refine ck_go_cal (rest := [.inl (σ 496 (σ 482 (σ 480 20)))]) (ck_cal_le (by decide) (cx_sum' (σ := σ) (v := co_sm p σ (σ 480 20)) hk (by rw [e8]; omega) hS)) ⟨_, rfl, Or.inl ⟨_, rfl⟩, rfl, rfl, rfl, Nat.le_of_ble_eq_true rfl, fun _ => ⟨_, _, rfl⟩⟩ ?_
      rintro _ s' ⟨rfl, e'⟩
      rw [e']
      clear e' s'
      refine ck_go_run 1 (X1 := (if σ 496 (σ 482 (σ 480 20)) < co_sm p σ (σ 480 20) then 209 else 76, [some (.inr (480, 3, 6)), some (.inl ((σ 480 20) + 1))], [], σ)) (ps := [ck_rg (σ 496 (σ 482 (σ 480 20))), ck_rg (co_sm p σ (σ 480 20))]) rfl ⟨(ck_rgo (by omega) (by omega)), (ck_rgo (by omega) (by omega)), trivial⟩ ?_
      refine ck_go_ite (fun h9 => ?_) (fun h9 => ?_)
      · refine ck_go_run 15 (X1 := (if (σ 480 20) + 1 = σ 480 1 then 236 else 240, [some (.inr (480, 3, 6)), some (.inl ((σ 480 20) + 1))], [.inr (480, 3, 6)], ck_up (ck_up σ 480 20 ((σ 480 20) + 1)) 480 22 ((σ 480 22) + 1))) (ps := [ck_rg ((σ 480 20) + 1), ck_rg (σ 480 1)]) rfl ⟨(ck_rgo (by omega) (by omega)), (ck_rgo (by omega) (by omega)), trivial⟩ ?_
        refine ck_go_ite (fun h10 => ?_) (fun h10 => ?_)
        · refine ck_go_run 4 (X1 := (245, [some (.inr (480, 3, 6)), some (.inl ((σ 480 20) + 1))], [.inl 1], ck_up (ck_up (ck_up σ 480 20 ((σ 480 20) + 1)) 480 22 ((σ 480 22) + 1)) 480 21 1)) (ps := []) rfl trivial ?_
          try simp only [co_in0] at *
          refine ck_eZ (Or.inr rfl) ⟨1, rfl, ?_, Or.inr rfl, ?_⟩ rfl rfl rfl
          · rw [eo, if_pos (Decidable.of_not_not (by assumption))]
          · rw [eo, if_pos (Decidable.of_not_not (by assumption))]
            have g1 : ((σ 480 20) + 1) = (if σ 496 (p 7 (σ 480 20)) < co_sm p σ (σ 480 20) then σ 480 20 + 1 else (if p 11 (σ 480 20) = -1 then p 12 (σ 480 20) else p 11 (σ 480 20)) + 1) := by
              rw [if_pos (by omega)]
            have g2 : (1 : Int) = (if ((σ 480 20) + 1) = n then 1 else 0) := by
              first | exact (if_pos (by omega)).symm | exact (if_neg (by omega)).symm
            show _ = co_adv n σ (if σ 496 (p 7 (σ 480 20)) < co_sm p σ (σ 480 20) then σ 480 20 + 1 else (if p 11 (σ 480 20) = -1 then p 12 (σ 480 20) else p 11 (σ 480 20)) + 1)
            rw [← g1]
            unfold co_adv
            rw [← g2]
        · refine ck_go_run 3 (X1 := (245, [some (.inr (480, 3, 6)), some (.inl ((σ 480 20) + 1))], [.inl 1], ck_up (ck_up (ck_up σ 480 20 ((σ 480 20) + 1)) 480 22 ((σ 480 22) + 1)) 480 21 0)) (ps := []) rfl trivial ?_
          try simp only [co_in0] at *
          refine ck_eZ (Or.inr rfl) ⟨1, rfl, ?_, Or.inr rfl, ?_⟩ rfl rfl rfl
          · rw [eo, if_pos (Decidable.of_not_not (by assumption))]
          · rw [eo, if_pos (Decidable.of_not_not (by assumption))]
            have g1 : ((σ 480 20) + 1) = (if σ 496 (p 7 (σ 480 20)) < co_sm p σ (σ 480 20) then σ 480 20 + 1 else (if p 11 (σ 480 20) = -1 then p 12 (σ 480 20) else p 11 (σ 480 20)) + 1) := by
              rw [if_pos (by omega)]
            have g2 : (0 : Int) = (if ((σ 480 20) + 1) = n then 1 else 0) := by
              first | exact (if_pos (by omega)).symm | exact (if_neg (by omega)).symm
            show _ = co_adv n σ (if σ 496 (p 7 (σ 480 20)) < co_sm p σ (σ 480 20) then σ 480 20 + 1 else (if p 11 (σ 480 20) = -1 then p 12 (σ 480 20) else p 11 (σ 480 20)) + 1)
            rw [← g1]
            unfold co_adv
            rw [← g2]
      · refine ck_go_run 8 (X1 := (if σ 485 (σ 480 20) = (-1) then 90 else 102, [some (.inr (480, 3, 6)), some (.inl ((σ 480 20) + 1))], [.inl 1], σ)) (ps := [0 ≤ σ 480 20 ∧ σ 480 20 < ((64 : Nat) : Int), ck_rg (σ 485 (σ 480 20)), ck_rg ((-1))]) rfl ⟨⟨by omega, by omega⟩, (ck_rgo (by omega) (by omega)), (ck_rgo (by omega) (by omega)), trivial⟩ ?_
        refine ck_go_ite (fun h11 => ?_) (fun h11 => ?_)
        · refine ck_go_run 24 (X1 := (if 1 + (σ 486 (σ 480 20)) = σ 480 1 then 236 else 240, [some (.inr (480, 3, 6)), some (.inl (1 + (σ 486 (σ 480 20))))], [.inr (480, 3, 6)], ck_up (ck_up σ 480 20 (1 + (σ 486 (σ 480 20)))) 480 22 ((σ 480 22) + 1))) (ps := [0 ≤ σ 480 20 ∧ σ 480 20 < ((64 : Nat) : Int), ck_rg (1 + (σ 486 (σ 480 20))), ck_rg (σ 480 1)]) rfl ⟨⟨by omega, by omega⟩, (ck_rgo (by omega) (by omega)), (ck_rgo (by omega) (by omega)), trivial⟩ ?_
          refine ck_go_ite (fun h12 => ?_) (fun h12 => ?_)
          · refine ck_go_run 4 (X1 := (245, [some (.inr (480, 3, 6)), some (.inl (1 + (σ 486 (σ 480 20))))], [.inl 1], ck_up (ck_up (ck_up σ 480 20 (1 + (σ 486 (σ 480 20)))) 480 22 ((σ 480 22) + 1)) 480 21 1)) (ps := []) rfl trivial ?_
            try simp only [co_in0] at *
            refine ck_eZ (Or.inr rfl) ⟨1, rfl, ?_, Or.inr rfl, ?_⟩ rfl rfl rfl
            · rw [eo, if_pos (Decidable.of_not_not (by assumption))]
            · rw [eo, if_pos (Decidable.of_not_not (by assumption))]
              have g1 : (1 + (σ 486 (σ 480 20))) = (if σ 496 (p 7 (σ 480 20)) < co_sm p σ (σ 480 20) then σ 480 20 + 1 else (if p 11 (σ 480 20) = -1 then p 12 (σ 480 20) else p 11 (σ 480 20)) + 1) := by
                rw [if_neg (by omega), if_pos (by omega), eE]
                omega
              have g2 : (1 : Int) = (if (1 + (σ 486 (σ 480 20))) = n then 1 else 0) := by
                first | exact (if_pos (by omega)).symm | exact (if_neg (by omega)).symm
              show _ = co_adv n σ (if σ 496 (p 7 (σ 480 20)) < co_sm p σ (σ 480 20) then σ 480 20 + 1 else (if p 11 (σ 480 20) = -1 then p 12 (σ 480 20) else p 11 (σ 480 20)) + 1)
              rw [← g1]
              unfold co_adv
              rw [← g2]
          · refine ck_go_run 3 (X1 := (245, [some (.inr (480, 3, 6)), some (.inl (1 + (σ 486 (σ 480 20))))], [.inl 1], ck_up (ck_up (ck_up σ 480 20 (1 + (σ 486 (σ 480 20)))) 480 22 ((σ 480 22) + 1)) 480 21 0)) (ps := []) rfl trivial ?_
            try simp only [co_in0] at *
            refine ck_eZ (Or.inr rfl) ⟨1, rfl, ?_, Or.inr rfl, ?_⟩ rfl rfl rfl
            · rw [eo, if_pos (Decidable.of_not_not (by assumption))]
            · rw [eo, if_pos (Decidable.of_not_not (by assumption))]
              have g1 : (1 + (σ 486 (σ 480 20))) = (if σ 496 (p 7 (σ 480 20)) < co_sm p σ (σ 480 20) then σ 480 20 + 1 else (if p 11 (σ 480 20) = -1 then p 12 (σ 480 20) else p 11 (σ 480 20)) + 1) := by
                rw [if_neg (by omega), if_pos (by omega), eE]
                omega
              have g2 : (0 : Int) = (if (1 + (σ 486 (σ 480 20))) = n then 1 else 0) := by
                first | exact (if_pos (by omega)).symm | exact (if_neg (by omega)).symm
              show _ = co_adv n σ (if σ 496 (p 7 (σ 480 20)) < co_sm p σ (σ 480 20) then σ 480 20 + 1 else (if p 11 (σ 480 20) = -1 then p 12 (σ 480 20) else p 11 (σ 480 20)) + 1)
              rw [← g1]
              unfold co_adv
              rw [← g2]
        · refine ck_go_run 23 (X1 := (if 1 + (σ 485 (σ 480 20)) = σ 480 1 then 236 else 240, [some (.inr (480, 3, 6)), some (.inl (1 + (σ 485 (σ 480 20))))], [.inr (480, 3, 6)], ck_up (ck_up σ 480 20 (1 + (σ 485 (σ 480 20)))) 480 22 ((σ 480 22) + 1))) (ps := [0 ≤ σ 480 20 ∧ σ 480 20 < ((64 : Nat) : Int), ck_rg (1 + (σ 485 (σ 480 20))), ck_rg (σ 480 1)]) rfl ⟨⟨by omega, by omega⟩, (ck_rgo (by omega) (by omega)), (ck_rgo (by omega) (by omega)), trivial⟩ ?_
          refine ck_go_ite (fun h13 => ?_) (fun h13 => ?_)
          · refine ck_go_run 4 (X1 := (245, [some (.inr (480, 3, 6)), some (.inl (1 + (σ 485 (σ 480 20))))], [.inl 1], ck_up (ck_up (ck_up σ 480 20 (1 + (σ 485 (σ 480 20)))) 480 22 ((σ 480 22) + 1)) 480 21 1)) (ps := []) rfl trivial ?_
            try simp only [co_in0] at *
            refine ck_eZ (Or.inr rfl) ⟨1, rfl, ?_, Or.inr rfl, ?_⟩ rfl rfl rfl
            · rw [eo, if_pos (Decidable.of_not_not (by assumption))]
            · rw [eo, if_pos (Decidable.of_not_not (by assumption))]
              have g1 : (1 + (σ 485 (σ 480 20))) = (if σ 496 (p 7 (σ 480 20)) < co_sm p σ (σ 480 20) then σ 480 20 + 1 else (if p 11 (σ 480 20) = -1 then p 12 (σ 480 20) else p 11 (σ 480 20)) + 1) := by
                rw [if_neg (by omega), if_neg (by omega), e11]
                omega
              have g2 : (1 : Int) = (if (1 + (σ 485 (σ 480 20))) = n then 1 else 0) := by
                first | exact (if_pos (by omega)).symm | exact (if_neg (by omega)).symm
              show _ = co_adv n σ (if σ 496 (p 7 (σ 480 20)) < co_sm p σ (σ 480 20) then σ 480 20 + 1 else (if p 11 (σ 480 20) = -1 then p 12 (σ 480 20) else p 11 (σ 480 20)) + 1)
              rw [← g1]
              unfold co_adv
              rw [← g2]
          · refine ck_go_run 3 (X1 := (245, [some (.inr (480, 3, 6)), some (.inl (1 + (σ 485 (σ 480 20))))], [.inl 1], ck_up (ck_up (ck_up σ 480 20 (1 + (σ 485 (σ 480 20)))) 480 22 ((σ 480 22) + 1)) 480 21 0)) (ps := []) rfl trivial ?_
            try simp only [co_in0] at *
            refine ck_eZ (Or.inr rfl) ⟨1, rfl, ?_, Or.inr rfl, ?_⟩ rfl rfl rfl
            · rw [eo, if_pos (Decidable.of_not_not (by assumption))]
            · rw [eo, if_pos (Decidable.of_not_not (by assumption))]
              have g1 : (1 + (σ 485 (σ 480 20))) = (if σ 496 (p 7 (σ 480 20)) < co_sm p σ (σ 480 20) then σ 480 20 + 1 else (if p 11 (σ 480 20) = -1 then p 12 (σ 480 20) else p 11 (σ 480 20)) + 1) := by
                rw [if_neg (by omega), if_neg (by omega), e11]
                omega
              have g2 : (0 : Int) = (if (1 + (σ 485 (σ 480 20))) = n then 1 else 0) := by
                first | exact (if_pos (by omega)).symm | exact (if_neg (by omega)).symm
              show _ = co_adv n σ (if σ 496 (p 7 (σ 480 20)) < co_sm p σ (σ 480 20) then σ 480 20 + 1 else (if p 11 (σ 480 20) = -1 then p 12 (σ 480 20) else p 11 (σ 480 20)) + 1)
              rw [← g1]
              unfold co_adv
              rw [← g2]
theorem cx_one_else {σ p : ck_M} {n c : Int} {X : Int → ck_D} {nd : Int → Int} (hp : co_pg p n) (hm : co_pm σ p n) (hX : co_sol p n X) (hi : co_mi p n X c σ) (h0 : σ 480 21 = 0) (hc : c ≤ 1000000000) (hsp : co_spc σ (σ 480 20) (nd (σ 480 20))) (hnd : nd (σ 480 20) = ck_ndl (p 6 (σ 480 20)) (p 7 (σ 480 20)) (p 8 (σ 480 20)) (p 9 (σ 480 20)) (X (σ 480 20))) (hT : p 6 (σ 480 20) = 10) : ck_cal 5 cm_Mo_one [.inr (480, 3, 6)] σ (fun q σ' => ∃ v, q = some v ∧ v = (co_one p n nd σ).1 ∧ (v = 0 ∨ v = 1) ∧ σ' = (co_one p n nd σ).2) := by
  refine ck_cal_of ?_
  obtain ⟨hmd, ⟨k0, -⟩, hw, hsd⟩ := hi
  obtain ⟨k1, hs⟩ := hsd h0
  have hn := hp.1
  have hk : 0 ≤ σ 480 20 ∧ σ 480 20 < 64 := ⟨k0, by omega⟩
  obtain ⟨⟨e6, e7, e8, e9, e11⟩, e12, e10⟩ := hm.2 (σ 480 20) k0 k1
  have hO := hp.2.1 _ k0 k1
  have hQ := hO
  unfold ck_sOk at hQ
  have eN := hm.1
  obtain ⟨eF, -⟩ := e10 (Or.inl hT)
  obtain ⟨⟨b1, b2⟩, b3, -⟩ := hp.2.2.2.1 _ k0 k1 (Or.inl hT)
  obtain ⟨c1, c2⟩ := b3 hT
  have eG := (hm.2 _ b1 (by omega)).2.1 (Or.inl c1)
  have q := hp.2.2.1 _ b1 (by omega) (Or.inl c1)
  have eGG : σ 486 (σ 487 (σ 480 20)) = p 12 (p 10 (σ 480 20)) := by rw [eF, eG]
  have eo : co_one p n nd σ = (1, co_adv n σ (p 12 (p 10 (σ 480 20)) + 1)) := by
    unfold co_one co_onk
    rw [if_neg (by omega), if_pos hT]
  refine ck_go_run 12 (X1 := (if σ 481 (σ 480 20) = 9 then 35 else 21, [some (.inr (480, 3, 6)), some (.inl ((σ 480 20) + 1))], [], σ)) (ps := [0 ≤ σ 480 20 ∧ σ 480 20 < ((64 : Nat) : Int), ck_rg (σ 481 (σ 480 20)), ck_rg 9]) rfl ⟨⟨by omega, by omega⟩, (ck_rgo (by omega) (by omega)), (ck_rgo (by omega) (by omega)), trivial⟩ ?_
  refine ck_go_f (by omega) ?_
  refine ck_go_run 7 (X1 := (if σ 481 (σ 480 20) = 12 then 35 else 116, [some (.inr (480, 3, 6)), some (.inl ((σ 480 20) + 1))], [], σ)) (ps := [0 ≤ σ 480 20 ∧ σ 480 20 < ((64 : Nat) : Int), ck_rg (σ 481 (σ 480 20)), ck_rg 12]) rfl ⟨⟨by omega, by omega⟩, (ck_rgo (by omega) (by omega)), (ck_rgo (by omega) (by omega)), trivial⟩ ?_
  refine ck_go_f (by omega) ?_
  refine ck_go_run 7 (X1 := (if σ 481 (σ 480 20) = 10 then 130 else 150, [some (.inr (480, 3, 6)), some (.inl ((σ 480 20) + 1))], [], σ)) (ps := [0 ≤ σ 480 20 ∧ σ 480 20 < ((64 : Nat) : Int), ck_rg (σ 481 (σ 480 20)), ck_rg 10]) rfl ⟨⟨by omega, by omega⟩, (ck_rgo (by omega) (by omega)), (ck_rgo (by omega) (by omega)), trivial⟩ ?_
  refine ck_go_t (by omega) ?_
  refine ck_go_run 27 (X1 := (if 1 + (σ 486 (σ 487 (σ 480 20))) = σ 480 1 then 236 else 240, [some (.inr (480, 3, 6)), some (.inl (1 + (σ 486 (σ 487 (σ 480 20)))))], [.inr (480, 3, 6)], ck_up (ck_up σ 480 20 (1 + (σ 486 (σ 487 (σ 480 20))))) 480 22 ((σ 480 22) + 1))) (ps := [0 ≤ σ 480 20 ∧ σ 480 20 < ((64 : Nat) : Int), 0 ≤ σ 487 (σ 480 20) ∧ σ 487 (σ 480 20) < ((64 : Nat) : Int), ck_rg (1 + (σ 486 (σ 487 (σ 480 20)))), ck_rg (σ 480 1)]) rfl ⟨⟨by omega, by omega⟩, ⟨by omega, by omega⟩, (ck_rgo (by omega) (by omega)), (ck_rgo (by omega) (by omega)), trivial⟩ ?_
  refine ck_go_ite (fun h1 => ?_) (fun h1 => ?_)
  · refine ck_go_run 4 (X1 := (245, [some (.inr (480, 3, 6)), some (.inl (1 + (σ 486 (σ 487 (σ 480 20)))))], [.inl 1], ck_up (ck_up (ck_up σ 480 20 (1 + (σ 486 (σ 487 (σ 480 20))))) 480 22 ((σ 480 22) + 1)) 480 21 1)) (ps := []) rfl trivial ?_
    try simp only [co_in0] at *
    refine ck_eZ (Or.inr rfl) ⟨1, rfl, ?_, Or.inr rfl, ?_⟩ rfl rfl rfl
    · rw [eo]
    · rw [eo]
      have g1 : (1 + (σ 486 (σ 487 (σ 480 20)))) = (p 12 (p 10 (σ 480 20)) + 1) := by
        rw [eGG]
        omega
      have g2 : (1 : Int) = (if (1 + (σ 486 (σ 487 (σ 480 20)))) = n then 1 else 0) := by
        first | exact (if_pos (by omega)).symm | exact (if_neg (by omega)).symm
      show _ = co_adv n σ (p 12 (p 10 (σ 480 20)) + 1)
      rw [← g1]
      unfold co_adv
      rw [← g2]
  · refine ck_go_run 3 (X1 := (245, [some (.inr (480, 3, 6)), some (.inl (1 + (σ 486 (σ 487 (σ 480 20)))))], [.inl 1], ck_up (ck_up (ck_up σ 480 20 (1 + (σ 486 (σ 487 (σ 480 20))))) 480 22 ((σ 480 22) + 1)) 480 21 0)) (ps := []) rfl trivial ?_
    try simp only [co_in0] at *
    refine ck_eZ (Or.inr rfl) ⟨1, rfl, ?_, Or.inr rfl, ?_⟩ rfl rfl rfl
    · rw [eo]
    · rw [eo]
      have g1 : (1 + (σ 486 (σ 487 (σ 480 20)))) = (p 12 (p 10 (σ 480 20)) + 1) := by
        rw [eGG]
        omega
      have g2 : (0 : Int) = (if (1 + (σ 486 (σ 487 (σ 480 20)))) = n then 1 else 0) := by
        first | exact (if_pos (by omega)).symm | exact (if_neg (by omega)).symm
      show _ = co_adv n σ (p 12 (p 10 (σ 480 20)) + 1)
      rw [← g1]
      unfold co_adv
      rw [← g2]
theorem cx_one_end {σ p : ck_M} {n c : Int} {X : Int → ck_D} {nd : Int → Int} (hp : co_pg p n) (hm : co_pm σ p n) (hX : co_sol p n X) (hi : co_mi p n X c σ) (h0 : σ 480 21 = 0) (hc : c ≤ 1000000000) (hsp : co_spc σ (σ 480 20) (nd (σ 480 20))) (hnd : nd (σ 480 20) = ck_ndl (p 6 (σ 480 20)) (p 7 (σ 480 20)) (p 8 (σ 480 20)) (p 9 (σ 480 20)) (X (σ 480 20))) (hT : p 6 (σ 480 20) = 11) : ck_cal 5 cm_Mo_one [.inr (480, 3, 6)] σ (fun q σ' => ∃ v, q = some v ∧ v = (co_one p n nd σ).1 ∧ (v = 0 ∨ v = 1) ∧ σ' = (co_one p n nd σ).2) := by
  refine ck_cal_of ?_
  obtain ⟨hmd, ⟨k0, -⟩, hw, hsd⟩ := hi
  obtain ⟨k1, hs⟩ := hsd h0
  have hn := hp.1
  have hk : 0 ≤ σ 480 20 ∧ σ 480 20 < 64 := ⟨k0, by omega⟩
  obtain ⟨⟨e6, e7, e8, e9, e11⟩, e12, e10⟩ := hm.2 (σ 480 20) k0 k1
  have hO := hp.2.1 _ k0 k1
  have hQ := hO
  unfold ck_sOk at hQ
  have eN := hm.1
  obtain ⟨eF, -⟩ := e10 (Or.inr hT)
  obtain ⟨⟨b1, b2⟩, -, b3⟩ := hp.2.2.2.1 _ k0 k1 (Or.inr hT)
  obtain ⟨c1, c2⟩ := b3 hT
  have eG := (hm.2 _ b1 (by omega)).1.1
  have eGG : σ 481 (σ 487 (σ 480 20)) = p 6 (p 10 (σ 480 20)) := by rw [eF, eG]
  have eo : co_one p n nd σ = (1, co_adv n σ (if p 6 (p 10 (σ 480 20)) = 12 then p 10 (σ 480 20) else σ 480 20 + 1)) := by
    unfold co_one co_onk
    rw [if_neg (by omega), if_neg (by omega), if_pos hT]
  refine ck_go_run 12 (X1 := (if σ 481 (σ 480 20) = 9 then 35 else 21, [some (.inr (480, 3, 6)), some (.inl ((σ 480 20) + 1))], [], σ)) (ps := [0 ≤ σ 480 20 ∧ σ 480 20 < ((64 : Nat) : Int), ck_rg (σ 481 (σ 480 20)), ck_rg 9]) rfl ⟨⟨by omega, by omega⟩, (ck_rgo (by omega) (by omega)), (ck_rgo (by omega) (by omega)), trivial⟩ ?_
  refine ck_go_f (by omega) ?_
  refine ck_go_run 7 (X1 := (if σ 481 (σ 480 20) = 12 then 35 else 116, [some (.inr (480, 3, 6)), some (.inl ((σ 480 20) + 1))], [], σ)) (ps := [0 ≤ σ 480 20 ∧ σ 480 20 < ((64 : Nat) : Int), ck_rg (σ 481 (σ 480 20)), ck_rg 12]) rfl ⟨⟨by omega, by omega⟩, (ck_rgo (by omega) (by omega)), (ck_rgo (by omega) (by omega)), trivial⟩ ?_
  refine ck_go_f (by omega) ?_
  refine ck_go_run 7 (X1 := (if σ 481 (σ 480 20) = 10 then 130 else 150, [some (.inr (480, 3, 6)), some (.inl ((σ 480 20) + 1))], [], σ)) (ps := [0 ≤ σ 480 20 ∧ σ 480 20 < ((64 : Nat) : Int), ck_rg (σ 481 (σ 480 20)), ck_rg 10]) rfl ⟨⟨by omega, by omega⟩, (ck_rgo (by omega) (by omega)), (ck_rgo (by omega) (by omega)), trivial⟩ ?_
  refine ck_go_f (by omega) ?_
  refine ck_go_run 7 (X1 := (if σ 481 (σ 480 20) = 11 then 164 else 200, [some (.inr (480, 3, 6)), some (.inl ((σ 480 20) + 1))], [], σ)) (ps := [0 ≤ σ 480 20 ∧ σ 480 20 < ((64 : Nat) : Int), ck_rg (σ 481 (σ 480 20)), ck_rg 11]) rfl ⟨⟨by omega, by omega⟩, (ck_rgo (by omega) (by omega)), (ck_rgo (by omega) (by omega)), trivial⟩ ?_
  refine ck_go_t (by omega) ?_
  refine ck_go_run 10 (X1 := (if σ 481 (σ 487 (σ 480 20)) = 12 then 183 else 195, [some (.inr (480, 3, 6)), some (.inl ((σ 480 20) + 1))], [], σ)) (ps := [0 ≤ σ 480 20 ∧ σ 480 20 < ((64 : Nat) : Int), 0 ≤ σ 487 (σ 480 20) ∧ σ 487 (σ 480 20) < ((64 : Nat) : Int), ck_rg (σ 481 (σ 487 (σ 480 20))), ck_rg 12]) rfl ⟨⟨by omega, by omega⟩, ⟨by omega, by omega⟩, (ck_rgo (by omega) (by omega)), (ck_rgo (by omega) (by omega)), trivial⟩ ?_
  refine ck_go_ite (fun h1 => ?_) (fun h1 => ?_)
  · refine ck_go_run 23 (X1 := (if σ 487 (σ 480 20) = σ 480 1 then 236 else 240, [some (.inr (480, 3, 6)), some (.inl (σ 487 (σ 480 20)))], [.inr (480, 3, 6)], ck_up (ck_up σ 480 20 (σ 487 (σ 480 20))) 480 22 ((σ 480 22) + 1))) (ps := [0 ≤ σ 480 20 ∧ σ 480 20 < ((64 : Nat) : Int), ck_rg (σ 487 (σ 480 20)), ck_rg (σ 480 1)]) rfl ⟨⟨by omega, by omega⟩, (ck_rgo (by omega) (by omega)), (ck_rgo (by omega) (by omega)), trivial⟩ ?_
    refine ck_go_ite (fun h2 => ?_) (fun h2 => ?_)
    · refine ck_go_run 4 (X1 := (245, [some (.inr (480, 3, 6)), some (.inl (σ 487 (σ 480 20)))], [.inl 1], ck_up (ck_up (ck_up σ 480 20 (σ 487 (σ 480 20))) 480 22 ((σ 480 22) + 1)) 480 21 1)) (ps := []) rfl trivial ?_
      try simp only [co_in0] at *
      refine ck_eZ (Or.inr rfl) ⟨1, rfl, ?_, Or.inr rfl, ?_⟩ rfl rfl rfl
      · rw [eo]
      · rw [eo]
        have g1 : (σ 487 (σ 480 20)) = (if p 6 (p 10 (σ 480 20)) = 12 then p 10 (σ 480 20) else σ 480 20 + 1) := by
          rw [if_pos (by omega), eF]
        have g2 : (1 : Int) = (if (σ 487 (σ 480 20)) = n then 1 else 0) := by
          first | exact (if_pos (by omega)).symm | exact (if_neg (by omega)).symm
        show _ = co_adv n σ (if p 6 (p 10 (σ 480 20)) = 12 then p 10 (σ 480 20) else σ 480 20 + 1)
        rw [← g1]
        unfold co_adv
        rw [← g2]
    · refine ck_go_run 3 (X1 := (245, [some (.inr (480, 3, 6)), some (.inl (σ 487 (σ 480 20)))], [.inl 1], ck_up (ck_up (ck_up σ 480 20 (σ 487 (σ 480 20))) 480 22 ((σ 480 22) + 1)) 480 21 0)) (ps := []) rfl trivial ?_
      try simp only [co_in0] at *
      refine ck_eZ (Or.inr rfl) ⟨1, rfl, ?_, Or.inr rfl, ?_⟩ rfl rfl rfl
      · rw [eo]
      · rw [eo]
        have g1 : (σ 487 (σ 480 20)) = (if p 6 (p 10 (σ 480 20)) = 12 then p 10 (σ 480 20) else σ 480 20 + 1) := by
          rw [if_pos (by omega), eF]
        have g2 : (0 : Int) = (if (σ 487 (σ 480 20)) = n then 1 else 0) := by
          first | exact (if_pos (by omega)).symm | exact (if_neg (by omega)).symm
        show _ = co_adv n σ (if p 6 (p 10 (σ 480 20)) = 12 then p 10 (σ 480 20) else σ 480 20 + 1)
        rw [← g1]
        unfold co_adv
        rw [← g2]
  · refine ck_go_run 18 (X1 := (if (σ 480 20) + 1 = σ 480 1 then 236 else 240, [some (.inr (480, 3, 6)), some (.inl ((σ 480 20) + 1))], [.inr (480, 3, 6)], ck_up (ck_up σ 480 20 ((σ 480 20) + 1)) 480 22 ((σ 480 22) + 1))) (ps := [ck_rg ((σ 480 20) + 1), ck_rg (σ 480 1)]) rfl ⟨(ck_rgo (by omega) (by omega)), (ck_rgo (by omega) (by omega)), trivial⟩ ?_
    refine ck_go_ite (fun h3 => ?_) (fun h3 => ?_)
    · refine ck_go_run 4 (X1 := (245, [some (.inr (480, 3, 6)), some (.inl ((σ 480 20) + 1))], [.inl 1], ck_up (ck_up (ck_up σ 480 20 ((σ 480 20) + 1)) 480 22 ((σ 480 22) + 1)) 480 21 1)) (ps := []) rfl trivial ?_
      try simp only [co_in0] at *
      refine ck_eZ (Or.inr rfl) ⟨1, rfl, ?_, Or.inr rfl, ?_⟩ rfl rfl rfl
      · rw [eo]
      · rw [eo]
        have g1 : ((σ 480 20) + 1) = (if p 6 (p 10 (σ 480 20)) = 12 then p 10 (σ 480 20) else σ 480 20 + 1) := by
          rw [if_neg (by omega)]
        have g2 : (1 : Int) = (if ((σ 480 20) + 1) = n then 1 else 0) := by
          first | exact (if_pos (by omega)).symm | exact (if_neg (by omega)).symm
        show _ = co_adv n σ (if p 6 (p 10 (σ 480 20)) = 12 then p 10 (σ 480 20) else σ 480 20 + 1)
        rw [← g1]
        unfold co_adv
        rw [← g2]
    · refine ck_go_run 3 (X1 := (245, [some (.inr (480, 3, 6)), some (.inl ((σ 480 20) + 1))], [.inl 1], ck_up (ck_up (ck_up σ 480 20 ((σ 480 20) + 1)) 480 22 ((σ 480 22) + 1)) 480 21 0)) (ps := []) rfl trivial ?_
      try simp only [co_in0] at *
      refine ck_eZ (Or.inr rfl) ⟨1, rfl, ?_, Or.inr rfl, ?_⟩ rfl rfl rfl
      · rw [eo]
      · rw [eo]
        have g1 : ((σ 480 20) + 1) = (if p 6 (p 10 (σ 480 20)) = 12 then p 10 (σ 480 20) else σ 480 20 + 1) := by
          rw [if_neg (by omega)]
        have g2 : (0 : Int) = (if ((σ 480 20) + 1) = n then 1 else 0) := by
          first | exact (if_pos (by omega)).symm | exact (if_neg (by omega)).symm
        show _ = co_adv n σ (if p 6 (p 10 (σ 480 20)) = 12 then p 10 (σ 480 20) else σ 480 20 + 1)
        rw [← g1]
        unfold co_adv
        rw [← g2]
theorem cx_one_act {σ p : ck_M} {n c : Int} {X : Int → ck_D} {nd : Int → Int} (hp : co_pg p n) (hm : co_pm σ p n) (hX : co_sol p n X) (hi : co_mi p n X c σ) (h0 : σ 480 21 = 0) (hc : c ≤ 1000000000) (hsp : co_spc σ (σ 480 20) (nd (σ 480 20))) (hnd : nd (σ 480 20) = ck_ndl (p 6 (σ 480 20)) (p 7 (σ 480 20)) (p 8 (σ 480 20)) (p 9 (σ 480 20)) (X (σ 480 20))) (hT : p 6 (σ 480 20) ≠ 9 ∧ p 6 (σ 480 20) ≠ 10 ∧ p 6 (σ 480 20) ≠ 11 ∧ p 6 (σ 480 20) ≠ 12) : ck_cal 5 cm_Mo_one [.inr (480, 3, 6)] σ (fun q σ' => ∃ v, q = some v ∧ v = (co_one p n nd σ).1 ∧ (v = 0 ∨ v = 1) ∧ σ' = (co_one p n nd σ).2) := by
  refine ck_cal_of ?_
  obtain ⟨hmd, ⟨k0, -⟩, hw, hsd⟩ := hi
  obtain ⟨k1, hs⟩ := hsd h0
  have hn := hp.1
  have hk : 0 ≤ σ 480 20 ∧ σ 480 20 < 64 := ⟨k0, by omega⟩
  obtain ⟨⟨e6, e7, e8, e9, e11⟩, e12, e10⟩ := hm.2 (σ 480 20) k0 k1
  have hO := hp.2.1 _ k0 k1
  have hQ := hO
  unfold ck_sOk at hQ
  have eN := hm.1
  have hlo := co_lo_of hs hO
  rw [← hnd] at hlo
  have hv : ∀ r, 0 ≤ r → r < 4 → ck_va (X (σ 480 20)) r ≠ 1 + σ 480 20 := fun r a b => by
    have := co_vb_fam hp hX _ k0 k1 r a b
    omega
  obtain ⟨d1, d2, d3, d4, d5⟩ := co_act_ok (nd := nd (σ 480 20)) hmd hs hO k0 hv (by omega)
  have eo : co_one p n nd σ = (if (co_act (p 6 (σ 480 20)) (p 7 (σ 480 20)) (p 8 (σ 480 20)) (p 9 (σ 480 20)) (nd (σ 480 20)) σ).1 = 0 then co_act (p 6 (σ 480 20)) (p 7 (σ 480 20)) (p 8 (σ 480 20)) (p 9 (σ 480 20)) (nd (σ 480 20)) σ else (1, co_adv n (co_act (p 6 (σ 480 20)) (p 7 (σ 480 20)) (p 8 (σ 480 20)) (p 9 (σ 480 20)) (nd (σ 480 20)) σ).2 (σ 480 20 + 1))) := by
    unfold co_one co_onk
    rw [if_neg (by omega), if_neg (by omega), if_neg (by omega)]
  refine ck_go_run 12 (X1 := (if σ 481 (σ 480 20) = 9 then 35 else 21, [some (.inr (480, 3, 6)), some (.inl ((σ 480 20) + 1))], [], σ)) (ps := [0 ≤ σ 480 20 ∧ σ 480 20 < ((64 : Nat) : Int), ck_rg (σ 481 (σ 480 20)), ck_rg 9]) rfl ⟨⟨by omega, by omega⟩, (ck_rgo (by omega) (by omega)), (ck_rgo (by omega) (by omega)), trivial⟩ ?_
  refine ck_go_f (by omega) ?_
  refine ck_go_run 7 (X1 := (if σ 481 (σ 480 20) = 12 then 35 else 116, [some (.inr (480, 3, 6)), some (.inl ((σ 480 20) + 1))], [], σ)) (ps := [0 ≤ σ 480 20 ∧ σ 480 20 < ((64 : Nat) : Int), ck_rg (σ 481 (σ 480 20)), ck_rg 12]) rfl ⟨⟨by omega, by omega⟩, (ck_rgo (by omega) (by omega)), (ck_rgo (by omega) (by omega)), trivial⟩ ?_
  refine ck_go_f (by omega) ?_
  refine ck_go_run 7 (X1 := (if σ 481 (σ 480 20) = 10 then 130 else 150, [some (.inr (480, 3, 6)), some (.inl ((σ 480 20) + 1))], [], σ)) (ps := [0 ≤ σ 480 20 ∧ σ 480 20 < ((64 : Nat) : Int), ck_rg (σ 481 (σ 480 20)), ck_rg 10]) rfl ⟨⟨by omega, by omega⟩, (ck_rgo (by omega) (by omega)), (ck_rgo (by omega) (by omega)), trivial⟩ ?_
  refine ck_go_f (by omega) ?_
  refine ck_go_run 7 (X1 := (if σ 481 (σ 480 20) = 11 then 164 else 200, [some (.inr (480, 3, 6)), some (.inl ((σ 480 20) + 1))], [], σ)) (ps := [0 ≤ σ 480 20 ∧ σ 480 20 < ((64 : Nat) : Int), ck_rg (σ 481 (σ 480 20)), ck_rg 11]) rfl ⟨⟨by omega, by omega⟩, (ck_rgo (by omega) (by omega)), (ck_rgo (by omega) (by omega)), trivial⟩ ?_
  refine ck_go_f (by omega) ?_
  refine ck_go_run 1 (X1 := (201, [some (.inr (480, 3, 6)), some (.inl ((σ 480 20) + 1))], [.inr (480, 3, 6)], σ)) (ps := []) rfl trivial ?_
  refine ck_go_cal (rest := []) (ck_cal_le (by decide) (cx_act (σ := σ) hk hmd hc e6 e7 e8 e9 hO (by omega) hsp hlo)) ⟨_, rfl, Or.inl ⟨_, rfl⟩, rfl, rfl, rfl, Nat.le_of_ble_eq_true rfl, fun _ => ⟨_, _, rfl⟩⟩ ?_
  rintro _ s1 ⟨rfl, e1⟩
  refine ck_go_run 1 (X1 := (if (co_act (p 6 (σ 480 20)) (p 7 (σ 480 20)) (p 8 (σ 480 20)) (p 9 (σ 480 20)) (nd (σ 480 20)) σ).1 = 0 then 207 else 209, [some (.inr (480, 3, 6)), some (.inl ((σ 480 20) + 1))], [], s1)) (ps := [ck_rg ((co_act (p 6 (σ 480 20)) (p 7 (σ 480 20)) (p 8 (σ 480 20)) (p 9 (σ 480 20)) (nd (σ 480 20)) σ).1)]) rfl ⟨(ck_rgo (by omega) (by omega)), trivial⟩ ?_
  refine ck_go_ite (fun h1 => ?_) (fun h1 => ?_)
  · refine ck_go_run 1 (X1 := (208, [some (.inr (480, 3, 6)), some (.inl ((σ 480 20) + 1))], [.inl 0], s1)) (ps := []) rfl trivial ?_
    try simp only [co_in0] at *
    refine ck_eZ (Or.inl rfl) ⟨0, rfl, ?_, Or.inl rfl, ?_⟩ rfl rfl rfl
    · rw [eo, if_pos (by assumption)]
      exact (by assumption : _ = _).symm
    · rw [eo, if_pos (by assumption)]
      exact e1
  · have eN1 : s1 480 1 = n := by
      rw [e1]
      exact (d2 480 1 (by omega)).trans eN
    have dv : (co_act (p 6 (σ 480 20)) (p 7 (σ 480 20)) (p 8 (σ 480 20)) (p 9 (σ 480 20)) (nd (σ 480 20)) σ).1 = 1 := by
      rcases d5 with z | z
      · exact z.1
      · exact absurd z.1 (by assumption)
    have d4e : s1 480 22 = s1 480 22 := rfl
    refine ck_go_run 15 (X1 := (if (σ 480 20) + 1 = s1 480 1 then 236 else 240, [some (.inr (480, 3, 6)), some (.inl ((σ 480 20) + 1))], [.inr (480, 3, 6)], ck_up (ck_up s1 480 20 ((σ 480 20) + 1)) 480 22 ((s1 480 22) + 1))) (ps := [ck_rg ((σ 480 20) + 1), ck_rg (s1 480 1)]) rfl ⟨(ck_rgo (by omega) (by omega)), (ck_rgo (by omega) (by omega)), trivial⟩ ?_
    refine ck_go_ite (fun h2 => ?_) (fun h2 => ?_)
    · refine ck_go_run 4 (X1 := (245, [some (.inr (480, 3, 6)), some (.inl ((σ 480 20) + 1))], [.inl 1], ck_up (ck_up (ck_up s1 480 20 ((σ 480 20) + 1)) 480 22 ((s1 480 22) + 1)) 480 21 1)) (ps := []) rfl trivial ?_
      try simp only [co_in0] at *
      refine ck_eZ (Or.inr rfl) ⟨1, rfl, ?_, Or.inr rfl, ?_⟩ rfl rfl rfl
      · rw [eo, if_neg (by assumption)]
      · rw [eo, if_neg (by assumption)]
        have g1 : ((σ 480 20) + 1) = (σ 480 20 + 1) := by
          rfl
        have g2 : (1 : Int) = (if ((σ 480 20) + 1) = n then 1 else 0) := by
          first | exact (if_pos (by omega)).symm | exact (if_neg (by omega)).symm
        show _ = co_adv n (co_act (p 6 (σ 480 20)) (p 7 (σ 480 20)) (p 8 (σ 480 20)) (p 9 (σ 480 20)) (nd (σ 480 20)) σ).2 (σ 480 20 + 1)
        unfold co_adv
        rw [← g2]
        rw [← e1]
    · refine ck_go_run 3 (X1 := (245, [some (.inr (480, 3, 6)), some (.inl ((σ 480 20) + 1))], [.inl 1], ck_up (ck_up (ck_up s1 480 20 ((σ 480 20) + 1)) 480 22 ((s1 480 22) + 1)) 480 21 0)) (ps := []) rfl trivial ?_
      try simp only [co_in0] at *
      refine ck_eZ (Or.inr rfl) ⟨1, rfl, ?_, Or.inr rfl, ?_⟩ rfl rfl rfl
      · rw [eo, if_neg (by assumption)]
      · rw [eo, if_neg (by assumption)]
        have g1 : ((σ 480 20) + 1) = (σ 480 20 + 1) := by
          rfl
        have g2 : (0 : Int) = (if ((σ 480 20) + 1) = n then 1 else 0) := by
          first | exact (if_pos (by omega)).symm | exact (if_neg (by omega)).symm
        show _ = co_adv n (co_act (p 6 (σ 480 20)) (p 7 (σ 480 20)) (p 8 (σ 480 20)) (p 9 (σ 480 20)) (nd (σ 480 20)) σ).2 (σ 480 20 + 1)
        unfold co_adv
        rw [← g2]
        rw [← e1]
