/-! ## The reference: put, clear, give -/
theorem cx_thrown (σ : ck_M) : ck_cal 1 cm_Mo_thrown [.inr (480, 3, 6)] σ (fun q σ' => q = some (σ 480 0) ∧ σ' = σ) := by
  refine ck_cal_of ?_
  refine ck_go_run 2 (X1 := (4, [some (.inr (480, 3, 6))], [.inl (σ 480 0)], σ)) (ps := []) rfl trivial ?_
  exact ck_eI ⟨rfl, rfl⟩ rfl rfl rfl
theorem cx_clearM (σ : ck_M) : ck_cal 1 cm_Mo_clear [.inr (480, 3, 6)] σ (fun q σ' => q = some (σ 480 1) ∧ σ' = ck_up (ck_up (ck_up (ck_up (ck_up σ 480 0 0) 480 1 0) 480 2 0) 480 12 0) 480 19 0) := by
  refine ck_cal_of ?_
  refine ck_go_run 19 (X1 := (31, [some (.inr (480, 3, 6)), some (.inl (σ 480 1))], [.inl (σ 480 1)], ck_up (ck_up (ck_up (ck_up (ck_up σ 480 0 0) 480 1 0) 480 2 0) 480 12 0) 480 19 0)) (ps := [0 = 0 ∨ 0 = 1]) rfl ⟨Or.inl rfl, trivial⟩ ?_
  exact ck_eI ⟨rfl, rfl⟩ rfl rfl rfl
theorem cx_giveMA {v : Int} (hv : ck_rg v) {σ : ck_M} (h : ¬ (-1000000 ≤ v ∧ v ≤ 1000000)) : ck_cal 2 cm_Mo_give [.inr (480, 3, 6), .inl v] σ (fun q σ' => q = some 0 ∧ σ' = ck_up σ 480 0 1) := by
  refine ck_cal_of ?_
  have hz := co_in0 (v := v) (f := -1000000) (t := 1000000)
  refine ck_go_run 4 (X1 := (6, [some (.inr (480, 3, 6)), some (.inl v)], [.inl 1000000, .inl ((-1000000)), .inl v, .inr (480, 3, 6)], σ)) (ps := []) rfl trivial ?_
  refine ck_go_cal (rest := [.inr (480, 3, 6)]) (ck_cal_le (by decide) (cx_in (v := v) (f := (-1000000)) (t := 1000000) (by first | assumption | exact ck_rgo (by omega) (by omega)) (by exact ⟨by decide, by decide⟩) (by exact ⟨by decide, by decide⟩) _)) ⟨_, rfl, Or.inr ⟨_, rfl⟩, rfl, rfl, rfl, Nat.le_of_ble_eq_true rfl, fun h => absurd h (by decide)⟩ ?_
  rintro _ s' ⟨rfl, e'⟩
  rw [e']
  clear e' s'
  refine ck_go_run 1 (X1 := (if ck_in v ((-1000000)) 1000000 = 0 then 12 else 16, [some (.inr (480, 3, 6)), some (.inl v)], [.inr (480, 3, 6)], σ)) (ps := [ck_rg (ck_in v ((-1000000)) 1000000)]) rfl ⟨(co_inrg _ _ _), trivial⟩ ?_
  refine ck_go_t (by rw [hz]; exact h) ?_
  refine ck_go_run 3 (X1 := (18, [some (.inr (480, 3, 6)), some (.inl v)], [.inl 0, .inl 1, .inr (480, 3, 6)], σ)) (ps := []) rfl trivial ?_
  refine ck_go_cal (rest := []) (ck_cal_le (by decide) (cx_fails10 _)) ⟨_, rfl, Or.inl ⟨_, rfl⟩, rfl, rfl, rfl, Nat.le_of_ble_eq_true rfl, fun _ => ⟨_, _, rfl⟩⟩ ?_
  rintro _ s1 ⟨rfl, e1⟩
  rw [e1]
  clear e1 s1
  refine ck_go_run 1 (X1 := (if 1 = 0 then 26 else 24, [some (.inr (480, 3, 6)), some (.inl v)], [], ck_up σ 480 0 1)) (ps := [ck_rg 1]) rfl ⟨(ck_rgo (by omega) (by omega)), trivial⟩ ?_
  refine ck_go_f (by decide) ?_
  refine ck_go_run 1 (X1 := (25, [some (.inr (480, 3, 6)), some (.inl v)], [.inl 0], ck_up σ 480 0 1)) (ps := []) rfl trivial ?_
  exact ck_eI ⟨rfl, rfl⟩ rfl rfl rfl
theorem cx_giveMB {v : Int} (hv : ck_rg v) {σ : ck_M} (h : -1000000 ≤ v ∧ v ≤ 1000000) (hw : σ 480 12 = 64) : ck_cal 2 cm_Mo_give [.inr (480, 3, 6), .inl v] σ (fun q σ' => q = some (-1) ∧ σ' = ck_up σ 480 0 0) := by
  refine ck_cal_of ?_
  have hz := co_in0 (v := v) (f := -1000000) (t := 1000000)
  refine ck_go_run 4 (X1 := (6, [some (.inr (480, 3, 6)), some (.inl v)], [.inl 1000000, .inl ((-1000000)), .inl v, .inr (480, 3, 6)], σ)) (ps := []) rfl trivial ?_
  refine ck_go_cal (rest := [.inr (480, 3, 6)]) (ck_cal_le (by decide) (cx_in (v := v) (f := (-1000000)) (t := 1000000) (by first | assumption | exact ck_rgo (by omega) (by omega)) (by exact ⟨by decide, by decide⟩) (by exact ⟨by decide, by decide⟩) _)) ⟨_, rfl, Or.inr ⟨_, rfl⟩, rfl, rfl, rfl, Nat.le_of_ble_eq_true rfl, fun h => absurd h (by decide)⟩ ?_
  rintro _ s' ⟨rfl, e'⟩
  rw [e']
  clear e' s'
  refine ck_go_run 1 (X1 := (if ck_in v ((-1000000)) 1000000 = 0 then 12 else 16, [some (.inr (480, 3, 6)), some (.inl v)], [.inr (480, 3, 6)], σ)) (ps := [ck_rg (ck_in v ((-1000000)) 1000000)]) rfl ⟨(co_inrg _ _ _), trivial⟩ ?_
  refine ck_go_f (by rw [hz]; exact fun z => z h) ?_
  refine ck_go_run 2 (X1 := (18, [some (.inr (480, 3, 6)), some (.inl v)], [.inl 0, .inl 0, .inr (480, 3, 6)], σ)) (ps := []) rfl trivial ?_
  refine ck_go_cal (rest := []) (ck_cal_le (by decide) (cx_fails00 _)) ⟨_, rfl, Or.inl ⟨_, rfl⟩, rfl, rfl, rfl, Nat.le_of_ble_eq_true rfl, fun _ => ⟨_, _, rfl⟩⟩ ?_
  rintro _ s1 ⟨rfl, e1⟩
  rw [e1]
  clear e1 s1
  refine ck_go_run 1 (X1 := (if 0 = 0 then 26 else 24, [some (.inr (480, 3, 6)), some (.inl v)], [], ck_up σ 480 0 0)) (ps := [ck_rg 0]) rfl ⟨(ck_rgo (by omega) (by omega)), trivial⟩ ?_
  refine ck_go_t (by decide) ?_
  refine ck_go_run 4 (X1 := (if σ 480 12 = 64 then 35 else 37, [some (.inr (480, 3, 6)), some (.inl v)], [], ck_up σ 480 0 0)) (ps := [ck_rg (σ 480 12), ck_rg 64]) rfl ⟨(ck_rgo (by omega) (by omega)), (ck_rgo (by omega) (by omega)), trivial⟩ ?_
  refine ck_go_t (by omega) ?_
  refine ck_go_run 1 (X1 := (36, [some (.inr (480, 3, 6)), some (.inl v)], [.inl ((-1))], ck_up σ 480 0 0)) (ps := []) rfl trivial ?_
  exact ck_eI ⟨rfl, rfl⟩ rfl rfl rfl
theorem cx_giveMC {v : Int} (hv : ck_rg v) {σ : ck_M} (h : -1000000 ≤ v ∧ v ≤ 1000000) (hw : 0 ≤ σ 480 12 ∧ σ 480 12 < 64) : ck_cal 2 cm_Mo_give [.inr (480, 3, 6), .inl v] σ (fun q σ' => q = some (σ 480 12 + 1) ∧ σ' = ck_up (ck_up (ck_up σ 480 0 0) 489 (σ 480 12) v) 480 12 (σ 480 12 + 1)) := by
  refine ck_cal_of ?_
  have hz := co_in0 (v := v) (f := -1000000) (t := 1000000)
  refine ck_go_run 4 (X1 := (6, [some (.inr (480, 3, 6)), some (.inl v)], [.inl 1000000, .inl ((-1000000)), .inl v, .inr (480, 3, 6)], σ)) (ps := []) rfl trivial ?_
  refine ck_go_cal (rest := [.inr (480, 3, 6)]) (ck_cal_le (by decide) (cx_in (v := v) (f := (-1000000)) (t := 1000000) (by first | assumption | exact ck_rgo (by omega) (by omega)) (by exact ⟨by decide, by decide⟩) (by exact ⟨by decide, by decide⟩) _)) ⟨_, rfl, Or.inr ⟨_, rfl⟩, rfl, rfl, rfl, Nat.le_of_ble_eq_true rfl, fun h => absurd h (by decide)⟩ ?_
  rintro _ s' ⟨rfl, e'⟩
  rw [e']
  clear e' s'
  refine ck_go_run 1 (X1 := (if ck_in v ((-1000000)) 1000000 = 0 then 12 else 16, [some (.inr (480, 3, 6)), some (.inl v)], [.inr (480, 3, 6)], σ)) (ps := [ck_rg (ck_in v ((-1000000)) 1000000)]) rfl ⟨(co_inrg _ _ _), trivial⟩ ?_
  refine ck_go_f (by rw [hz]; exact fun z => z h) ?_
  refine ck_go_run 2 (X1 := (18, [some (.inr (480, 3, 6)), some (.inl v)], [.inl 0, .inl 0, .inr (480, 3, 6)], σ)) (ps := []) rfl trivial ?_
  refine ck_go_cal (rest := []) (ck_cal_le (by decide) (cx_fails00 _)) ⟨_, rfl, Or.inl ⟨_, rfl⟩, rfl, rfl, rfl, Nat.le_of_ble_eq_true rfl, fun _ => ⟨_, _, rfl⟩⟩ ?_
  rintro _ s1 ⟨rfl, e1⟩
  rw [e1]
  clear e1 s1
  refine ck_go_run 1 (X1 := (if 0 = 0 then 26 else 24, [some (.inr (480, 3, 6)), some (.inl v)], [], ck_up σ 480 0 0)) (ps := [ck_rg 0]) rfl ⟨(ck_rgo (by omega) (by omega)), trivial⟩ ?_
  refine ck_go_t (by decide) ?_
  refine ck_go_run 4 (X1 := (if σ 480 12 = 64 then 35 else 37, [some (.inr (480, 3, 6)), some (.inl v)], [], ck_up σ 480 0 0)) (ps := [ck_rg (σ 480 12), ck_rg 64]) rfl ⟨(ck_rgo (by omega) (by omega)), (ck_rgo (by omega) (by omega)), trivial⟩ ?_
  refine ck_go_f (by omega) ?_
  refine ck_go_run 14 (X1 := (61, [some (.inr (480, 3, 6)), some (.inl v)], [.inl ((σ 480 12) + 1)], ck_up (ck_up (ck_up σ 480 0 0) 489 (σ 480 12) v) 480 12 ((σ 480 12) + 1))) (ps := [0 ≤ σ 480 12 ∧ σ 480 12 < ((64 : Nat) : Int)]) rfl ⟨⟨by omega, by omega⟩, trivial⟩ ?_
  exact ck_eI ⟨rfl, rfl⟩ rfl rfl rfl
theorem cx_putM_no {x y z t : Int} (ht : ck_rg t) (hx : ck_rg x) (hy : ck_rg y) (hz : ck_rg z) {σ : ck_M} (hd : 0 ≤ σ 480 2 ∧ σ 480 2 ≤ 8) (ho : 0 < σ 480 2 → 0 ≤ σ 488 (σ 480 2 - 1) ∧ σ 488 (σ 480 2 - 1) < 64) (hs : 0 < σ 480 2 → ck_rg (σ 481 (σ 488 (σ 480 2 - 1))) ∧ ck_rg (σ 485 (σ 488 (σ 480 2 - 1)))) (hh : ¬ (co_fit t x y z ∧ co_own t (σ 480 2) (σ 481 (σ 488 (σ 480 2 - 1))) (σ 485 (σ 488 (σ 480 2 - 1))))) : ck_cal 3 cm_Mo_put [.inr (480, 3, 6), .inl t, .inl x, .inl y, .inl z] σ (fun q σ' => q = some 0 ∧ σ' = ck_up σ 480 0 1) := by
  refine ck_cal_of ?_
  have rt := id ht
  unfold ck_rg at rt
  refine ck_go_run 6 (X1 := (7, [some (.inr (480, 3, 6)), some (.inl t), some (.inl x), some (.inl y), some (.inl z), none, none], [.inl z, .inl y, .inl x, .inl t, .inr (480, 3, 6), .inr (480, 3, 6)], σ)) (ps := []) rfl trivial ?_
  refine ck_go_cal (rest := [.inr (480, 3, 6)]) (ck_cal_le (by decide) (cx_isSaid (σ := σ) ht hx hy hz hd ho hs)) ⟨_, rfl, Or.inl ⟨_, rfl⟩, rfl, rfl, rfl, Nat.le_of_ble_eq_true rfl, fun _ => ⟨_, _, rfl⟩⟩ ?_
  rintro _ s' ⟨⟨r, rfl, hr⟩, e'⟩
  rw [e']
  clear e' s'
  have hr1 : r = 0 := by
    rcases hr with ⟨z1, z2⟩ | ⟨z1, z2⟩
    · first | exact z1 | exact absurd z2 hh
    · first | exact z1 | exact absurd hh z2
  refine ck_go_run 1 (X1 := (if r = 0 then 13 else 17, [some (.inr (480, 3, 6)), some (.inl t), some (.inl x), some (.inl y), some (.inl z), none, none], [.inr (480, 3, 6)], σ)) (ps := [ck_rg r]) rfl ⟨(ck_rgo (by omega) (by omega)), trivial⟩ ?_
  refine ck_go_t (by omega) ?_
  refine ck_go_run 3 (X1 := (19, [some (.inr (480, 3, 6)), some (.inl t), some (.inl x), some (.inl y), some (.inl z), none, none], [.inl 0, .inl 1, .inr (480, 3, 6)], σ)) (ps := []) rfl trivial ?_
  refine ck_go_cal (rest := []) (ck_cal_le (by decide) (cx_fails10 _)) ⟨_, rfl, Or.inl ⟨_, rfl⟩, rfl, rfl, rfl, Nat.le_of_ble_eq_true rfl, fun _ => ⟨_, _, rfl⟩⟩ ?_
  rintro _ s1 ⟨rfl, e1⟩
  rw [e1]
  clear e1 s1
  refine ck_go_run 1 (X1 := (if 1 = 0 then 27 else 25, [some (.inr (480, 3, 6)), some (.inl t), some (.inl x), some (.inl y), some (.inl z), none, none], [], ck_up σ 480 0 1)) (ps := [ck_rg 1]) rfl ⟨(ck_rgo (by omega) (by omega)), trivial⟩ ?_
  refine ck_go_f (by decide) ?_
  refine ck_go_run 1 (X1 := (26, [some (.inr (480, 3, 6)), some (.inl t), some (.inl x), some (.inl y), some (.inl z), none, none], [.inl 0], ck_up σ 480 0 1)) (ps := []) rfl trivial ?_
  exact ck_eI ⟨rfl, rfl⟩ rfl rfl rfl
theorem cx_putM_full {x y z t : Int} (ht : ck_rg t) (hx : ck_rg x) (hy : ck_rg y) (hz : ck_rg z) {σ : ck_M} (hd : 0 ≤ σ 480 2 ∧ σ 480 2 ≤ 8) (ho : 0 < σ 480 2 → 0 ≤ σ 488 (σ 480 2 - 1) ∧ σ 488 (σ 480 2 - 1) < 64) (hs : 0 < σ 480 2 → ck_rg (σ 481 (σ 488 (σ 480 2 - 1))) ∧ ck_rg (σ 485 (σ 488 (σ 480 2 - 1)))) (hh : co_fit t x y z ∧ co_own t (σ 480 2) (σ 481 (σ 488 (σ 480 2 - 1))) (σ 485 (σ 488 (σ 480 2 - 1)))) (hn : 0 ≤ σ 480 1 ∧ σ 480 1 ≤ 64) (hf : σ 480 1 = 64 ∨ ((t = 9 ∨ t = 12) ∧ σ 480 2 = 8)) : ck_cal 3 cm_Mo_put [.inr (480, 3, 6), .inl t, .inl x, .inl y, .inl z] σ (fun q σ' => q = some (-1) ∧ σ' = ck_up (ck_up σ 480 0 0) 480 19 0) := by
  refine ck_cal_of ?_
  have rt := id ht
  unfold ck_rg at rt
  refine ck_go_run 6 (X1 := (7, [some (.inr (480, 3, 6)), some (.inl t), some (.inl x), some (.inl y), some (.inl z), none, none], [.inl z, .inl y, .inl x, .inl t, .inr (480, 3, 6), .inr (480, 3, 6)], σ)) (ps := []) rfl trivial ?_
  refine ck_go_cal (rest := [.inr (480, 3, 6)]) (ck_cal_le (by decide) (cx_isSaid (σ := σ) ht hx hy hz hd ho hs)) ⟨_, rfl, Or.inl ⟨_, rfl⟩, rfl, rfl, rfl, Nat.le_of_ble_eq_true rfl, fun _ => ⟨_, _, rfl⟩⟩ ?_
  rintro _ s' ⟨⟨r, rfl, hr⟩, e'⟩
  rw [e']
  clear e' s'
  have hr1 : r = 1 := by
    rcases hr with ⟨z1, z2⟩ | ⟨z1, z2⟩
    · first | exact z1 | exact absurd z2 hh
    · first | exact z1 | exact absurd hh z2
  refine ck_go_run 1 (X1 := (if r = 0 then 13 else 17, [some (.inr (480, 3, 6)), some (.inl t), some (.inl x), some (.inl y), some (.inl z), none, none], [.inr (480, 3, 6)], σ)) (ps := [ck_rg r]) rfl ⟨(ck_rgo (by omega) (by omega)), trivial⟩ ?_
  refine ck_go_f (by omega) ?_
  refine ck_go_run 2 (X1 := (19, [some (.inr (480, 3, 6)), some (.inl t), some (.inl x), some (.inl y), some (.inl z), none, none], [.inl 0, .inl 0, .inr (480, 3, 6)], σ)) (ps := []) rfl trivial ?_
  refine ck_go_cal (rest := []) (ck_cal_le (by decide) (cx_fails00 _)) ⟨_, rfl, Or.inl ⟨_, rfl⟩, rfl, rfl, rfl, Nat.le_of_ble_eq_true rfl, fun _ => ⟨_, _, rfl⟩⟩ ?_
  rintro _ s1 ⟨rfl, e1⟩
  rw [e1]
  clear e1 s1
  refine ck_go_run 1 (X1 := (if 0 = 0 then 27 else 25, [some (.inr (480, 3, 6)), some (.inl t), some (.inl x), some (.inl y), some (.inl z), none, none], [], ck_up σ 480 0 0)) (ps := [ck_rg 0]) rfl ⟨(ck_rgo (by omega) (by omega)), trivial⟩ ?_
  refine ck_go_t (by decide) ?_
  refine ck_go_run 6 (X1 := (if t = 9 then 44 else 38, [some (.inr (480, 3, 6)), some (.inl t), some (.inl x), some (.inl y), some (.inl z), none, none], [], ck_up (ck_up σ 480 0 0) 480 19 0)) (ps := [0 = 0 ∨ 0 = 1, ck_rg t, ck_rg 9]) rfl ⟨Or.inl rfl, (ck_rgo (by omega) (by omega)), (ck_rgo (by omega) (by omega)), trivial⟩ ?_
  refine ck_go_ite (fun h1 => ?_) (fun h1 => ?_)
  · refine ck_go_run 7 (X1 := (if σ 480 1 = 64 then 74 else 60, [some (.inr (480, 3, 6)), some (.inl t), some (.inl x), some (.inl y), some (.inl z), some (.inl 1), none], [], ck_up (ck_up σ 480 0 0) 480 19 0)) (ps := [ck_rg (σ 480 1), ck_rg 64]) rfl ⟨(ck_rgo (by omega) (by omega)), (ck_rgo (by omega) (by omega)), trivial⟩ ?_
    refine ck_go_ite (fun h2 => ?_) (fun h2 => ?_)
    · refine ck_go_run 1 (X1 := (75, [some (.inr (480, 3, 6)), some (.inl t), some (.inl x), some (.inl y), some (.inl z), some (.inl 1), none], [.inl ((-1))], ck_up (ck_up σ 480 0 0) 480 19 0)) (ps := []) rfl trivial ?_
      exact ck_eI ⟨rfl, rfl⟩ rfl rfl rfl
    · refine ck_go_run 2 (X1 := (if 1 = 0 then 76 else 65, [some (.inr (480, 3, 6)), some (.inl t), some (.inl x), some (.inl y), some (.inl z), some (.inl 1), none], [], ck_up (ck_up σ 480 0 0) 480 19 0)) (ps := [ck_rg 1]) rfl ⟨(ck_rgo (by omega) (by omega)), trivial⟩ ?_
      refine ck_go_f (by decide) ?_
      refine ck_go_run 4 (X1 := (if σ 480 2 = 8 then 74 else 76, [some (.inr (480, 3, 6)), some (.inl t), some (.inl x), some (.inl y), some (.inl z), some (.inl 1), none], [], ck_up (ck_up σ 480 0 0) 480 19 0)) (ps := [ck_rg (σ 480 2), ck_rg 8]) rfl ⟨(ck_rgo (by omega) (by omega)), (ck_rgo (by omega) (by omega)), trivial⟩ ?_
      refine ck_go_ite (fun h3 => ?_) (fun h3 => ?_)
      · refine ck_go_run 1 (X1 := (75, [some (.inr (480, 3, 6)), some (.inl t), some (.inl x), some (.inl y), some (.inl z), some (.inl 1), none], [.inl ((-1))], ck_up (ck_up σ 480 0 0) 480 19 0)) (ps := []) rfl trivial ?_
        exact ck_eI ⟨rfl, rfl⟩ rfl rfl rfl
      · exfalso
        omega
  · refine ck_go_run 3 (X1 := (if t = 12 then 44 else 48, [some (.inr (480, 3, 6)), some (.inl t), some (.inl x), some (.inl y), some (.inl z), none, none], [], ck_up (ck_up σ 480 0 0) 480 19 0)) (ps := [ck_rg t, ck_rg 12]) rfl ⟨(ck_rgo (by omega) (by omega)), (ck_rgo (by omega) (by omega)), trivial⟩ ?_
    refine ck_go_ite (fun h4 => ?_) (fun h4 => ?_)
    · refine ck_go_run 7 (X1 := (if σ 480 1 = 64 then 74 else 60, [some (.inr (480, 3, 6)), some (.inl t), some (.inl x), some (.inl y), some (.inl z), some (.inl 1), none], [], ck_up (ck_up σ 480 0 0) 480 19 0)) (ps := [ck_rg (σ 480 1), ck_rg 64]) rfl ⟨(ck_rgo (by omega) (by omega)), (ck_rgo (by omega) (by omega)), trivial⟩ ?_
      refine ck_go_ite (fun h5 => ?_) (fun h5 => ?_)
      · refine ck_go_run 1 (X1 := (75, [some (.inr (480, 3, 6)), some (.inl t), some (.inl x), some (.inl y), some (.inl z), some (.inl 1), none], [.inl ((-1))], ck_up (ck_up σ 480 0 0) 480 19 0)) (ps := []) rfl trivial ?_
        exact ck_eI ⟨rfl, rfl⟩ rfl rfl rfl
      · refine ck_go_run 2 (X1 := (if 1 = 0 then 76 else 65, [some (.inr (480, 3, 6)), some (.inl t), some (.inl x), some (.inl y), some (.inl z), some (.inl 1), none], [], ck_up (ck_up σ 480 0 0) 480 19 0)) (ps := [ck_rg 1]) rfl ⟨(ck_rgo (by omega) (by omega)), trivial⟩ ?_
        refine ck_go_f (by decide) ?_
        refine ck_go_run 4 (X1 := (if σ 480 2 = 8 then 74 else 76, [some (.inr (480, 3, 6)), some (.inl t), some (.inl x), some (.inl y), some (.inl z), some (.inl 1), none], [], ck_up (ck_up σ 480 0 0) 480 19 0)) (ps := [ck_rg (σ 480 2), ck_rg 8]) rfl ⟨(ck_rgo (by omega) (by omega)), (ck_rgo (by omega) (by omega)), trivial⟩ ?_
        refine ck_go_ite (fun h6 => ?_) (fun h6 => ?_)
        · refine ck_go_run 1 (X1 := (75, [some (.inr (480, 3, 6)), some (.inl t), some (.inl x), some (.inl y), some (.inl z), some (.inl 1), none], [.inl ((-1))], ck_up (ck_up σ 480 0 0) 480 19 0)) (ps := []) rfl trivial ?_
          exact ck_eI ⟨rfl, rfl⟩ rfl rfl rfl
        · exfalso
          omega
    · refine ck_go_run 6 (X1 := (if σ 480 1 = 64 then 74 else 60, [some (.inr (480, 3, 6)), some (.inl t), some (.inl x), some (.inl y), some (.inl z), some (.inl 0), none], [], ck_up (ck_up σ 480 0 0) 480 19 0)) (ps := [ck_rg (σ 480 1), ck_rg 64]) rfl ⟨(ck_rgo (by omega) (by omega)), (ck_rgo (by omega) (by omega)), trivial⟩ ?_
      refine ck_go_ite (fun h7 => ?_) (fun h7 => ?_)
      · refine ck_go_run 1 (X1 := (75, [some (.inr (480, 3, 6)), some (.inl t), some (.inl x), some (.inl y), some (.inl z), some (.inl 0), none], [.inl ((-1))], ck_up (ck_up σ 480 0 0) 480 19 0)) (ps := []) rfl trivial ?_
        exact ck_eI ⟨rfl, rfl⟩ rfl rfl rfl
      · refine ck_go_run 2 (X1 := (if 0 = 0 then 76 else 65, [some (.inr (480, 3, 6)), some (.inl t), some (.inl x), some (.inl y), some (.inl z), some (.inl 0), none], [], ck_up (ck_up σ 480 0 0) 480 19 0)) (ps := [ck_rg 0]) rfl ⟨(ck_rgo (by omega) (by omega)), trivial⟩ ?_
        refine ck_go_t (by decide) ?_
        exfalso
        omega
theorem cx_putM_plain {x y z t : Int} (ht : ck_rg t) (hx : ck_rg x) (hy : ck_rg y) (hz : ck_rg z) {σ : ck_M} (hd : 0 ≤ σ 480 2 ∧ σ 480 2 ≤ 8) (ho : 0 < σ 480 2 → 0 ≤ σ 488 (σ 480 2 - 1) ∧ σ 488 (σ 480 2 - 1) < 64) (hs : 0 < σ 480 2 → ck_rg (σ 481 (σ 488 (σ 480 2 - 1))) ∧ ck_rg (σ 485 (σ 488 (σ 480 2 - 1)))) (hh : co_fit t x y z ∧ co_own t (σ 480 2) (σ 481 (σ 488 (σ 480 2 - 1))) (σ 485 (σ 488 (σ 480 2 - 1)))) (hn : 0 ≤ σ 480 1 ∧ σ 480 1 < 64) (hk : t ≠ 9 ∧ t ≠ 10 ∧ t ≠ 11 ∧ t ≠ 12) : ck_cal 3 cm_Mo_put [.inr (480, 3, 6), .inl t, .inl x, .inl y, .inl z] σ (fun q σ' => q = some (σ 480 1 + 1) ∧ σ' = ck_up (ck_up (ck_up (ck_up (ck_up (ck_up (ck_up (ck_up (ck_up (ck_up σ 480 0 0) 480 19 0) 481 (σ 480 1) t) 482 (σ 480 1) x) 483 (σ 480 1) y) 484 (σ 480 1) z) 485 (σ 480 1) (-1)) 486 (σ 480 1) (-1)) 487 (σ 480 1) (-1)) 480 1 (σ 480 1 + 1)) := by
  refine ck_cal_of ?_
  have rt := id ht
  unfold ck_rg at rt
  refine ck_go_run 6 (X1 := (7, [some (.inr (480, 3, 6)), some (.inl t), some (.inl x), some (.inl y), some (.inl z), none, none], [.inl z, .inl y, .inl x, .inl t, .inr (480, 3, 6), .inr (480, 3, 6)], σ)) (ps := []) rfl trivial ?_
  refine ck_go_cal (rest := [.inr (480, 3, 6)]) (ck_cal_le (by decide) (cx_isSaid (σ := σ) ht hx hy hz hd ho hs)) ⟨_, rfl, Or.inl ⟨_, rfl⟩, rfl, rfl, rfl, Nat.le_of_ble_eq_true rfl, fun _ => ⟨_, _, rfl⟩⟩ ?_
  rintro _ s' ⟨⟨r, rfl, hr⟩, e'⟩
  rw [e']
  clear e' s'
  have hr1 : r = 1 := by
    rcases hr with ⟨z1, z2⟩ | ⟨z1, z2⟩
    · first | exact z1 | exact absurd z2 hh
    · first | exact z1 | exact absurd hh z2
  refine ck_go_run 1 (X1 := (if r = 0 then 13 else 17, [some (.inr (480, 3, 6)), some (.inl t), some (.inl x), some (.inl y), some (.inl z), none, none], [.inr (480, 3, 6)], σ)) (ps := [ck_rg r]) rfl ⟨(ck_rgo (by omega) (by omega)), trivial⟩ ?_
  refine ck_go_f (by omega) ?_
  refine ck_go_run 2 (X1 := (19, [some (.inr (480, 3, 6)), some (.inl t), some (.inl x), some (.inl y), some (.inl z), none, none], [.inl 0, .inl 0, .inr (480, 3, 6)], σ)) (ps := []) rfl trivial ?_
  refine ck_go_cal (rest := []) (ck_cal_le (by decide) (cx_fails00 _)) ⟨_, rfl, Or.inl ⟨_, rfl⟩, rfl, rfl, rfl, Nat.le_of_ble_eq_true rfl, fun _ => ⟨_, _, rfl⟩⟩ ?_
  rintro _ s1 ⟨rfl, e1⟩
  rw [e1]
  clear e1 s1
  refine ck_go_run 1 (X1 := (if 0 = 0 then 27 else 25, [some (.inr (480, 3, 6)), some (.inl t), some (.inl x), some (.inl y), some (.inl z), none, none], [], ck_up σ 480 0 0)) (ps := [ck_rg 0]) rfl ⟨(ck_rgo (by omega) (by omega)), trivial⟩ ?_
  refine ck_go_t (by decide) ?_
  refine ck_go_run 6 (X1 := (if t = 9 then 44 else 38, [some (.inr (480, 3, 6)), some (.inl t), some (.inl x), some (.inl y), some (.inl z), none, none], [], ck_up (ck_up σ 480 0 0) 480 19 0)) (ps := [0 = 0 ∨ 0 = 1, ck_rg t, ck_rg 9]) rfl ⟨Or.inl rfl, (ck_rgo (by omega) (by omega)), (ck_rgo (by omega) (by omega)), trivial⟩ ?_
  refine ck_go_f (by omega) ?_
  refine ck_go_run 3 (X1 := (if t = 12 then 44 else 48, [some (.inr (480, 3, 6)), some (.inl t), some (.inl x), some (.inl y), some (.inl z), none, none], [], ck_up (ck_up σ 480 0 0) 480 19 0)) (ps := [ck_rg t, ck_rg 12]) rfl ⟨(ck_rgo (by omega) (by omega)), (ck_rgo (by omega) (by omega)), trivial⟩ ?_
  refine ck_go_f (by omega) ?_
  refine ck_go_run 6 (X1 := (if σ 480 1 = 64 then 74 else 60, [some (.inr (480, 3, 6)), some (.inl t), some (.inl x), some (.inl y), some (.inl z), some (.inl 0), none], [], ck_up (ck_up σ 480 0 0) 480 19 0)) (ps := [ck_rg (σ 480 1), ck_rg 64]) rfl ⟨(ck_rgo (by omega) (by omega)), (ck_rgo (by omega) (by omega)), trivial⟩ ?_
  refine ck_go_f (by omega) ?_
  refine ck_go_run 2 (X1 := (if 0 = 0 then 76 else 65, [some (.inr (480, 3, 6)), some (.inl t), some (.inl x), some (.inl y), some (.inl z), some (.inl 0), none], [], ck_up (ck_up σ 480 0 0) 480 19 0)) (ps := [ck_rg 0]) rfl ⟨(ck_rgo (by omega) (by omega)), trivial⟩ ?_
  refine ck_go_t (by decide) ?_
  refine ck_go_run 40 (X1 := (if 0 = 0 then 168 else 144, [some (.inr (480, 3, 6)), some (.inl t), some (.inl x), some (.inl y), some (.inl z), some (.inl 0), some (.inl (σ 480 1))], [], ck_up (ck_up (ck_up (ck_up (ck_up (ck_up (ck_up (ck_up (ck_up σ 480 0 0) 480 19 0) 481 (σ 480 1) t) 482 (σ 480 1) x) 483 (σ 480 1) y) 484 (σ 480 1) z) 485 (σ 480 1) ((-1))) 486 (σ 480 1) ((-1))) 487 (σ 480 1) ((-1)))) (ps := [0 ≤ σ 480 1 ∧ σ 480 1 < ((64 : Nat) : Int), 0 ≤ σ 480 1 ∧ σ 480 1 < ((64 : Nat) : Int), 0 ≤ σ 480 1 ∧ σ 480 1 < ((64 : Nat) : Int), 0 ≤ σ 480 1 ∧ σ 480 1 < ((64 : Nat) : Int), 0 ≤ σ 480 1 ∧ σ 480 1 < ((64 : Nat) : Int), 0 ≤ σ 480 1 ∧ σ 480 1 < ((64 : Nat) : Int), 0 ≤ σ 480 1 ∧ σ 480 1 < ((64 : Nat) : Int), ck_rg 0]) rfl ⟨⟨by omega, by omega⟩, ⟨by omega, by omega⟩, ⟨by omega, by omega⟩, ⟨by omega, by omega⟩, ⟨by omega, by omega⟩, ⟨by omega, by omega⟩, ⟨by omega, by omega⟩, (ck_rgo (by omega) (by omega)), trivial⟩ ?_
  refine ck_go_t (by decide) ?_
  refine ck_go_run 3 (X1 := (if t = 10 then 174 else 209, [some (.inr (480, 3, 6)), some (.inl t), some (.inl x), some (.inl y), some (.inl z), some (.inl 0), some (.inl (σ 480 1))], [], ck_up (ck_up (ck_up (ck_up (ck_up (ck_up (ck_up (ck_up (ck_up σ 480 0 0) 480 19 0) 481 (σ 480 1) t) 482 (σ 480 1) x) 483 (σ 480 1) y) 484 (σ 480 1) z) 485 (σ 480 1) ((-1))) 486 (σ 480 1) ((-1))) 487 (σ 480 1) ((-1)))) (ps := [ck_rg t, ck_rg 10]) rfl ⟨(ck_rgo (by omega) (by omega)), (ck_rgo (by omega) (by omega)), trivial⟩ ?_
  refine ck_go_f (by omega) ?_
  refine ck_go_run 3 (X1 := (if t = 11 then 215 else 255, [some (.inr (480, 3, 6)), some (.inl t), some (.inl x), some (.inl y), some (.inl z), some (.inl 0), some (.inl (σ 480 1))], [], ck_up (ck_up (ck_up (ck_up (ck_up (ck_up (ck_up (ck_up (ck_up σ 480 0 0) 480 19 0) 481 (σ 480 1) t) 482 (σ 480 1) x) 483 (σ 480 1) y) 484 (σ 480 1) z) 485 (σ 480 1) ((-1))) 486 (σ 480 1) ((-1))) 487 (σ 480 1) ((-1)))) (ps := [ck_rg t, ck_rg 11]) rfl ⟨(ck_rgo (by omega) (by omega)), (ck_rgo (by omega) (by omega)), trivial⟩ ?_
  refine ck_go_f (by omega) ?_
  refine ck_go_run 8 (X1 := (269, [some (.inr (480, 3, 6)), some (.inl t), some (.inl x), some (.inl y), some (.inl z), some (.inl 0), some (.inl (σ 480 1))], [.inl ((σ 480 1) + 1)], ck_up (ck_up (ck_up (ck_up (ck_up (ck_up (ck_up (ck_up (ck_up (ck_up σ 480 0 0) 480 19 0) 481 (σ 480 1) t) 482 (σ 480 1) x) 483 (σ 480 1) y) 484 (σ 480 1) z) 485 (σ 480 1) ((-1))) 486 (σ 480 1) ((-1))) 487 (σ 480 1) ((-1))) 480 1 ((σ 480 1) + 1))) (ps := []) rfl trivial ?_
  exact ck_eI ⟨rfl, rfl⟩ rfl rfl rfl
theorem cx_putM_open {x y z t : Int} (ht : ck_rg t) (hx : ck_rg x) (hy : ck_rg y) (hz : ck_rg z) {σ : ck_M} (hd : 0 ≤ σ 480 2 ∧ σ 480 2 ≤ 8) (ho : 0 < σ 480 2 → 0 ≤ σ 488 (σ 480 2 - 1) ∧ σ 488 (σ 480 2 - 1) < 64) (hs : 0 < σ 480 2 → ck_rg (σ 481 (σ 488 (σ 480 2 - 1))) ∧ ck_rg (σ 485 (σ 488 (σ 480 2 - 1)))) (hh : co_fit t x y z ∧ co_own t (σ 480 2) (σ 481 (σ 488 (σ 480 2 - 1))) (σ 485 (σ 488 (σ 480 2 - 1)))) (hn : 0 ≤ σ 480 1 ∧ σ 480 1 < 64) (hk : t = 9 ∨ t = 12) (hd8 : σ 480 2 < 8) : ck_cal 3 cm_Mo_put [.inr (480, 3, 6), .inl t, .inl x, .inl y, .inl z] σ (fun q σ' => q = some (σ 480 1 + 1) ∧ σ' = ck_up (ck_up (ck_up (ck_up (ck_up (ck_up (ck_up (ck_up (ck_up (ck_up (ck_up (ck_up σ 480 0 0) 480 19 0) 481 (σ 480 1) t) 482 (σ 480 1) x) 483 (σ 480 1) y) 484 (σ 480 1) z) 485 (σ 480 1) (-1)) 486 (σ 480 1) (-1)) 487 (σ 480 1) (-1)) 488 (σ 480 2) (σ 480 1)) 480 2 (σ 480 2 + 1)) 480 1 (σ 480 1 + 1)) := by
  refine ck_cal_of ?_
  have rt := id ht
  unfold ck_rg at rt
  refine ck_go_run 6 (X1 := (7, [some (.inr (480, 3, 6)), some (.inl t), some (.inl x), some (.inl y), some (.inl z), none, none], [.inl z, .inl y, .inl x, .inl t, .inr (480, 3, 6), .inr (480, 3, 6)], σ)) (ps := []) rfl trivial ?_
  refine ck_go_cal (rest := [.inr (480, 3, 6)]) (ck_cal_le (by decide) (cx_isSaid (σ := σ) ht hx hy hz hd ho hs)) ⟨_, rfl, Or.inl ⟨_, rfl⟩, rfl, rfl, rfl, Nat.le_of_ble_eq_true rfl, fun _ => ⟨_, _, rfl⟩⟩ ?_
  rintro _ s' ⟨⟨r, rfl, hr⟩, e'⟩
  rw [e']
  clear e' s'
  have hr1 : r = 1 := by
    rcases hr with ⟨z1, z2⟩ | ⟨z1, z2⟩
    · first | exact z1 | exact absurd z2 hh
    · first | exact z1 | exact absurd hh z2
  refine ck_go_run 1 (X1 := (if r = 0 then 13 else 17, [some (.inr (480, 3, 6)), some (.inl t), some (.inl x), some (.inl y), some (.inl z), none, none], [.inr (480, 3, 6)], σ)) (ps := [ck_rg r]) rfl ⟨(ck_rgo (by omega) (by omega)), trivial⟩ ?_
  refine ck_go_f (by omega) ?_
  refine ck_go_run 2 (X1 := (19, [some (.inr (480, 3, 6)), some (.inl t), some (.inl x), some (.inl y), some (.inl z), none, none], [.inl 0, .inl 0, .inr (480, 3, 6)], σ)) (ps := []) rfl trivial ?_
  refine ck_go_cal (rest := []) (ck_cal_le (by decide) (cx_fails00 _)) ⟨_, rfl, Or.inl ⟨_, rfl⟩, rfl, rfl, rfl, Nat.le_of_ble_eq_true rfl, fun _ => ⟨_, _, rfl⟩⟩ ?_
  rintro _ s1 ⟨rfl, e1⟩
  rw [e1]
  clear e1 s1
  refine ck_go_run 1 (X1 := (if 0 = 0 then 27 else 25, [some (.inr (480, 3, 6)), some (.inl t), some (.inl x), some (.inl y), some (.inl z), none, none], [], ck_up σ 480 0 0)) (ps := [ck_rg 0]) rfl ⟨(ck_rgo (by omega) (by omega)), trivial⟩ ?_
  refine ck_go_t (by decide) ?_
  refine ck_go_run 6 (X1 := (if t = 9 then 44 else 38, [some (.inr (480, 3, 6)), some (.inl t), some (.inl x), some (.inl y), some (.inl z), none, none], [], ck_up (ck_up σ 480 0 0) 480 19 0)) (ps := [0 = 0 ∨ 0 = 1, ck_rg t, ck_rg 9]) rfl ⟨Or.inl rfl, (ck_rgo (by omega) (by omega)), (ck_rgo (by omega) (by omega)), trivial⟩ ?_
  refine ck_go_ite (fun h1 => ?_) (fun h1 => ?_)
  · refine ck_go_run 7 (X1 := (if σ 480 1 = 64 then 74 else 60, [some (.inr (480, 3, 6)), some (.inl t), some (.inl x), some (.inl y), some (.inl z), some (.inl 1), none], [], ck_up (ck_up σ 480 0 0) 480 19 0)) (ps := [ck_rg (σ 480 1), ck_rg 64]) rfl ⟨(ck_rgo (by omega) (by omega)), (ck_rgo (by omega) (by omega)), trivial⟩ ?_
    refine ck_go_f (by omega) ?_
    refine ck_go_run 2 (X1 := (if 1 = 0 then 76 else 65, [some (.inr (480, 3, 6)), some (.inl t), some (.inl x), some (.inl y), some (.inl z), some (.inl 1), none], [], ck_up (ck_up σ 480 0 0) 480 19 0)) (ps := [ck_rg 1]) rfl ⟨(ck_rgo (by omega) (by omega)), trivial⟩ ?_
    refine ck_go_f (by decide) ?_
    refine ck_go_run 4 (X1 := (if σ 480 2 = 8 then 74 else 76, [some (.inr (480, 3, 6)), some (.inl t), some (.inl x), some (.inl y), some (.inl z), some (.inl 1), none], [], ck_up (ck_up σ 480 0 0) 480 19 0)) (ps := [ck_rg (σ 480 2), ck_rg 8]) rfl ⟨(ck_rgo (by omega) (by omega)), (ck_rgo (by omega) (by omega)), trivial⟩ ?_
    refine ck_go_f (by omega) ?_
    refine ck_go_run 40 (X1 := (if 1 = 0 then 168 else 144, [some (.inr (480, 3, 6)), some (.inl t), some (.inl x), some (.inl y), some (.inl z), some (.inl 1), some (.inl (σ 480 1))], [], ck_up (ck_up (ck_up (ck_up (ck_up (ck_up (ck_up (ck_up (ck_up σ 480 0 0) 480 19 0) 481 (σ 480 1) t) 482 (σ 480 1) x) 483 (σ 480 1) y) 484 (σ 480 1) z) 485 (σ 480 1) ((-1))) 486 (σ 480 1) ((-1))) 487 (σ 480 1) ((-1)))) (ps := [0 ≤ σ 480 1 ∧ σ 480 1 < ((64 : Nat) : Int), 0 ≤ σ 480 1 ∧ σ 480 1 < ((64 : Nat) : Int), 0 ≤ σ 480 1 ∧ σ 480 1 < ((64 : Nat) : Int), 0 ≤ σ 480 1 ∧ σ 480 1 < ((64 : Nat) : Int), 0 ≤ σ 480 1 ∧ σ 480 1 < ((64 : Nat) : Int), 0 ≤ σ 480 1 ∧ σ 480 1 < ((64 : Nat) : Int), 0 ≤ σ 480 1 ∧ σ 480 1 < ((64 : Nat) : Int), ck_rg 1]) rfl ⟨⟨by omega, by omega⟩, ⟨by omega, by omega⟩, ⟨by omega, by omega⟩, ⟨by omega, by omega⟩, ⟨by omega, by omega⟩, ⟨by omega, by omega⟩, ⟨by omega, by omega⟩, (ck_rgo (by omega) (by omega)), trivial⟩ ?_
    refine ck_go_f (by decide) ?_
    refine ck_go_run 21 (X1 := (269, [some (.inr (480, 3, 6)), some (.inl t), some (.inl x), some (.inl y), some (.inl z), some (.inl 1), some (.inl (σ 480 1))], [.inl ((σ 480 1) + 1)], ck_up (ck_up (ck_up (ck_up (ck_up (ck_up (ck_up (ck_up (ck_up (ck_up (ck_up (ck_up σ 480 0 0) 480 19 0) 481 (σ 480 1) t) 482 (σ 480 1) x) 483 (σ 480 1) y) 484 (σ 480 1) z) 485 (σ 480 1) ((-1))) 486 (σ 480 1) ((-1))) 487 (σ 480 1) ((-1))) 488 (σ 480 2) (σ 480 1)) 480 2 ((σ 480 2) + 1)) 480 1 ((σ 480 1) + 1))) (ps := [0 ≤ σ 480 2 ∧ σ 480 2 < ((8 : Nat) : Int)]) rfl ⟨⟨by omega, by omega⟩, trivial⟩ ?_
    exact ck_eI ⟨rfl, rfl⟩ rfl rfl rfl
  · refine ck_go_run 3 (X1 := (if t = 12 then 44 else 48, [some (.inr (480, 3, 6)), some (.inl t), some (.inl x), some (.inl y), some (.inl z), none, none], [], ck_up (ck_up σ 480 0 0) 480 19 0)) (ps := [ck_rg t, ck_rg 12]) rfl ⟨(ck_rgo (by omega) (by omega)), (ck_rgo (by omega) (by omega)), trivial⟩ ?_
    refine ck_go_t (by omega) ?_
    refine ck_go_run 7 (X1 := (if σ 480 1 = 64 then 74 else 60, [some (.inr (480, 3, 6)), some (.inl t), some (.inl x), some (.inl y), some (.inl z), some (.inl 1), none], [], ck_up (ck_up σ 480 0 0) 480 19 0)) (ps := [ck_rg (σ 480 1), ck_rg 64]) rfl ⟨(ck_rgo (by omega) (by omega)), (ck_rgo (by omega) (by omega)), trivial⟩ ?_
    refine ck_go_f (by omega) ?_
    refine ck_go_run 2 (X1 := (if 1 = 0 then 76 else 65, [some (.inr (480, 3, 6)), some (.inl t), some (.inl x), some (.inl y), some (.inl z), some (.inl 1), none], [], ck_up (ck_up σ 480 0 0) 480 19 0)) (ps := [ck_rg 1]) rfl ⟨(ck_rgo (by omega) (by omega)), trivial⟩ ?_
    refine ck_go_f (by decide) ?_
    refine ck_go_run 4 (X1 := (if σ 480 2 = 8 then 74 else 76, [some (.inr (480, 3, 6)), some (.inl t), some (.inl x), some (.inl y), some (.inl z), some (.inl 1), none], [], ck_up (ck_up σ 480 0 0) 480 19 0)) (ps := [ck_rg (σ 480 2), ck_rg 8]) rfl ⟨(ck_rgo (by omega) (by omega)), (ck_rgo (by omega) (by omega)), trivial⟩ ?_
    refine ck_go_f (by omega) ?_
    refine ck_go_run 40 (X1 := (if 1 = 0 then 168 else 144, [some (.inr (480, 3, 6)), some (.inl t), some (.inl x), some (.inl y), some (.inl z), some (.inl 1), some (.inl (σ 480 1))], [], ck_up (ck_up (ck_up (ck_up (ck_up (ck_up (ck_up (ck_up (ck_up σ 480 0 0) 480 19 0) 481 (σ 480 1) t) 482 (σ 480 1) x) 483 (σ 480 1) y) 484 (σ 480 1) z) 485 (σ 480 1) ((-1))) 486 (σ 480 1) ((-1))) 487 (σ 480 1) ((-1)))) (ps := [0 ≤ σ 480 1 ∧ σ 480 1 < ((64 : Nat) : Int), 0 ≤ σ 480 1 ∧ σ 480 1 < ((64 : Nat) : Int), 0 ≤ σ 480 1 ∧ σ 480 1 < ((64 : Nat) : Int), 0 ≤ σ 480 1 ∧ σ 480 1 < ((64 : Nat) : Int), 0 ≤ σ 480 1 ∧ σ 480 1 < ((64 : Nat) : Int), 0 ≤ σ 480 1 ∧ σ 480 1 < ((64 : Nat) : Int), 0 ≤ σ 480 1 ∧ σ 480 1 < ((64 : Nat) : Int), ck_rg 1]) rfl ⟨⟨by omega, by omega⟩, ⟨by omega, by omega⟩, ⟨by omega, by omega⟩, ⟨by omega, by omega⟩, ⟨by omega, by omega⟩, ⟨by omega, by omega⟩, ⟨by omega, by omega⟩, (ck_rgo (by omega) (by omega)), trivial⟩ ?_
    refine ck_go_f (by decide) ?_
    refine ck_go_run 21 (X1 := (269, [some (.inr (480, 3, 6)), some (.inl t), some (.inl x), some (.inl y), some (.inl z), some (.inl 1), some (.inl (σ 480 1))], [.inl ((σ 480 1) + 1)], ck_up (ck_up (ck_up (ck_up (ck_up (ck_up (ck_up (ck_up (ck_up (ck_up (ck_up (ck_up σ 480 0 0) 480 19 0) 481 (σ 480 1) t) 482 (σ 480 1) x) 483 (σ 480 1) y) 484 (σ 480 1) z) 485 (σ 480 1) ((-1))) 486 (σ 480 1) ((-1))) 487 (σ 480 1) ((-1))) 488 (σ 480 2) (σ 480 1)) 480 2 ((σ 480 2) + 1)) 480 1 ((σ 480 1) + 1))) (ps := [0 ≤ σ 480 2 ∧ σ 480 2 < ((8 : Nat) : Int)]) rfl ⟨⟨by omega, by omega⟩, trivial⟩ ?_
    exact ck_eI ⟨rfl, rfl⟩ rfl rfl rfl
theorem cx_putM_else {x y z t : Int} (ht : ck_rg t) (hx : ck_rg x) (hy : ck_rg y) (hz : ck_rg z) {σ : ck_M} (hd : 0 ≤ σ 480 2 ∧ σ 480 2 ≤ 8) (ho : 0 < σ 480 2 → 0 ≤ σ 488 (σ 480 2 - 1) ∧ σ 488 (σ 480 2 - 1) < 64) (hs : 0 < σ 480 2 → ck_rg (σ 481 (σ 488 (σ 480 2 - 1))) ∧ ck_rg (σ 485 (σ 488 (σ 480 2 - 1)))) (hh : co_fit t x y z ∧ co_own t (σ 480 2) (σ 481 (σ 488 (σ 480 2 - 1))) (σ 485 (σ 488 (σ 480 2 - 1)))) (hn : 0 ≤ σ 480 1 ∧ σ 480 1 < 64) (hk : t = 10) (hd0 : 0 < σ 480 2) : ck_cal 3 cm_Mo_put [.inr (480, 3, 6), .inl t, .inl x, .inl y, .inl z] σ (fun q σ' => q = some (σ 480 1 + 1) ∧ σ' = ck_up (ck_up (ck_up (ck_up (ck_up (ck_up (ck_up (ck_up (ck_up (ck_up (ck_up (ck_up σ 480 0 0) 480 19 0) 481 (σ 480 1) t) 482 (σ 480 1) x) 483 (σ 480 1) y) 484 (σ 480 1) z) 485 (σ 480 1) (-1)) 486 (σ 480 1) (-1)) 487 (σ 480 1) (-1)) 487 (σ 480 1) (σ 488 (σ 480 2 - 1))) 485 (σ 488 (σ 480 2 - 1)) (σ 480 1)) 480 1 (σ 480 1 + 1)) := by
  refine ck_cal_of ?_
  have rt := id ht
  unfold ck_rg at rt
  refine ck_go_run 6 (X1 := (7, [some (.inr (480, 3, 6)), some (.inl t), some (.inl x), some (.inl y), some (.inl z), none, none], [.inl z, .inl y, .inl x, .inl t, .inr (480, 3, 6), .inr (480, 3, 6)], σ)) (ps := []) rfl trivial ?_
  refine ck_go_cal (rest := [.inr (480, 3, 6)]) (ck_cal_le (by decide) (cx_isSaid (σ := σ) ht hx hy hz hd ho hs)) ⟨_, rfl, Or.inl ⟨_, rfl⟩, rfl, rfl, rfl, Nat.le_of_ble_eq_true rfl, fun _ => ⟨_, _, rfl⟩⟩ ?_
  rintro _ s' ⟨⟨r, rfl, hr⟩, e'⟩
  rw [e']
  clear e' s'
  have hr1 : r = 1 := by
    rcases hr with ⟨z1, z2⟩ | ⟨z1, z2⟩
    · first | exact z1 | exact absurd z2 hh
    · first | exact z1 | exact absurd hh z2
  refine ck_go_run 1 (X1 := (if r = 0 then 13 else 17, [some (.inr (480, 3, 6)), some (.inl t), some (.inl x), some (.inl y), some (.inl z), none, none], [.inr (480, 3, 6)], σ)) (ps := [ck_rg r]) rfl ⟨(ck_rgo (by omega) (by omega)), trivial⟩ ?_
  refine ck_go_f (by omega) ?_
  refine ck_go_run 2 (X1 := (19, [some (.inr (480, 3, 6)), some (.inl t), some (.inl x), some (.inl y), some (.inl z), none, none], [.inl 0, .inl 0, .inr (480, 3, 6)], σ)) (ps := []) rfl trivial ?_
  refine ck_go_cal (rest := []) (ck_cal_le (by decide) (cx_fails00 _)) ⟨_, rfl, Or.inl ⟨_, rfl⟩, rfl, rfl, rfl, Nat.le_of_ble_eq_true rfl, fun _ => ⟨_, _, rfl⟩⟩ ?_
  rintro _ s1 ⟨rfl, e1⟩
  rw [e1]
  clear e1 s1
  refine ck_go_run 1 (X1 := (if 0 = 0 then 27 else 25, [some (.inr (480, 3, 6)), some (.inl t), some (.inl x), some (.inl y), some (.inl z), none, none], [], ck_up σ 480 0 0)) (ps := [ck_rg 0]) rfl ⟨(ck_rgo (by omega) (by omega)), trivial⟩ ?_
  refine ck_go_t (by decide) ?_
  refine ck_go_run 6 (X1 := (if t = 9 then 44 else 38, [some (.inr (480, 3, 6)), some (.inl t), some (.inl x), some (.inl y), some (.inl z), none, none], [], ck_up (ck_up σ 480 0 0) 480 19 0)) (ps := [0 = 0 ∨ 0 = 1, ck_rg t, ck_rg 9]) rfl ⟨Or.inl rfl, (ck_rgo (by omega) (by omega)), (ck_rgo (by omega) (by omega)), trivial⟩ ?_
  refine ck_go_f (by omega) ?_
  refine ck_go_run 3 (X1 := (if t = 12 then 44 else 48, [some (.inr (480, 3, 6)), some (.inl t), some (.inl x), some (.inl y), some (.inl z), none, none], [], ck_up (ck_up σ 480 0 0) 480 19 0)) (ps := [ck_rg t, ck_rg 12]) rfl ⟨(ck_rgo (by omega) (by omega)), (ck_rgo (by omega) (by omega)), trivial⟩ ?_
  refine ck_go_f (by omega) ?_
  refine ck_go_run 6 (X1 := (if σ 480 1 = 64 then 74 else 60, [some (.inr (480, 3, 6)), some (.inl t), some (.inl x), some (.inl y), some (.inl z), some (.inl 0), none], [], ck_up (ck_up σ 480 0 0) 480 19 0)) (ps := [ck_rg (σ 480 1), ck_rg 64]) rfl ⟨(ck_rgo (by omega) (by omega)), (ck_rgo (by omega) (by omega)), trivial⟩ ?_
  refine ck_go_f (by omega) ?_
  refine ck_go_run 2 (X1 := (if 0 = 0 then 76 else 65, [some (.inr (480, 3, 6)), some (.inl t), some (.inl x), some (.inl y), some (.inl z), some (.inl 0), none], [], ck_up (ck_up σ 480 0 0) 480 19 0)) (ps := [ck_rg 0]) rfl ⟨(ck_rgo (by omega) (by omega)), trivial⟩ ?_
  refine ck_go_t (by decide) ?_
  refine ck_go_run 40 (X1 := (if 0 = 0 then 168 else 144, [some (.inr (480, 3, 6)), some (.inl t), some (.inl x), some (.inl y), some (.inl z), some (.inl 0), some (.inl (σ 480 1))], [], ck_up (ck_up (ck_up (ck_up (ck_up (ck_up (ck_up (ck_up (ck_up σ 480 0 0) 480 19 0) 481 (σ 480 1) t) 482 (σ 480 1) x) 483 (σ 480 1) y) 484 (σ 480 1) z) 485 (σ 480 1) ((-1))) 486 (σ 480 1) ((-1))) 487 (σ 480 1) ((-1)))) (ps := [0 ≤ σ 480 1 ∧ σ 480 1 < ((64 : Nat) : Int), 0 ≤ σ 480 1 ∧ σ 480 1 < ((64 : Nat) : Int), 0 ≤ σ 480 1 ∧ σ 480 1 < ((64 : Nat) : Int), 0 ≤ σ 480 1 ∧ σ 480 1 < ((64 : Nat) : Int), 0 ≤ σ 480 1 ∧ σ 480 1 < ((64 : Nat) : Int), 0 ≤ σ 480 1 ∧ σ 480 1 < ((64 : Nat) : Int), 0 ≤ σ 480 1 ∧ σ 480 1 < ((64 : Nat) : Int), ck_rg 0]) rfl ⟨⟨by omega, by omega⟩, ⟨by omega, by omega⟩, ⟨by omega, by omega⟩, ⟨by omega, by omega⟩, ⟨by omega, by omega⟩, ⟨by omega, by omega⟩, ⟨by omega, by omega⟩, (ck_rgo (by omega) (by omega)), trivial⟩ ?_
  refine ck_go_t (by decide) ?_
  refine ck_go_run 3 (X1 := (if t = 10 then 174 else 209, [some (.inr (480, 3, 6)), some (.inl t), some (.inl x), some (.inl y), some (.inl z), some (.inl 0), some (.inl (σ 480 1))], [], ck_up (ck_up (ck_up (ck_up (ck_up (ck_up (ck_up (ck_up (ck_up σ 480 0 0) 480 19 0) 481 (σ 480 1) t) 482 (σ 480 1) x) 483 (σ 480 1) y) 484 (σ 480 1) z) 485 (σ 480 1) ((-1))) 486 (σ 480 1) ((-1))) 487 (σ 480 1) ((-1)))) (ps := [ck_rg t, ck_rg 10]) rfl ⟨(ck_rgo (by omega) (by omega)), (ck_rgo (by omega) (by omega)), trivial⟩ ?_
  refine ck_go_t (by omega) ?_
  have ho0 := ho hd0
  refine ck_go_run 11 (X1 := (192, [some (.inr (480, 3, 6)), some (.inl t), some (.inl x), some (.inl y), some (.inl z), some (.inl 0), some (.inl (σ 480 1))], [], ck_up (ck_up (ck_up (ck_up (ck_up (ck_up (ck_up (ck_up (ck_up (ck_up σ 480 0 0) 480 19 0) 481 (σ 480 1) t) 482 (σ 480 1) x) 483 (σ 480 1) y) 484 (σ 480 1) z) 485 (σ 480 1) ((-1))) 486 (σ 480 1) ((-1))) 487 (σ 480 1) ((-1))) 487 (σ 480 1) (σ 488 ((σ 480 2) - 1)))) (ps := [0 ≤ (σ 480 2) - 1 ∧ (σ 480 2) - 1 < ((8 : Nat) : Int), 0 ≤ σ 480 1 ∧ σ 480 1 < ((64 : Nat) : Int)]) rfl ⟨⟨by omega, by omega⟩, ⟨by omega, by omega⟩, trivial⟩ ?_
  have ew : (ck_up (ck_up (ck_up (ck_up (ck_up (ck_up (ck_up (ck_up (ck_up (ck_up σ 480 0 0) 480 19 0) 481 (σ 480 1) t) 482 (σ 480 1) x) 483 (σ 480 1) y) 484 (σ 480 1) z) 485 (σ 480 1) ((-1))) 486 (σ 480 1) ((-1))) 487 (σ 480 1) ((-1))) 487 (σ 480 1) (σ 488 ((σ 480 2) - 1))) 487 (σ 480 1) = σ 488 (σ 480 2 - 1) := if_pos ⟨rfl, rfl⟩
  have ho1 := ho hd0
  refine ck_go_run 17 (X1 := (269, [some (.inr (480, 3, 6)), some (.inl t), some (.inl x), some (.inl y), some (.inl z), some (.inl 0), some (.inl (σ 480 1))], [.inl ((σ 480 1) + 1)], ck_up (ck_up (ck_up (ck_up (ck_up (ck_up (ck_up (ck_up (ck_up (ck_up (ck_up (ck_up σ 480 0 0) 480 19 0) 481 (σ 480 1) t) 482 (σ 480 1) x) 483 (σ 480 1) y) 484 (σ 480 1) z) 485 (σ 480 1) ((-1))) 486 (σ 480 1) ((-1))) 487 (σ 480 1) ((-1))) 487 (σ 480 1) (σ 488 ((σ 480 2) - 1))) 485 ((ck_up (ck_up (ck_up (ck_up (ck_up (ck_up (ck_up (ck_up (ck_up (ck_up σ 480 0 0) 480 19 0) 481 (σ 480 1) t) 482 (σ 480 1) x) 483 (σ 480 1) y) 484 (σ 480 1) z) 485 (σ 480 1) ((-1))) 486 (σ 480 1) ((-1))) 487 (σ 480 1) ((-1))) 487 (σ 480 1) (σ 488 ((σ 480 2) - 1))) 487 (σ 480 1)) (σ 480 1)) 480 1 ((σ 480 1) + 1))) (ps := [0 ≤ σ 480 1 ∧ σ 480 1 < ((64 : Nat) : Int), 0 ≤ (ck_up (ck_up (ck_up (ck_up (ck_up (ck_up (ck_up (ck_up (ck_up (ck_up σ 480 0 0) 480 19 0) 481 (σ 480 1) t) 482 (σ 480 1) x) 483 (σ 480 1) y) 484 (σ 480 1) z) 485 (σ 480 1) ((-1))) 486 (σ 480 1) ((-1))) 487 (σ 480 1) ((-1))) 487 (σ 480 1) (σ 488 ((σ 480 2) - 1))) 487 (σ 480 1) ∧ (ck_up (ck_up (ck_up (ck_up (ck_up (ck_up (ck_up (ck_up (ck_up (ck_up σ 480 0 0) 480 19 0) 481 (σ 480 1) t) 482 (σ 480 1) x) 483 (σ 480 1) y) 484 (σ 480 1) z) 485 (σ 480 1) ((-1))) 486 (σ 480 1) ((-1))) 487 (σ 480 1) ((-1))) 487 (σ 480 1) (σ 488 ((σ 480 2) - 1))) 487 (σ 480 1) < ((64 : Nat) : Int)]) rfl ⟨⟨by omega, by omega⟩, ⟨by omega, by omega⟩, trivial⟩ ?_
  refine ck_eI ⟨rfl, ?_⟩ rfl rfl rfl
  rw [ew]
theorem cx_putM_end {x y z t : Int} (ht : ck_rg t) (hx : ck_rg x) (hy : ck_rg y) (hz : ck_rg z) {σ : ck_M} (hd : 0 ≤ σ 480 2 ∧ σ 480 2 ≤ 8) (ho : 0 < σ 480 2 → 0 ≤ σ 488 (σ 480 2 - 1) ∧ σ 488 (σ 480 2 - 1) < 64) (hs : 0 < σ 480 2 → ck_rg (σ 481 (σ 488 (σ 480 2 - 1))) ∧ ck_rg (σ 485 (σ 488 (σ 480 2 - 1)))) (hh : co_fit t x y z ∧ co_own t (σ 480 2) (σ 481 (σ 488 (σ 480 2 - 1))) (σ 485 (σ 488 (σ 480 2 - 1)))) (hn : 0 ≤ σ 480 1 ∧ σ 480 1 < 64) (hk : t = 11) (hd0 : 0 < σ 480 2) : ck_cal 3 cm_Mo_put [.inr (480, 3, 6), .inl t, .inl x, .inl y, .inl z] σ (fun q σ' => q = some (σ 480 1 + 1) ∧ σ' = ck_up (ck_up (ck_up (ck_up (ck_up (ck_up (ck_up (ck_up (ck_up (ck_up (ck_up (ck_up (ck_up σ 480 0 0) 480 19 0) 481 (σ 480 1) t) 482 (σ 480 1) x) 483 (σ 480 1) y) 484 (σ 480 1) z) 485 (σ 480 1) (-1)) 486 (σ 480 1) (-1)) 487 (σ 480 1) (-1)) 480 2 (σ 480 2 - 1)) 487 (σ 480 1) (σ 488 (σ 480 2 - 1))) 486 (σ 488 (σ 480 2 - 1)) (σ 480 1)) 480 1 (σ 480 1 + 1)) := by
  refine ck_cal_of ?_
  have rt := id ht
  unfold ck_rg at rt
  refine ck_go_run 6 (X1 := (7, [some (.inr (480, 3, 6)), some (.inl t), some (.inl x), some (.inl y), some (.inl z), none, none], [.inl z, .inl y, .inl x, .inl t, .inr (480, 3, 6), .inr (480, 3, 6)], σ)) (ps := []) rfl trivial ?_
  refine ck_go_cal (rest := [.inr (480, 3, 6)]) (ck_cal_le (by decide) (cx_isSaid (σ := σ) ht hx hy hz hd ho hs)) ⟨_, rfl, Or.inl ⟨_, rfl⟩, rfl, rfl, rfl, Nat.le_of_ble_eq_true rfl, fun _ => ⟨_, _, rfl⟩⟩ ?_
  rintro _ s' ⟨⟨r, rfl, hr⟩, e'⟩
  rw [e']
  clear e' s'
  have hr1 : r = 1 := by
    rcases hr with ⟨z1, z2⟩ | ⟨z1, z2⟩
    · first | exact z1 | exact absurd z2 hh
    · first | exact z1 | exact absurd hh z2
  refine ck_go_run 1 (X1 := (if r = 0 then 13 else 17, [some (.inr (480, 3, 6)), some (.inl t), some (.inl x), some (.inl y), some (.inl z), none, none], [.inr (480, 3, 6)], σ)) (ps := [ck_rg r]) rfl ⟨(ck_rgo (by omega) (by omega)), trivial⟩ ?_
  refine ck_go_f (by omega) ?_
  refine ck_go_run 2 (X1 := (19, [some (.inr (480, 3, 6)), some (.inl t), some (.inl x), some (.inl y), some (.inl z), none, none], [.inl 0, .inl 0, .inr (480, 3, 6)], σ)) (ps := []) rfl trivial ?_
  refine ck_go_cal (rest := []) (ck_cal_le (by decide) (cx_fails00 _)) ⟨_, rfl, Or.inl ⟨_, rfl⟩, rfl, rfl, rfl, Nat.le_of_ble_eq_true rfl, fun _ => ⟨_, _, rfl⟩⟩ ?_
  rintro _ s1 ⟨rfl, e1⟩
  rw [e1]
  clear e1 s1
  refine ck_go_run 1 (X1 := (if 0 = 0 then 27 else 25, [some (.inr (480, 3, 6)), some (.inl t), some (.inl x), some (.inl y), some (.inl z), none, none], [], ck_up σ 480 0 0)) (ps := [ck_rg 0]) rfl ⟨(ck_rgo (by omega) (by omega)), trivial⟩ ?_
  refine ck_go_t (by decide) ?_
  refine ck_go_run 6 (X1 := (if t = 9 then 44 else 38, [some (.inr (480, 3, 6)), some (.inl t), some (.inl x), some (.inl y), some (.inl z), none, none], [], ck_up (ck_up σ 480 0 0) 480 19 0)) (ps := [0 = 0 ∨ 0 = 1, ck_rg t, ck_rg 9]) rfl ⟨Or.inl rfl, (ck_rgo (by omega) (by omega)), (ck_rgo (by omega) (by omega)), trivial⟩ ?_
  refine ck_go_f (by omega) ?_
  refine ck_go_run 3 (X1 := (if t = 12 then 44 else 48, [some (.inr (480, 3, 6)), some (.inl t), some (.inl x), some (.inl y), some (.inl z), none, none], [], ck_up (ck_up σ 480 0 0) 480 19 0)) (ps := [ck_rg t, ck_rg 12]) rfl ⟨(ck_rgo (by omega) (by omega)), (ck_rgo (by omega) (by omega)), trivial⟩ ?_
  refine ck_go_f (by omega) ?_
  refine ck_go_run 6 (X1 := (if σ 480 1 = 64 then 74 else 60, [some (.inr (480, 3, 6)), some (.inl t), some (.inl x), some (.inl y), some (.inl z), some (.inl 0), none], [], ck_up (ck_up σ 480 0 0) 480 19 0)) (ps := [ck_rg (σ 480 1), ck_rg 64]) rfl ⟨(ck_rgo (by omega) (by omega)), (ck_rgo (by omega) (by omega)), trivial⟩ ?_
  refine ck_go_f (by omega) ?_
  refine ck_go_run 2 (X1 := (if 0 = 0 then 76 else 65, [some (.inr (480, 3, 6)), some (.inl t), some (.inl x), some (.inl y), some (.inl z), some (.inl 0), none], [], ck_up (ck_up σ 480 0 0) 480 19 0)) (ps := [ck_rg 0]) rfl ⟨(ck_rgo (by omega) (by omega)), trivial⟩ ?_
  refine ck_go_t (by decide) ?_
  refine ck_go_run 40 (X1 := (if 0 = 0 then 168 else 144, [some (.inr (480, 3, 6)), some (.inl t), some (.inl x), some (.inl y), some (.inl z), some (.inl 0), some (.inl (σ 480 1))], [], ck_up (ck_up (ck_up (ck_up (ck_up (ck_up (ck_up (ck_up (ck_up σ 480 0 0) 480 19 0) 481 (σ 480 1) t) 482 (σ 480 1) x) 483 (σ 480 1) y) 484 (σ 480 1) z) 485 (σ 480 1) ((-1))) 486 (σ 480 1) ((-1))) 487 (σ 480 1) ((-1)))) (ps := [0 ≤ σ 480 1 ∧ σ 480 1 < ((64 : Nat) : Int), 0 ≤ σ 480 1 ∧ σ 480 1 < ((64 : Nat) : Int), 0 ≤ σ 480 1 ∧ σ 480 1 < ((64 : Nat) : Int), 0 ≤ σ 480 1 ∧ σ 480 1 < ((64 : Nat) : Int), 0 ≤ σ 480 1 ∧ σ 480 1 < ((64 : Nat) : Int), 0 ≤ σ 480 1 ∧ σ 480 1 < ((64 : Nat) : Int), 0 ≤ σ 480 1 ∧ σ 480 1 < ((64 : Nat) : Int), ck_rg 0]) rfl ⟨⟨by omega, by omega⟩, ⟨by omega, by omega⟩, ⟨by omega, by omega⟩, ⟨by omega, by omega⟩, ⟨by omega, by omega⟩, ⟨by omega, by omega⟩, ⟨by omega, by omega⟩, (ck_rgo (by omega) (by omega)), trivial⟩ ?_
  refine ck_go_t (by decide) ?_
  refine ck_go_run 3 (X1 := (if t = 10 then 174 else 209, [some (.inr (480, 3, 6)), some (.inl t), some (.inl x), some (.inl y), some (.inl z), some (.inl 0), some (.inl (σ 480 1))], [], ck_up (ck_up (ck_up (ck_up (ck_up (ck_up (ck_up (ck_up (ck_up σ 480 0 0) 480 19 0) 481 (σ 480 1) t) 482 (σ 480 1) x) 483 (σ 480 1) y) 484 (σ 480 1) z) 485 (σ 480 1) ((-1))) 486 (σ 480 1) ((-1))) 487 (σ 480 1) ((-1)))) (ps := [ck_rg t, ck_rg 10]) rfl ⟨(ck_rgo (by omega) (by omega)), (ck_rgo (by omega) (by omega)), trivial⟩ ?_
  refine ck_go_f (by omega) ?_
  refine ck_go_run 3 (X1 := (if t = 11 then 215 else 255, [some (.inr (480, 3, 6)), some (.inl t), some (.inl x), some (.inl y), some (.inl z), some (.inl 0), some (.inl (σ 480 1))], [], ck_up (ck_up (ck_up (ck_up (ck_up (ck_up (ck_up (ck_up (ck_up σ 480 0 0) 480 19 0) 481 (σ 480 1) t) 482 (σ 480 1) x) 483 (σ 480 1) y) 484 (σ 480 1) z) 485 (σ 480 1) ((-1))) 486 (σ 480 1) ((-1))) 487 (σ 480 1) ((-1)))) (ps := [ck_rg t, ck_rg 11]) rfl ⟨(ck_rgo (by omega) (by omega)), (ck_rgo (by omega) (by omega)), trivial⟩ ?_
  refine ck_go_t (by omega) ?_
  refine ck_go_run 15 (X1 := (241, [some (.inr (480, 3, 6)), some (.inl t), some (.inl x), some (.inl y), some (.inl z), some (.inl 0), some (.inl (σ 480 1))], [], ck_up (ck_up (ck_up (ck_up (ck_up (ck_up (ck_up (ck_up (ck_up (ck_up (ck_up σ 480 0 0) 480 19 0) 481 (σ 480 1) t) 482 (σ 480 1) x) 483 (σ 480 1) y) 484 (σ 480 1) z) 485 (σ 480 1) ((-1))) 486 (σ 480 1) ((-1))) 487 (σ 480 1) ((-1))) 480 2 ((σ 480 2) - 1)) 487 (σ 480 1) (σ 488 ((σ 480 2) - 1)))) (ps := [0 ≤ (σ 480 2) - 1 ∧ (σ 480 2) - 1 < ((8 : Nat) : Int), 0 ≤ σ 480 1 ∧ σ 480 1 < ((64 : Nat) : Int)]) rfl ⟨⟨by omega, by omega⟩, ⟨by omega, by omega⟩, trivial⟩ ?_
  have ew : (ck_up (ck_up (ck_up (ck_up (ck_up (ck_up (ck_up (ck_up (ck_up (ck_up (ck_up σ 480 0 0) 480 19 0) 481 (σ 480 1) t) 482 (σ 480 1) x) 483 (σ 480 1) y) 484 (σ 480 1) z) 485 (σ 480 1) ((-1))) 486 (σ 480 1) ((-1))) 487 (σ 480 1) ((-1))) 480 2 ((σ 480 2) - 1)) 487 (σ 480 1) (σ 488 ((σ 480 2) - 1))) 487 (σ 480 1) = σ 488 (σ 480 2 - 1) := if_pos ⟨rfl, rfl⟩
  have ho1 := ho hd0
  refine ck_go_run 16 (X1 := (269, [some (.inr (480, 3, 6)), some (.inl t), some (.inl x), some (.inl y), some (.inl z), some (.inl 0), some (.inl (σ 480 1))], [.inl ((σ 480 1) + 1)], ck_up (ck_up (ck_up (ck_up (ck_up (ck_up (ck_up (ck_up (ck_up (ck_up (ck_up (ck_up (ck_up σ 480 0 0) 480 19 0) 481 (σ 480 1) t) 482 (σ 480 1) x) 483 (σ 480 1) y) 484 (σ 480 1) z) 485 (σ 480 1) ((-1))) 486 (σ 480 1) ((-1))) 487 (σ 480 1) ((-1))) 480 2 ((σ 480 2) - 1)) 487 (σ 480 1) (σ 488 ((σ 480 2) - 1))) 486 ((ck_up (ck_up (ck_up (ck_up (ck_up (ck_up (ck_up (ck_up (ck_up (ck_up (ck_up σ 480 0 0) 480 19 0) 481 (σ 480 1) t) 482 (σ 480 1) x) 483 (σ 480 1) y) 484 (σ 480 1) z) 485 (σ 480 1) ((-1))) 486 (σ 480 1) ((-1))) 487 (σ 480 1) ((-1))) 480 2 ((σ 480 2) - 1)) 487 (σ 480 1) (σ 488 ((σ 480 2) - 1))) 487 (σ 480 1)) (σ 480 1)) 480 1 ((σ 480 1) + 1))) (ps := [0 ≤ σ 480 1 ∧ σ 480 1 < ((64 : Nat) : Int), 0 ≤ (ck_up (ck_up (ck_up (ck_up (ck_up (ck_up (ck_up (ck_up (ck_up (ck_up (ck_up σ 480 0 0) 480 19 0) 481 (σ 480 1) t) 482 (σ 480 1) x) 483 (σ 480 1) y) 484 (σ 480 1) z) 485 (σ 480 1) ((-1))) 486 (σ 480 1) ((-1))) 487 (σ 480 1) ((-1))) 480 2 ((σ 480 2) - 1)) 487 (σ 480 1) (σ 488 ((σ 480 2) - 1))) 487 (σ 480 1) ∧ (ck_up (ck_up (ck_up (ck_up (ck_up (ck_up (ck_up (ck_up (ck_up (ck_up (ck_up σ 480 0 0) 480 19 0) 481 (σ 480 1) t) 482 (σ 480 1) x) 483 (σ 480 1) y) 484 (σ 480 1) z) 485 (σ 480 1) ((-1))) 486 (σ 480 1) ((-1))) 487 (σ 480 1) ((-1))) 480 2 ((σ 480 2) - 1)) 487 (σ 480 1) (σ 488 ((σ 480 2) - 1))) 487 (σ 480 1) < ((64 : Nat) : Int)]) rfl ⟨⟨by omega, by omega⟩, ⟨by omega, by omega⟩, trivial⟩ ?_
  refine ck_eI ⟨rfl, ?_⟩ rfl rfl rfl
  rw [ew]
