/-! ## put: which statements are as said -/
def co_fit (t x y z : Int) : Prop := (t = 0 ∧ (0 ≤ x ∧ x ≤ 9) ∧ (-100 ≤ y ∧ y ≤ 100) ∧ z = 0) ∨ (t = 1 ∧ (0 ≤ x ∧ x ≤ 9) ∧ (0 ≤ y ∧ y ≤ 9) ∧ (-100 ≤ z ∧ z ≤ 100)) ∨ ((t = 2 ∨ t = 13) ∧ (0 ≤ x ∧ x ≤ 9) ∧ y = 0 ∧ z = 0) ∨ (t = 3 ∧ (0 ≤ x ∧ x ≤ 9) ∧ (0 ≤ y ∧ y ≤ 3) ∧ z = 0) ∨ (t = 4 ∧ (0 ≤ x ∧ x ≤ 9) ∧ (0 ≤ y ∧ y ≤ 3) ∧ (0 ≤ z ∧ z ≤ 9)) ∨ (t = 5 ∧ (0 ≤ x ∧ x ≤ 3) ∧ (0 ≤ y ∧ y ≤ 9) ∧ (0 ≤ z ∧ z ≤ 9)) ∨ (t = 6 ∧ (0 ≤ x ∧ x ≤ 3) ∧ (0 ≤ y ∧ y ≤ 9) ∧ z = 0) ∨ (t = 7 ∧ (0 ≤ x ∧ x ≤ 3) ∧ y = 0 ∧ z = 0) ∨ (t = 8 ∧ (0 ≤ x ∧ x ≤ 3) ∧ (0 ≤ y ∧ y ≤ 3) ∧ z = 0) ∨ ((t = 9 ∨ t = 12) ∧ (0 ≤ x ∧ x ≤ 9) ∧ (0 ≤ y ∧ y ≤ 10) ∧ (-100 ≤ z ∧ z ≤ 100)) ∨ ((t = 10 ∨ t = 11) ∧ x = 0 ∧ y = 0 ∧ z = 0)
def co_own (t d s e : Int) : Prop := (t ≠ 10 ∧ t ≠ 11) ∨ (0 < d ∧ (t = 11 ∨ (s = 9 ∧ e = -1)))
theorem co_in0 {v f t : Int} : (ck_in v f t = 0) = ¬ (f ≤ v ∧ v ≤ t) := by
  unfold ck_in
  by_cases h : f ≤ v ∧ v ≤ t
  · rw [if_pos h]; exact propext ⟨fun z => absurd z (by decide), fun z => absurd h z⟩
  · rw [if_neg h]; exact propext ⟨fun _ => h, fun _ => rfl⟩
theorem co_in01 (v f t : Int) : ck_in v f t = 0 ∨ ck_in v f t = 1 := by
  unfold ck_in
  split
  · exact Or.inr rfl
  · exact Or.inl rfl
theorem co_inrg (v f t : Int) : ck_rg (ck_in v f t) := by
  unfold ck_in
  split
  · exact ⟨by decide, by decide⟩
  · exact ⟨by decide, by decide⟩
theorem co_fit0 {x y z : Int} : co_fit 0 x y z = ((0 ≤ x ∧ x ≤ 9) ∧ (-100 ≤ y ∧ y ≤ 100) ∧ z = 0) := by simp [co_fit]
theorem co_own0 {d s e : Int} : co_own 0 d s e = True := by simp [co_own]
theorem co_fit1 {x y z : Int} : co_fit 1 x y z = ((0 ≤ x ∧ x ≤ 9) ∧ (0 ≤ y ∧ y ≤ 9) ∧ (-100 ≤ z ∧ z ≤ 100)) := by simp [co_fit]
theorem co_own1 {d s e : Int} : co_own 1 d s e = True := by simp [co_own]
theorem co_fit2 {x y z : Int} : co_fit 2 x y z = ((0 ≤ x ∧ x ≤ 9) ∧ y = 0 ∧ z = 0) := by simp [co_fit]
theorem co_own2 {d s e : Int} : co_own 2 d s e = True := by simp [co_own]
theorem co_fit3 {x y z : Int} : co_fit 3 x y z = ((0 ≤ x ∧ x ≤ 9) ∧ (0 ≤ y ∧ y ≤ 3) ∧ z = 0) := by simp [co_fit]
theorem co_own3 {d s e : Int} : co_own 3 d s e = True := by simp [co_own]
theorem co_fit4 {x y z : Int} : co_fit 4 x y z = ((0 ≤ x ∧ x ≤ 9) ∧ (0 ≤ y ∧ y ≤ 3) ∧ (0 ≤ z ∧ z ≤ 9)) := by simp [co_fit]
theorem co_own4 {d s e : Int} : co_own 4 d s e = True := by simp [co_own]
theorem co_fit5 {x y z : Int} : co_fit 5 x y z = ((0 ≤ x ∧ x ≤ 3) ∧ (0 ≤ y ∧ y ≤ 9) ∧ (0 ≤ z ∧ z ≤ 9)) := by simp [co_fit]
theorem co_own5 {d s e : Int} : co_own 5 d s e = True := by simp [co_own]
theorem co_fit6 {x y z : Int} : co_fit 6 x y z = ((0 ≤ x ∧ x ≤ 3) ∧ (0 ≤ y ∧ y ≤ 9) ∧ z = 0) := by simp [co_fit]
theorem co_own6 {d s e : Int} : co_own 6 d s e = True := by simp [co_own]
theorem co_fit7 {x y z : Int} : co_fit 7 x y z = ((0 ≤ x ∧ x ≤ 3) ∧ y = 0 ∧ z = 0) := by simp [co_fit]
theorem co_own7 {d s e : Int} : co_own 7 d s e = True := by simp [co_own]
theorem co_fit8 {x y z : Int} : co_fit 8 x y z = ((0 ≤ x ∧ x ≤ 3) ∧ (0 ≤ y ∧ y ≤ 3) ∧ z = 0) := by simp [co_fit]
theorem co_own8 {d s e : Int} : co_own 8 d s e = True := by simp [co_own]
theorem co_fit9 {x y z : Int} : co_fit 9 x y z = ((0 ≤ x ∧ x ≤ 9) ∧ (0 ≤ y ∧ y ≤ 10) ∧ (-100 ≤ z ∧ z ≤ 100)) := by simp [co_fit]
theorem co_own9 {d s e : Int} : co_own 9 d s e = True := by simp [co_own]
theorem co_fit10 {x y z : Int} : co_fit 10 x y z = (x = 0 ∧ y = 0 ∧ z = 0) := by simp [co_fit]
theorem co_own10 {d s e : Int} : co_own 10 d s e = (0 < d ∧ s = 9 ∧ e = -1) := by simp [co_own]
theorem co_fit11 {x y z : Int} : co_fit 11 x y z = (x = 0 ∧ y = 0 ∧ z = 0) := by simp [co_fit]
theorem co_own11 {d s e : Int} : co_own 11 d s e = (0 < d) := by simp [co_own]
theorem co_fit12 {x y z : Int} : co_fit 12 x y z = ((0 ≤ x ∧ x ≤ 9) ∧ (0 ≤ y ∧ y ≤ 10) ∧ (-100 ≤ z ∧ z ≤ 100)) := by simp [co_fit]
theorem co_own12 {d s e : Int} : co_own 12 d s e = True := by simp [co_own]
theorem co_fit13 {x y z : Int} : co_fit 13 x y z = ((0 ≤ x ∧ x ≤ 9) ∧ y = 0 ∧ z = 0) := by simp [co_fit]
theorem co_own13 {d s e : Int} : co_own 13 d s e = True := by simp [co_own]
theorem cx_isSaid0 {x y z : Int} (hx : ck_rg x) (hy : ck_rg y) (hz : ck_rg z) {σ : ck_M} (hd : 0 ≤ σ 480 2 ∧ σ 480 2 ≤ 8) (ho : 0 < σ 480 2 → 0 ≤ σ 488 (σ 480 2 - 1) ∧ σ 488 (σ 480 2 - 1) < 64) (hs : 0 < σ 480 2 → ck_rg (σ 481 (σ 488 (σ 480 2 - 1))) ∧ ck_rg (σ 485 (σ 488 (σ 480 2 - 1)))) : ck_cal 2 cm_Mo_isSaid [.inr (480, 3, 6), .inl 0, .inl x, .inl y, .inl z] σ (fun q σ' => (∃ r, q = some r ∧ ((r = 1 ∧ co_fit 0 x y z ∧ co_own 0 (σ 480 2) (σ 481 (σ 488 (σ 480 2 - 1))) (σ 485 (σ 488 (σ 480 2 - 1)))) ∨ (r = 0 ∧ ¬ (co_fit 0 x y z ∧ co_own 0 (σ 480 2) (σ 481 (σ 488 (σ 480 2 - 1))) (σ 485 (σ 488 (σ 480 2 - 1))))))) ∧ σ' = σ) := by
  refine ck_cal_of ?_
  have rx := id hx
  have ry := id hy
  have rz := id hz
  unfold ck_rg at rx ry rz
  refine ck_go_run 3 (X1 := (4, [some (.inr (480, 3, 6)), some (.inl 0), some (.inl x), some (.inl y), some (.inl z), none, none], [.inl 9, .inl 0, .inl x], σ)) (ps := []) rfl trivial ?_
  refine ck_go_cal (rest := []) (ck_cal_le (by decide) (cx_in (v := x) (f := 0) (t := 9) (by first | assumption | exact ck_rgo (by omega) (by omega)) (by exact ⟨by decide, by decide⟩) (by exact ⟨by decide, by decide⟩) _)) ⟨_, rfl, Or.inr ⟨_, rfl⟩, rfl, rfl, rfl, Nat.le_of_ble_eq_true rfl, fun h => absurd h (by decide)⟩ ?_
  rintro _ s' ⟨rfl, e'⟩
  rw [e']
  clear e' s'
  refine ck_go_run 4 (X1 := (12, [some (.inr (480, 3, 6)), some (.inl 0), some (.inl x), some (.inl y), some (.inl z), some (.inl (ck_in x 0 9)), none], [.inl 3, .inl 0, .inl x], σ)) (ps := []) rfl trivial ?_
  refine ck_go_cal (rest := []) (ck_cal_le (by decide) (cx_in (v := x) (f := 0) (t := 3) (by first | assumption | exact ck_rgo (by omega) (by omega)) (by exact ⟨by decide, by decide⟩) (by exact ⟨by decide, by decide⟩) _)) ⟨_, rfl, Or.inr ⟨_, rfl⟩, rfl, rfl, rfl, Nat.le_of_ble_eq_true rfl, fun h => absurd h (by decide)⟩ ?_
  rintro _ s' ⟨rfl, e'⟩
  rw [e']
  clear e' s'
  refine ck_go_run 3 (X1 := (ck_sw 0 0 453 [88, 115, 148, 168, 193, 224, 256, 282, 302, 327, 360, 427, 327, 148], [some (.inr (480, 3, 6)), some (.inl 0), some (.inl x), some (.inl y), some (.inl z), some (.inl (ck_in x 0 9)), some (.inl (ck_in x 0 3))], [], σ)) (ps := [ck_rg 0]) rfl ⟨(ck_rgo (by omega) (by omega)), trivial⟩ ?_
  refine ck_go_pc (q := 88) rfl ?_
  refine ck_go_run 2 (X1 := (if ck_in x 0 9 = 0 then 113 else 93, [some (.inr (480, 3, 6)), some (.inl 0), some (.inl x), some (.inl y), some (.inl z), some (.inl (ck_in x 0 9)), some (.inl (ck_in x 0 3))], [], σ)) (ps := [ck_rg (ck_in x 0 9)]) rfl ⟨(co_inrg _ _ _), trivial⟩ ?_
  refine ck_go_ite (fun h1 => ?_) (fun h1 => ?_)
  · refine ck_go_run 1 (X1 := (114, [some (.inr (480, 3, 6)), some (.inl 0), some (.inl x), some (.inl y), some (.inl z), some (.inl (ck_in x 0 9)), some (.inl (ck_in x 0 3))], [.inl 0], σ)) (ps := []) rfl trivial ?_
    refine ck_eZ (Or.inl rfl) ⟨⟨0, rfl, Or.inr ⟨rfl, ?_⟩⟩, rfl⟩ rfl rfl rfl
    try simp only [co_in0] at *
    rw [co_fit0, co_own0, and_true]
    omega
  · refine ck_go_run 3 (X1 := (98, [some (.inr (480, 3, 6)), some (.inl 0), some (.inl x), some (.inl y), some (.inl z), some (.inl (ck_in x 0 9)), some (.inl (ck_in x 0 3))], [.inl 100, .inl ((-100)), .inl y], σ)) (ps := []) rfl trivial ?_
    refine ck_go_cal (rest := []) (ck_cal_le (by decide) (cx_in (v := y) (f := (-100)) (t := 100) (by first | assumption | exact ck_rgo (by omega) (by omega)) (by exact ⟨by decide, by decide⟩) (by exact ⟨by decide, by decide⟩) _)) ⟨_, rfl, Or.inr ⟨_, rfl⟩, rfl, rfl, rfl, Nat.le_of_ble_eq_true rfl, fun h => absurd h (by decide)⟩ ?_
    rintro _ s' ⟨rfl, e'⟩
    rw [e']
    clear e' s'
    refine ck_go_run 1 (X1 := (if ck_in y ((-100)) 100 = 0 then 113 else 104, [some (.inr (480, 3, 6)), some (.inl 0), some (.inl x), some (.inl y), some (.inl z), some (.inl (ck_in x 0 9)), some (.inl (ck_in x 0 3))], [], σ)) (ps := [ck_rg (ck_in y ((-100)) 100)]) rfl ⟨(co_inrg _ _ _), trivial⟩ ?_
    refine ck_go_ite (fun h2 => ?_) (fun h2 => ?_)
    · refine ck_go_run 1 (X1 := (114, [some (.inr (480, 3, 6)), some (.inl 0), some (.inl x), some (.inl y), some (.inl z), some (.inl (ck_in x 0 9)), some (.inl (ck_in x 0 3))], [.inl 0], σ)) (ps := []) rfl trivial ?_
      refine ck_eZ (Or.inl rfl) ⟨⟨0, rfl, Or.inr ⟨rfl, ?_⟩⟩, rfl⟩ rfl rfl rfl
      try simp only [co_in0] at *
      rw [co_fit0, co_own0, and_true]
      omega
    · refine ck_go_run 2 (X1 := (if z = 0 then 109 else 113, [some (.inr (480, 3, 6)), some (.inl 0), some (.inl x), some (.inl y), some (.inl z), some (.inl (ck_in x 0 9)), some (.inl (ck_in x 0 3))], [], σ)) (ps := [ck_rg z]) rfl ⟨(ck_rgo (by omega) (by omega)), trivial⟩ ?_
      refine ck_go_ite (fun h3 => ?_) (fun h3 => ?_)
      · refine ck_go_run 2 (X1 := (114, [some (.inr (480, 3, 6)), some (.inl 0), some (.inl x), some (.inl y), some (.inl z), some (.inl (ck_in x 0 9)), some (.inl (ck_in x 0 3))], [.inl 1], σ)) (ps := []) rfl trivial ?_
        refine ck_eZ (Or.inr rfl) ⟨⟨1, rfl, Or.inl ⟨rfl, ?_⟩⟩, rfl⟩ rfl rfl rfl
        try simp only [co_in0] at *
        rw [co_fit0, co_own0, and_true]
        omega
      · refine ck_go_run 1 (X1 := (114, [some (.inr (480, 3, 6)), some (.inl 0), some (.inl x), some (.inl y), some (.inl z), some (.inl (ck_in x 0 9)), some (.inl (ck_in x 0 3))], [.inl 0], σ)) (ps := []) rfl trivial ?_
        refine ck_eZ (Or.inl rfl) ⟨⟨0, rfl, Or.inr ⟨rfl, ?_⟩⟩, rfl⟩ rfl rfl rfl
        try simp only [co_in0] at *
        rw [co_fit0, co_own0, and_true]
        omega
theorem cx_isSaid1 {x y z : Int} (hx : ck_rg x) (hy : ck_rg y) (hz : ck_rg z) {σ : ck_M} (hd : 0 ≤ σ 480 2 ∧ σ 480 2 ≤ 8) (ho : 0 < σ 480 2 → 0 ≤ σ 488 (σ 480 2 - 1) ∧ σ 488 (σ 480 2 - 1) < 64) (hs : 0 < σ 480 2 → ck_rg (σ 481 (σ 488 (σ 480 2 - 1))) ∧ ck_rg (σ 485 (σ 488 (σ 480 2 - 1)))) : ck_cal 2 cm_Mo_isSaid [.inr (480, 3, 6), .inl 1, .inl x, .inl y, .inl z] σ (fun q σ' => (∃ r, q = some r ∧ ((r = 1 ∧ co_fit 1 x y z ∧ co_own 1 (σ 480 2) (σ 481 (σ 488 (σ 480 2 - 1))) (σ 485 (σ 488 (σ 480 2 - 1)))) ∨ (r = 0 ∧ ¬ (co_fit 1 x y z ∧ co_own 1 (σ 480 2) (σ 481 (σ 488 (σ 480 2 - 1))) (σ 485 (σ 488 (σ 480 2 - 1))))))) ∧ σ' = σ) := by
  refine ck_cal_of ?_
  have rx := id hx
  have ry := id hy
  have rz := id hz
  unfold ck_rg at rx ry rz
  refine ck_go_run 3 (X1 := (4, [some (.inr (480, 3, 6)), some (.inl 1), some (.inl x), some (.inl y), some (.inl z), none, none], [.inl 9, .inl 0, .inl x], σ)) (ps := []) rfl trivial ?_
  refine ck_go_cal (rest := []) (ck_cal_le (by decide) (cx_in (v := x) (f := 0) (t := 9) (by first | assumption | exact ck_rgo (by omega) (by omega)) (by exact ⟨by decide, by decide⟩) (by exact ⟨by decide, by decide⟩) _)) ⟨_, rfl, Or.inr ⟨_, rfl⟩, rfl, rfl, rfl, Nat.le_of_ble_eq_true rfl, fun h => absurd h (by decide)⟩ ?_
  rintro _ s' ⟨rfl, e'⟩
  rw [e']
  clear e' s'
  refine ck_go_run 4 (X1 := (12, [some (.inr (480, 3, 6)), some (.inl 1), some (.inl x), some (.inl y), some (.inl z), some (.inl (ck_in x 0 9)), none], [.inl 3, .inl 0, .inl x], σ)) (ps := []) rfl trivial ?_
  refine ck_go_cal (rest := []) (ck_cal_le (by decide) (cx_in (v := x) (f := 0) (t := 3) (by first | assumption | exact ck_rgo (by omega) (by omega)) (by exact ⟨by decide, by decide⟩) (by exact ⟨by decide, by decide⟩) _)) ⟨_, rfl, Or.inr ⟨_, rfl⟩, rfl, rfl, rfl, Nat.le_of_ble_eq_true rfl, fun h => absurd h (by decide)⟩ ?_
  rintro _ s' ⟨rfl, e'⟩
  rw [e']
  clear e' s'
  refine ck_go_run 3 (X1 := (ck_sw 0 1 453 [88, 115, 148, 168, 193, 224, 256, 282, 302, 327, 360, 427, 327, 148], [some (.inr (480, 3, 6)), some (.inl 1), some (.inl x), some (.inl y), some (.inl z), some (.inl (ck_in x 0 9)), some (.inl (ck_in x 0 3))], [], σ)) (ps := [ck_rg 1]) rfl ⟨(ck_rgo (by omega) (by omega)), trivial⟩ ?_
  refine ck_go_pc (q := 115) rfl ?_
  refine ck_go_run 2 (X1 := (if ck_in x 0 9 = 0 then 146 else 120, [some (.inr (480, 3, 6)), some (.inl 1), some (.inl x), some (.inl y), some (.inl z), some (.inl (ck_in x 0 9)), some (.inl (ck_in x 0 3))], [], σ)) (ps := [ck_rg (ck_in x 0 9)]) rfl ⟨(co_inrg _ _ _), trivial⟩ ?_
  refine ck_go_ite (fun h1 => ?_) (fun h1 => ?_)
  · refine ck_go_run 1 (X1 := (147, [some (.inr (480, 3, 6)), some (.inl 1), some (.inl x), some (.inl y), some (.inl z), some (.inl (ck_in x 0 9)), some (.inl (ck_in x 0 3))], [.inl 0], σ)) (ps := []) rfl trivial ?_
    refine ck_eZ (Or.inl rfl) ⟨⟨0, rfl, Or.inr ⟨rfl, ?_⟩⟩, rfl⟩ rfl rfl rfl
    try simp only [co_in0] at *
    rw [co_fit1, co_own1, and_true]
    omega
  · refine ck_go_run 3 (X1 := (124, [some (.inr (480, 3, 6)), some (.inl 1), some (.inl x), some (.inl y), some (.inl z), some (.inl (ck_in x 0 9)), some (.inl (ck_in x 0 3))], [.inl 9, .inl 0, .inl y], σ)) (ps := []) rfl trivial ?_
    refine ck_go_cal (rest := []) (ck_cal_le (by decide) (cx_in (v := y) (f := 0) (t := 9) (by first | assumption | exact ck_rgo (by omega) (by omega)) (by exact ⟨by decide, by decide⟩) (by exact ⟨by decide, by decide⟩) _)) ⟨_, rfl, Or.inr ⟨_, rfl⟩, rfl, rfl, rfl, Nat.le_of_ble_eq_true rfl, fun h => absurd h (by decide)⟩ ?_
    rintro _ s' ⟨rfl, e'⟩
    rw [e']
    clear e' s'
    refine ck_go_run 1 (X1 := (if ck_in y 0 9 = 0 then 146 else 130, [some (.inr (480, 3, 6)), some (.inl 1), some (.inl x), some (.inl y), some (.inl z), some (.inl (ck_in x 0 9)), some (.inl (ck_in x 0 3))], [], σ)) (ps := [ck_rg (ck_in y 0 9)]) rfl ⟨(co_inrg _ _ _), trivial⟩ ?_
    refine ck_go_ite (fun h2 => ?_) (fun h2 => ?_)
    · refine ck_go_run 1 (X1 := (147, [some (.inr (480, 3, 6)), some (.inl 1), some (.inl x), some (.inl y), some (.inl z), some (.inl (ck_in x 0 9)), some (.inl (ck_in x 0 3))], [.inl 0], σ)) (ps := []) rfl trivial ?_
      refine ck_eZ (Or.inl rfl) ⟨⟨0, rfl, Or.inr ⟨rfl, ?_⟩⟩, rfl⟩ rfl rfl rfl
      try simp only [co_in0] at *
      rw [co_fit1, co_own1, and_true]
      omega
    · refine ck_go_run 3 (X1 := (136, [some (.inr (480, 3, 6)), some (.inl 1), some (.inl x), some (.inl y), some (.inl z), some (.inl (ck_in x 0 9)), some (.inl (ck_in x 0 3))], [.inl 100, .inl ((-100)), .inl z], σ)) (ps := []) rfl trivial ?_
      refine ck_go_cal (rest := []) (ck_cal_le (by decide) (cx_in (v := z) (f := (-100)) (t := 100) (by first | assumption | exact ck_rgo (by omega) (by omega)) (by exact ⟨by decide, by decide⟩) (by exact ⟨by decide, by decide⟩) _)) ⟨_, rfl, Or.inr ⟨_, rfl⟩, rfl, rfl, rfl, Nat.le_of_ble_eq_true rfl, fun h => absurd h (by decide)⟩ ?_
      rintro _ s' ⟨rfl, e'⟩
      rw [e']
      clear e' s'
      refine ck_go_run 1 (X1 := (if ck_in z ((-100)) 100 = 0 then 146 else 142, [some (.inr (480, 3, 6)), some (.inl 1), some (.inl x), some (.inl y), some (.inl z), some (.inl (ck_in x 0 9)), some (.inl (ck_in x 0 3))], [], σ)) (ps := [ck_rg (ck_in z ((-100)) 100)]) rfl ⟨(co_inrg _ _ _), trivial⟩ ?_
      refine ck_go_ite (fun h3 => ?_) (fun h3 => ?_)
      · refine ck_go_run 1 (X1 := (147, [some (.inr (480, 3, 6)), some (.inl 1), some (.inl x), some (.inl y), some (.inl z), some (.inl (ck_in x 0 9)), some (.inl (ck_in x 0 3))], [.inl 0], σ)) (ps := []) rfl trivial ?_
        refine ck_eZ (Or.inl rfl) ⟨⟨0, rfl, Or.inr ⟨rfl, ?_⟩⟩, rfl⟩ rfl rfl rfl
        try simp only [co_in0] at *
        rw [co_fit1, co_own1, and_true]
        omega
      · refine ck_go_run 2 (X1 := (147, [some (.inr (480, 3, 6)), some (.inl 1), some (.inl x), some (.inl y), some (.inl z), some (.inl (ck_in x 0 9)), some (.inl (ck_in x 0 3))], [.inl 1], σ)) (ps := []) rfl trivial ?_
        refine ck_eZ (Or.inr rfl) ⟨⟨1, rfl, Or.inl ⟨rfl, ?_⟩⟩, rfl⟩ rfl rfl rfl
        try simp only [co_in0] at *
        rw [co_fit1, co_own1, and_true]
        omega
theorem cx_isSaid2 {x y z : Int} (hx : ck_rg x) (hy : ck_rg y) (hz : ck_rg z) {σ : ck_M} (hd : 0 ≤ σ 480 2 ∧ σ 480 2 ≤ 8) (ho : 0 < σ 480 2 → 0 ≤ σ 488 (σ 480 2 - 1) ∧ σ 488 (σ 480 2 - 1) < 64) (hs : 0 < σ 480 2 → ck_rg (σ 481 (σ 488 (σ 480 2 - 1))) ∧ ck_rg (σ 485 (σ 488 (σ 480 2 - 1)))) : ck_cal 2 cm_Mo_isSaid [.inr (480, 3, 6), .inl 2, .inl x, .inl y, .inl z] σ (fun q σ' => (∃ r, q = some r ∧ ((r = 1 ∧ co_fit 2 x y z ∧ co_own 2 (σ 480 2) (σ 481 (σ 488 (σ 480 2 - 1))) (σ 485 (σ 488 (σ 480 2 - 1)))) ∨ (r = 0 ∧ ¬ (co_fit 2 x y z ∧ co_own 2 (σ 480 2) (σ 481 (σ 488 (σ 480 2 - 1))) (σ 485 (σ 488 (σ 480 2 - 1))))))) ∧ σ' = σ) := by
  refine ck_cal_of ?_
  have rx := id hx
  have ry := id hy
  have rz := id hz
  unfold ck_rg at rx ry rz
  refine ck_go_run 3 (X1 := (4, [some (.inr (480, 3, 6)), some (.inl 2), some (.inl x), some (.inl y), some (.inl z), none, none], [.inl 9, .inl 0, .inl x], σ)) (ps := []) rfl trivial ?_
  refine ck_go_cal (rest := []) (ck_cal_le (by decide) (cx_in (v := x) (f := 0) (t := 9) (by first | assumption | exact ck_rgo (by omega) (by omega)) (by exact ⟨by decide, by decide⟩) (by exact ⟨by decide, by decide⟩) _)) ⟨_, rfl, Or.inr ⟨_, rfl⟩, rfl, rfl, rfl, Nat.le_of_ble_eq_true rfl, fun h => absurd h (by decide)⟩ ?_
  rintro _ s' ⟨rfl, e'⟩
  rw [e']
  clear e' s'
  refine ck_go_run 4 (X1 := (12, [some (.inr (480, 3, 6)), some (.inl 2), some (.inl x), some (.inl y), some (.inl z), some (.inl (ck_in x 0 9)), none], [.inl 3, .inl 0, .inl x], σ)) (ps := []) rfl trivial ?_
  refine ck_go_cal (rest := []) (ck_cal_le (by decide) (cx_in (v := x) (f := 0) (t := 3) (by first | assumption | exact ck_rgo (by omega) (by omega)) (by exact ⟨by decide, by decide⟩) (by exact ⟨by decide, by decide⟩) _)) ⟨_, rfl, Or.inr ⟨_, rfl⟩, rfl, rfl, rfl, Nat.le_of_ble_eq_true rfl, fun h => absurd h (by decide)⟩ ?_
  rintro _ s' ⟨rfl, e'⟩
  rw [e']
  clear e' s'
  refine ck_go_run 3 (X1 := (ck_sw 0 2 453 [88, 115, 148, 168, 193, 224, 256, 282, 302, 327, 360, 427, 327, 148], [some (.inr (480, 3, 6)), some (.inl 2), some (.inl x), some (.inl y), some (.inl z), some (.inl (ck_in x 0 9)), some (.inl (ck_in x 0 3))], [], σ)) (ps := [ck_rg 2]) rfl ⟨(ck_rgo (by omega) (by omega)), trivial⟩ ?_
  refine ck_go_pc (q := 148) rfl ?_
  refine ck_go_run 2 (X1 := (if ck_in x 0 9 = 0 then 166 else 153, [some (.inr (480, 3, 6)), some (.inl 2), some (.inl x), some (.inl y), some (.inl z), some (.inl (ck_in x 0 9)), some (.inl (ck_in x 0 3))], [], σ)) (ps := [ck_rg (ck_in x 0 9)]) rfl ⟨(co_inrg _ _ _), trivial⟩ ?_
  refine ck_go_ite (fun h1 => ?_) (fun h1 => ?_)
  · refine ck_go_run 1 (X1 := (167, [some (.inr (480, 3, 6)), some (.inl 2), some (.inl x), some (.inl y), some (.inl z), some (.inl (ck_in x 0 9)), some (.inl (ck_in x 0 3))], [.inl 0], σ)) (ps := []) rfl trivial ?_
    refine ck_eZ (Or.inl rfl) ⟨⟨0, rfl, Or.inr ⟨rfl, ?_⟩⟩, rfl⟩ rfl rfl rfl
    try simp only [co_in0] at *
    rw [co_fit2, co_own2, and_true]
    omega
  · refine ck_go_run 2 (X1 := (if y = 0 then 157 else 166, [some (.inr (480, 3, 6)), some (.inl 2), some (.inl x), some (.inl y), some (.inl z), some (.inl (ck_in x 0 9)), some (.inl (ck_in x 0 3))], [], σ)) (ps := [ck_rg y]) rfl ⟨(ck_rgo (by omega) (by omega)), trivial⟩ ?_
    refine ck_go_ite (fun h2 => ?_) (fun h2 => ?_)
    · refine ck_go_run 2 (X1 := (if z = 0 then 162 else 166, [some (.inr (480, 3, 6)), some (.inl 2), some (.inl x), some (.inl y), some (.inl z), some (.inl (ck_in x 0 9)), some (.inl (ck_in x 0 3))], [], σ)) (ps := [ck_rg z]) rfl ⟨(ck_rgo (by omega) (by omega)), trivial⟩ ?_
      refine ck_go_ite (fun h3 => ?_) (fun h3 => ?_)
      · refine ck_go_run 2 (X1 := (167, [some (.inr (480, 3, 6)), some (.inl 2), some (.inl x), some (.inl y), some (.inl z), some (.inl (ck_in x 0 9)), some (.inl (ck_in x 0 3))], [.inl 1], σ)) (ps := []) rfl trivial ?_
        refine ck_eZ (Or.inr rfl) ⟨⟨1, rfl, Or.inl ⟨rfl, ?_⟩⟩, rfl⟩ rfl rfl rfl
        try simp only [co_in0] at *
        rw [co_fit2, co_own2, and_true]
        omega
      · refine ck_go_run 1 (X1 := (167, [some (.inr (480, 3, 6)), some (.inl 2), some (.inl x), some (.inl y), some (.inl z), some (.inl (ck_in x 0 9)), some (.inl (ck_in x 0 3))], [.inl 0], σ)) (ps := []) rfl trivial ?_
        refine ck_eZ (Or.inl rfl) ⟨⟨0, rfl, Or.inr ⟨rfl, ?_⟩⟩, rfl⟩ rfl rfl rfl
        try simp only [co_in0] at *
        rw [co_fit2, co_own2, and_true]
        omega
    · refine ck_go_run 1 (X1 := (167, [some (.inr (480, 3, 6)), some (.inl 2), some (.inl x), some (.inl y), some (.inl z), some (.inl (ck_in x 0 9)), some (.inl (ck_in x 0 3))], [.inl 0], σ)) (ps := []) rfl trivial ?_
      refine ck_eZ (Or.inl rfl) ⟨⟨0, rfl, Or.inr ⟨rfl, ?_⟩⟩, rfl⟩ rfl rfl rfl
      try simp only [co_in0] at *
      rw [co_fit2, co_own2, and_true]
      omega
theorem cx_isSaid3 {x y z : Int} (hx : ck_rg x) (hy : ck_rg y) (hz : ck_rg z) {σ : ck_M} (hd : 0 ≤ σ 480 2 ∧ σ 480 2 ≤ 8) (ho : 0 < σ 480 2 → 0 ≤ σ 488 (σ 480 2 - 1) ∧ σ 488 (σ 480 2 - 1) < 64) (hs : 0 < σ 480 2 → ck_rg (σ 481 (σ 488 (σ 480 2 - 1))) ∧ ck_rg (σ 485 (σ 488 (σ 480 2 - 1)))) : ck_cal 2 cm_Mo_isSaid [.inr (480, 3, 6), .inl 3, .inl x, .inl y, .inl z] σ (fun q σ' => (∃ r, q = some r ∧ ((r = 1 ∧ co_fit 3 x y z ∧ co_own 3 (σ 480 2) (σ 481 (σ 488 (σ 480 2 - 1))) (σ 485 (σ 488 (σ 480 2 - 1)))) ∨ (r = 0 ∧ ¬ (co_fit 3 x y z ∧ co_own 3 (σ 480 2) (σ 481 (σ 488 (σ 480 2 - 1))) (σ 485 (σ 488 (σ 480 2 - 1))))))) ∧ σ' = σ) := by
  refine ck_cal_of ?_
  have rx := id hx
  have ry := id hy
  have rz := id hz
  unfold ck_rg at rx ry rz
  refine ck_go_run 3 (X1 := (4, [some (.inr (480, 3, 6)), some (.inl 3), some (.inl x), some (.inl y), some (.inl z), none, none], [.inl 9, .inl 0, .inl x], σ)) (ps := []) rfl trivial ?_
  refine ck_go_cal (rest := []) (ck_cal_le (by decide) (cx_in (v := x) (f := 0) (t := 9) (by first | assumption | exact ck_rgo (by omega) (by omega)) (by exact ⟨by decide, by decide⟩) (by exact ⟨by decide, by decide⟩) _)) ⟨_, rfl, Or.inr ⟨_, rfl⟩, rfl, rfl, rfl, Nat.le_of_ble_eq_true rfl, fun h => absurd h (by decide)⟩ ?_
  rintro _ s' ⟨rfl, e'⟩
  rw [e']
  clear e' s'
  refine ck_go_run 4 (X1 := (12, [some (.inr (480, 3, 6)), some (.inl 3), some (.inl x), some (.inl y), some (.inl z), some (.inl (ck_in x 0 9)), none], [.inl 3, .inl 0, .inl x], σ)) (ps := []) rfl trivial ?_
  refine ck_go_cal (rest := []) (ck_cal_le (by decide) (cx_in (v := x) (f := 0) (t := 3) (by first | assumption | exact ck_rgo (by omega) (by omega)) (by exact ⟨by decide, by decide⟩) (by exact ⟨by decide, by decide⟩) _)) ⟨_, rfl, Or.inr ⟨_, rfl⟩, rfl, rfl, rfl, Nat.le_of_ble_eq_true rfl, fun h => absurd h (by decide)⟩ ?_
  rintro _ s' ⟨rfl, e'⟩
  rw [e']
  clear e' s'
  refine ck_go_run 3 (X1 := (ck_sw 0 3 453 [88, 115, 148, 168, 193, 224, 256, 282, 302, 327, 360, 427, 327, 148], [some (.inr (480, 3, 6)), some (.inl 3), some (.inl x), some (.inl y), some (.inl z), some (.inl (ck_in x 0 9)), some (.inl (ck_in x 0 3))], [], σ)) (ps := [ck_rg 3]) rfl ⟨(ck_rgo (by omega) (by omega)), trivial⟩ ?_
  refine ck_go_pc (q := 168) rfl ?_
  refine ck_go_run 2 (X1 := (if ck_in x 0 9 = 0 then 191 else 173, [some (.inr (480, 3, 6)), some (.inl 3), some (.inl x), some (.inl y), some (.inl z), some (.inl (ck_in x 0 9)), some (.inl (ck_in x 0 3))], [], σ)) (ps := [ck_rg (ck_in x 0 9)]) rfl ⟨(co_inrg _ _ _), trivial⟩ ?_
  refine ck_go_ite (fun h1 => ?_) (fun h1 => ?_)
  · refine ck_go_run 1 (X1 := (192, [some (.inr (480, 3, 6)), some (.inl 3), some (.inl x), some (.inl y), some (.inl z), some (.inl (ck_in x 0 9)), some (.inl (ck_in x 0 3))], [.inl 0], σ)) (ps := []) rfl trivial ?_
    refine ck_eZ (Or.inl rfl) ⟨⟨0, rfl, Or.inr ⟨rfl, ?_⟩⟩, rfl⟩ rfl rfl rfl
    try simp only [co_in0] at *
    rw [co_fit3, co_own3, and_true]
    omega
  · refine ck_go_run 3 (X1 := (176, [some (.inr (480, 3, 6)), some (.inl 3), some (.inl x), some (.inl y), some (.inl z), some (.inl (ck_in x 0 9)), some (.inl (ck_in x 0 3))], [.inl 3, .inl 0, .inl y], σ)) (ps := []) rfl trivial ?_
    refine ck_go_cal (rest := []) (ck_cal_le (by decide) (cx_in (v := y) (f := 0) (t := 3) (by first | assumption | exact ck_rgo (by omega) (by omega)) (by exact ⟨by decide, by decide⟩) (by exact ⟨by decide, by decide⟩) _)) ⟨_, rfl, Or.inr ⟨_, rfl⟩, rfl, rfl, rfl, Nat.le_of_ble_eq_true rfl, fun h => absurd h (by decide)⟩ ?_
    rintro _ s' ⟨rfl, e'⟩
    rw [e']
    clear e' s'
    refine ck_go_run 1 (X1 := (if ck_in y 0 3 = 0 then 191 else 182, [some (.inr (480, 3, 6)), some (.inl 3), some (.inl x), some (.inl y), some (.inl z), some (.inl (ck_in x 0 9)), some (.inl (ck_in x 0 3))], [], σ)) (ps := [ck_rg (ck_in y 0 3)]) rfl ⟨(co_inrg _ _ _), trivial⟩ ?_
    refine ck_go_ite (fun h2 => ?_) (fun h2 => ?_)
    · refine ck_go_run 1 (X1 := (192, [some (.inr (480, 3, 6)), some (.inl 3), some (.inl x), some (.inl y), some (.inl z), some (.inl (ck_in x 0 9)), some (.inl (ck_in x 0 3))], [.inl 0], σ)) (ps := []) rfl trivial ?_
      refine ck_eZ (Or.inl rfl) ⟨⟨0, rfl, Or.inr ⟨rfl, ?_⟩⟩, rfl⟩ rfl rfl rfl
      try simp only [co_in0] at *
      rw [co_fit3, co_own3, and_true]
      omega
    · refine ck_go_run 2 (X1 := (if z = 0 then 187 else 191, [some (.inr (480, 3, 6)), some (.inl 3), some (.inl x), some (.inl y), some (.inl z), some (.inl (ck_in x 0 9)), some (.inl (ck_in x 0 3))], [], σ)) (ps := [ck_rg z]) rfl ⟨(ck_rgo (by omega) (by omega)), trivial⟩ ?_
      refine ck_go_ite (fun h3 => ?_) (fun h3 => ?_)
      · refine ck_go_run 2 (X1 := (192, [some (.inr (480, 3, 6)), some (.inl 3), some (.inl x), some (.inl y), some (.inl z), some (.inl (ck_in x 0 9)), some (.inl (ck_in x 0 3))], [.inl 1], σ)) (ps := []) rfl trivial ?_
        refine ck_eZ (Or.inr rfl) ⟨⟨1, rfl, Or.inl ⟨rfl, ?_⟩⟩, rfl⟩ rfl rfl rfl
        try simp only [co_in0] at *
        rw [co_fit3, co_own3, and_true]
        omega
      · refine ck_go_run 1 (X1 := (192, [some (.inr (480, 3, 6)), some (.inl 3), some (.inl x), some (.inl y), some (.inl z), some (.inl (ck_in x 0 9)), some (.inl (ck_in x 0 3))], [.inl 0], σ)) (ps := []) rfl trivial ?_
        refine ck_eZ (Or.inl rfl) ⟨⟨0, rfl, Or.inr ⟨rfl, ?_⟩⟩, rfl⟩ rfl rfl rfl
        try simp only [co_in0] at *
        rw [co_fit3, co_own3, and_true]
        omega
theorem cx_isSaid4 {x y z : Int} (hx : ck_rg x) (hy : ck_rg y) (hz : ck_rg z) {σ : ck_M} (hd : 0 ≤ σ 480 2 ∧ σ 480 2 ≤ 8) (ho : 0 < σ 480 2 → 0 ≤ σ 488 (σ 480 2 - 1) ∧ σ 488 (σ 480 2 - 1) < 64) (hs : 0 < σ 480 2 → ck_rg (σ 481 (σ 488 (σ 480 2 - 1))) ∧ ck_rg (σ 485 (σ 488 (σ 480 2 - 1)))) : ck_cal 2 cm_Mo_isSaid [.inr (480, 3, 6), .inl 4, .inl x, .inl y, .inl z] σ (fun q σ' => (∃ r, q = some r ∧ ((r = 1 ∧ co_fit 4 x y z ∧ co_own 4 (σ 480 2) (σ 481 (σ 488 (σ 480 2 - 1))) (σ 485 (σ 488 (σ 480 2 - 1)))) ∨ (r = 0 ∧ ¬ (co_fit 4 x y z ∧ co_own 4 (σ 480 2) (σ 481 (σ 488 (σ 480 2 - 1))) (σ 485 (σ 488 (σ 480 2 - 1))))))) ∧ σ' = σ) := by
  refine ck_cal_of ?_
  have rx := id hx
  have ry := id hy
  have rz := id hz
  unfold ck_rg at rx ry rz
  refine ck_go_run 3 (X1 := (4, [some (.inr (480, 3, 6)), some (.inl 4), some (.inl x), some (.inl y), some (.inl z), none, none], [.inl 9, .inl 0, .inl x], σ)) (ps := []) rfl trivial ?_
  refine ck_go_cal (rest := []) (ck_cal_le (by decide) (cx_in (v := x) (f := 0) (t := 9) (by first | assumption | exact ck_rgo (by omega) (by omega)) (by exact ⟨by decide, by decide⟩) (by exact ⟨by decide, by decide⟩) _)) ⟨_, rfl, Or.inr ⟨_, rfl⟩, rfl, rfl, rfl, Nat.le_of_ble_eq_true rfl, fun h => absurd h (by decide)⟩ ?_
  rintro _ s' ⟨rfl, e'⟩
  rw [e']
  clear e' s'
  refine ck_go_run 4 (X1 := (12, [some (.inr (480, 3, 6)), some (.inl 4), some (.inl x), some (.inl y), some (.inl z), some (.inl (ck_in x 0 9)), none], [.inl 3, .inl 0, .inl x], σ)) (ps := []) rfl trivial ?_
  refine ck_go_cal (rest := []) (ck_cal_le (by decide) (cx_in (v := x) (f := 0) (t := 3) (by first | assumption | exact ck_rgo (by omega) (by omega)) (by exact ⟨by decide, by decide⟩) (by exact ⟨by decide, by decide⟩) _)) ⟨_, rfl, Or.inr ⟨_, rfl⟩, rfl, rfl, rfl, Nat.le_of_ble_eq_true rfl, fun h => absurd h (by decide)⟩ ?_
  rintro _ s' ⟨rfl, e'⟩
  rw [e']
  clear e' s'
  refine ck_go_run 3 (X1 := (ck_sw 0 4 453 [88, 115, 148, 168, 193, 224, 256, 282, 302, 327, 360, 427, 327, 148], [some (.inr (480, 3, 6)), some (.inl 4), some (.inl x), some (.inl y), some (.inl z), some (.inl (ck_in x 0 9)), some (.inl (ck_in x 0 3))], [], σ)) (ps := [ck_rg 4]) rfl ⟨(ck_rgo (by omega) (by omega)), trivial⟩ ?_
  refine ck_go_pc (q := 193) rfl ?_
  refine ck_go_run 2 (X1 := (if ck_in x 0 9 = 0 then 222 else 198, [some (.inr (480, 3, 6)), some (.inl 4), some (.inl x), some (.inl y), some (.inl z), some (.inl (ck_in x 0 9)), some (.inl (ck_in x 0 3))], [], σ)) (ps := [ck_rg (ck_in x 0 9)]) rfl ⟨(co_inrg _ _ _), trivial⟩ ?_
  refine ck_go_ite (fun h1 => ?_) (fun h1 => ?_)
  · refine ck_go_run 1 (X1 := (223, [some (.inr (480, 3, 6)), some (.inl 4), some (.inl x), some (.inl y), some (.inl z), some (.inl (ck_in x 0 9)), some (.inl (ck_in x 0 3))], [.inl 0], σ)) (ps := []) rfl trivial ?_
    refine ck_eZ (Or.inl rfl) ⟨⟨0, rfl, Or.inr ⟨rfl, ?_⟩⟩, rfl⟩ rfl rfl rfl
    try simp only [co_in0] at *
    rw [co_fit4, co_own4, and_true]
    omega
  · refine ck_go_run 3 (X1 := (201, [some (.inr (480, 3, 6)), some (.inl 4), some (.inl x), some (.inl y), some (.inl z), some (.inl (ck_in x 0 9)), some (.inl (ck_in x 0 3))], [.inl 3, .inl 0, .inl y], σ)) (ps := []) rfl trivial ?_
    refine ck_go_cal (rest := []) (ck_cal_le (by decide) (cx_in (v := y) (f := 0) (t := 3) (by first | assumption | exact ck_rgo (by omega) (by omega)) (by exact ⟨by decide, by decide⟩) (by exact ⟨by decide, by decide⟩) _)) ⟨_, rfl, Or.inr ⟨_, rfl⟩, rfl, rfl, rfl, Nat.le_of_ble_eq_true rfl, fun h => absurd h (by decide)⟩ ?_
    rintro _ s' ⟨rfl, e'⟩
    rw [e']
    clear e' s'
    refine ck_go_run 1 (X1 := (if ck_in y 0 3 = 0 then 222 else 207, [some (.inr (480, 3, 6)), some (.inl 4), some (.inl x), some (.inl y), some (.inl z), some (.inl (ck_in x 0 9)), some (.inl (ck_in x 0 3))], [], σ)) (ps := [ck_rg (ck_in y 0 3)]) rfl ⟨(co_inrg _ _ _), trivial⟩ ?_
    refine ck_go_ite (fun h2 => ?_) (fun h2 => ?_)
    · refine ck_go_run 1 (X1 := (223, [some (.inr (480, 3, 6)), some (.inl 4), some (.inl x), some (.inl y), some (.inl z), some (.inl (ck_in x 0 9)), some (.inl (ck_in x 0 3))], [.inl 0], σ)) (ps := []) rfl trivial ?_
      refine ck_eZ (Or.inl rfl) ⟨⟨0, rfl, Or.inr ⟨rfl, ?_⟩⟩, rfl⟩ rfl rfl rfl
      try simp only [co_in0] at *
      rw [co_fit4, co_own4, and_true]
      omega
    · refine ck_go_run 3 (X1 := (212, [some (.inr (480, 3, 6)), some (.inl 4), some (.inl x), some (.inl y), some (.inl z), some (.inl (ck_in x 0 9)), some (.inl (ck_in x 0 3))], [.inl 9, .inl 0, .inl z], σ)) (ps := []) rfl trivial ?_
      refine ck_go_cal (rest := []) (ck_cal_le (by decide) (cx_in (v := z) (f := 0) (t := 9) (by first | assumption | exact ck_rgo (by omega) (by omega)) (by exact ⟨by decide, by decide⟩) (by exact ⟨by decide, by decide⟩) _)) ⟨_, rfl, Or.inr ⟨_, rfl⟩, rfl, rfl, rfl, Nat.le_of_ble_eq_true rfl, fun h => absurd h (by decide)⟩ ?_
      rintro _ s' ⟨rfl, e'⟩
      rw [e']
      clear e' s'
      refine ck_go_run 1 (X1 := (if ck_in z 0 9 = 0 then 222 else 218, [some (.inr (480, 3, 6)), some (.inl 4), some (.inl x), some (.inl y), some (.inl z), some (.inl (ck_in x 0 9)), some (.inl (ck_in x 0 3))], [], σ)) (ps := [ck_rg (ck_in z 0 9)]) rfl ⟨(co_inrg _ _ _), trivial⟩ ?_
      refine ck_go_ite (fun h3 => ?_) (fun h3 => ?_)
      · refine ck_go_run 1 (X1 := (223, [some (.inr (480, 3, 6)), some (.inl 4), some (.inl x), some (.inl y), some (.inl z), some (.inl (ck_in x 0 9)), some (.inl (ck_in x 0 3))], [.inl 0], σ)) (ps := []) rfl trivial ?_
        refine ck_eZ (Or.inl rfl) ⟨⟨0, rfl, Or.inr ⟨rfl, ?_⟩⟩, rfl⟩ rfl rfl rfl
        try simp only [co_in0] at *
        rw [co_fit4, co_own4, and_true]
        omega
      · refine ck_go_run 2 (X1 := (223, [some (.inr (480, 3, 6)), some (.inl 4), some (.inl x), some (.inl y), some (.inl z), some (.inl (ck_in x 0 9)), some (.inl (ck_in x 0 3))], [.inl 1], σ)) (ps := []) rfl trivial ?_
        refine ck_eZ (Or.inr rfl) ⟨⟨1, rfl, Or.inl ⟨rfl, ?_⟩⟩, rfl⟩ rfl rfl rfl
        try simp only [co_in0] at *
        rw [co_fit4, co_own4, and_true]
        omega
theorem cx_isSaid5 {x y z : Int} (hx : ck_rg x) (hy : ck_rg y) (hz : ck_rg z) {σ : ck_M} (hd : 0 ≤ σ 480 2 ∧ σ 480 2 ≤ 8) (ho : 0 < σ 480 2 → 0 ≤ σ 488 (σ 480 2 - 1) ∧ σ 488 (σ 480 2 - 1) < 64) (hs : 0 < σ 480 2 → ck_rg (σ 481 (σ 488 (σ 480 2 - 1))) ∧ ck_rg (σ 485 (σ 488 (σ 480 2 - 1)))) : ck_cal 2 cm_Mo_isSaid [.inr (480, 3, 6), .inl 5, .inl x, .inl y, .inl z] σ (fun q σ' => (∃ r, q = some r ∧ ((r = 1 ∧ co_fit 5 x y z ∧ co_own 5 (σ 480 2) (σ 481 (σ 488 (σ 480 2 - 1))) (σ 485 (σ 488 (σ 480 2 - 1)))) ∨ (r = 0 ∧ ¬ (co_fit 5 x y z ∧ co_own 5 (σ 480 2) (σ 481 (σ 488 (σ 480 2 - 1))) (σ 485 (σ 488 (σ 480 2 - 1))))))) ∧ σ' = σ) := by
  refine ck_cal_of ?_
  have rx := id hx
  have ry := id hy
  have rz := id hz
  unfold ck_rg at rx ry rz
  refine ck_go_run 3 (X1 := (4, [some (.inr (480, 3, 6)), some (.inl 5), some (.inl x), some (.inl y), some (.inl z), none, none], [.inl 9, .inl 0, .inl x], σ)) (ps := []) rfl trivial ?_
  refine ck_go_cal (rest := []) (ck_cal_le (by decide) (cx_in (v := x) (f := 0) (t := 9) (by first | assumption | exact ck_rgo (by omega) (by omega)) (by exact ⟨by decide, by decide⟩) (by exact ⟨by decide, by decide⟩) _)) ⟨_, rfl, Or.inr ⟨_, rfl⟩, rfl, rfl, rfl, Nat.le_of_ble_eq_true rfl, fun h => absurd h (by decide)⟩ ?_
  rintro _ s' ⟨rfl, e'⟩
  rw [e']
  clear e' s'
  refine ck_go_run 4 (X1 := (12, [some (.inr (480, 3, 6)), some (.inl 5), some (.inl x), some (.inl y), some (.inl z), some (.inl (ck_in x 0 9)), none], [.inl 3, .inl 0, .inl x], σ)) (ps := []) rfl trivial ?_
  refine ck_go_cal (rest := []) (ck_cal_le (by decide) (cx_in (v := x) (f := 0) (t := 3) (by first | assumption | exact ck_rgo (by omega) (by omega)) (by exact ⟨by decide, by decide⟩) (by exact ⟨by decide, by decide⟩) _)) ⟨_, rfl, Or.inr ⟨_, rfl⟩, rfl, rfl, rfl, Nat.le_of_ble_eq_true rfl, fun h => absurd h (by decide)⟩ ?_
  rintro _ s' ⟨rfl, e'⟩
  rw [e']
  clear e' s'
  refine ck_go_run 3 (X1 := (ck_sw 0 5 453 [88, 115, 148, 168, 193, 224, 256, 282, 302, 327, 360, 427, 327, 148], [some (.inr (480, 3, 6)), some (.inl 5), some (.inl x), some (.inl y), some (.inl z), some (.inl (ck_in x 0 9)), some (.inl (ck_in x 0 3))], [], σ)) (ps := [ck_rg 5]) rfl ⟨(ck_rgo (by omega) (by omega)), trivial⟩ ?_
  refine ck_go_pc (q := 224) rfl ?_
  refine ck_go_run 2 (X1 := (if ck_in x 0 3 = 0 then 254 else 229, [some (.inr (480, 3, 6)), some (.inl 5), some (.inl x), some (.inl y), some (.inl z), some (.inl (ck_in x 0 9)), some (.inl (ck_in x 0 3))], [], σ)) (ps := [ck_rg (ck_in x 0 3)]) rfl ⟨(co_inrg _ _ _), trivial⟩ ?_
  refine ck_go_ite (fun h1 => ?_) (fun h1 => ?_)
  · refine ck_go_run 1 (X1 := (255, [some (.inr (480, 3, 6)), some (.inl 5), some (.inl x), some (.inl y), some (.inl z), some (.inl (ck_in x 0 9)), some (.inl (ck_in x 0 3))], [.inl 0], σ)) (ps := []) rfl trivial ?_
    refine ck_eZ (Or.inl rfl) ⟨⟨0, rfl, Or.inr ⟨rfl, ?_⟩⟩, rfl⟩ rfl rfl rfl
    try simp only [co_in0] at *
    rw [co_fit5, co_own5, and_true]
    omega
  · refine ck_go_run 3 (X1 := (233, [some (.inr (480, 3, 6)), some (.inl 5), some (.inl x), some (.inl y), some (.inl z), some (.inl (ck_in x 0 9)), some (.inl (ck_in x 0 3))], [.inl 9, .inl 0, .inl y], σ)) (ps := []) rfl trivial ?_
    refine ck_go_cal (rest := []) (ck_cal_le (by decide) (cx_in (v := y) (f := 0) (t := 9) (by first | assumption | exact ck_rgo (by omega) (by omega)) (by exact ⟨by decide, by decide⟩) (by exact ⟨by decide, by decide⟩) _)) ⟨_, rfl, Or.inr ⟨_, rfl⟩, rfl, rfl, rfl, Nat.le_of_ble_eq_true rfl, fun h => absurd h (by decide)⟩ ?_
    rintro _ s' ⟨rfl, e'⟩
    rw [e']
    clear e' s'
    refine ck_go_run 1 (X1 := (if ck_in y 0 9 = 0 then 254 else 239, [some (.inr (480, 3, 6)), some (.inl 5), some (.inl x), some (.inl y), some (.inl z), some (.inl (ck_in x 0 9)), some (.inl (ck_in x 0 3))], [], σ)) (ps := [ck_rg (ck_in y 0 9)]) rfl ⟨(co_inrg _ _ _), trivial⟩ ?_
    refine ck_go_ite (fun h2 => ?_) (fun h2 => ?_)
    · refine ck_go_run 1 (X1 := (255, [some (.inr (480, 3, 6)), some (.inl 5), some (.inl x), some (.inl y), some (.inl z), some (.inl (ck_in x 0 9)), some (.inl (ck_in x 0 3))], [.inl 0], σ)) (ps := []) rfl trivial ?_
      refine ck_eZ (Or.inl rfl) ⟨⟨0, rfl, Or.inr ⟨rfl, ?_⟩⟩, rfl⟩ rfl rfl rfl
      try simp only [co_in0] at *
      rw [co_fit5, co_own5, and_true]
      omega
    · refine ck_go_run 3 (X1 := (244, [some (.inr (480, 3, 6)), some (.inl 5), some (.inl x), some (.inl y), some (.inl z), some (.inl (ck_in x 0 9)), some (.inl (ck_in x 0 3))], [.inl 9, .inl 0, .inl z], σ)) (ps := []) rfl trivial ?_
      refine ck_go_cal (rest := []) (ck_cal_le (by decide) (cx_in (v := z) (f := 0) (t := 9) (by first | assumption | exact ck_rgo (by omega) (by omega)) (by exact ⟨by decide, by decide⟩) (by exact ⟨by decide, by decide⟩) _)) ⟨_, rfl, Or.inr ⟨_, rfl⟩, rfl, rfl, rfl, Nat.le_of_ble_eq_true rfl, fun h => absurd h (by decide)⟩ ?_
      rintro _ s' ⟨rfl, e'⟩
      rw [e']
      clear e' s'
      refine ck_go_run 1 (X1 := (if ck_in z 0 9 = 0 then 254 else 250, [some (.inr (480, 3, 6)), some (.inl 5), some (.inl x), some (.inl y), some (.inl z), some (.inl (ck_in x 0 9)), some (.inl (ck_in x 0 3))], [], σ)) (ps := [ck_rg (ck_in z 0 9)]) rfl ⟨(co_inrg _ _ _), trivial⟩ ?_
      refine ck_go_ite (fun h3 => ?_) (fun h3 => ?_)
      · refine ck_go_run 1 (X1 := (255, [some (.inr (480, 3, 6)), some (.inl 5), some (.inl x), some (.inl y), some (.inl z), some (.inl (ck_in x 0 9)), some (.inl (ck_in x 0 3))], [.inl 0], σ)) (ps := []) rfl trivial ?_
        refine ck_eZ (Or.inl rfl) ⟨⟨0, rfl, Or.inr ⟨rfl, ?_⟩⟩, rfl⟩ rfl rfl rfl
        try simp only [co_in0] at *
        rw [co_fit5, co_own5, and_true]
        omega
      · refine ck_go_run 2 (X1 := (255, [some (.inr (480, 3, 6)), some (.inl 5), some (.inl x), some (.inl y), some (.inl z), some (.inl (ck_in x 0 9)), some (.inl (ck_in x 0 3))], [.inl 1], σ)) (ps := []) rfl trivial ?_
        refine ck_eZ (Or.inr rfl) ⟨⟨1, rfl, Or.inl ⟨rfl, ?_⟩⟩, rfl⟩ rfl rfl rfl
        try simp only [co_in0] at *
        rw [co_fit5, co_own5, and_true]
        omega
theorem cx_isSaid6 {x y z : Int} (hx : ck_rg x) (hy : ck_rg y) (hz : ck_rg z) {σ : ck_M} (hd : 0 ≤ σ 480 2 ∧ σ 480 2 ≤ 8) (ho : 0 < σ 480 2 → 0 ≤ σ 488 (σ 480 2 - 1) ∧ σ 488 (σ 480 2 - 1) < 64) (hs : 0 < σ 480 2 → ck_rg (σ 481 (σ 488 (σ 480 2 - 1))) ∧ ck_rg (σ 485 (σ 488 (σ 480 2 - 1)))) : ck_cal 2 cm_Mo_isSaid [.inr (480, 3, 6), .inl 6, .inl x, .inl y, .inl z] σ (fun q σ' => (∃ r, q = some r ∧ ((r = 1 ∧ co_fit 6 x y z ∧ co_own 6 (σ 480 2) (σ 481 (σ 488 (σ 480 2 - 1))) (σ 485 (σ 488 (σ 480 2 - 1)))) ∨ (r = 0 ∧ ¬ (co_fit 6 x y z ∧ co_own 6 (σ 480 2) (σ 481 (σ 488 (σ 480 2 - 1))) (σ 485 (σ 488 (σ 480 2 - 1))))))) ∧ σ' = σ) := by
  refine ck_cal_of ?_
  have rx := id hx
  have ry := id hy
  have rz := id hz
  unfold ck_rg at rx ry rz
  refine ck_go_run 3 (X1 := (4, [some (.inr (480, 3, 6)), some (.inl 6), some (.inl x), some (.inl y), some (.inl z), none, none], [.inl 9, .inl 0, .inl x], σ)) (ps := []) rfl trivial ?_
  refine ck_go_cal (rest := []) (ck_cal_le (by decide) (cx_in (v := x) (f := 0) (t := 9) (by first | assumption | exact ck_rgo (by omega) (by omega)) (by exact ⟨by decide, by decide⟩) (by exact ⟨by decide, by decide⟩) _)) ⟨_, rfl, Or.inr ⟨_, rfl⟩, rfl, rfl, rfl, Nat.le_of_ble_eq_true rfl, fun h => absurd h (by decide)⟩ ?_
  rintro _ s' ⟨rfl, e'⟩
  rw [e']
  clear e' s'
  refine ck_go_run 4 (X1 := (12, [some (.inr (480, 3, 6)), some (.inl 6), some (.inl x), some (.inl y), some (.inl z), some (.inl (ck_in x 0 9)), none], [.inl 3, .inl 0, .inl x], σ)) (ps := []) rfl trivial ?_
  refine ck_go_cal (rest := []) (ck_cal_le (by decide) (cx_in (v := x) (f := 0) (t := 3) (by first | assumption | exact ck_rgo (by omega) (by omega)) (by exact ⟨by decide, by decide⟩) (by exact ⟨by decide, by decide⟩) _)) ⟨_, rfl, Or.inr ⟨_, rfl⟩, rfl, rfl, rfl, Nat.le_of_ble_eq_true rfl, fun h => absurd h (by decide)⟩ ?_
  rintro _ s' ⟨rfl, e'⟩
  rw [e']
  clear e' s'
  refine ck_go_run 3 (X1 := (ck_sw 0 6 453 [88, 115, 148, 168, 193, 224, 256, 282, 302, 327, 360, 427, 327, 148], [some (.inr (480, 3, 6)), some (.inl 6), some (.inl x), some (.inl y), some (.inl z), some (.inl (ck_in x 0 9)), some (.inl (ck_in x 0 3))], [], σ)) (ps := [ck_rg 6]) rfl ⟨(ck_rgo (by omega) (by omega)), trivial⟩ ?_
  refine ck_go_pc (q := 256) rfl ?_
  refine ck_go_run 2 (X1 := (if ck_in x 0 3 = 0 then 280 else 261, [some (.inr (480, 3, 6)), some (.inl 6), some (.inl x), some (.inl y), some (.inl z), some (.inl (ck_in x 0 9)), some (.inl (ck_in x 0 3))], [], σ)) (ps := [ck_rg (ck_in x 0 3)]) rfl ⟨(co_inrg _ _ _), trivial⟩ ?_
  refine ck_go_ite (fun h1 => ?_) (fun h1 => ?_)
  · refine ck_go_run 1 (X1 := (281, [some (.inr (480, 3, 6)), some (.inl 6), some (.inl x), some (.inl y), some (.inl z), some (.inl (ck_in x 0 9)), some (.inl (ck_in x 0 3))], [.inl 0], σ)) (ps := []) rfl trivial ?_
    refine ck_eZ (Or.inl rfl) ⟨⟨0, rfl, Or.inr ⟨rfl, ?_⟩⟩, rfl⟩ rfl rfl rfl
    try simp only [co_in0] at *
    rw [co_fit6, co_own6, and_true]
    omega
  · refine ck_go_run 3 (X1 := (265, [some (.inr (480, 3, 6)), some (.inl 6), some (.inl x), some (.inl y), some (.inl z), some (.inl (ck_in x 0 9)), some (.inl (ck_in x 0 3))], [.inl 9, .inl 0, .inl y], σ)) (ps := []) rfl trivial ?_
    refine ck_go_cal (rest := []) (ck_cal_le (by decide) (cx_in (v := y) (f := 0) (t := 9) (by first | assumption | exact ck_rgo (by omega) (by omega)) (by exact ⟨by decide, by decide⟩) (by exact ⟨by decide, by decide⟩) _)) ⟨_, rfl, Or.inr ⟨_, rfl⟩, rfl, rfl, rfl, Nat.le_of_ble_eq_true rfl, fun h => absurd h (by decide)⟩ ?_
    rintro _ s' ⟨rfl, e'⟩
    rw [e']
    clear e' s'
    refine ck_go_run 1 (X1 := (if ck_in y 0 9 = 0 then 280 else 271, [some (.inr (480, 3, 6)), some (.inl 6), some (.inl x), some (.inl y), some (.inl z), some (.inl (ck_in x 0 9)), some (.inl (ck_in x 0 3))], [], σ)) (ps := [ck_rg (ck_in y 0 9)]) rfl ⟨(co_inrg _ _ _), trivial⟩ ?_
    refine ck_go_ite (fun h2 => ?_) (fun h2 => ?_)
    · refine ck_go_run 1 (X1 := (281, [some (.inr (480, 3, 6)), some (.inl 6), some (.inl x), some (.inl y), some (.inl z), some (.inl (ck_in x 0 9)), some (.inl (ck_in x 0 3))], [.inl 0], σ)) (ps := []) rfl trivial ?_
      refine ck_eZ (Or.inl rfl) ⟨⟨0, rfl, Or.inr ⟨rfl, ?_⟩⟩, rfl⟩ rfl rfl rfl
      try simp only [co_in0] at *
      rw [co_fit6, co_own6, and_true]
      omega
    · refine ck_go_run 2 (X1 := (if z = 0 then 276 else 280, [some (.inr (480, 3, 6)), some (.inl 6), some (.inl x), some (.inl y), some (.inl z), some (.inl (ck_in x 0 9)), some (.inl (ck_in x 0 3))], [], σ)) (ps := [ck_rg z]) rfl ⟨(ck_rgo (by omega) (by omega)), trivial⟩ ?_
      refine ck_go_ite (fun h3 => ?_) (fun h3 => ?_)
      · refine ck_go_run 2 (X1 := (281, [some (.inr (480, 3, 6)), some (.inl 6), some (.inl x), some (.inl y), some (.inl z), some (.inl (ck_in x 0 9)), some (.inl (ck_in x 0 3))], [.inl 1], σ)) (ps := []) rfl trivial ?_
        refine ck_eZ (Or.inr rfl) ⟨⟨1, rfl, Or.inl ⟨rfl, ?_⟩⟩, rfl⟩ rfl rfl rfl
        try simp only [co_in0] at *
        rw [co_fit6, co_own6, and_true]
        omega
      · refine ck_go_run 1 (X1 := (281, [some (.inr (480, 3, 6)), some (.inl 6), some (.inl x), some (.inl y), some (.inl z), some (.inl (ck_in x 0 9)), some (.inl (ck_in x 0 3))], [.inl 0], σ)) (ps := []) rfl trivial ?_
        refine ck_eZ (Or.inl rfl) ⟨⟨0, rfl, Or.inr ⟨rfl, ?_⟩⟩, rfl⟩ rfl rfl rfl
        try simp only [co_in0] at *
        rw [co_fit6, co_own6, and_true]
        omega
theorem cx_isSaid7 {x y z : Int} (hx : ck_rg x) (hy : ck_rg y) (hz : ck_rg z) {σ : ck_M} (hd : 0 ≤ σ 480 2 ∧ σ 480 2 ≤ 8) (ho : 0 < σ 480 2 → 0 ≤ σ 488 (σ 480 2 - 1) ∧ σ 488 (σ 480 2 - 1) < 64) (hs : 0 < σ 480 2 → ck_rg (σ 481 (σ 488 (σ 480 2 - 1))) ∧ ck_rg (σ 485 (σ 488 (σ 480 2 - 1)))) : ck_cal 2 cm_Mo_isSaid [.inr (480, 3, 6), .inl 7, .inl x, .inl y, .inl z] σ (fun q σ' => (∃ r, q = some r ∧ ((r = 1 ∧ co_fit 7 x y z ∧ co_own 7 (σ 480 2) (σ 481 (σ 488 (σ 480 2 - 1))) (σ 485 (σ 488 (σ 480 2 - 1)))) ∨ (r = 0 ∧ ¬ (co_fit 7 x y z ∧ co_own 7 (σ 480 2) (σ 481 (σ 488 (σ 480 2 - 1))) (σ 485 (σ 488 (σ 480 2 - 1))))))) ∧ σ' = σ) := by
  refine ck_cal_of ?_
  have rx := id hx
  have ry := id hy
  have rz := id hz
  unfold ck_rg at rx ry rz
  refine ck_go_run 3 (X1 := (4, [some (.inr (480, 3, 6)), some (.inl 7), some (.inl x), some (.inl y), some (.inl z), none, none], [.inl 9, .inl 0, .inl x], σ)) (ps := []) rfl trivial ?_
  refine ck_go_cal (rest := []) (ck_cal_le (by decide) (cx_in (v := x) (f := 0) (t := 9) (by first | assumption | exact ck_rgo (by omega) (by omega)) (by exact ⟨by decide, by decide⟩) (by exact ⟨by decide, by decide⟩) _)) ⟨_, rfl, Or.inr ⟨_, rfl⟩, rfl, rfl, rfl, Nat.le_of_ble_eq_true rfl, fun h => absurd h (by decide)⟩ ?_
  rintro _ s' ⟨rfl, e'⟩
  rw [e']
  clear e' s'
  refine ck_go_run 4 (X1 := (12, [some (.inr (480, 3, 6)), some (.inl 7), some (.inl x), some (.inl y), some (.inl z), some (.inl (ck_in x 0 9)), none], [.inl 3, .inl 0, .inl x], σ)) (ps := []) rfl trivial ?_
  refine ck_go_cal (rest := []) (ck_cal_le (by decide) (cx_in (v := x) (f := 0) (t := 3) (by first | assumption | exact ck_rgo (by omega) (by omega)) (by exact ⟨by decide, by decide⟩) (by exact ⟨by decide, by decide⟩) _)) ⟨_, rfl, Or.inr ⟨_, rfl⟩, rfl, rfl, rfl, Nat.le_of_ble_eq_true rfl, fun h => absurd h (by decide)⟩ ?_
  rintro _ s' ⟨rfl, e'⟩
  rw [e']
  clear e' s'
  refine ck_go_run 3 (X1 := (ck_sw 0 7 453 [88, 115, 148, 168, 193, 224, 256, 282, 302, 327, 360, 427, 327, 148], [some (.inr (480, 3, 6)), some (.inl 7), some (.inl x), some (.inl y), some (.inl z), some (.inl (ck_in x 0 9)), some (.inl (ck_in x 0 3))], [], σ)) (ps := [ck_rg 7]) rfl ⟨(ck_rgo (by omega) (by omega)), trivial⟩ ?_
  refine ck_go_pc (q := 282) rfl ?_
  refine ck_go_run 2 (X1 := (if ck_in x 0 3 = 0 then 300 else 287, [some (.inr (480, 3, 6)), some (.inl 7), some (.inl x), some (.inl y), some (.inl z), some (.inl (ck_in x 0 9)), some (.inl (ck_in x 0 3))], [], σ)) (ps := [ck_rg (ck_in x 0 3)]) rfl ⟨(co_inrg _ _ _), trivial⟩ ?_
  refine ck_go_ite (fun h1 => ?_) (fun h1 => ?_)
  · refine ck_go_run 1 (X1 := (301, [some (.inr (480, 3, 6)), some (.inl 7), some (.inl x), some (.inl y), some (.inl z), some (.inl (ck_in x 0 9)), some (.inl (ck_in x 0 3))], [.inl 0], σ)) (ps := []) rfl trivial ?_
    refine ck_eZ (Or.inl rfl) ⟨⟨0, rfl, Or.inr ⟨rfl, ?_⟩⟩, rfl⟩ rfl rfl rfl
    try simp only [co_in0] at *
    rw [co_fit7, co_own7, and_true]
    omega
  · refine ck_go_run 2 (X1 := (if y = 0 then 291 else 300, [some (.inr (480, 3, 6)), some (.inl 7), some (.inl x), some (.inl y), some (.inl z), some (.inl (ck_in x 0 9)), some (.inl (ck_in x 0 3))], [], σ)) (ps := [ck_rg y]) rfl ⟨(ck_rgo (by omega) (by omega)), trivial⟩ ?_
    refine ck_go_ite (fun h2 => ?_) (fun h2 => ?_)
    · refine ck_go_run 2 (X1 := (if z = 0 then 296 else 300, [some (.inr (480, 3, 6)), some (.inl 7), some (.inl x), some (.inl y), some (.inl z), some (.inl (ck_in x 0 9)), some (.inl (ck_in x 0 3))], [], σ)) (ps := [ck_rg z]) rfl ⟨(ck_rgo (by omega) (by omega)), trivial⟩ ?_
      refine ck_go_ite (fun h3 => ?_) (fun h3 => ?_)
      · refine ck_go_run 2 (X1 := (301, [some (.inr (480, 3, 6)), some (.inl 7), some (.inl x), some (.inl y), some (.inl z), some (.inl (ck_in x 0 9)), some (.inl (ck_in x 0 3))], [.inl 1], σ)) (ps := []) rfl trivial ?_
        refine ck_eZ (Or.inr rfl) ⟨⟨1, rfl, Or.inl ⟨rfl, ?_⟩⟩, rfl⟩ rfl rfl rfl
        try simp only [co_in0] at *
        rw [co_fit7, co_own7, and_true]
        omega
      · refine ck_go_run 1 (X1 := (301, [some (.inr (480, 3, 6)), some (.inl 7), some (.inl x), some (.inl y), some (.inl z), some (.inl (ck_in x 0 9)), some (.inl (ck_in x 0 3))], [.inl 0], σ)) (ps := []) rfl trivial ?_
        refine ck_eZ (Or.inl rfl) ⟨⟨0, rfl, Or.inr ⟨rfl, ?_⟩⟩, rfl⟩ rfl rfl rfl
        try simp only [co_in0] at *
        rw [co_fit7, co_own7, and_true]
        omega
    · refine ck_go_run 1 (X1 := (301, [some (.inr (480, 3, 6)), some (.inl 7), some (.inl x), some (.inl y), some (.inl z), some (.inl (ck_in x 0 9)), some (.inl (ck_in x 0 3))], [.inl 0], σ)) (ps := []) rfl trivial ?_
      refine ck_eZ (Or.inl rfl) ⟨⟨0, rfl, Or.inr ⟨rfl, ?_⟩⟩, rfl⟩ rfl rfl rfl
      try simp only [co_in0] at *
      rw [co_fit7, co_own7, and_true]
      omega
theorem cx_isSaid8 {x y z : Int} (hx : ck_rg x) (hy : ck_rg y) (hz : ck_rg z) {σ : ck_M} (hd : 0 ≤ σ 480 2 ∧ σ 480 2 ≤ 8) (ho : 0 < σ 480 2 → 0 ≤ σ 488 (σ 480 2 - 1) ∧ σ 488 (σ 480 2 - 1) < 64) (hs : 0 < σ 480 2 → ck_rg (σ 481 (σ 488 (σ 480 2 - 1))) ∧ ck_rg (σ 485 (σ 488 (σ 480 2 - 1)))) : ck_cal 2 cm_Mo_isSaid [.inr (480, 3, 6), .inl 8, .inl x, .inl y, .inl z] σ (fun q σ' => (∃ r, q = some r ∧ ((r = 1 ∧ co_fit 8 x y z ∧ co_own 8 (σ 480 2) (σ 481 (σ 488 (σ 480 2 - 1))) (σ 485 (σ 488 (σ 480 2 - 1)))) ∨ (r = 0 ∧ ¬ (co_fit 8 x y z ∧ co_own 8 (σ 480 2) (σ 481 (σ 488 (σ 480 2 - 1))) (σ 485 (σ 488 (σ 480 2 - 1))))))) ∧ σ' = σ) := by
  refine ck_cal_of ?_
  have rx := id hx
  have ry := id hy
  have rz := id hz
  unfold ck_rg at rx ry rz
  refine ck_go_run 3 (X1 := (4, [some (.inr (480, 3, 6)), some (.inl 8), some (.inl x), some (.inl y), some (.inl z), none, none], [.inl 9, .inl 0, .inl x], σ)) (ps := []) rfl trivial ?_
  refine ck_go_cal (rest := []) (ck_cal_le (by decide) (cx_in (v := x) (f := 0) (t := 9) (by first | assumption | exact ck_rgo (by omega) (by omega)) (by exact ⟨by decide, by decide⟩) (by exact ⟨by decide, by decide⟩) _)) ⟨_, rfl, Or.inr ⟨_, rfl⟩, rfl, rfl, rfl, Nat.le_of_ble_eq_true rfl, fun h => absurd h (by decide)⟩ ?_
  rintro _ s' ⟨rfl, e'⟩
  rw [e']
  clear e' s'
  refine ck_go_run 4 (X1 := (12, [some (.inr (480, 3, 6)), some (.inl 8), some (.inl x), some (.inl y), some (.inl z), some (.inl (ck_in x 0 9)), none], [.inl 3, .inl 0, .inl x], σ)) (ps := []) rfl trivial ?_
  refine ck_go_cal (rest := []) (ck_cal_le (by decide) (cx_in (v := x) (f := 0) (t := 3) (by first | assumption | exact ck_rgo (by omega) (by omega)) (by exact ⟨by decide, by decide⟩) (by exact ⟨by decide, by decide⟩) _)) ⟨_, rfl, Or.inr ⟨_, rfl⟩, rfl, rfl, rfl, Nat.le_of_ble_eq_true rfl, fun h => absurd h (by decide)⟩ ?_
  rintro _ s' ⟨rfl, e'⟩
  rw [e']
  clear e' s'
  refine ck_go_run 3 (X1 := (ck_sw 0 8 453 [88, 115, 148, 168, 193, 224, 256, 282, 302, 327, 360, 427, 327, 148], [some (.inr (480, 3, 6)), some (.inl 8), some (.inl x), some (.inl y), some (.inl z), some (.inl (ck_in x 0 9)), some (.inl (ck_in x 0 3))], [], σ)) (ps := [ck_rg 8]) rfl ⟨(ck_rgo (by omega) (by omega)), trivial⟩ ?_
  refine ck_go_pc (q := 302) rfl ?_
  refine ck_go_run 2 (X1 := (if ck_in x 0 3 = 0 then 325 else 307, [some (.inr (480, 3, 6)), some (.inl 8), some (.inl x), some (.inl y), some (.inl z), some (.inl (ck_in x 0 9)), some (.inl (ck_in x 0 3))], [], σ)) (ps := [ck_rg (ck_in x 0 3)]) rfl ⟨(co_inrg _ _ _), trivial⟩ ?_
  refine ck_go_ite (fun h1 => ?_) (fun h1 => ?_)
  · refine ck_go_run 1 (X1 := (326, [some (.inr (480, 3, 6)), some (.inl 8), some (.inl x), some (.inl y), some (.inl z), some (.inl (ck_in x 0 9)), some (.inl (ck_in x 0 3))], [.inl 0], σ)) (ps := []) rfl trivial ?_
    refine ck_eZ (Or.inl rfl) ⟨⟨0, rfl, Or.inr ⟨rfl, ?_⟩⟩, rfl⟩ rfl rfl rfl
    try simp only [co_in0] at *
    rw [co_fit8, co_own8, and_true]
    omega
  · refine ck_go_run 3 (X1 := (310, [some (.inr (480, 3, 6)), some (.inl 8), some (.inl x), some (.inl y), some (.inl z), some (.inl (ck_in x 0 9)), some (.inl (ck_in x 0 3))], [.inl 3, .inl 0, .inl y], σ)) (ps := []) rfl trivial ?_
    refine ck_go_cal (rest := []) (ck_cal_le (by decide) (cx_in (v := y) (f := 0) (t := 3) (by first | assumption | exact ck_rgo (by omega) (by omega)) (by exact ⟨by decide, by decide⟩) (by exact ⟨by decide, by decide⟩) _)) ⟨_, rfl, Or.inr ⟨_, rfl⟩, rfl, rfl, rfl, Nat.le_of_ble_eq_true rfl, fun h => absurd h (by decide)⟩ ?_
    rintro _ s' ⟨rfl, e'⟩
    rw [e']
    clear e' s'
    refine ck_go_run 1 (X1 := (if ck_in y 0 3 = 0 then 325 else 316, [some (.inr (480, 3, 6)), some (.inl 8), some (.inl x), some (.inl y), some (.inl z), some (.inl (ck_in x 0 9)), some (.inl (ck_in x 0 3))], [], σ)) (ps := [ck_rg (ck_in y 0 3)]) rfl ⟨(co_inrg _ _ _), trivial⟩ ?_
    refine ck_go_ite (fun h2 => ?_) (fun h2 => ?_)
    · refine ck_go_run 1 (X1 := (326, [some (.inr (480, 3, 6)), some (.inl 8), some (.inl x), some (.inl y), some (.inl z), some (.inl (ck_in x 0 9)), some (.inl (ck_in x 0 3))], [.inl 0], σ)) (ps := []) rfl trivial ?_
      refine ck_eZ (Or.inl rfl) ⟨⟨0, rfl, Or.inr ⟨rfl, ?_⟩⟩, rfl⟩ rfl rfl rfl
      try simp only [co_in0] at *
      rw [co_fit8, co_own8, and_true]
      omega
    · refine ck_go_run 2 (X1 := (if z = 0 then 321 else 325, [some (.inr (480, 3, 6)), some (.inl 8), some (.inl x), some (.inl y), some (.inl z), some (.inl (ck_in x 0 9)), some (.inl (ck_in x 0 3))], [], σ)) (ps := [ck_rg z]) rfl ⟨(ck_rgo (by omega) (by omega)), trivial⟩ ?_
      refine ck_go_ite (fun h3 => ?_) (fun h3 => ?_)
      · refine ck_go_run 2 (X1 := (326, [some (.inr (480, 3, 6)), some (.inl 8), some (.inl x), some (.inl y), some (.inl z), some (.inl (ck_in x 0 9)), some (.inl (ck_in x 0 3))], [.inl 1], σ)) (ps := []) rfl trivial ?_
        refine ck_eZ (Or.inr rfl) ⟨⟨1, rfl, Or.inl ⟨rfl, ?_⟩⟩, rfl⟩ rfl rfl rfl
        try simp only [co_in0] at *
        rw [co_fit8, co_own8, and_true]
        omega
      · refine ck_go_run 1 (X1 := (326, [some (.inr (480, 3, 6)), some (.inl 8), some (.inl x), some (.inl y), some (.inl z), some (.inl (ck_in x 0 9)), some (.inl (ck_in x 0 3))], [.inl 0], σ)) (ps := []) rfl trivial ?_
        refine ck_eZ (Or.inl rfl) ⟨⟨0, rfl, Or.inr ⟨rfl, ?_⟩⟩, rfl⟩ rfl rfl rfl
        try simp only [co_in0] at *
        rw [co_fit8, co_own8, and_true]
        omega
theorem cx_isSaid9 {x y z : Int} (hx : ck_rg x) (hy : ck_rg y) (hz : ck_rg z) {σ : ck_M} (hd : 0 ≤ σ 480 2 ∧ σ 480 2 ≤ 8) (ho : 0 < σ 480 2 → 0 ≤ σ 488 (σ 480 2 - 1) ∧ σ 488 (σ 480 2 - 1) < 64) (hs : 0 < σ 480 2 → ck_rg (σ 481 (σ 488 (σ 480 2 - 1))) ∧ ck_rg (σ 485 (σ 488 (σ 480 2 - 1)))) : ck_cal 2 cm_Mo_isSaid [.inr (480, 3, 6), .inl 9, .inl x, .inl y, .inl z] σ (fun q σ' => (∃ r, q = some r ∧ ((r = 1 ∧ co_fit 9 x y z ∧ co_own 9 (σ 480 2) (σ 481 (σ 488 (σ 480 2 - 1))) (σ 485 (σ 488 (σ 480 2 - 1)))) ∨ (r = 0 ∧ ¬ (co_fit 9 x y z ∧ co_own 9 (σ 480 2) (σ 481 (σ 488 (σ 480 2 - 1))) (σ 485 (σ 488 (σ 480 2 - 1))))))) ∧ σ' = σ) := by
  refine ck_cal_of ?_
  have rx := id hx
  have ry := id hy
  have rz := id hz
  unfold ck_rg at rx ry rz
  refine ck_go_run 3 (X1 := (4, [some (.inr (480, 3, 6)), some (.inl 9), some (.inl x), some (.inl y), some (.inl z), none, none], [.inl 9, .inl 0, .inl x], σ)) (ps := []) rfl trivial ?_
  refine ck_go_cal (rest := []) (ck_cal_le (by decide) (cx_in (v := x) (f := 0) (t := 9) (by first | assumption | exact ck_rgo (by omega) (by omega)) (by exact ⟨by decide, by decide⟩) (by exact ⟨by decide, by decide⟩) _)) ⟨_, rfl, Or.inr ⟨_, rfl⟩, rfl, rfl, rfl, Nat.le_of_ble_eq_true rfl, fun h => absurd h (by decide)⟩ ?_
  rintro _ s' ⟨rfl, e'⟩
  rw [e']
  clear e' s'
  refine ck_go_run 4 (X1 := (12, [some (.inr (480, 3, 6)), some (.inl 9), some (.inl x), some (.inl y), some (.inl z), some (.inl (ck_in x 0 9)), none], [.inl 3, .inl 0, .inl x], σ)) (ps := []) rfl trivial ?_
  refine ck_go_cal (rest := []) (ck_cal_le (by decide) (cx_in (v := x) (f := 0) (t := 3) (by first | assumption | exact ck_rgo (by omega) (by omega)) (by exact ⟨by decide, by decide⟩) (by exact ⟨by decide, by decide⟩) _)) ⟨_, rfl, Or.inr ⟨_, rfl⟩, rfl, rfl, rfl, Nat.le_of_ble_eq_true rfl, fun h => absurd h (by decide)⟩ ?_
  rintro _ s' ⟨rfl, e'⟩
  rw [e']
  clear e' s'
  refine ck_go_run 3 (X1 := (ck_sw 0 9 453 [88, 115, 148, 168, 193, 224, 256, 282, 302, 327, 360, 427, 327, 148], [some (.inr (480, 3, 6)), some (.inl 9), some (.inl x), some (.inl y), some (.inl z), some (.inl (ck_in x 0 9)), some (.inl (ck_in x 0 3))], [], σ)) (ps := [ck_rg 9]) rfl ⟨(ck_rgo (by omega) (by omega)), trivial⟩ ?_
  refine ck_go_pc (q := 327) rfl ?_
  refine ck_go_run 2 (X1 := (if ck_in x 0 9 = 0 then 358 else 332, [some (.inr (480, 3, 6)), some (.inl 9), some (.inl x), some (.inl y), some (.inl z), some (.inl (ck_in x 0 9)), some (.inl (ck_in x 0 3))], [], σ)) (ps := [ck_rg (ck_in x 0 9)]) rfl ⟨(co_inrg _ _ _), trivial⟩ ?_
  refine ck_go_ite (fun h1 => ?_) (fun h1 => ?_)
  · refine ck_go_run 1 (X1 := (359, [some (.inr (480, 3, 6)), some (.inl 9), some (.inl x), some (.inl y), some (.inl z), some (.inl (ck_in x 0 9)), some (.inl (ck_in x 0 3))], [.inl 0], σ)) (ps := []) rfl trivial ?_
    refine ck_eZ (Or.inl rfl) ⟨⟨0, rfl, Or.inr ⟨rfl, ?_⟩⟩, rfl⟩ rfl rfl rfl
    try simp only [co_in0] at *
    rw [co_fit9, co_own9, and_true]
    omega
  · refine ck_go_run 3 (X1 := (336, [some (.inr (480, 3, 6)), some (.inl 9), some (.inl x), some (.inl y), some (.inl z), some (.inl (ck_in x 0 9)), some (.inl (ck_in x 0 3))], [.inl 10, .inl 0, .inl y], σ)) (ps := []) rfl trivial ?_
    refine ck_go_cal (rest := []) (ck_cal_le (by decide) (cx_in (v := y) (f := 0) (t := 10) (by first | assumption | exact ck_rgo (by omega) (by omega)) (by exact ⟨by decide, by decide⟩) (by exact ⟨by decide, by decide⟩) _)) ⟨_, rfl, Or.inr ⟨_, rfl⟩, rfl, rfl, rfl, Nat.le_of_ble_eq_true rfl, fun h => absurd h (by decide)⟩ ?_
    rintro _ s' ⟨rfl, e'⟩
    rw [e']
    clear e' s'
    refine ck_go_run 1 (X1 := (if ck_in y 0 10 = 0 then 358 else 342, [some (.inr (480, 3, 6)), some (.inl 9), some (.inl x), some (.inl y), some (.inl z), some (.inl (ck_in x 0 9)), some (.inl (ck_in x 0 3))], [], σ)) (ps := [ck_rg (ck_in y 0 10)]) rfl ⟨(co_inrg _ _ _), trivial⟩ ?_
    refine ck_go_ite (fun h2 => ?_) (fun h2 => ?_)
    · refine ck_go_run 1 (X1 := (359, [some (.inr (480, 3, 6)), some (.inl 9), some (.inl x), some (.inl y), some (.inl z), some (.inl (ck_in x 0 9)), some (.inl (ck_in x 0 3))], [.inl 0], σ)) (ps := []) rfl trivial ?_
      refine ck_eZ (Or.inl rfl) ⟨⟨0, rfl, Or.inr ⟨rfl, ?_⟩⟩, rfl⟩ rfl rfl rfl
      try simp only [co_in0] at *
      rw [co_fit9, co_own9, and_true]
      omega
    · refine ck_go_run 3 (X1 := (348, [some (.inr (480, 3, 6)), some (.inl 9), some (.inl x), some (.inl y), some (.inl z), some (.inl (ck_in x 0 9)), some (.inl (ck_in x 0 3))], [.inl 100, .inl ((-100)), .inl z], σ)) (ps := []) rfl trivial ?_
      refine ck_go_cal (rest := []) (ck_cal_le (by decide) (cx_in (v := z) (f := (-100)) (t := 100) (by first | assumption | exact ck_rgo (by omega) (by omega)) (by exact ⟨by decide, by decide⟩) (by exact ⟨by decide, by decide⟩) _)) ⟨_, rfl, Or.inr ⟨_, rfl⟩, rfl, rfl, rfl, Nat.le_of_ble_eq_true rfl, fun h => absurd h (by decide)⟩ ?_
      rintro _ s' ⟨rfl, e'⟩
      rw [e']
      clear e' s'
      refine ck_go_run 1 (X1 := (if ck_in z ((-100)) 100 = 0 then 358 else 354, [some (.inr (480, 3, 6)), some (.inl 9), some (.inl x), some (.inl y), some (.inl z), some (.inl (ck_in x 0 9)), some (.inl (ck_in x 0 3))], [], σ)) (ps := [ck_rg (ck_in z ((-100)) 100)]) rfl ⟨(co_inrg _ _ _), trivial⟩ ?_
      refine ck_go_ite (fun h3 => ?_) (fun h3 => ?_)
      · refine ck_go_run 1 (X1 := (359, [some (.inr (480, 3, 6)), some (.inl 9), some (.inl x), some (.inl y), some (.inl z), some (.inl (ck_in x 0 9)), some (.inl (ck_in x 0 3))], [.inl 0], σ)) (ps := []) rfl trivial ?_
        refine ck_eZ (Or.inl rfl) ⟨⟨0, rfl, Or.inr ⟨rfl, ?_⟩⟩, rfl⟩ rfl rfl rfl
        try simp only [co_in0] at *
        rw [co_fit9, co_own9, and_true]
        omega
      · refine ck_go_run 2 (X1 := (359, [some (.inr (480, 3, 6)), some (.inl 9), some (.inl x), some (.inl y), some (.inl z), some (.inl (ck_in x 0 9)), some (.inl (ck_in x 0 3))], [.inl 1], σ)) (ps := []) rfl trivial ?_
        refine ck_eZ (Or.inr rfl) ⟨⟨1, rfl, Or.inl ⟨rfl, ?_⟩⟩, rfl⟩ rfl rfl rfl
        try simp only [co_in0] at *
        rw [co_fit9, co_own9, and_true]
        omega
theorem cx_isSaid10 {x y z : Int} (hx : ck_rg x) (hy : ck_rg y) (hz : ck_rg z) {σ : ck_M} (hd : 0 ≤ σ 480 2 ∧ σ 480 2 ≤ 8) (ho : 0 < σ 480 2 → 0 ≤ σ 488 (σ 480 2 - 1) ∧ σ 488 (σ 480 2 - 1) < 64) (hs : 0 < σ 480 2 → ck_rg (σ 481 (σ 488 (σ 480 2 - 1))) ∧ ck_rg (σ 485 (σ 488 (σ 480 2 - 1)))) : ck_cal 2 cm_Mo_isSaid [.inr (480, 3, 6), .inl 10, .inl x, .inl y, .inl z] σ (fun q σ' => (∃ r, q = some r ∧ ((r = 1 ∧ co_fit 10 x y z ∧ co_own 10 (σ 480 2) (σ 481 (σ 488 (σ 480 2 - 1))) (σ 485 (σ 488 (σ 480 2 - 1)))) ∨ (r = 0 ∧ ¬ (co_fit 10 x y z ∧ co_own 10 (σ 480 2) (σ 481 (σ 488 (σ 480 2 - 1))) (σ 485 (σ 488 (σ 480 2 - 1))))))) ∧ σ' = σ) := by
  refine ck_cal_of ?_
  have rx := id hx
  have ry := id hy
  have rz := id hz
  unfold ck_rg at rx ry rz
  refine ck_go_run 3 (X1 := (4, [some (.inr (480, 3, 6)), some (.inl 10), some (.inl x), some (.inl y), some (.inl z), none, none], [.inl 9, .inl 0, .inl x], σ)) (ps := []) rfl trivial ?_
  refine ck_go_cal (rest := []) (ck_cal_le (by decide) (cx_in (v := x) (f := 0) (t := 9) (by first | assumption | exact ck_rgo (by omega) (by omega)) (by exact ⟨by decide, by decide⟩) (by exact ⟨by decide, by decide⟩) _)) ⟨_, rfl, Or.inr ⟨_, rfl⟩, rfl, rfl, rfl, Nat.le_of_ble_eq_true rfl, fun h => absurd h (by decide)⟩ ?_
  rintro _ s' ⟨rfl, e'⟩
  rw [e']
  clear e' s'
  refine ck_go_run 4 (X1 := (12, [some (.inr (480, 3, 6)), some (.inl 10), some (.inl x), some (.inl y), some (.inl z), some (.inl (ck_in x 0 9)), none], [.inl 3, .inl 0, .inl x], σ)) (ps := []) rfl trivial ?_
  refine ck_go_cal (rest := []) (ck_cal_le (by decide) (cx_in (v := x) (f := 0) (t := 3) (by first | assumption | exact ck_rgo (by omega) (by omega)) (by exact ⟨by decide, by decide⟩) (by exact ⟨by decide, by decide⟩) _)) ⟨_, rfl, Or.inr ⟨_, rfl⟩, rfl, rfl, rfl, Nat.le_of_ble_eq_true rfl, fun h => absurd h (by decide)⟩ ?_
  rintro _ s' ⟨rfl, e'⟩
  rw [e']
  clear e' s'
  refine ck_go_run 3 (X1 := (ck_sw 0 10 453 [88, 115, 148, 168, 193, 224, 256, 282, 302, 327, 360, 427, 327, 148], [some (.inr (480, 3, 6)), some (.inl 10), some (.inl x), some (.inl y), some (.inl z), some (.inl (ck_in x 0 9)), some (.inl (ck_in x 0 3))], [], σ)) (ps := [ck_rg 10]) rfl ⟨(ck_rgo (by omega) (by omega)), trivial⟩ ?_
  refine ck_go_pc (q := 360) rfl ?_
  refine ck_go_run 2 (X1 := (if x = 0 then 364 else 425, [some (.inr (480, 3, 6)), some (.inl 10), some (.inl x), some (.inl y), some (.inl z), some (.inl (ck_in x 0 9)), some (.inl (ck_in x 0 3))], [], σ)) (ps := [ck_rg x]) rfl ⟨(ck_rgo (by omega) (by omega)), trivial⟩ ?_
  refine ck_go_ite (fun h1 => ?_) (fun h1 => ?_)
  · refine ck_go_run 2 (X1 := (if y = 0 then 368 else 425, [some (.inr (480, 3, 6)), some (.inl 10), some (.inl x), some (.inl y), some (.inl z), some (.inl (ck_in x 0 9)), some (.inl (ck_in x 0 3))], [], σ)) (ps := [ck_rg y]) rfl ⟨(ck_rgo (by omega) (by omega)), trivial⟩ ?_
    refine ck_go_ite (fun h2 => ?_) (fun h2 => ?_)
    · refine ck_go_run 2 (X1 := (if z = 0 then 373 else 425, [some (.inr (480, 3, 6)), some (.inl 10), some (.inl x), some (.inl y), some (.inl z), some (.inl (ck_in x 0 9)), some (.inl (ck_in x 0 3))], [], σ)) (ps := [ck_rg z]) rfl ⟨(ck_rgo (by omega) (by omega)), trivial⟩ ?_
      refine ck_go_ite (fun h3 => ?_) (fun h3 => ?_)
      · refine ck_go_run 3 (X1 := (if 0 < σ 480 2 then 380 else 425, [some (.inr (480, 3, 6)), some (.inl 10), some (.inl x), some (.inl y), some (.inl z), some (.inl (ck_in x 0 9)), some (.inl (ck_in x 0 3))], [], σ)) (ps := [ck_rg (σ 480 2)]) rfl ⟨(ck_rgo (by omega) (by omega)), trivial⟩ ?_
        refine ck_go_ite (fun h4 => ?_) (fun h4 => ?_)
        · have hs1 := (hs (by omega)).1
          have hs2 := (hs (by omega)).2
          have ho1 := ho (by omega)
          unfold ck_rg at hs1 hs2
          refine ck_go_run 12 (X1 := (if σ 481 (σ 488 ((σ 480 2) - 1)) = 9 then 401 else 425, [some (.inr (480, 3, 6)), some (.inl 10), some (.inl x), some (.inl y), some (.inl z), some (.inl (ck_in x 0 9)), some (.inl (ck_in x 0 3))], [], σ)) (ps := [0 ≤ (σ 480 2) - 1 ∧ (σ 480 2) - 1 < ((8 : Nat) : Int), 0 ≤ σ 488 ((σ 480 2) - 1) ∧ σ 488 ((σ 480 2) - 1) < ((64 : Nat) : Int), ck_rg (σ 481 (σ 488 ((σ 480 2) - 1))), ck_rg 9]) rfl ⟨⟨by omega, by omega⟩, ⟨by omega, by omega⟩, (ck_rgo (by omega) (by omega)), (ck_rgo (by omega) (by omega)), trivial⟩ ?_
          refine ck_go_ite (fun h5 => ?_) (fun h5 => ?_)
          · refine ck_go_run 12 (X1 := (if σ 485 (σ 488 ((σ 480 2) - 1)) = (-1) then 421 else 425, [some (.inr (480, 3, 6)), some (.inl 10), some (.inl x), some (.inl y), some (.inl z), some (.inl (ck_in x 0 9)), some (.inl (ck_in x 0 3))], [], σ)) (ps := [0 ≤ (σ 480 2) - 1 ∧ (σ 480 2) - 1 < ((8 : Nat) : Int), 0 ≤ σ 488 ((σ 480 2) - 1) ∧ σ 488 ((σ 480 2) - 1) < ((64 : Nat) : Int), ck_rg (σ 485 (σ 488 ((σ 480 2) - 1))), ck_rg ((-1))]) rfl ⟨⟨by omega, by omega⟩, ⟨by omega, by omega⟩, (ck_rgo (by omega) (by omega)), (ck_rgo (by omega) (by omega)), trivial⟩ ?_
            refine ck_go_ite (fun h6 => ?_) (fun h6 => ?_)
            · refine ck_go_run 2 (X1 := (426, [some (.inr (480, 3, 6)), some (.inl 10), some (.inl x), some (.inl y), some (.inl z), some (.inl (ck_in x 0 9)), some (.inl (ck_in x 0 3))], [.inl 1], σ)) (ps := []) rfl trivial ?_
              refine ck_eZ (Or.inr rfl) ⟨⟨1, rfl, Or.inl ⟨rfl, ?_⟩⟩, rfl⟩ rfl rfl rfl
              try simp only [co_in0] at *
              rw [co_fit10, co_own10]
              omega
            · refine ck_go_run 1 (X1 := (426, [some (.inr (480, 3, 6)), some (.inl 10), some (.inl x), some (.inl y), some (.inl z), some (.inl (ck_in x 0 9)), some (.inl (ck_in x 0 3))], [.inl 0], σ)) (ps := []) rfl trivial ?_
              refine ck_eZ (Or.inl rfl) ⟨⟨0, rfl, Or.inr ⟨rfl, ?_⟩⟩, rfl⟩ rfl rfl rfl
              try simp only [co_in0] at *
              rw [co_fit10, co_own10]
              omega
          · refine ck_go_run 1 (X1 := (426, [some (.inr (480, 3, 6)), some (.inl 10), some (.inl x), some (.inl y), some (.inl z), some (.inl (ck_in x 0 9)), some (.inl (ck_in x 0 3))], [.inl 0], σ)) (ps := []) rfl trivial ?_
            refine ck_eZ (Or.inl rfl) ⟨⟨0, rfl, Or.inr ⟨rfl, ?_⟩⟩, rfl⟩ rfl rfl rfl
            try simp only [co_in0] at *
            rw [co_fit10, co_own10]
            omega
        · refine ck_go_run 1 (X1 := (426, [some (.inr (480, 3, 6)), some (.inl 10), some (.inl x), some (.inl y), some (.inl z), some (.inl (ck_in x 0 9)), some (.inl (ck_in x 0 3))], [.inl 0], σ)) (ps := []) rfl trivial ?_
          refine ck_eZ (Or.inl rfl) ⟨⟨0, rfl, Or.inr ⟨rfl, ?_⟩⟩, rfl⟩ rfl rfl rfl
          try simp only [co_in0] at *
          rw [co_fit10, co_own10]
          omega
      · refine ck_go_run 1 (X1 := (426, [some (.inr (480, 3, 6)), some (.inl 10), some (.inl x), some (.inl y), some (.inl z), some (.inl (ck_in x 0 9)), some (.inl (ck_in x 0 3))], [.inl 0], σ)) (ps := []) rfl trivial ?_
        refine ck_eZ (Or.inl rfl) ⟨⟨0, rfl, Or.inr ⟨rfl, ?_⟩⟩, rfl⟩ rfl rfl rfl
        try simp only [co_in0] at *
        rw [co_fit10, co_own10]
        omega
    · refine ck_go_run 1 (X1 := (426, [some (.inr (480, 3, 6)), some (.inl 10), some (.inl x), some (.inl y), some (.inl z), some (.inl (ck_in x 0 9)), some (.inl (ck_in x 0 3))], [.inl 0], σ)) (ps := []) rfl trivial ?_
      refine ck_eZ (Or.inl rfl) ⟨⟨0, rfl, Or.inr ⟨rfl, ?_⟩⟩, rfl⟩ rfl rfl rfl
      try simp only [co_in0] at *
      rw [co_fit10, co_own10]
      omega
  · refine ck_go_run 1 (X1 := (426, [some (.inr (480, 3, 6)), some (.inl 10), some (.inl x), some (.inl y), some (.inl z), some (.inl (ck_in x 0 9)), some (.inl (ck_in x 0 3))], [.inl 0], σ)) (ps := []) rfl trivial ?_
    refine ck_eZ (Or.inl rfl) ⟨⟨0, rfl, Or.inr ⟨rfl, ?_⟩⟩, rfl⟩ rfl rfl rfl
    try simp only [co_in0] at *
    rw [co_fit10, co_own10]
    omega
theorem cx_isSaid11 {x y z : Int} (hx : ck_rg x) (hy : ck_rg y) (hz : ck_rg z) {σ : ck_M} (hd : 0 ≤ σ 480 2 ∧ σ 480 2 ≤ 8) (ho : 0 < σ 480 2 → 0 ≤ σ 488 (σ 480 2 - 1) ∧ σ 488 (σ 480 2 - 1) < 64) (hs : 0 < σ 480 2 → ck_rg (σ 481 (σ 488 (σ 480 2 - 1))) ∧ ck_rg (σ 485 (σ 488 (σ 480 2 - 1)))) : ck_cal 2 cm_Mo_isSaid [.inr (480, 3, 6), .inl 11, .inl x, .inl y, .inl z] σ (fun q σ' => (∃ r, q = some r ∧ ((r = 1 ∧ co_fit 11 x y z ∧ co_own 11 (σ 480 2) (σ 481 (σ 488 (σ 480 2 - 1))) (σ 485 (σ 488 (σ 480 2 - 1)))) ∨ (r = 0 ∧ ¬ (co_fit 11 x y z ∧ co_own 11 (σ 480 2) (σ 481 (σ 488 (σ 480 2 - 1))) (σ 485 (σ 488 (σ 480 2 - 1))))))) ∧ σ' = σ) := by
  refine ck_cal_of ?_
  have rx := id hx
  have ry := id hy
  have rz := id hz
  unfold ck_rg at rx ry rz
  refine ck_go_run 3 (X1 := (4, [some (.inr (480, 3, 6)), some (.inl 11), some (.inl x), some (.inl y), some (.inl z), none, none], [.inl 9, .inl 0, .inl x], σ)) (ps := []) rfl trivial ?_
  refine ck_go_cal (rest := []) (ck_cal_le (by decide) (cx_in (v := x) (f := 0) (t := 9) (by first | assumption | exact ck_rgo (by omega) (by omega)) (by exact ⟨by decide, by decide⟩) (by exact ⟨by decide, by decide⟩) _)) ⟨_, rfl, Or.inr ⟨_, rfl⟩, rfl, rfl, rfl, Nat.le_of_ble_eq_true rfl, fun h => absurd h (by decide)⟩ ?_
  rintro _ s' ⟨rfl, e'⟩
  rw [e']
  clear e' s'
  refine ck_go_run 4 (X1 := (12, [some (.inr (480, 3, 6)), some (.inl 11), some (.inl x), some (.inl y), some (.inl z), some (.inl (ck_in x 0 9)), none], [.inl 3, .inl 0, .inl x], σ)) (ps := []) rfl trivial ?_
  refine ck_go_cal (rest := []) (ck_cal_le (by decide) (cx_in (v := x) (f := 0) (t := 3) (by first | assumption | exact ck_rgo (by omega) (by omega)) (by exact ⟨by decide, by decide⟩) (by exact ⟨by decide, by decide⟩) _)) ⟨_, rfl, Or.inr ⟨_, rfl⟩, rfl, rfl, rfl, Nat.le_of_ble_eq_true rfl, fun h => absurd h (by decide)⟩ ?_
  rintro _ s' ⟨rfl, e'⟩
  rw [e']
  clear e' s'
  refine ck_go_run 3 (X1 := (ck_sw 0 11 453 [88, 115, 148, 168, 193, 224, 256, 282, 302, 327, 360, 427, 327, 148], [some (.inr (480, 3, 6)), some (.inl 11), some (.inl x), some (.inl y), some (.inl z), some (.inl (ck_in x 0 9)), some (.inl (ck_in x 0 3))], [], σ)) (ps := [ck_rg 11]) rfl ⟨(ck_rgo (by omega) (by omega)), trivial⟩ ?_
  refine ck_go_pc (q := 427) rfl ?_
  refine ck_go_run 2 (X1 := (if x = 0 then 431 else 451, [some (.inr (480, 3, 6)), some (.inl 11), some (.inl x), some (.inl y), some (.inl z), some (.inl (ck_in x 0 9)), some (.inl (ck_in x 0 3))], [], σ)) (ps := [ck_rg x]) rfl ⟨(ck_rgo (by omega) (by omega)), trivial⟩ ?_
  refine ck_go_ite (fun h1 => ?_) (fun h1 => ?_)
  · refine ck_go_run 2 (X1 := (if y = 0 then 435 else 451, [some (.inr (480, 3, 6)), some (.inl 11), some (.inl x), some (.inl y), some (.inl z), some (.inl (ck_in x 0 9)), some (.inl (ck_in x 0 3))], [], σ)) (ps := [ck_rg y]) rfl ⟨(ck_rgo (by omega) (by omega)), trivial⟩ ?_
    refine ck_go_ite (fun h2 => ?_) (fun h2 => ?_)
    · refine ck_go_run 2 (X1 := (if z = 0 then 440 else 451, [some (.inr (480, 3, 6)), some (.inl 11), some (.inl x), some (.inl y), some (.inl z), some (.inl (ck_in x 0 9)), some (.inl (ck_in x 0 3))], [], σ)) (ps := [ck_rg z]) rfl ⟨(ck_rgo (by omega) (by omega)), trivial⟩ ?_
      refine ck_go_ite (fun h3 => ?_) (fun h3 => ?_)
      · refine ck_go_run 3 (X1 := (if 0 < σ 480 2 then 447 else 451, [some (.inr (480, 3, 6)), some (.inl 11), some (.inl x), some (.inl y), some (.inl z), some (.inl (ck_in x 0 9)), some (.inl (ck_in x 0 3))], [], σ)) (ps := [ck_rg (σ 480 2)]) rfl ⟨(ck_rgo (by omega) (by omega)), trivial⟩ ?_
        refine ck_go_ite (fun h4 => ?_) (fun h4 => ?_)
        · refine ck_go_run 2 (X1 := (452, [some (.inr (480, 3, 6)), some (.inl 11), some (.inl x), some (.inl y), some (.inl z), some (.inl (ck_in x 0 9)), some (.inl (ck_in x 0 3))], [.inl 1], σ)) (ps := []) rfl trivial ?_
          refine ck_eZ (Or.inr rfl) ⟨⟨1, rfl, Or.inl ⟨rfl, ?_⟩⟩, rfl⟩ rfl rfl rfl
          try simp only [co_in0] at *
          rw [co_fit11, co_own11]
          omega
        · refine ck_go_run 1 (X1 := (452, [some (.inr (480, 3, 6)), some (.inl 11), some (.inl x), some (.inl y), some (.inl z), some (.inl (ck_in x 0 9)), some (.inl (ck_in x 0 3))], [.inl 0], σ)) (ps := []) rfl trivial ?_
          refine ck_eZ (Or.inl rfl) ⟨⟨0, rfl, Or.inr ⟨rfl, ?_⟩⟩, rfl⟩ rfl rfl rfl
          try simp only [co_in0] at *
          rw [co_fit11, co_own11]
          omega
      · refine ck_go_run 1 (X1 := (452, [some (.inr (480, 3, 6)), some (.inl 11), some (.inl x), some (.inl y), some (.inl z), some (.inl (ck_in x 0 9)), some (.inl (ck_in x 0 3))], [.inl 0], σ)) (ps := []) rfl trivial ?_
        refine ck_eZ (Or.inl rfl) ⟨⟨0, rfl, Or.inr ⟨rfl, ?_⟩⟩, rfl⟩ rfl rfl rfl
        try simp only [co_in0] at *
        rw [co_fit11, co_own11]
        omega
    · refine ck_go_run 1 (X1 := (452, [some (.inr (480, 3, 6)), some (.inl 11), some (.inl x), some (.inl y), some (.inl z), some (.inl (ck_in x 0 9)), some (.inl (ck_in x 0 3))], [.inl 0], σ)) (ps := []) rfl trivial ?_
      refine ck_eZ (Or.inl rfl) ⟨⟨0, rfl, Or.inr ⟨rfl, ?_⟩⟩, rfl⟩ rfl rfl rfl
      try simp only [co_in0] at *
      rw [co_fit11, co_own11]
      omega
  · refine ck_go_run 1 (X1 := (452, [some (.inr (480, 3, 6)), some (.inl 11), some (.inl x), some (.inl y), some (.inl z), some (.inl (ck_in x 0 9)), some (.inl (ck_in x 0 3))], [.inl 0], σ)) (ps := []) rfl trivial ?_
    refine ck_eZ (Or.inl rfl) ⟨⟨0, rfl, Or.inr ⟨rfl, ?_⟩⟩, rfl⟩ rfl rfl rfl
    try simp only [co_in0] at *
    rw [co_fit11, co_own11]
    omega
theorem cx_isSaid12 {x y z : Int} (hx : ck_rg x) (hy : ck_rg y) (hz : ck_rg z) {σ : ck_M} (hd : 0 ≤ σ 480 2 ∧ σ 480 2 ≤ 8) (ho : 0 < σ 480 2 → 0 ≤ σ 488 (σ 480 2 - 1) ∧ σ 488 (σ 480 2 - 1) < 64) (hs : 0 < σ 480 2 → ck_rg (σ 481 (σ 488 (σ 480 2 - 1))) ∧ ck_rg (σ 485 (σ 488 (σ 480 2 - 1)))) : ck_cal 2 cm_Mo_isSaid [.inr (480, 3, 6), .inl 12, .inl x, .inl y, .inl z] σ (fun q σ' => (∃ r, q = some r ∧ ((r = 1 ∧ co_fit 12 x y z ∧ co_own 12 (σ 480 2) (σ 481 (σ 488 (σ 480 2 - 1))) (σ 485 (σ 488 (σ 480 2 - 1)))) ∨ (r = 0 ∧ ¬ (co_fit 12 x y z ∧ co_own 12 (σ 480 2) (σ 481 (σ 488 (σ 480 2 - 1))) (σ 485 (σ 488 (σ 480 2 - 1))))))) ∧ σ' = σ) := by
  refine ck_cal_of ?_
  have rx := id hx
  have ry := id hy
  have rz := id hz
  unfold ck_rg at rx ry rz
  refine ck_go_run 3 (X1 := (4, [some (.inr (480, 3, 6)), some (.inl 12), some (.inl x), some (.inl y), some (.inl z), none, none], [.inl 9, .inl 0, .inl x], σ)) (ps := []) rfl trivial ?_
  refine ck_go_cal (rest := []) (ck_cal_le (by decide) (cx_in (v := x) (f := 0) (t := 9) (by first | assumption | exact ck_rgo (by omega) (by omega)) (by exact ⟨by decide, by decide⟩) (by exact ⟨by decide, by decide⟩) _)) ⟨_, rfl, Or.inr ⟨_, rfl⟩, rfl, rfl, rfl, Nat.le_of_ble_eq_true rfl, fun h => absurd h (by decide)⟩ ?_
  rintro _ s' ⟨rfl, e'⟩
  rw [e']
  clear e' s'
  refine ck_go_run 4 (X1 := (12, [some (.inr (480, 3, 6)), some (.inl 12), some (.inl x), some (.inl y), some (.inl z), some (.inl (ck_in x 0 9)), none], [.inl 3, .inl 0, .inl x], σ)) (ps := []) rfl trivial ?_
  refine ck_go_cal (rest := []) (ck_cal_le (by decide) (cx_in (v := x) (f := 0) (t := 3) (by first | assumption | exact ck_rgo (by omega) (by omega)) (by exact ⟨by decide, by decide⟩) (by exact ⟨by decide, by decide⟩) _)) ⟨_, rfl, Or.inr ⟨_, rfl⟩, rfl, rfl, rfl, Nat.le_of_ble_eq_true rfl, fun h => absurd h (by decide)⟩ ?_
  rintro _ s' ⟨rfl, e'⟩
  rw [e']
  clear e' s'
  refine ck_go_run 3 (X1 := (ck_sw 0 12 453 [88, 115, 148, 168, 193, 224, 256, 282, 302, 327, 360, 427, 327, 148], [some (.inr (480, 3, 6)), some (.inl 12), some (.inl x), some (.inl y), some (.inl z), some (.inl (ck_in x 0 9)), some (.inl (ck_in x 0 3))], [], σ)) (ps := [ck_rg 12]) rfl ⟨(ck_rgo (by omega) (by omega)), trivial⟩ ?_
  refine ck_go_pc (q := 327) rfl ?_
  refine ck_go_run 2 (X1 := (if ck_in x 0 9 = 0 then 358 else 332, [some (.inr (480, 3, 6)), some (.inl 12), some (.inl x), some (.inl y), some (.inl z), some (.inl (ck_in x 0 9)), some (.inl (ck_in x 0 3))], [], σ)) (ps := [ck_rg (ck_in x 0 9)]) rfl ⟨(co_inrg _ _ _), trivial⟩ ?_
  refine ck_go_ite (fun h1 => ?_) (fun h1 => ?_)
  · refine ck_go_run 1 (X1 := (359, [some (.inr (480, 3, 6)), some (.inl 12), some (.inl x), some (.inl y), some (.inl z), some (.inl (ck_in x 0 9)), some (.inl (ck_in x 0 3))], [.inl 0], σ)) (ps := []) rfl trivial ?_
    refine ck_eZ (Or.inl rfl) ⟨⟨0, rfl, Or.inr ⟨rfl, ?_⟩⟩, rfl⟩ rfl rfl rfl
    try simp only [co_in0] at *
    rw [co_fit12, co_own12, and_true]
    omega
  · refine ck_go_run 3 (X1 := (336, [some (.inr (480, 3, 6)), some (.inl 12), some (.inl x), some (.inl y), some (.inl z), some (.inl (ck_in x 0 9)), some (.inl (ck_in x 0 3))], [.inl 10, .inl 0, .inl y], σ)) (ps := []) rfl trivial ?_
    refine ck_go_cal (rest := []) (ck_cal_le (by decide) (cx_in (v := y) (f := 0) (t := 10) (by first | assumption | exact ck_rgo (by omega) (by omega)) (by exact ⟨by decide, by decide⟩) (by exact ⟨by decide, by decide⟩) _)) ⟨_, rfl, Or.inr ⟨_, rfl⟩, rfl, rfl, rfl, Nat.le_of_ble_eq_true rfl, fun h => absurd h (by decide)⟩ ?_
    rintro _ s' ⟨rfl, e'⟩
    rw [e']
    clear e' s'
    refine ck_go_run 1 (X1 := (if ck_in y 0 10 = 0 then 358 else 342, [some (.inr (480, 3, 6)), some (.inl 12), some (.inl x), some (.inl y), some (.inl z), some (.inl (ck_in x 0 9)), some (.inl (ck_in x 0 3))], [], σ)) (ps := [ck_rg (ck_in y 0 10)]) rfl ⟨(co_inrg _ _ _), trivial⟩ ?_
    refine ck_go_ite (fun h2 => ?_) (fun h2 => ?_)
    · refine ck_go_run 1 (X1 := (359, [some (.inr (480, 3, 6)), some (.inl 12), some (.inl x), some (.inl y), some (.inl z), some (.inl (ck_in x 0 9)), some (.inl (ck_in x 0 3))], [.inl 0], σ)) (ps := []) rfl trivial ?_
      refine ck_eZ (Or.inl rfl) ⟨⟨0, rfl, Or.inr ⟨rfl, ?_⟩⟩, rfl⟩ rfl rfl rfl
      try simp only [co_in0] at *
      rw [co_fit12, co_own12, and_true]
      omega
    · refine ck_go_run 3 (X1 := (348, [some (.inr (480, 3, 6)), some (.inl 12), some (.inl x), some (.inl y), some (.inl z), some (.inl (ck_in x 0 9)), some (.inl (ck_in x 0 3))], [.inl 100, .inl ((-100)), .inl z], σ)) (ps := []) rfl trivial ?_
      refine ck_go_cal (rest := []) (ck_cal_le (by decide) (cx_in (v := z) (f := (-100)) (t := 100) (by first | assumption | exact ck_rgo (by omega) (by omega)) (by exact ⟨by decide, by decide⟩) (by exact ⟨by decide, by decide⟩) _)) ⟨_, rfl, Or.inr ⟨_, rfl⟩, rfl, rfl, rfl, Nat.le_of_ble_eq_true rfl, fun h => absurd h (by decide)⟩ ?_
      rintro _ s' ⟨rfl, e'⟩
      rw [e']
      clear e' s'
      refine ck_go_run 1 (X1 := (if ck_in z ((-100)) 100 = 0 then 358 else 354, [some (.inr (480, 3, 6)), some (.inl 12), some (.inl x), some (.inl y), some (.inl z), some (.inl (ck_in x 0 9)), some (.inl (ck_in x 0 3))], [], σ)) (ps := [ck_rg (ck_in z ((-100)) 100)]) rfl ⟨(co_inrg _ _ _), trivial⟩ ?_
      refine ck_go_ite (fun h3 => ?_) (fun h3 => ?_)
      · refine ck_go_run 1 (X1 := (359, [some (.inr (480, 3, 6)), some (.inl 12), some (.inl x), some (.inl y), some (.inl z), some (.inl (ck_in x 0 9)), some (.inl (ck_in x 0 3))], [.inl 0], σ)) (ps := []) rfl trivial ?_
        refine ck_eZ (Or.inl rfl) ⟨⟨0, rfl, Or.inr ⟨rfl, ?_⟩⟩, rfl⟩ rfl rfl rfl
        try simp only [co_in0] at *
        rw [co_fit12, co_own12, and_true]
        omega
      · refine ck_go_run 2 (X1 := (359, [some (.inr (480, 3, 6)), some (.inl 12), some (.inl x), some (.inl y), some (.inl z), some (.inl (ck_in x 0 9)), some (.inl (ck_in x 0 3))], [.inl 1], σ)) (ps := []) rfl trivial ?_
        refine ck_eZ (Or.inr rfl) ⟨⟨1, rfl, Or.inl ⟨rfl, ?_⟩⟩, rfl⟩ rfl rfl rfl
        try simp only [co_in0] at *
        rw [co_fit12, co_own12, and_true]
        omega
theorem cx_isSaid13 {x y z : Int} (hx : ck_rg x) (hy : ck_rg y) (hz : ck_rg z) {σ : ck_M} (hd : 0 ≤ σ 480 2 ∧ σ 480 2 ≤ 8) (ho : 0 < σ 480 2 → 0 ≤ σ 488 (σ 480 2 - 1) ∧ σ 488 (σ 480 2 - 1) < 64) (hs : 0 < σ 480 2 → ck_rg (σ 481 (σ 488 (σ 480 2 - 1))) ∧ ck_rg (σ 485 (σ 488 (σ 480 2 - 1)))) : ck_cal 2 cm_Mo_isSaid [.inr (480, 3, 6), .inl 13, .inl x, .inl y, .inl z] σ (fun q σ' => (∃ r, q = some r ∧ ((r = 1 ∧ co_fit 13 x y z ∧ co_own 13 (σ 480 2) (σ 481 (σ 488 (σ 480 2 - 1))) (σ 485 (σ 488 (σ 480 2 - 1)))) ∨ (r = 0 ∧ ¬ (co_fit 13 x y z ∧ co_own 13 (σ 480 2) (σ 481 (σ 488 (σ 480 2 - 1))) (σ 485 (σ 488 (σ 480 2 - 1))))))) ∧ σ' = σ) := by
  refine ck_cal_of ?_
  have rx := id hx
  have ry := id hy
  have rz := id hz
  unfold ck_rg at rx ry rz
  refine ck_go_run 3 (X1 := (4, [some (.inr (480, 3, 6)), some (.inl 13), some (.inl x), some (.inl y), some (.inl z), none, none], [.inl 9, .inl 0, .inl x], σ)) (ps := []) rfl trivial ?_
  refine ck_go_cal (rest := []) (ck_cal_le (by decide) (cx_in (v := x) (f := 0) (t := 9) (by first | assumption | exact ck_rgo (by omega) (by omega)) (by exact ⟨by decide, by decide⟩) (by exact ⟨by decide, by decide⟩) _)) ⟨_, rfl, Or.inr ⟨_, rfl⟩, rfl, rfl, rfl, Nat.le_of_ble_eq_true rfl, fun h => absurd h (by decide)⟩ ?_
  rintro _ s' ⟨rfl, e'⟩
  rw [e']
  clear e' s'
  refine ck_go_run 4 (X1 := (12, [some (.inr (480, 3, 6)), some (.inl 13), some (.inl x), some (.inl y), some (.inl z), some (.inl (ck_in x 0 9)), none], [.inl 3, .inl 0, .inl x], σ)) (ps := []) rfl trivial ?_
  refine ck_go_cal (rest := []) (ck_cal_le (by decide) (cx_in (v := x) (f := 0) (t := 3) (by first | assumption | exact ck_rgo (by omega) (by omega)) (by exact ⟨by decide, by decide⟩) (by exact ⟨by decide, by decide⟩) _)) ⟨_, rfl, Or.inr ⟨_, rfl⟩, rfl, rfl, rfl, Nat.le_of_ble_eq_true rfl, fun h => absurd h (by decide)⟩ ?_
  rintro _ s' ⟨rfl, e'⟩
  rw [e']
  clear e' s'
  refine ck_go_run 3 (X1 := (ck_sw 0 13 453 [88, 115, 148, 168, 193, 224, 256, 282, 302, 327, 360, 427, 327, 148], [some (.inr (480, 3, 6)), some (.inl 13), some (.inl x), some (.inl y), some (.inl z), some (.inl (ck_in x 0 9)), some (.inl (ck_in x 0 3))], [], σ)) (ps := [ck_rg 13]) rfl ⟨(ck_rgo (by omega) (by omega)), trivial⟩ ?_
  refine ck_go_pc (q := 148) rfl ?_
  refine ck_go_run 2 (X1 := (if ck_in x 0 9 = 0 then 166 else 153, [some (.inr (480, 3, 6)), some (.inl 13), some (.inl x), some (.inl y), some (.inl z), some (.inl (ck_in x 0 9)), some (.inl (ck_in x 0 3))], [], σ)) (ps := [ck_rg (ck_in x 0 9)]) rfl ⟨(co_inrg _ _ _), trivial⟩ ?_
  refine ck_go_ite (fun h1 => ?_) (fun h1 => ?_)
  · refine ck_go_run 1 (X1 := (167, [some (.inr (480, 3, 6)), some (.inl 13), some (.inl x), some (.inl y), some (.inl z), some (.inl (ck_in x 0 9)), some (.inl (ck_in x 0 3))], [.inl 0], σ)) (ps := []) rfl trivial ?_
    refine ck_eZ (Or.inl rfl) ⟨⟨0, rfl, Or.inr ⟨rfl, ?_⟩⟩, rfl⟩ rfl rfl rfl
    try simp only [co_in0] at *
    rw [co_fit13, co_own13, and_true]
    omega
  · refine ck_go_run 2 (X1 := (if y = 0 then 157 else 166, [some (.inr (480, 3, 6)), some (.inl 13), some (.inl x), some (.inl y), some (.inl z), some (.inl (ck_in x 0 9)), some (.inl (ck_in x 0 3))], [], σ)) (ps := [ck_rg y]) rfl ⟨(ck_rgo (by omega) (by omega)), trivial⟩ ?_
    refine ck_go_ite (fun h2 => ?_) (fun h2 => ?_)
    · refine ck_go_run 2 (X1 := (if z = 0 then 162 else 166, [some (.inr (480, 3, 6)), some (.inl 13), some (.inl x), some (.inl y), some (.inl z), some (.inl (ck_in x 0 9)), some (.inl (ck_in x 0 3))], [], σ)) (ps := [ck_rg z]) rfl ⟨(ck_rgo (by omega) (by omega)), trivial⟩ ?_
      refine ck_go_ite (fun h3 => ?_) (fun h3 => ?_)
      · refine ck_go_run 2 (X1 := (167, [some (.inr (480, 3, 6)), some (.inl 13), some (.inl x), some (.inl y), some (.inl z), some (.inl (ck_in x 0 9)), some (.inl (ck_in x 0 3))], [.inl 1], σ)) (ps := []) rfl trivial ?_
        refine ck_eZ (Or.inr rfl) ⟨⟨1, rfl, Or.inl ⟨rfl, ?_⟩⟩, rfl⟩ rfl rfl rfl
        try simp only [co_in0] at *
        rw [co_fit13, co_own13, and_true]
        omega
      · refine ck_go_run 1 (X1 := (167, [some (.inr (480, 3, 6)), some (.inl 13), some (.inl x), some (.inl y), some (.inl z), some (.inl (ck_in x 0 9)), some (.inl (ck_in x 0 3))], [.inl 0], σ)) (ps := []) rfl trivial ?_
        refine ck_eZ (Or.inl rfl) ⟨⟨0, rfl, Or.inr ⟨rfl, ?_⟩⟩, rfl⟩ rfl rfl rfl
        try simp only [co_in0] at *
        rw [co_fit13, co_own13, and_true]
        omega
    · refine ck_go_run 1 (X1 := (167, [some (.inr (480, 3, 6)), some (.inl 13), some (.inl x), some (.inl y), some (.inl z), some (.inl (ck_in x 0 9)), some (.inl (ck_in x 0 3))], [.inl 0], σ)) (ps := []) rfl trivial ?_
      refine ck_eZ (Or.inl rfl) ⟨⟨0, rfl, Or.inr ⟨rfl, ?_⟩⟩, rfl⟩ rfl rfl rfl
      try simp only [co_in0] at *
      rw [co_fit13, co_own13, and_true]
      omega
theorem cx_isSaidX {t : Int} (ht : ck_rg t) (hT : t < 0 ∨ 13 < t) {x y z : Int} (hx : ck_rg x) (hy : ck_rg y) (hz : ck_rg z) {σ : ck_M} (hd : 0 ≤ σ 480 2 ∧ σ 480 2 ≤ 8) (ho : 0 < σ 480 2 → 0 ≤ σ 488 (σ 480 2 - 1) ∧ σ 488 (σ 480 2 - 1) < 64) (hs : 0 < σ 480 2 → ck_rg (σ 481 (σ 488 (σ 480 2 - 1))) ∧ ck_rg (σ 485 (σ 488 (σ 480 2 - 1)))) : ck_cal 2 cm_Mo_isSaid [.inr (480, 3, 6), .inl t, .inl x, .inl y, .inl z] σ (fun q σ' => (∃ r, q = some r ∧ ((r = 1 ∧ co_fit t x y z ∧ co_own t (σ 480 2) (σ 481 (σ 488 (σ 480 2 - 1))) (σ 485 (σ 488 (σ 480 2 - 1)))) ∨ (r = 0 ∧ ¬ (co_fit t x y z ∧ co_own t (σ 480 2) (σ 481 (σ 488 (σ 480 2 - 1))) (σ 485 (σ 488 (σ 480 2 - 1))))))) ∧ σ' = σ) := by
  refine ck_cal_of ?_
  have rx := id hx
  have ry := id hy
  have rz := id hz
  unfold ck_rg at rx ry rz
  have rt := id ht
  unfold ck_rg at rt
  refine ck_go_run 3 (X1 := (4, [some (.inr (480, 3, 6)), some (.inl t), some (.inl x), some (.inl y), some (.inl z), none, none], [.inl 9, .inl 0, .inl x], σ)) (ps := []) rfl trivial ?_
  refine ck_go_cal (rest := []) (ck_cal_le (by decide) (cx_in (v := x) (f := 0) (t := 9) (by first | assumption | exact ck_rgo (by omega) (by omega)) (by exact ⟨by decide, by decide⟩) (by exact ⟨by decide, by decide⟩) _)) ⟨_, rfl, Or.inr ⟨_, rfl⟩, rfl, rfl, rfl, Nat.le_of_ble_eq_true rfl, fun h => absurd h (by decide)⟩ ?_
  rintro _ s' ⟨rfl, e'⟩
  rw [e']
  clear e' s'
  refine ck_go_run 4 (X1 := (12, [some (.inr (480, 3, 6)), some (.inl t), some (.inl x), some (.inl y), some (.inl z), some (.inl (ck_in x 0 9)), none], [.inl 3, .inl 0, .inl x], σ)) (ps := []) rfl trivial ?_
  refine ck_go_cal (rest := []) (ck_cal_le (by decide) (cx_in (v := x) (f := 0) (t := 3) (by first | assumption | exact ck_rgo (by omega) (by omega)) (by exact ⟨by decide, by decide⟩) (by exact ⟨by decide, by decide⟩) _)) ⟨_, rfl, Or.inr ⟨_, rfl⟩, rfl, rfl, rfl, Nat.le_of_ble_eq_true rfl, fun h => absurd h (by decide)⟩ ?_
  rintro _ s' ⟨rfl, e'⟩
  rw [e']
  clear e' s'
  refine ck_go_run 3 (X1 := (ck_sw 0 t 453 [88, 115, 148, 168, 193, 224, 256, 282, 302, 327, 360, 427, 327, 148], [some (.inr (480, 3, 6)), some (.inl t), some (.inl x), some (.inl y), some (.inl z), some (.inl (ck_in x 0 9)), some (.inl (ck_in x 0 3))], [], σ)) (ps := [ck_rg t]) rfl ⟨(ck_rgo (by omega) (by omega)), trivial⟩ ?_
  · refine ck_go_pc (q := 453) (by
      unfold ck_sw
      rcases hT with h | h
      · rw [if_pos h]
      · rw [if_neg (by omega), List.getElem?_eq_none (by show 14 ≤ _; omega)]
        rfl) ?_
    refine ck_go_run 1 (X1 := (454, [some (.inr (480, 3, 6)), some (.inl t), some (.inl x), some (.inl y), some (.inl z), some (.inl (ck_in x 0 9)), some (.inl (ck_in x 0 3))], [.inl 0], σ)) (ps := []) rfl trivial ?_
    refine ck_eZ (Or.inl rfl) ⟨⟨0, rfl, Or.inr ⟨rfl, ?_⟩⟩, rfl⟩ rfl rfl rfl
    try simp only [co_in0] at *
    unfold co_fit co_own
    omega
theorem cx_isSaid {t : Int} (ht : ck_rg t) {x y z : Int} (hx : ck_rg x) (hy : ck_rg y) (hz : ck_rg z) {σ : ck_M} (hd : 0 ≤ σ 480 2 ∧ σ 480 2 ≤ 8) (ho : 0 < σ 480 2 → 0 ≤ σ 488 (σ 480 2 - 1) ∧ σ 488 (σ 480 2 - 1) < 64) (hs : 0 < σ 480 2 → ck_rg (σ 481 (σ 488 (σ 480 2 - 1))) ∧ ck_rg (σ 485 (σ 488 (σ 480 2 - 1)))) : ck_cal 2 cm_Mo_isSaid [.inr (480, 3, 6), .inl t, .inl x, .inl y, .inl z] σ (fun q σ' => (∃ r, q = some r ∧ ((r = 1 ∧ co_fit t x y z ∧ co_own t (σ 480 2) (σ 481 (σ 488 (σ 480 2 - 1))) (σ 485 (σ 488 (σ 480 2 - 1)))) ∨ (r = 0 ∧ ¬ (co_fit t x y z ∧ co_own t (σ 480 2) (σ 481 (σ 488 (σ 480 2 - 1))) (σ 485 (σ 488 (σ 480 2 - 1))))))) ∧ σ' = σ) := by
  by_cases hT : t < 0 ∨ 13 < t
  · exact cx_isSaidX ht hT hx hy hz hd ho hs
  · have h2 : t = 0 ∨ t = 1 ∨ t = 2 ∨ t = 3 ∨ t = 4 ∨ t = 5 ∨ t = 6 ∨ t = 7 ∨ t = 8 ∨ t = 9 ∨ t = 10 ∨ t = 11 ∨ t = 12 ∨ t = 13 := by omega
    rcases h2 with rfl | rfl | rfl | rfl | rfl | rfl | rfl | rfl | rfl | rfl | rfl | rfl | rfl | rfl
    · exact cx_isSaid0 hx hy hz hd ho hs
    · exact cx_isSaid1 hx hy hz hd ho hs
    · exact cx_isSaid2 hx hy hz hd ho hs
    · exact cx_isSaid3 hx hy hz hd ho hs
    · exact cx_isSaid4 hx hy hz hd ho hs
    · exact cx_isSaid5 hx hy hz hd ho hs
    · exact cx_isSaid6 hx hy hz hd ho hs
    · exact cx_isSaid7 hx hy hz hd ho hs
    · exact cx_isSaid8 hx hy hz hd ho hs
    · exact cx_isSaid9 hx hy hz hd ho hs
    · exact cx_isSaid10 hx hy hz hd ho hs
    · exact cx_isSaid11 hx hy hz hd ho hs
    · exact cx_isSaid12 hx hy hz hd ho hs
    · exact cx_isSaid13 hx hy hz hd ho hs
