/-! ## The class: which statements fit -/
theorem cx_fits0 {x y z : Int} (hx : ck_rg x) (hy : ck_rg y) (hz : ck_rg z) (σ : ck_M) : ck_cal 2 cm_Pr_fits [.inl 0, .inl x, .inl y, .inl z] σ (fun q σ' => (∃ r, q = some r ∧ ((r = 1 ∧ co_fit 0 x y z) ∨ (r = 0 ∧ ¬ co_fit 0 x y z))) ∧ σ' = σ) := by
  refine ck_cal_of ?_
  have rx := id hx
  have ry := id hy
  have rz := id hz
  unfold ck_rg at rx ry rz
  refine ck_go_run 2 (X1 := (ck_sw 0 0 342 [72, 96, 123, 144, 168, 195, 222, 246, 267, 291, 324, 324, 291, 123], [some (.inl 0), some (.inl x), some (.inl y), some (.inl z)], [], σ)) (ps := [ck_rg 0]) rfl ⟨(ck_rgo (by omega) (by omega)), trivial⟩ ?_
  refine ck_go_pc (q := 72) rfl ?_
  refine ck_go_run 1 (X1 := (73, [some (.inl 0), some (.inl x), some (.inl y), some (.inl z)], [.inl x], σ)) (ps := []) rfl trivial ?_
  refine ck_go_cal (rest := []) (ck_cal_le (by decide) (cx_isNumber (v := x) (by assumption) _)) ⟨_, rfl, Or.inr ⟨_, rfl⟩, rfl, rfl, rfl, Nat.le_of_ble_eq_true rfl, fun h => absurd h (by decide)⟩ ?_
  rintro _ s' ⟨rfl, e'⟩
  rw [e']
  clear e' s'
  refine ck_go_run 1 (X1 := (if ck_in x 0 9 = 0 then 94 else 79, [some (.inl 0), some (.inl x), some (.inl y), some (.inl z)], [], σ)) (ps := [ck_rg (ck_in x 0 9)]) rfl ⟨(co_inrg _ _ _), trivial⟩ ?_
  refine ck_go_ite (fun h1 => ?_) (fun h1 => ?_)
  · refine ck_go_run 1 (X1 := (95, [some (.inl 0), some (.inl x), some (.inl y), some (.inl z)], [.inl 0], σ)) (ps := []) rfl trivial ?_
    refine ck_eZ (Or.inl rfl) ⟨⟨0, rfl, Or.inr ⟨rfl, ?_⟩⟩, rfl⟩ rfl rfl rfl
    try simp only [co_in0] at *
    rw [co_fit0]
    omega
  · refine ck_go_run 1 (X1 := (80, [some (.inl 0), some (.inl x), some (.inl y), some (.inl z)], [.inl y], σ)) (ps := []) rfl trivial ?_
    refine ck_go_cal (rest := []) (ck_cal_le (by decide) (cx_isConstant (v := y) (by assumption) _)) ⟨_, rfl, Or.inr ⟨_, rfl⟩, rfl, rfl, rfl, Nat.le_of_ble_eq_true rfl, fun h => absurd h (by decide)⟩ ?_
    rintro _ s' ⟨rfl, e'⟩
    rw [e']
    clear e' s'
    refine ck_go_run 1 (X1 := (if ck_in y (-100) 100 = 0 then 94 else 86, [some (.inl 0), some (.inl x), some (.inl y), some (.inl z)], [], σ)) (ps := [ck_rg (ck_in y (-100) 100)]) rfl ⟨(co_inrg _ _ _), trivial⟩ ?_
    refine ck_go_ite (fun h2 => ?_) (fun h2 => ?_)
    · refine ck_go_run 1 (X1 := (95, [some (.inl 0), some (.inl x), some (.inl y), some (.inl z)], [.inl 0], σ)) (ps := []) rfl trivial ?_
      refine ck_eZ (Or.inl rfl) ⟨⟨0, rfl, Or.inr ⟨rfl, ?_⟩⟩, rfl⟩ rfl rfl rfl
      try simp only [co_in0] at *
      rw [co_fit0]
      omega
    · refine ck_go_run 2 (X1 := (if z = 0 then 90 else 94, [some (.inl 0), some (.inl x), some (.inl y), some (.inl z)], [], σ)) (ps := [ck_rg z]) rfl ⟨(ck_rgo (by omega) (by omega)), trivial⟩ ?_
      refine ck_go_ite (fun h3 => ?_) (fun h3 => ?_)
      · refine ck_go_run 2 (X1 := (95, [some (.inl 0), some (.inl x), some (.inl y), some (.inl z)], [.inl 1], σ)) (ps := []) rfl trivial ?_
        refine ck_eZ (Or.inr rfl) ⟨⟨1, rfl, Or.inl ⟨rfl, ?_⟩⟩, rfl⟩ rfl rfl rfl
        try simp only [co_in0] at *
        rw [co_fit0]
        omega
      · refine ck_go_run 1 (X1 := (95, [some (.inl 0), some (.inl x), some (.inl y), some (.inl z)], [.inl 0], σ)) (ps := []) rfl trivial ?_
        refine ck_eZ (Or.inl rfl) ⟨⟨0, rfl, Or.inr ⟨rfl, ?_⟩⟩, rfl⟩ rfl rfl rfl
        try simp only [co_in0] at *
        rw [co_fit0]
        omega
theorem cx_fits1 {x y z : Int} (hx : ck_rg x) (hy : ck_rg y) (hz : ck_rg z) (σ : ck_M) : ck_cal 2 cm_Pr_fits [.inl 1, .inl x, .inl y, .inl z] σ (fun q σ' => (∃ r, q = some r ∧ ((r = 1 ∧ co_fit 1 x y z) ∨ (r = 0 ∧ ¬ co_fit 1 x y z))) ∧ σ' = σ) := by
  refine ck_cal_of ?_
  have rx := id hx
  have ry := id hy
  have rz := id hz
  unfold ck_rg at rx ry rz
  refine ck_go_run 2 (X1 := (ck_sw 0 1 342 [72, 96, 123, 144, 168, 195, 222, 246, 267, 291, 324, 324, 291, 123], [some (.inl 1), some (.inl x), some (.inl y), some (.inl z)], [], σ)) (ps := [ck_rg 1]) rfl ⟨(ck_rgo (by omega) (by omega)), trivial⟩ ?_
  refine ck_go_pc (q := 96) rfl ?_
  refine ck_go_run 1 (X1 := (97, [some (.inl 1), some (.inl x), some (.inl y), some (.inl z)], [.inl x], σ)) (ps := []) rfl trivial ?_
  refine ck_go_cal (rest := []) (ck_cal_le (by decide) (cx_isNumber (v := x) (by assumption) _)) ⟨_, rfl, Or.inr ⟨_, rfl⟩, rfl, rfl, rfl, Nat.le_of_ble_eq_true rfl, fun h => absurd h (by decide)⟩ ?_
  rintro _ s' ⟨rfl, e'⟩
  rw [e']
  clear e' s'
  refine ck_go_run 1 (X1 := (if ck_in x 0 9 = 0 then 121 else 103, [some (.inl 1), some (.inl x), some (.inl y), some (.inl z)], [], σ)) (ps := [ck_rg (ck_in x 0 9)]) rfl ⟨(co_inrg _ _ _), trivial⟩ ?_
  refine ck_go_ite (fun h1 => ?_) (fun h1 => ?_)
  · refine ck_go_run 1 (X1 := (122, [some (.inl 1), some (.inl x), some (.inl y), some (.inl z)], [.inl 0], σ)) (ps := []) rfl trivial ?_
    refine ck_eZ (Or.inl rfl) ⟨⟨0, rfl, Or.inr ⟨rfl, ?_⟩⟩, rfl⟩ rfl rfl rfl
    try simp only [co_in0] at *
    rw [co_fit1]
    omega
  · refine ck_go_run 1 (X1 := (104, [some (.inl 1), some (.inl x), some (.inl y), some (.inl z)], [.inl y], σ)) (ps := []) rfl trivial ?_
    refine ck_go_cal (rest := []) (ck_cal_le (by decide) (cx_isNumber (v := y) (by assumption) _)) ⟨_, rfl, Or.inr ⟨_, rfl⟩, rfl, rfl, rfl, Nat.le_of_ble_eq_true rfl, fun h => absurd h (by decide)⟩ ?_
    rintro _ s' ⟨rfl, e'⟩
    rw [e']
    clear e' s'
    refine ck_go_run 1 (X1 := (if ck_in y 0 9 = 0 then 121 else 110, [some (.inl 1), some (.inl x), some (.inl y), some (.inl z)], [], σ)) (ps := [ck_rg (ck_in y 0 9)]) rfl ⟨(co_inrg _ _ _), trivial⟩ ?_
    refine ck_go_ite (fun h2 => ?_) (fun h2 => ?_)
    · refine ck_go_run 1 (X1 := (122, [some (.inl 1), some (.inl x), some (.inl y), some (.inl z)], [.inl 0], σ)) (ps := []) rfl trivial ?_
      refine ck_eZ (Or.inl rfl) ⟨⟨0, rfl, Or.inr ⟨rfl, ?_⟩⟩, rfl⟩ rfl rfl rfl
      try simp only [co_in0] at *
      rw [co_fit1]
      omega
    · refine ck_go_run 1 (X1 := (111, [some (.inl 1), some (.inl x), some (.inl y), some (.inl z)], [.inl z], σ)) (ps := []) rfl trivial ?_
      refine ck_go_cal (rest := []) (ck_cal_le (by decide) (cx_isConstant (v := z) (by assumption) _)) ⟨_, rfl, Or.inr ⟨_, rfl⟩, rfl, rfl, rfl, Nat.le_of_ble_eq_true rfl, fun h => absurd h (by decide)⟩ ?_
      rintro _ s' ⟨rfl, e'⟩
      rw [e']
      clear e' s'
      refine ck_go_run 1 (X1 := (if ck_in z (-100) 100 = 0 then 121 else 117, [some (.inl 1), some (.inl x), some (.inl y), some (.inl z)], [], σ)) (ps := [ck_rg (ck_in z (-100) 100)]) rfl ⟨(co_inrg _ _ _), trivial⟩ ?_
      refine ck_go_ite (fun h3 => ?_) (fun h3 => ?_)
      · refine ck_go_run 1 (X1 := (122, [some (.inl 1), some (.inl x), some (.inl y), some (.inl z)], [.inl 0], σ)) (ps := []) rfl trivial ?_
        refine ck_eZ (Or.inl rfl) ⟨⟨0, rfl, Or.inr ⟨rfl, ?_⟩⟩, rfl⟩ rfl rfl rfl
        try simp only [co_in0] at *
        rw [co_fit1]
        omega
      · refine ck_go_run 2 (X1 := (122, [some (.inl 1), some (.inl x), some (.inl y), some (.inl z)], [.inl 1], σ)) (ps := []) rfl trivial ?_
        refine ck_eZ (Or.inr rfl) ⟨⟨1, rfl, Or.inl ⟨rfl, ?_⟩⟩, rfl⟩ rfl rfl rfl
        try simp only [co_in0] at *
        rw [co_fit1]
        omega
theorem cx_fits2 {x y z : Int} (hx : ck_rg x) (hy : ck_rg y) (hz : ck_rg z) (σ : ck_M) : ck_cal 2 cm_Pr_fits [.inl 2, .inl x, .inl y, .inl z] σ (fun q σ' => (∃ r, q = some r ∧ ((r = 1 ∧ co_fit 2 x y z) ∨ (r = 0 ∧ ¬ co_fit 2 x y z))) ∧ σ' = σ) := by
  refine ck_cal_of ?_
  have rx := id hx
  have ry := id hy
  have rz := id hz
  unfold ck_rg at rx ry rz
  refine ck_go_run 2 (X1 := (ck_sw 0 2 342 [72, 96, 123, 144, 168, 195, 222, 246, 267, 291, 324, 324, 291, 123], [some (.inl 2), some (.inl x), some (.inl y), some (.inl z)], [], σ)) (ps := [ck_rg 2]) rfl ⟨(ck_rgo (by omega) (by omega)), trivial⟩ ?_
  refine ck_go_pc (q := 123) rfl ?_
  refine ck_go_run 1 (X1 := (124, [some (.inl 2), some (.inl x), some (.inl y), some (.inl z)], [.inl x], σ)) (ps := []) rfl trivial ?_
  refine ck_go_cal (rest := []) (ck_cal_le (by decide) (cx_isNumber (v := x) (by assumption) _)) ⟨_, rfl, Or.inr ⟨_, rfl⟩, rfl, rfl, rfl, Nat.le_of_ble_eq_true rfl, fun h => absurd h (by decide)⟩ ?_
  rintro _ s' ⟨rfl, e'⟩
  rw [e']
  clear e' s'
  refine ck_go_run 1 (X1 := (if ck_in x 0 9 = 0 then 142 else 130, [some (.inl 2), some (.inl x), some (.inl y), some (.inl z)], [], σ)) (ps := [ck_rg (ck_in x 0 9)]) rfl ⟨(co_inrg _ _ _), trivial⟩ ?_
  refine ck_go_ite (fun h1 => ?_) (fun h1 => ?_)
  · refine ck_go_run 1 (X1 := (143, [some (.inl 2), some (.inl x), some (.inl y), some (.inl z)], [.inl 0], σ)) (ps := []) rfl trivial ?_
    refine ck_eZ (Or.inl rfl) ⟨⟨0, rfl, Or.inr ⟨rfl, ?_⟩⟩, rfl⟩ rfl rfl rfl
    try simp only [co_in0] at *
    rw [co_fit2]
    omega
  · refine ck_go_run 2 (X1 := (if y = 0 then 134 else 142, [some (.inl 2), some (.inl x), some (.inl y), some (.inl z)], [], σ)) (ps := [ck_rg y]) rfl ⟨(ck_rgo (by omega) (by omega)), trivial⟩ ?_
    refine ck_go_ite (fun h2 => ?_) (fun h2 => ?_)
    · refine ck_go_run 2 (X1 := (if z = 0 then 138 else 142, [some (.inl 2), some (.inl x), some (.inl y), some (.inl z)], [], σ)) (ps := [ck_rg z]) rfl ⟨(ck_rgo (by omega) (by omega)), trivial⟩ ?_
      refine ck_go_ite (fun h3 => ?_) (fun h3 => ?_)
      · refine ck_go_run 2 (X1 := (143, [some (.inl 2), some (.inl x), some (.inl y), some (.inl z)], [.inl 1], σ)) (ps := []) rfl trivial ?_
        refine ck_eZ (Or.inr rfl) ⟨⟨1, rfl, Or.inl ⟨rfl, ?_⟩⟩, rfl⟩ rfl rfl rfl
        try simp only [co_in0] at *
        rw [co_fit2]
        omega
      · refine ck_go_run 1 (X1 := (143, [some (.inl 2), some (.inl x), some (.inl y), some (.inl z)], [.inl 0], σ)) (ps := []) rfl trivial ?_
        refine ck_eZ (Or.inl rfl) ⟨⟨0, rfl, Or.inr ⟨rfl, ?_⟩⟩, rfl⟩ rfl rfl rfl
        try simp only [co_in0] at *
        rw [co_fit2]
        omega
    · refine ck_go_run 1 (X1 := (143, [some (.inl 2), some (.inl x), some (.inl y), some (.inl z)], [.inl 0], σ)) (ps := []) rfl trivial ?_
      refine ck_eZ (Or.inl rfl) ⟨⟨0, rfl, Or.inr ⟨rfl, ?_⟩⟩, rfl⟩ rfl rfl rfl
      try simp only [co_in0] at *
      rw [co_fit2]
      omega
theorem cx_fits3 {x y z : Int} (hx : ck_rg x) (hy : ck_rg y) (hz : ck_rg z) (σ : ck_M) : ck_cal 2 cm_Pr_fits [.inl 3, .inl x, .inl y, .inl z] σ (fun q σ' => (∃ r, q = some r ∧ ((r = 1 ∧ co_fit 3 x y z) ∨ (r = 0 ∧ ¬ co_fit 3 x y z))) ∧ σ' = σ) := by
  refine ck_cal_of ?_
  have rx := id hx
  have ry := id hy
  have rz := id hz
  unfold ck_rg at rx ry rz
  refine ck_go_run 2 (X1 := (ck_sw 0 3 342 [72, 96, 123, 144, 168, 195, 222, 246, 267, 291, 324, 324, 291, 123], [some (.inl 3), some (.inl x), some (.inl y), some (.inl z)], [], σ)) (ps := [ck_rg 3]) rfl ⟨(ck_rgo (by omega) (by omega)), trivial⟩ ?_
  refine ck_go_pc (q := 144) rfl ?_
  refine ck_go_run 1 (X1 := (145, [some (.inl 3), some (.inl x), some (.inl y), some (.inl z)], [.inl x], σ)) (ps := []) rfl trivial ?_
  refine ck_go_cal (rest := []) (ck_cal_le (by decide) (cx_isNumber (v := x) (by assumption) _)) ⟨_, rfl, Or.inr ⟨_, rfl⟩, rfl, rfl, rfl, Nat.le_of_ble_eq_true rfl, fun h => absurd h (by decide)⟩ ?_
  rintro _ s' ⟨rfl, e'⟩
  rw [e']
  clear e' s'
  refine ck_go_run 1 (X1 := (if ck_in x 0 9 = 0 then 166 else 151, [some (.inl 3), some (.inl x), some (.inl y), some (.inl z)], [], σ)) (ps := [ck_rg (ck_in x 0 9)]) rfl ⟨(co_inrg _ _ _), trivial⟩ ?_
  refine ck_go_ite (fun h1 => ?_) (fun h1 => ?_)
  · refine ck_go_run 1 (X1 := (167, [some (.inl 3), some (.inl x), some (.inl y), some (.inl z)], [.inl 0], σ)) (ps := []) rfl trivial ?_
    refine ck_eZ (Or.inl rfl) ⟨⟨0, rfl, Or.inr ⟨rfl, ?_⟩⟩, rfl⟩ rfl rfl rfl
    try simp only [co_in0] at *
    rw [co_fit3]
    omega
  · refine ck_go_run 1 (X1 := (152, [some (.inl 3), some (.inl x), some (.inl y), some (.inl z)], [.inl y], σ)) (ps := []) rfl trivial ?_
    refine ck_go_cal (rest := []) (ck_cal_le (by decide) (cx_isArray (v := y) (by assumption) _)) ⟨_, rfl, Or.inr ⟨_, rfl⟩, rfl, rfl, rfl, Nat.le_of_ble_eq_true rfl, fun h => absurd h (by decide)⟩ ?_
    rintro _ s' ⟨rfl, e'⟩
    rw [e']
    clear e' s'
    refine ck_go_run 1 (X1 := (if ck_in y 0 3 = 0 then 166 else 158, [some (.inl 3), some (.inl x), some (.inl y), some (.inl z)], [], σ)) (ps := [ck_rg (ck_in y 0 3)]) rfl ⟨(co_inrg _ _ _), trivial⟩ ?_
    refine ck_go_ite (fun h2 => ?_) (fun h2 => ?_)
    · refine ck_go_run 1 (X1 := (167, [some (.inl 3), some (.inl x), some (.inl y), some (.inl z)], [.inl 0], σ)) (ps := []) rfl trivial ?_
      refine ck_eZ (Or.inl rfl) ⟨⟨0, rfl, Or.inr ⟨rfl, ?_⟩⟩, rfl⟩ rfl rfl rfl
      try simp only [co_in0] at *
      rw [co_fit3]
      omega
    · refine ck_go_run 2 (X1 := (if z = 0 then 162 else 166, [some (.inl 3), some (.inl x), some (.inl y), some (.inl z)], [], σ)) (ps := [ck_rg z]) rfl ⟨(ck_rgo (by omega) (by omega)), trivial⟩ ?_
      refine ck_go_ite (fun h3 => ?_) (fun h3 => ?_)
      · refine ck_go_run 2 (X1 := (167, [some (.inl 3), some (.inl x), some (.inl y), some (.inl z)], [.inl 1], σ)) (ps := []) rfl trivial ?_
        refine ck_eZ (Or.inr rfl) ⟨⟨1, rfl, Or.inl ⟨rfl, ?_⟩⟩, rfl⟩ rfl rfl rfl
        try simp only [co_in0] at *
        rw [co_fit3]
        omega
      · refine ck_go_run 1 (X1 := (167, [some (.inl 3), some (.inl x), some (.inl y), some (.inl z)], [.inl 0], σ)) (ps := []) rfl trivial ?_
        refine ck_eZ (Or.inl rfl) ⟨⟨0, rfl, Or.inr ⟨rfl, ?_⟩⟩, rfl⟩ rfl rfl rfl
        try simp only [co_in0] at *
        rw [co_fit3]
        omega
theorem cx_fits4 {x y z : Int} (hx : ck_rg x) (hy : ck_rg y) (hz : ck_rg z) (σ : ck_M) : ck_cal 2 cm_Pr_fits [.inl 4, .inl x, .inl y, .inl z] σ (fun q σ' => (∃ r, q = some r ∧ ((r = 1 ∧ co_fit 4 x y z) ∨ (r = 0 ∧ ¬ co_fit 4 x y z))) ∧ σ' = σ) := by
  refine ck_cal_of ?_
  have rx := id hx
  have ry := id hy
  have rz := id hz
  unfold ck_rg at rx ry rz
  refine ck_go_run 2 (X1 := (ck_sw 0 4 342 [72, 96, 123, 144, 168, 195, 222, 246, 267, 291, 324, 324, 291, 123], [some (.inl 4), some (.inl x), some (.inl y), some (.inl z)], [], σ)) (ps := [ck_rg 4]) rfl ⟨(ck_rgo (by omega) (by omega)), trivial⟩ ?_
  refine ck_go_pc (q := 168) rfl ?_
  refine ck_go_run 1 (X1 := (169, [some (.inl 4), some (.inl x), some (.inl y), some (.inl z)], [.inl x], σ)) (ps := []) rfl trivial ?_
  refine ck_go_cal (rest := []) (ck_cal_le (by decide) (cx_isNumber (v := x) (by assumption) _)) ⟨_, rfl, Or.inr ⟨_, rfl⟩, rfl, rfl, rfl, Nat.le_of_ble_eq_true rfl, fun h => absurd h (by decide)⟩ ?_
  rintro _ s' ⟨rfl, e'⟩
  rw [e']
  clear e' s'
  refine ck_go_run 1 (X1 := (if ck_in x 0 9 = 0 then 193 else 175, [some (.inl 4), some (.inl x), some (.inl y), some (.inl z)], [], σ)) (ps := [ck_rg (ck_in x 0 9)]) rfl ⟨(co_inrg _ _ _), trivial⟩ ?_
  refine ck_go_ite (fun h1 => ?_) (fun h1 => ?_)
  · refine ck_go_run 1 (X1 := (194, [some (.inl 4), some (.inl x), some (.inl y), some (.inl z)], [.inl 0], σ)) (ps := []) rfl trivial ?_
    refine ck_eZ (Or.inl rfl) ⟨⟨0, rfl, Or.inr ⟨rfl, ?_⟩⟩, rfl⟩ rfl rfl rfl
    try simp only [co_in0] at *
    rw [co_fit4]
    omega
  · refine ck_go_run 1 (X1 := (176, [some (.inl 4), some (.inl x), some (.inl y), some (.inl z)], [.inl y], σ)) (ps := []) rfl trivial ?_
    refine ck_go_cal (rest := []) (ck_cal_le (by decide) (cx_isArray (v := y) (by assumption) _)) ⟨_, rfl, Or.inr ⟨_, rfl⟩, rfl, rfl, rfl, Nat.le_of_ble_eq_true rfl, fun h => absurd h (by decide)⟩ ?_
    rintro _ s' ⟨rfl, e'⟩
    rw [e']
    clear e' s'
    refine ck_go_run 1 (X1 := (if ck_in y 0 3 = 0 then 193 else 182, [some (.inl 4), some (.inl x), some (.inl y), some (.inl z)], [], σ)) (ps := [ck_rg (ck_in y 0 3)]) rfl ⟨(co_inrg _ _ _), trivial⟩ ?_
    refine ck_go_ite (fun h2 => ?_) (fun h2 => ?_)
    · refine ck_go_run 1 (X1 := (194, [some (.inl 4), some (.inl x), some (.inl y), some (.inl z)], [.inl 0], σ)) (ps := []) rfl trivial ?_
      refine ck_eZ (Or.inl rfl) ⟨⟨0, rfl, Or.inr ⟨rfl, ?_⟩⟩, rfl⟩ rfl rfl rfl
      try simp only [co_in0] at *
      rw [co_fit4]
      omega
    · refine ck_go_run 1 (X1 := (183, [some (.inl 4), some (.inl x), some (.inl y), some (.inl z)], [.inl z], σ)) (ps := []) rfl trivial ?_
      refine ck_go_cal (rest := []) (ck_cal_le (by decide) (cx_isNumber (v := z) (by assumption) _)) ⟨_, rfl, Or.inr ⟨_, rfl⟩, rfl, rfl, rfl, Nat.le_of_ble_eq_true rfl, fun h => absurd h (by decide)⟩ ?_
      rintro _ s' ⟨rfl, e'⟩
      rw [e']
      clear e' s'
      refine ck_go_run 1 (X1 := (if ck_in z 0 9 = 0 then 193 else 189, [some (.inl 4), some (.inl x), some (.inl y), some (.inl z)], [], σ)) (ps := [ck_rg (ck_in z 0 9)]) rfl ⟨(co_inrg _ _ _), trivial⟩ ?_
      refine ck_go_ite (fun h3 => ?_) (fun h3 => ?_)
      · refine ck_go_run 1 (X1 := (194, [some (.inl 4), some (.inl x), some (.inl y), some (.inl z)], [.inl 0], σ)) (ps := []) rfl trivial ?_
        refine ck_eZ (Or.inl rfl) ⟨⟨0, rfl, Or.inr ⟨rfl, ?_⟩⟩, rfl⟩ rfl rfl rfl
        try simp only [co_in0] at *
        rw [co_fit4]
        omega
      · refine ck_go_run 2 (X1 := (194, [some (.inl 4), some (.inl x), some (.inl y), some (.inl z)], [.inl 1], σ)) (ps := []) rfl trivial ?_
        refine ck_eZ (Or.inr rfl) ⟨⟨1, rfl, Or.inl ⟨rfl, ?_⟩⟩, rfl⟩ rfl rfl rfl
        try simp only [co_in0] at *
        rw [co_fit4]
        omega
theorem cx_fits5 {x y z : Int} (hx : ck_rg x) (hy : ck_rg y) (hz : ck_rg z) (σ : ck_M) : ck_cal 2 cm_Pr_fits [.inl 5, .inl x, .inl y, .inl z] σ (fun q σ' => (∃ r, q = some r ∧ ((r = 1 ∧ co_fit 5 x y z) ∨ (r = 0 ∧ ¬ co_fit 5 x y z))) ∧ σ' = σ) := by
  refine ck_cal_of ?_
  have rx := id hx
  have ry := id hy
  have rz := id hz
  unfold ck_rg at rx ry rz
  refine ck_go_run 2 (X1 := (ck_sw 0 5 342 [72, 96, 123, 144, 168, 195, 222, 246, 267, 291, 324, 324, 291, 123], [some (.inl 5), some (.inl x), some (.inl y), some (.inl z)], [], σ)) (ps := [ck_rg 5]) rfl ⟨(ck_rgo (by omega) (by omega)), trivial⟩ ?_
  refine ck_go_pc (q := 195) rfl ?_
  refine ck_go_run 1 (X1 := (196, [some (.inl 5), some (.inl x), some (.inl y), some (.inl z)], [.inl x], σ)) (ps := []) rfl trivial ?_
  refine ck_go_cal (rest := []) (ck_cal_le (by decide) (cx_isArray (v := x) (by assumption) _)) ⟨_, rfl, Or.inr ⟨_, rfl⟩, rfl, rfl, rfl, Nat.le_of_ble_eq_true rfl, fun h => absurd h (by decide)⟩ ?_
  rintro _ s' ⟨rfl, e'⟩
  rw [e']
  clear e' s'
  refine ck_go_run 1 (X1 := (if ck_in x 0 3 = 0 then 220 else 202, [some (.inl 5), some (.inl x), some (.inl y), some (.inl z)], [], σ)) (ps := [ck_rg (ck_in x 0 3)]) rfl ⟨(co_inrg _ _ _), trivial⟩ ?_
  refine ck_go_ite (fun h1 => ?_) (fun h1 => ?_)
  · refine ck_go_run 1 (X1 := (221, [some (.inl 5), some (.inl x), some (.inl y), some (.inl z)], [.inl 0], σ)) (ps := []) rfl trivial ?_
    refine ck_eZ (Or.inl rfl) ⟨⟨0, rfl, Or.inr ⟨rfl, ?_⟩⟩, rfl⟩ rfl rfl rfl
    try simp only [co_in0] at *
    rw [co_fit5]
    omega
  · refine ck_go_run 1 (X1 := (203, [some (.inl 5), some (.inl x), some (.inl y), some (.inl z)], [.inl y], σ)) (ps := []) rfl trivial ?_
    refine ck_go_cal (rest := []) (ck_cal_le (by decide) (cx_isNumber (v := y) (by assumption) _)) ⟨_, rfl, Or.inr ⟨_, rfl⟩, rfl, rfl, rfl, Nat.le_of_ble_eq_true rfl, fun h => absurd h (by decide)⟩ ?_
    rintro _ s' ⟨rfl, e'⟩
    rw [e']
    clear e' s'
    refine ck_go_run 1 (X1 := (if ck_in y 0 9 = 0 then 220 else 209, [some (.inl 5), some (.inl x), some (.inl y), some (.inl z)], [], σ)) (ps := [ck_rg (ck_in y 0 9)]) rfl ⟨(co_inrg _ _ _), trivial⟩ ?_
    refine ck_go_ite (fun h2 => ?_) (fun h2 => ?_)
    · refine ck_go_run 1 (X1 := (221, [some (.inl 5), some (.inl x), some (.inl y), some (.inl z)], [.inl 0], σ)) (ps := []) rfl trivial ?_
      refine ck_eZ (Or.inl rfl) ⟨⟨0, rfl, Or.inr ⟨rfl, ?_⟩⟩, rfl⟩ rfl rfl rfl
      try simp only [co_in0] at *
      rw [co_fit5]
      omega
    · refine ck_go_run 1 (X1 := (210, [some (.inl 5), some (.inl x), some (.inl y), some (.inl z)], [.inl z], σ)) (ps := []) rfl trivial ?_
      refine ck_go_cal (rest := []) (ck_cal_le (by decide) (cx_isNumber (v := z) (by assumption) _)) ⟨_, rfl, Or.inr ⟨_, rfl⟩, rfl, rfl, rfl, Nat.le_of_ble_eq_true rfl, fun h => absurd h (by decide)⟩ ?_
      rintro _ s' ⟨rfl, e'⟩
      rw [e']
      clear e' s'
      refine ck_go_run 1 (X1 := (if ck_in z 0 9 = 0 then 220 else 216, [some (.inl 5), some (.inl x), some (.inl y), some (.inl z)], [], σ)) (ps := [ck_rg (ck_in z 0 9)]) rfl ⟨(co_inrg _ _ _), trivial⟩ ?_
      refine ck_go_ite (fun h3 => ?_) (fun h3 => ?_)
      · refine ck_go_run 1 (X1 := (221, [some (.inl 5), some (.inl x), some (.inl y), some (.inl z)], [.inl 0], σ)) (ps := []) rfl trivial ?_
        refine ck_eZ (Or.inl rfl) ⟨⟨0, rfl, Or.inr ⟨rfl, ?_⟩⟩, rfl⟩ rfl rfl rfl
        try simp only [co_in0] at *
        rw [co_fit5]
        omega
      · refine ck_go_run 2 (X1 := (221, [some (.inl 5), some (.inl x), some (.inl y), some (.inl z)], [.inl 1], σ)) (ps := []) rfl trivial ?_
        refine ck_eZ (Or.inr rfl) ⟨⟨1, rfl, Or.inl ⟨rfl, ?_⟩⟩, rfl⟩ rfl rfl rfl
        try simp only [co_in0] at *
        rw [co_fit5]
        omega
theorem cx_fits6 {x y z : Int} (hx : ck_rg x) (hy : ck_rg y) (hz : ck_rg z) (σ : ck_M) : ck_cal 2 cm_Pr_fits [.inl 6, .inl x, .inl y, .inl z] σ (fun q σ' => (∃ r, q = some r ∧ ((r = 1 ∧ co_fit 6 x y z) ∨ (r = 0 ∧ ¬ co_fit 6 x y z))) ∧ σ' = σ) := by
  refine ck_cal_of ?_
  have rx := id hx
  have ry := id hy
  have rz := id hz
  unfold ck_rg at rx ry rz
  refine ck_go_run 2 (X1 := (ck_sw 0 6 342 [72, 96, 123, 144, 168, 195, 222, 246, 267, 291, 324, 324, 291, 123], [some (.inl 6), some (.inl x), some (.inl y), some (.inl z)], [], σ)) (ps := [ck_rg 6]) rfl ⟨(ck_rgo (by omega) (by omega)), trivial⟩ ?_
  refine ck_go_pc (q := 222) rfl ?_
  refine ck_go_run 1 (X1 := (223, [some (.inl 6), some (.inl x), some (.inl y), some (.inl z)], [.inl x], σ)) (ps := []) rfl trivial ?_
  refine ck_go_cal (rest := []) (ck_cal_le (by decide) (cx_isArray (v := x) (by assumption) _)) ⟨_, rfl, Or.inr ⟨_, rfl⟩, rfl, rfl, rfl, Nat.le_of_ble_eq_true rfl, fun h => absurd h (by decide)⟩ ?_
  rintro _ s' ⟨rfl, e'⟩
  rw [e']
  clear e' s'
  refine ck_go_run 1 (X1 := (if ck_in x 0 3 = 0 then 244 else 229, [some (.inl 6), some (.inl x), some (.inl y), some (.inl z)], [], σ)) (ps := [ck_rg (ck_in x 0 3)]) rfl ⟨(co_inrg _ _ _), trivial⟩ ?_
  refine ck_go_ite (fun h1 => ?_) (fun h1 => ?_)
  · refine ck_go_run 1 (X1 := (245, [some (.inl 6), some (.inl x), some (.inl y), some (.inl z)], [.inl 0], σ)) (ps := []) rfl trivial ?_
    refine ck_eZ (Or.inl rfl) ⟨⟨0, rfl, Or.inr ⟨rfl, ?_⟩⟩, rfl⟩ rfl rfl rfl
    try simp only [co_in0] at *
    rw [co_fit6]
    omega
  · refine ck_go_run 1 (X1 := (230, [some (.inl 6), some (.inl x), some (.inl y), some (.inl z)], [.inl y], σ)) (ps := []) rfl trivial ?_
    refine ck_go_cal (rest := []) (ck_cal_le (by decide) (cx_isNumber (v := y) (by assumption) _)) ⟨_, rfl, Or.inr ⟨_, rfl⟩, rfl, rfl, rfl, Nat.le_of_ble_eq_true rfl, fun h => absurd h (by decide)⟩ ?_
    rintro _ s' ⟨rfl, e'⟩
    rw [e']
    clear e' s'
    refine ck_go_run 1 (X1 := (if ck_in y 0 9 = 0 then 244 else 236, [some (.inl 6), some (.inl x), some (.inl y), some (.inl z)], [], σ)) (ps := [ck_rg (ck_in y 0 9)]) rfl ⟨(co_inrg _ _ _), trivial⟩ ?_
    refine ck_go_ite (fun h2 => ?_) (fun h2 => ?_)
    · refine ck_go_run 1 (X1 := (245, [some (.inl 6), some (.inl x), some (.inl y), some (.inl z)], [.inl 0], σ)) (ps := []) rfl trivial ?_
      refine ck_eZ (Or.inl rfl) ⟨⟨0, rfl, Or.inr ⟨rfl, ?_⟩⟩, rfl⟩ rfl rfl rfl
      try simp only [co_in0] at *
      rw [co_fit6]
      omega
    · refine ck_go_run 2 (X1 := (if z = 0 then 240 else 244, [some (.inl 6), some (.inl x), some (.inl y), some (.inl z)], [], σ)) (ps := [ck_rg z]) rfl ⟨(ck_rgo (by omega) (by omega)), trivial⟩ ?_
      refine ck_go_ite (fun h3 => ?_) (fun h3 => ?_)
      · refine ck_go_run 2 (X1 := (245, [some (.inl 6), some (.inl x), some (.inl y), some (.inl z)], [.inl 1], σ)) (ps := []) rfl trivial ?_
        refine ck_eZ (Or.inr rfl) ⟨⟨1, rfl, Or.inl ⟨rfl, ?_⟩⟩, rfl⟩ rfl rfl rfl
        try simp only [co_in0] at *
        rw [co_fit6]
        omega
      · refine ck_go_run 1 (X1 := (245, [some (.inl 6), some (.inl x), some (.inl y), some (.inl z)], [.inl 0], σ)) (ps := []) rfl trivial ?_
        refine ck_eZ (Or.inl rfl) ⟨⟨0, rfl, Or.inr ⟨rfl, ?_⟩⟩, rfl⟩ rfl rfl rfl
        try simp only [co_in0] at *
        rw [co_fit6]
        omega
theorem cx_fits7 {x y z : Int} (hx : ck_rg x) (hy : ck_rg y) (hz : ck_rg z) (σ : ck_M) : ck_cal 2 cm_Pr_fits [.inl 7, .inl x, .inl y, .inl z] σ (fun q σ' => (∃ r, q = some r ∧ ((r = 1 ∧ co_fit 7 x y z) ∨ (r = 0 ∧ ¬ co_fit 7 x y z))) ∧ σ' = σ) := by
  refine ck_cal_of ?_
  have rx := id hx
  have ry := id hy
  have rz := id hz
  unfold ck_rg at rx ry rz
  refine ck_go_run 2 (X1 := (ck_sw 0 7 342 [72, 96, 123, 144, 168, 195, 222, 246, 267, 291, 324, 324, 291, 123], [some (.inl 7), some (.inl x), some (.inl y), some (.inl z)], [], σ)) (ps := [ck_rg 7]) rfl ⟨(ck_rgo (by omega) (by omega)), trivial⟩ ?_
  refine ck_go_pc (q := 246) rfl ?_
  refine ck_go_run 1 (X1 := (247, [some (.inl 7), some (.inl x), some (.inl y), some (.inl z)], [.inl x], σ)) (ps := []) rfl trivial ?_
  refine ck_go_cal (rest := []) (ck_cal_le (by decide) (cx_isArray (v := x) (by assumption) _)) ⟨_, rfl, Or.inr ⟨_, rfl⟩, rfl, rfl, rfl, Nat.le_of_ble_eq_true rfl, fun h => absurd h (by decide)⟩ ?_
  rintro _ s' ⟨rfl, e'⟩
  rw [e']
  clear e' s'
  refine ck_go_run 1 (X1 := (if ck_in x 0 3 = 0 then 265 else 253, [some (.inl 7), some (.inl x), some (.inl y), some (.inl z)], [], σ)) (ps := [ck_rg (ck_in x 0 3)]) rfl ⟨(co_inrg _ _ _), trivial⟩ ?_
  refine ck_go_ite (fun h1 => ?_) (fun h1 => ?_)
  · refine ck_go_run 1 (X1 := (266, [some (.inl 7), some (.inl x), some (.inl y), some (.inl z)], [.inl 0], σ)) (ps := []) rfl trivial ?_
    refine ck_eZ (Or.inl rfl) ⟨⟨0, rfl, Or.inr ⟨rfl, ?_⟩⟩, rfl⟩ rfl rfl rfl
    try simp only [co_in0] at *
    rw [co_fit7]
    omega
  · refine ck_go_run 2 (X1 := (if y = 0 then 257 else 265, [some (.inl 7), some (.inl x), some (.inl y), some (.inl z)], [], σ)) (ps := [ck_rg y]) rfl ⟨(ck_rgo (by omega) (by omega)), trivial⟩ ?_
    refine ck_go_ite (fun h2 => ?_) (fun h2 => ?_)
    · refine ck_go_run 2 (X1 := (if z = 0 then 261 else 265, [some (.inl 7), some (.inl x), some (.inl y), some (.inl z)], [], σ)) (ps := [ck_rg z]) rfl ⟨(ck_rgo (by omega) (by omega)), trivial⟩ ?_
      refine ck_go_ite (fun h3 => ?_) (fun h3 => ?_)
      · refine ck_go_run 2 (X1 := (266, [some (.inl 7), some (.inl x), some (.inl y), some (.inl z)], [.inl 1], σ)) (ps := []) rfl trivial ?_
        refine ck_eZ (Or.inr rfl) ⟨⟨1, rfl, Or.inl ⟨rfl, ?_⟩⟩, rfl⟩ rfl rfl rfl
        try simp only [co_in0] at *
        rw [co_fit7]
        omega
      · refine ck_go_run 1 (X1 := (266, [some (.inl 7), some (.inl x), some (.inl y), some (.inl z)], [.inl 0], σ)) (ps := []) rfl trivial ?_
        refine ck_eZ (Or.inl rfl) ⟨⟨0, rfl, Or.inr ⟨rfl, ?_⟩⟩, rfl⟩ rfl rfl rfl
        try simp only [co_in0] at *
        rw [co_fit7]
        omega
    · refine ck_go_run 1 (X1 := (266, [some (.inl 7), some (.inl x), some (.inl y), some (.inl z)], [.inl 0], σ)) (ps := []) rfl trivial ?_
      refine ck_eZ (Or.inl rfl) ⟨⟨0, rfl, Or.inr ⟨rfl, ?_⟩⟩, rfl⟩ rfl rfl rfl
      try simp only [co_in0] at *
      rw [co_fit7]
      omega
theorem cx_fits8 {x y z : Int} (hx : ck_rg x) (hy : ck_rg y) (hz : ck_rg z) (σ : ck_M) : ck_cal 2 cm_Pr_fits [.inl 8, .inl x, .inl y, .inl z] σ (fun q σ' => (∃ r, q = some r ∧ ((r = 1 ∧ co_fit 8 x y z) ∨ (r = 0 ∧ ¬ co_fit 8 x y z))) ∧ σ' = σ) := by
  refine ck_cal_of ?_
  have rx := id hx
  have ry := id hy
  have rz := id hz
  unfold ck_rg at rx ry rz
  refine ck_go_run 2 (X1 := (ck_sw 0 8 342 [72, 96, 123, 144, 168, 195, 222, 246, 267, 291, 324, 324, 291, 123], [some (.inl 8), some (.inl x), some (.inl y), some (.inl z)], [], σ)) (ps := [ck_rg 8]) rfl ⟨(ck_rgo (by omega) (by omega)), trivial⟩ ?_
  refine ck_go_pc (q := 267) rfl ?_
  refine ck_go_run 1 (X1 := (268, [some (.inl 8), some (.inl x), some (.inl y), some (.inl z)], [.inl x], σ)) (ps := []) rfl trivial ?_
  refine ck_go_cal (rest := []) (ck_cal_le (by decide) (cx_isArray (v := x) (by assumption) _)) ⟨_, rfl, Or.inr ⟨_, rfl⟩, rfl, rfl, rfl, Nat.le_of_ble_eq_true rfl, fun h => absurd h (by decide)⟩ ?_
  rintro _ s' ⟨rfl, e'⟩
  rw [e']
  clear e' s'
  refine ck_go_run 1 (X1 := (if ck_in x 0 3 = 0 then 289 else 274, [some (.inl 8), some (.inl x), some (.inl y), some (.inl z)], [], σ)) (ps := [ck_rg (ck_in x 0 3)]) rfl ⟨(co_inrg _ _ _), trivial⟩ ?_
  refine ck_go_ite (fun h1 => ?_) (fun h1 => ?_)
  · refine ck_go_run 1 (X1 := (290, [some (.inl 8), some (.inl x), some (.inl y), some (.inl z)], [.inl 0], σ)) (ps := []) rfl trivial ?_
    refine ck_eZ (Or.inl rfl) ⟨⟨0, rfl, Or.inr ⟨rfl, ?_⟩⟩, rfl⟩ rfl rfl rfl
    try simp only [co_in0] at *
    rw [co_fit8]
    omega
  · refine ck_go_run 1 (X1 := (275, [some (.inl 8), some (.inl x), some (.inl y), some (.inl z)], [.inl y], σ)) (ps := []) rfl trivial ?_
    refine ck_go_cal (rest := []) (ck_cal_le (by decide) (cx_isArray (v := y) (by assumption) _)) ⟨_, rfl, Or.inr ⟨_, rfl⟩, rfl, rfl, rfl, Nat.le_of_ble_eq_true rfl, fun h => absurd h (by decide)⟩ ?_
    rintro _ s' ⟨rfl, e'⟩
    rw [e']
    clear e' s'
    refine ck_go_run 1 (X1 := (if ck_in y 0 3 = 0 then 289 else 281, [some (.inl 8), some (.inl x), some (.inl y), some (.inl z)], [], σ)) (ps := [ck_rg (ck_in y 0 3)]) rfl ⟨(co_inrg _ _ _), trivial⟩ ?_
    refine ck_go_ite (fun h2 => ?_) (fun h2 => ?_)
    · refine ck_go_run 1 (X1 := (290, [some (.inl 8), some (.inl x), some (.inl y), some (.inl z)], [.inl 0], σ)) (ps := []) rfl trivial ?_
      refine ck_eZ (Or.inl rfl) ⟨⟨0, rfl, Or.inr ⟨rfl, ?_⟩⟩, rfl⟩ rfl rfl rfl
      try simp only [co_in0] at *
      rw [co_fit8]
      omega
    · refine ck_go_run 2 (X1 := (if z = 0 then 285 else 289, [some (.inl 8), some (.inl x), some (.inl y), some (.inl z)], [], σ)) (ps := [ck_rg z]) rfl ⟨(ck_rgo (by omega) (by omega)), trivial⟩ ?_
      refine ck_go_ite (fun h3 => ?_) (fun h3 => ?_)
      · refine ck_go_run 2 (X1 := (290, [some (.inl 8), some (.inl x), some (.inl y), some (.inl z)], [.inl 1], σ)) (ps := []) rfl trivial ?_
        refine ck_eZ (Or.inr rfl) ⟨⟨1, rfl, Or.inl ⟨rfl, ?_⟩⟩, rfl⟩ rfl rfl rfl
        try simp only [co_in0] at *
        rw [co_fit8]
        omega
      · refine ck_go_run 1 (X1 := (290, [some (.inl 8), some (.inl x), some (.inl y), some (.inl z)], [.inl 0], σ)) (ps := []) rfl trivial ?_
        refine ck_eZ (Or.inl rfl) ⟨⟨0, rfl, Or.inr ⟨rfl, ?_⟩⟩, rfl⟩ rfl rfl rfl
        try simp only [co_in0] at *
        rw [co_fit8]
        omega
theorem cx_fits9 {x y z : Int} (hx : ck_rg x) (hy : ck_rg y) (hz : ck_rg z) (σ : ck_M) : ck_cal 2 cm_Pr_fits [.inl 9, .inl x, .inl y, .inl z] σ (fun q σ' => (∃ r, q = some r ∧ ((r = 1 ∧ co_fit 9 x y z) ∨ (r = 0 ∧ ¬ co_fit 9 x y z))) ∧ σ' = σ) := by
  refine ck_cal_of ?_
  have rx := id hx
  have ry := id hy
  have rz := id hz
  unfold ck_rg at rx ry rz
  refine ck_go_run 2 (X1 := (ck_sw 0 9 342 [72, 96, 123, 144, 168, 195, 222, 246, 267, 291, 324, 324, 291, 123], [some (.inl 9), some (.inl x), some (.inl y), some (.inl z)], [], σ)) (ps := [ck_rg 9]) rfl ⟨(ck_rgo (by omega) (by omega)), trivial⟩ ?_
  refine ck_go_pc (q := 291) rfl ?_
  refine ck_go_run 1 (X1 := (292, [some (.inl 9), some (.inl x), some (.inl y), some (.inl z)], [.inl x], σ)) (ps := []) rfl trivial ?_
  refine ck_go_cal (rest := []) (ck_cal_le (by decide) (cx_isNumber (v := x) (by assumption) _)) ⟨_, rfl, Or.inr ⟨_, rfl⟩, rfl, rfl, rfl, Nat.le_of_ble_eq_true rfl, fun h => absurd h (by decide)⟩ ?_
  rintro _ s' ⟨rfl, e'⟩
  rw [e']
  clear e' s'
  refine ck_go_run 1 (X1 := (if ck_in x 0 9 = 0 then 322 else 298, [some (.inl 9), some (.inl x), some (.inl y), some (.inl z)], [], σ)) (ps := [ck_rg (ck_in x 0 9)]) rfl ⟨(co_inrg _ _ _), trivial⟩ ?_
  refine ck_go_ite (fun h1 => ?_) (fun h1 => ?_)
  · refine ck_go_run 1 (X1 := (323, [some (.inl 9), some (.inl x), some (.inl y), some (.inl z)], [.inl 0], σ)) (ps := []) rfl trivial ?_
    refine ck_eZ (Or.inl rfl) ⟨⟨0, rfl, Or.inr ⟨rfl, ?_⟩⟩, rfl⟩ rfl rfl rfl
    try simp only [co_in0] at *
    rw [co_fit9]
    omega
  · refine ck_go_run 1 (X1 := (299, [some (.inl 9), some (.inl x), some (.inl y), some (.inl z)], [.inl y], σ)) (ps := []) rfl trivial ?_
    refine ck_go_cal (rest := []) (ck_cal_le (by decide) (cx_isNumber (v := y) (by assumption) _)) ⟨_, rfl, Or.inr ⟨_, rfl⟩, rfl, rfl, rfl, Nat.le_of_ble_eq_true rfl, fun h => absurd h (by decide)⟩ ?_
    rintro _ s' ⟨rfl, e'⟩
    rw [e']
    clear e' s'
    refine ck_go_run 1 (X1 := (if ck_in y 0 9 = 0 then 305 else 311, [some (.inl 9), some (.inl x), some (.inl y), some (.inl z)], [], σ)) (ps := [ck_rg (ck_in y 0 9)]) rfl ⟨(co_inrg _ _ _), trivial⟩ ?_
    refine ck_go_ite (fun h2 => ?_) (fun h2 => ?_)
    · refine ck_go_run 3 (X1 := (if y = 10 then 311 else 322, [some (.inl 9), some (.inl x), some (.inl y), some (.inl z)], [], σ)) (ps := [ck_rg y, ck_rg 10]) rfl ⟨(ck_rgo (by omega) (by omega)), (ck_rgo (by omega) (by omega)), trivial⟩ ?_
      refine ck_go_ite (fun h3 => ?_) (fun h3 => ?_)
      · refine ck_go_run 1 (X1 := (312, [some (.inl 9), some (.inl x), some (.inl y), some (.inl z)], [.inl z], σ)) (ps := []) rfl trivial ?_
        refine ck_go_cal (rest := []) (ck_cal_le (by decide) (cx_isConstant (v := z) (by assumption) _)) ⟨_, rfl, Or.inr ⟨_, rfl⟩, rfl, rfl, rfl, Nat.le_of_ble_eq_true rfl, fun h => absurd h (by decide)⟩ ?_
        rintro _ s' ⟨rfl, e'⟩
        rw [e']
        clear e' s'
        refine ck_go_run 1 (X1 := (if ck_in z (-100) 100 = 0 then 322 else 318, [some (.inl 9), some (.inl x), some (.inl y), some (.inl z)], [], σ)) (ps := [ck_rg (ck_in z (-100) 100)]) rfl ⟨(co_inrg _ _ _), trivial⟩ ?_
        refine ck_go_ite (fun h4 => ?_) (fun h4 => ?_)
        · refine ck_go_run 1 (X1 := (323, [some (.inl 9), some (.inl x), some (.inl y), some (.inl z)], [.inl 0], σ)) (ps := []) rfl trivial ?_
          refine ck_eZ (Or.inl rfl) ⟨⟨0, rfl, Or.inr ⟨rfl, ?_⟩⟩, rfl⟩ rfl rfl rfl
          try simp only [co_in0] at *
          rw [co_fit9]
          omega
        · refine ck_go_run 2 (X1 := (323, [some (.inl 9), some (.inl x), some (.inl y), some (.inl z)], [.inl 1], σ)) (ps := []) rfl trivial ?_
          refine ck_eZ (Or.inr rfl) ⟨⟨1, rfl, Or.inl ⟨rfl, ?_⟩⟩, rfl⟩ rfl rfl rfl
          try simp only [co_in0] at *
          rw [co_fit9]
          omega
      · refine ck_go_run 1 (X1 := (323, [some (.inl 9), some (.inl x), some (.inl y), some (.inl z)], [.inl 0], σ)) (ps := []) rfl trivial ?_
        refine ck_eZ (Or.inl rfl) ⟨⟨0, rfl, Or.inr ⟨rfl, ?_⟩⟩, rfl⟩ rfl rfl rfl
        try simp only [co_in0] at *
        rw [co_fit9]
        omega
    · refine ck_go_run 1 (X1 := (312, [some (.inl 9), some (.inl x), some (.inl y), some (.inl z)], [.inl z], σ)) (ps := []) rfl trivial ?_
      refine ck_go_cal (rest := []) (ck_cal_le (by decide) (cx_isConstant (v := z) (by assumption) _)) ⟨_, rfl, Or.inr ⟨_, rfl⟩, rfl, rfl, rfl, Nat.le_of_ble_eq_true rfl, fun h => absurd h (by decide)⟩ ?_
      rintro _ s' ⟨rfl, e'⟩
      rw [e']
      clear e' s'
      refine ck_go_run 1 (X1 := (if ck_in z (-100) 100 = 0 then 322 else 318, [some (.inl 9), some (.inl x), some (.inl y), some (.inl z)], [], σ)) (ps := [ck_rg (ck_in z (-100) 100)]) rfl ⟨(co_inrg _ _ _), trivial⟩ ?_
      refine ck_go_ite (fun h5 => ?_) (fun h5 => ?_)
      · refine ck_go_run 1 (X1 := (323, [some (.inl 9), some (.inl x), some (.inl y), some (.inl z)], [.inl 0], σ)) (ps := []) rfl trivial ?_
        refine ck_eZ (Or.inl rfl) ⟨⟨0, rfl, Or.inr ⟨rfl, ?_⟩⟩, rfl⟩ rfl rfl rfl
        try simp only [co_in0] at *
        rw [co_fit9]
        omega
      · refine ck_go_run 2 (X1 := (323, [some (.inl 9), some (.inl x), some (.inl y), some (.inl z)], [.inl 1], σ)) (ps := []) rfl trivial ?_
        refine ck_eZ (Or.inr rfl) ⟨⟨1, rfl, Or.inl ⟨rfl, ?_⟩⟩, rfl⟩ rfl rfl rfl
        try simp only [co_in0] at *
        rw [co_fit9]
        omega
theorem cx_fits10 {x y z : Int} (hx : ck_rg x) (hy : ck_rg y) (hz : ck_rg z) (σ : ck_M) : ck_cal 2 cm_Pr_fits [.inl 10, .inl x, .inl y, .inl z] σ (fun q σ' => (∃ r, q = some r ∧ ((r = 1 ∧ co_fit 10 x y z) ∨ (r = 0 ∧ ¬ co_fit 10 x y z))) ∧ σ' = σ) := by
  refine ck_cal_of ?_
  have rx := id hx
  have ry := id hy
  have rz := id hz
  unfold ck_rg at rx ry rz
  refine ck_go_run 2 (X1 := (ck_sw 0 10 342 [72, 96, 123, 144, 168, 195, 222, 246, 267, 291, 324, 324, 291, 123], [some (.inl 10), some (.inl x), some (.inl y), some (.inl z)], [], σ)) (ps := [ck_rg 10]) rfl ⟨(ck_rgo (by omega) (by omega)), trivial⟩ ?_
  refine ck_go_pc (q := 324) rfl ?_
  refine ck_go_run 2 (X1 := (if x = 0 then 328 else 340, [some (.inl 10), some (.inl x), some (.inl y), some (.inl z)], [], σ)) (ps := [ck_rg x]) rfl ⟨(ck_rgo (by omega) (by omega)), trivial⟩ ?_
  refine ck_go_ite (fun h1 => ?_) (fun h1 => ?_)
  · refine ck_go_run 2 (X1 := (if y = 0 then 332 else 340, [some (.inl 10), some (.inl x), some (.inl y), some (.inl z)], [], σ)) (ps := [ck_rg y]) rfl ⟨(ck_rgo (by omega) (by omega)), trivial⟩ ?_
    refine ck_go_ite (fun h2 => ?_) (fun h2 => ?_)
    · refine ck_go_run 2 (X1 := (if z = 0 then 336 else 340, [some (.inl 10), some (.inl x), some (.inl y), some (.inl z)], [], σ)) (ps := [ck_rg z]) rfl ⟨(ck_rgo (by omega) (by omega)), trivial⟩ ?_
      refine ck_go_ite (fun h3 => ?_) (fun h3 => ?_)
      · refine ck_go_run 2 (X1 := (341, [some (.inl 10), some (.inl x), some (.inl y), some (.inl z)], [.inl 1], σ)) (ps := []) rfl trivial ?_
        refine ck_eZ (Or.inr rfl) ⟨⟨1, rfl, Or.inl ⟨rfl, ?_⟩⟩, rfl⟩ rfl rfl rfl
        try simp only [co_in0] at *
        rw [co_fit10]
        omega
      · refine ck_go_run 1 (X1 := (341, [some (.inl 10), some (.inl x), some (.inl y), some (.inl z)], [.inl 0], σ)) (ps := []) rfl trivial ?_
        refine ck_eZ (Or.inl rfl) ⟨⟨0, rfl, Or.inr ⟨rfl, ?_⟩⟩, rfl⟩ rfl rfl rfl
        try simp only [co_in0] at *
        rw [co_fit10]
        omega
    · refine ck_go_run 1 (X1 := (341, [some (.inl 10), some (.inl x), some (.inl y), some (.inl z)], [.inl 0], σ)) (ps := []) rfl trivial ?_
      refine ck_eZ (Or.inl rfl) ⟨⟨0, rfl, Or.inr ⟨rfl, ?_⟩⟩, rfl⟩ rfl rfl rfl
      try simp only [co_in0] at *
      rw [co_fit10]
      omega
  · refine ck_go_run 1 (X1 := (341, [some (.inl 10), some (.inl x), some (.inl y), some (.inl z)], [.inl 0], σ)) (ps := []) rfl trivial ?_
    refine ck_eZ (Or.inl rfl) ⟨⟨0, rfl, Or.inr ⟨rfl, ?_⟩⟩, rfl⟩ rfl rfl rfl
    try simp only [co_in0] at *
    rw [co_fit10]
    omega
theorem cx_fits11 {x y z : Int} (hx : ck_rg x) (hy : ck_rg y) (hz : ck_rg z) (σ : ck_M) : ck_cal 2 cm_Pr_fits [.inl 11, .inl x, .inl y, .inl z] σ (fun q σ' => (∃ r, q = some r ∧ ((r = 1 ∧ co_fit 11 x y z) ∨ (r = 0 ∧ ¬ co_fit 11 x y z))) ∧ σ' = σ) := by
  refine ck_cal_of ?_
  have rx := id hx
  have ry := id hy
  have rz := id hz
  unfold ck_rg at rx ry rz
  refine ck_go_run 2 (X1 := (ck_sw 0 11 342 [72, 96, 123, 144, 168, 195, 222, 246, 267, 291, 324, 324, 291, 123], [some (.inl 11), some (.inl x), some (.inl y), some (.inl z)], [], σ)) (ps := [ck_rg 11]) rfl ⟨(ck_rgo (by omega) (by omega)), trivial⟩ ?_
  refine ck_go_pc (q := 324) rfl ?_
  refine ck_go_run 2 (X1 := (if x = 0 then 328 else 340, [some (.inl 11), some (.inl x), some (.inl y), some (.inl z)], [], σ)) (ps := [ck_rg x]) rfl ⟨(ck_rgo (by omega) (by omega)), trivial⟩ ?_
  refine ck_go_ite (fun h1 => ?_) (fun h1 => ?_)
  · refine ck_go_run 2 (X1 := (if y = 0 then 332 else 340, [some (.inl 11), some (.inl x), some (.inl y), some (.inl z)], [], σ)) (ps := [ck_rg y]) rfl ⟨(ck_rgo (by omega) (by omega)), trivial⟩ ?_
    refine ck_go_ite (fun h2 => ?_) (fun h2 => ?_)
    · refine ck_go_run 2 (X1 := (if z = 0 then 336 else 340, [some (.inl 11), some (.inl x), some (.inl y), some (.inl z)], [], σ)) (ps := [ck_rg z]) rfl ⟨(ck_rgo (by omega) (by omega)), trivial⟩ ?_
      refine ck_go_ite (fun h3 => ?_) (fun h3 => ?_)
      · refine ck_go_run 2 (X1 := (341, [some (.inl 11), some (.inl x), some (.inl y), some (.inl z)], [.inl 1], σ)) (ps := []) rfl trivial ?_
        refine ck_eZ (Or.inr rfl) ⟨⟨1, rfl, Or.inl ⟨rfl, ?_⟩⟩, rfl⟩ rfl rfl rfl
        try simp only [co_in0] at *
        rw [co_fit11]
        omega
      · refine ck_go_run 1 (X1 := (341, [some (.inl 11), some (.inl x), some (.inl y), some (.inl z)], [.inl 0], σ)) (ps := []) rfl trivial ?_
        refine ck_eZ (Or.inl rfl) ⟨⟨0, rfl, Or.inr ⟨rfl, ?_⟩⟩, rfl⟩ rfl rfl rfl
        try simp only [co_in0] at *
        rw [co_fit11]
        omega
    · refine ck_go_run 1 (X1 := (341, [some (.inl 11), some (.inl x), some (.inl y), some (.inl z)], [.inl 0], σ)) (ps := []) rfl trivial ?_
      refine ck_eZ (Or.inl rfl) ⟨⟨0, rfl, Or.inr ⟨rfl, ?_⟩⟩, rfl⟩ rfl rfl rfl
      try simp only [co_in0] at *
      rw [co_fit11]
      omega
  · refine ck_go_run 1 (X1 := (341, [some (.inl 11), some (.inl x), some (.inl y), some (.inl z)], [.inl 0], σ)) (ps := []) rfl trivial ?_
    refine ck_eZ (Or.inl rfl) ⟨⟨0, rfl, Or.inr ⟨rfl, ?_⟩⟩, rfl⟩ rfl rfl rfl
    try simp only [co_in0] at *
    rw [co_fit11]
    omega
theorem cx_fits12 {x y z : Int} (hx : ck_rg x) (hy : ck_rg y) (hz : ck_rg z) (σ : ck_M) : ck_cal 2 cm_Pr_fits [.inl 12, .inl x, .inl y, .inl z] σ (fun q σ' => (∃ r, q = some r ∧ ((r = 1 ∧ co_fit 12 x y z) ∨ (r = 0 ∧ ¬ co_fit 12 x y z))) ∧ σ' = σ) := by
  refine ck_cal_of ?_
  have rx := id hx
  have ry := id hy
  have rz := id hz
  unfold ck_rg at rx ry rz
  refine ck_go_run 2 (X1 := (ck_sw 0 12 342 [72, 96, 123, 144, 168, 195, 222, 246, 267, 291, 324, 324, 291, 123], [some (.inl 12), some (.inl x), some (.inl y), some (.inl z)], [], σ)) (ps := [ck_rg 12]) rfl ⟨(ck_rgo (by omega) (by omega)), trivial⟩ ?_
  refine ck_go_pc (q := 291) rfl ?_
  refine ck_go_run 1 (X1 := (292, [some (.inl 12), some (.inl x), some (.inl y), some (.inl z)], [.inl x], σ)) (ps := []) rfl trivial ?_
  refine ck_go_cal (rest := []) (ck_cal_le (by decide) (cx_isNumber (v := x) (by assumption) _)) ⟨_, rfl, Or.inr ⟨_, rfl⟩, rfl, rfl, rfl, Nat.le_of_ble_eq_true rfl, fun h => absurd h (by decide)⟩ ?_
  rintro _ s' ⟨rfl, e'⟩
  rw [e']
  clear e' s'
  refine ck_go_run 1 (X1 := (if ck_in x 0 9 = 0 then 322 else 298, [some (.inl 12), some (.inl x), some (.inl y), some (.inl z)], [], σ)) (ps := [ck_rg (ck_in x 0 9)]) rfl ⟨(co_inrg _ _ _), trivial⟩ ?_
  refine ck_go_ite (fun h1 => ?_) (fun h1 => ?_)
  · refine ck_go_run 1 (X1 := (323, [some (.inl 12), some (.inl x), some (.inl y), some (.inl z)], [.inl 0], σ)) (ps := []) rfl trivial ?_
    refine ck_eZ (Or.inl rfl) ⟨⟨0, rfl, Or.inr ⟨rfl, ?_⟩⟩, rfl⟩ rfl rfl rfl
    try simp only [co_in0] at *
    rw [co_fit12]
    omega
  · refine ck_go_run 1 (X1 := (299, [some (.inl 12), some (.inl x), some (.inl y), some (.inl z)], [.inl y], σ)) (ps := []) rfl trivial ?_
    refine ck_go_cal (rest := []) (ck_cal_le (by decide) (cx_isNumber (v := y) (by assumption) _)) ⟨_, rfl, Or.inr ⟨_, rfl⟩, rfl, rfl, rfl, Nat.le_of_ble_eq_true rfl, fun h => absurd h (by decide)⟩ ?_
    rintro _ s' ⟨rfl, e'⟩
    rw [e']
    clear e' s'
    refine ck_go_run 1 (X1 := (if ck_in y 0 9 = 0 then 305 else 311, [some (.inl 12), some (.inl x), some (.inl y), some (.inl z)], [], σ)) (ps := [ck_rg (ck_in y 0 9)]) rfl ⟨(co_inrg _ _ _), trivial⟩ ?_
    refine ck_go_ite (fun h2 => ?_) (fun h2 => ?_)
    · refine ck_go_run 3 (X1 := (if y = 10 then 311 else 322, [some (.inl 12), some (.inl x), some (.inl y), some (.inl z)], [], σ)) (ps := [ck_rg y, ck_rg 10]) rfl ⟨(ck_rgo (by omega) (by omega)), (ck_rgo (by omega) (by omega)), trivial⟩ ?_
      refine ck_go_ite (fun h3 => ?_) (fun h3 => ?_)
      · refine ck_go_run 1 (X1 := (312, [some (.inl 12), some (.inl x), some (.inl y), some (.inl z)], [.inl z], σ)) (ps := []) rfl trivial ?_
        refine ck_go_cal (rest := []) (ck_cal_le (by decide) (cx_isConstant (v := z) (by assumption) _)) ⟨_, rfl, Or.inr ⟨_, rfl⟩, rfl, rfl, rfl, Nat.le_of_ble_eq_true rfl, fun h => absurd h (by decide)⟩ ?_
        rintro _ s' ⟨rfl, e'⟩
        rw [e']
        clear e' s'
        refine ck_go_run 1 (X1 := (if ck_in z (-100) 100 = 0 then 322 else 318, [some (.inl 12), some (.inl x), some (.inl y), some (.inl z)], [], σ)) (ps := [ck_rg (ck_in z (-100) 100)]) rfl ⟨(co_inrg _ _ _), trivial⟩ ?_
        refine ck_go_ite (fun h4 => ?_) (fun h4 => ?_)
        · refine ck_go_run 1 (X1 := (323, [some (.inl 12), some (.inl x), some (.inl y), some (.inl z)], [.inl 0], σ)) (ps := []) rfl trivial ?_
          refine ck_eZ (Or.inl rfl) ⟨⟨0, rfl, Or.inr ⟨rfl, ?_⟩⟩, rfl⟩ rfl rfl rfl
          try simp only [co_in0] at *
          rw [co_fit12]
          omega
        · refine ck_go_run 2 (X1 := (323, [some (.inl 12), some (.inl x), some (.inl y), some (.inl z)], [.inl 1], σ)) (ps := []) rfl trivial ?_
          refine ck_eZ (Or.inr rfl) ⟨⟨1, rfl, Or.inl ⟨rfl, ?_⟩⟩, rfl⟩ rfl rfl rfl
          try simp only [co_in0] at *
          rw [co_fit12]
          omega
      · refine ck_go_run 1 (X1 := (323, [some (.inl 12), some (.inl x), some (.inl y), some (.inl z)], [.inl 0], σ)) (ps := []) rfl trivial ?_
        refine ck_eZ (Or.inl rfl) ⟨⟨0, rfl, Or.inr ⟨rfl, ?_⟩⟩, rfl⟩ rfl rfl rfl
        try simp only [co_in0] at *
        rw [co_fit12]
        omega
    · refine ck_go_run 1 (X1 := (312, [some (.inl 12), some (.inl x), some (.inl y), some (.inl z)], [.inl z], σ)) (ps := []) rfl trivial ?_
      refine ck_go_cal (rest := []) (ck_cal_le (by decide) (cx_isConstant (v := z) (by assumption) _)) ⟨_, rfl, Or.inr ⟨_, rfl⟩, rfl, rfl, rfl, Nat.le_of_ble_eq_true rfl, fun h => absurd h (by decide)⟩ ?_
      rintro _ s' ⟨rfl, e'⟩
      rw [e']
      clear e' s'
      refine ck_go_run 1 (X1 := (if ck_in z (-100) 100 = 0 then 322 else 318, [some (.inl 12), some (.inl x), some (.inl y), some (.inl z)], [], σ)) (ps := [ck_rg (ck_in z (-100) 100)]) rfl ⟨(co_inrg _ _ _), trivial⟩ ?_
      refine ck_go_ite (fun h5 => ?_) (fun h5 => ?_)
      · refine ck_go_run 1 (X1 := (323, [some (.inl 12), some (.inl x), some (.inl y), some (.inl z)], [.inl 0], σ)) (ps := []) rfl trivial ?_
        refine ck_eZ (Or.inl rfl) ⟨⟨0, rfl, Or.inr ⟨rfl, ?_⟩⟩, rfl⟩ rfl rfl rfl
        try simp only [co_in0] at *
        rw [co_fit12]
        omega
      · refine ck_go_run 2 (X1 := (323, [some (.inl 12), some (.inl x), some (.inl y), some (.inl z)], [.inl 1], σ)) (ps := []) rfl trivial ?_
        refine ck_eZ (Or.inr rfl) ⟨⟨1, rfl, Or.inl ⟨rfl, ?_⟩⟩, rfl⟩ rfl rfl rfl
        try simp only [co_in0] at *
        rw [co_fit12]
        omega
theorem cx_fits13 {x y z : Int} (hx : ck_rg x) (hy : ck_rg y) (hz : ck_rg z) (σ : ck_M) : ck_cal 2 cm_Pr_fits [.inl 13, .inl x, .inl y, .inl z] σ (fun q σ' => (∃ r, q = some r ∧ ((r = 1 ∧ co_fit 13 x y z) ∨ (r = 0 ∧ ¬ co_fit 13 x y z))) ∧ σ' = σ) := by
  refine ck_cal_of ?_
  have rx := id hx
  have ry := id hy
  have rz := id hz
  unfold ck_rg at rx ry rz
  refine ck_go_run 2 (X1 := (ck_sw 0 13 342 [72, 96, 123, 144, 168, 195, 222, 246, 267, 291, 324, 324, 291, 123], [some (.inl 13), some (.inl x), some (.inl y), some (.inl z)], [], σ)) (ps := [ck_rg 13]) rfl ⟨(ck_rgo (by omega) (by omega)), trivial⟩ ?_
  refine ck_go_pc (q := 123) rfl ?_
  refine ck_go_run 1 (X1 := (124, [some (.inl 13), some (.inl x), some (.inl y), some (.inl z)], [.inl x], σ)) (ps := []) rfl trivial ?_
  refine ck_go_cal (rest := []) (ck_cal_le (by decide) (cx_isNumber (v := x) (by assumption) _)) ⟨_, rfl, Or.inr ⟨_, rfl⟩, rfl, rfl, rfl, Nat.le_of_ble_eq_true rfl, fun h => absurd h (by decide)⟩ ?_
  rintro _ s' ⟨rfl, e'⟩
  rw [e']
  clear e' s'
  refine ck_go_run 1 (X1 := (if ck_in x 0 9 = 0 then 142 else 130, [some (.inl 13), some (.inl x), some (.inl y), some (.inl z)], [], σ)) (ps := [ck_rg (ck_in x 0 9)]) rfl ⟨(co_inrg _ _ _), trivial⟩ ?_
  refine ck_go_ite (fun h1 => ?_) (fun h1 => ?_)
  · refine ck_go_run 1 (X1 := (143, [some (.inl 13), some (.inl x), some (.inl y), some (.inl z)], [.inl 0], σ)) (ps := []) rfl trivial ?_
    refine ck_eZ (Or.inl rfl) ⟨⟨0, rfl, Or.inr ⟨rfl, ?_⟩⟩, rfl⟩ rfl rfl rfl
    try simp only [co_in0] at *
    rw [co_fit13]
    omega
  · refine ck_go_run 2 (X1 := (if y = 0 then 134 else 142, [some (.inl 13), some (.inl x), some (.inl y), some (.inl z)], [], σ)) (ps := [ck_rg y]) rfl ⟨(ck_rgo (by omega) (by omega)), trivial⟩ ?_
    refine ck_go_ite (fun h2 => ?_) (fun h2 => ?_)
    · refine ck_go_run 2 (X1 := (if z = 0 then 138 else 142, [some (.inl 13), some (.inl x), some (.inl y), some (.inl z)], [], σ)) (ps := [ck_rg z]) rfl ⟨(ck_rgo (by omega) (by omega)), trivial⟩ ?_
      refine ck_go_ite (fun h3 => ?_) (fun h3 => ?_)
      · refine ck_go_run 2 (X1 := (143, [some (.inl 13), some (.inl x), some (.inl y), some (.inl z)], [.inl 1], σ)) (ps := []) rfl trivial ?_
        refine ck_eZ (Or.inr rfl) ⟨⟨1, rfl, Or.inl ⟨rfl, ?_⟩⟩, rfl⟩ rfl rfl rfl
        try simp only [co_in0] at *
        rw [co_fit13]
        omega
      · refine ck_go_run 1 (X1 := (143, [some (.inl 13), some (.inl x), some (.inl y), some (.inl z)], [.inl 0], σ)) (ps := []) rfl trivial ?_
        refine ck_eZ (Or.inl rfl) ⟨⟨0, rfl, Or.inr ⟨rfl, ?_⟩⟩, rfl⟩ rfl rfl rfl
        try simp only [co_in0] at *
        rw [co_fit13]
        omega
    · refine ck_go_run 1 (X1 := (143, [some (.inl 13), some (.inl x), some (.inl y), some (.inl z)], [.inl 0], σ)) (ps := []) rfl trivial ?_
      refine ck_eZ (Or.inl rfl) ⟨⟨0, rfl, Or.inr ⟨rfl, ?_⟩⟩, rfl⟩ rfl rfl rfl
      try simp only [co_in0] at *
      rw [co_fit13]
      omega
theorem cx_fitsX {t : Int} (ht : ck_rg t) (hT : t < 0 ∨ 13 < t) {x y z : Int} (hx : ck_rg x) (hy : ck_rg y) (hz : ck_rg z) (σ : ck_M) : ck_cal 2 cm_Pr_fits [.inl t, .inl x, .inl y, .inl z] σ (fun q σ' => (∃ r, q = some r ∧ ((r = 1 ∧ co_fit t x y z) ∨ (r = 0 ∧ ¬ co_fit t x y z))) ∧ σ' = σ) := by
  refine ck_cal_of ?_
  have rx := id hx
  have ry := id hy
  have rz := id hz
  unfold ck_rg at rx ry rz
  have rt := id ht
  unfold ck_rg at rt
  refine ck_go_run 2 (X1 := (ck_sw 0 t 342 [72, 96, 123, 144, 168, 195, 222, 246, 267, 291, 324, 324, 291, 123], [some (.inl t), some (.inl x), some (.inl y), some (.inl z)], [], σ)) (ps := [ck_rg t]) rfl ⟨(ck_rgo (by omega) (by omega)), trivial⟩ ?_
  · refine ck_go_pc (q := 342) (by
      unfold ck_sw
      rcases hT with h | h
      · rw [if_pos h]
      · rw [if_neg (by omega), List.getElem?_eq_none (by show 14 ≤ _; omega)]
        rfl) ?_
    refine ck_go_run 1 (X1 := (343, [some (.inl t), some (.inl x), some (.inl y), some (.inl z)], [.inl 0], σ)) (ps := []) rfl trivial ?_
    refine ck_eZ (Or.inl rfl) ⟨⟨0, rfl, Or.inr ⟨rfl, ?_⟩⟩, rfl⟩ rfl rfl rfl
    try simp only [co_in0] at *
    unfold co_fit
    omega
theorem cx_fits {t : Int} (ht : ck_rg t) {x y z : Int} (hx : ck_rg x) (hy : ck_rg y) (hz : ck_rg z) (σ : ck_M) : ck_cal 2 cm_Pr_fits [.inl t, .inl x, .inl y, .inl z] σ (fun q σ' => (∃ r, q = some r ∧ ((r = 1 ∧ co_fit t x y z) ∨ (r = 0 ∧ ¬ co_fit t x y z))) ∧ σ' = σ) := by
  by_cases hT : t < 0 ∨ 13 < t
  · exact cx_fitsX ht hT hx hy hz σ
  · have h2 : t = 0 ∨ t = 1 ∨ t = 2 ∨ t = 3 ∨ t = 4 ∨ t = 5 ∨ t = 6 ∨ t = 7 ∨ t = 8 ∨ t = 9 ∨ t = 10 ∨ t = 11 ∨ t = 12 ∨ t = 13 := by omega
    rcases h2 with rfl | rfl | rfl | rfl | rfl | rfl | rfl | rfl | rfl | rfl | rfl | rfl | rfl | rfl
    · exact cx_fits0 hx hy hz σ
    · exact cx_fits1 hx hy hz σ
    · exact cx_fits2 hx hy hz σ
    · exact cx_fits3 hx hy hz σ
    · exact cx_fits4 hx hy hz σ
    · exact cx_fits5 hx hy hz σ
    · exact cx_fits6 hx hy hz σ
    · exact cx_fits7 hx hy hz σ
    · exact cx_fits8 hx hy hz σ
    · exact cx_fits9 hx hy hz σ
    · exact cx_fits10 hx hy hz σ
    · exact cx_fits11 hx hy hz σ
    · exact cx_fits12 hx hy hz σ
    · exact cx_fits13 hx hy hz σ
