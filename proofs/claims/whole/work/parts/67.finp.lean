/-! ## The class's run: a statement -/
theorem cx_add1 {x y z : Int} {σ : ck_M} (hx : 0 ≤ x ∧ x < 10) (hy : 0 ≤ y ∧ y < 10) (hz : -100 ≤ z ∧ z ≤ 100) (hyn : co_nb (σ 20 y)) (hst : σ 1 9 = 0) (hb : co_nb (σ 20 y + z)) : ck_cal 2 cm_Ma_add [.inr (1, 3, 3), .inl x, .inl y, .inl z] σ (fun q σ' => q = none ∧ σ' = ck_up σ 20 x (σ 20 y + z)) := by
  refine ck_cal_of ?_
  refine ck_go_run 6 (X1 := (8, [some (.inr (1, 3, 3)), some (.inl x), some (.inl y), some (.inl z), none], [.inl z, .inl (σ 20 y), .inr (1, 3, 3)], σ)) (ps := [0 ≤ y ∧ y < ((10 : Nat) : Int)]) rfl ⟨⟨by omega, by omega⟩, trivial⟩ ?_
  refine ck_go_cal (rest := []) (ck_cal_le (by decide) (cx_sumOrStop (a := σ 20 y) (b := z) (by omega) _)) ⟨_, rfl, Or.inl ⟨_, rfl⟩, rfl, rfl, rfl, Nat.le_of_ble_eq_true rfl, fun _ => ⟨_, _, rfl⟩⟩ ?_
  rintro _ s1 ⟨rfl, e1⟩
  rw [if_pos hb] at e1
  have g1 : s1 1 9 = 0 := by
    rw [e1]
    exact hst
  refine ck_go_run 4 (X1 := (if s1 1 9 = 0 then 20 else 28, [some (.inr (1, 3, 3)), some (.inl x), some (.inl y), some (.inl z), some (.inl ((σ 20 y) + z))], [], s1)) (ps := [ck_rg (s1 1 9)]) rfl ⟨(ck_rgo (by omega) (by omega)), trivial⟩ ?_
  refine ck_go_t g1 ?_
  refine ck_go_run 5 (X1 := (28, [some (.inr (1, 3, 3)), some (.inl x), some (.inl y), some (.inl z), some (.inl ((σ 20 y) + z))], [], ck_up s1 20 x ((σ 20 y) + z))) (ps := [0 ≤ x ∧ x < ((10 : Nat) : Int)]) rfl ⟨⟨by omega, by omega⟩, trivial⟩ ?_
  exact ck_eV ⟨rfl, by rw [e1]⟩ rfl rfl rfl
theorem cx_add0 {x y z : Int} {σ : ck_M} (hx : 0 ≤ x ∧ x < 10) (hy : 0 ≤ y ∧ y < 10) (hz : -100 ≤ z ∧ z ≤ 100) (hyn : co_nb (σ 20 y)) (hst : σ 1 9 = 0) (hb : ¬ co_nb (σ 20 y + z)) : ck_cal 2 cm_Ma_add [.inr (1, 3, 3), .inl x, .inl y, .inl z] σ (fun q σ' => q = none ∧ σ' = ck_up σ 1 9 5) := by
  refine ck_cal_of ?_
  refine ck_go_run 6 (X1 := (8, [some (.inr (1, 3, 3)), some (.inl x), some (.inl y), some (.inl z), none], [.inl z, .inl (σ 20 y), .inr (1, 3, 3)], σ)) (ps := [0 ≤ y ∧ y < ((10 : Nat) : Int)]) rfl ⟨⟨by omega, by omega⟩, trivial⟩ ?_
  refine ck_go_cal (rest := []) (ck_cal_le (by decide) (cx_sumOrStop (a := σ 20 y) (b := z) (by omega) _)) ⟨_, rfl, Or.inl ⟨_, rfl⟩, rfl, rfl, rfl, Nat.le_of_ble_eq_true rfl, fun _ => ⟨_, _, rfl⟩⟩ ?_
  rintro _ s1 ⟨rfl, e1⟩
  rw [if_neg hb] at e1
  have g1 : s1 1 9 = 5 := by
    rw [e1]
    rfl
  refine ck_go_run 4 (X1 := (if s1 1 9 = 0 then 20 else 28, [some (.inr (1, 3, 3)), some (.inl x), some (.inl y), some (.inl z), some (.inl ((σ 20 y) + z))], [], s1)) (ps := [ck_rg (s1 1 9)]) rfl ⟨(ck_rgo (by omega) (by omega)), trivial⟩ ?_
  refine ck_go_f (by omega) ?_
  exact ck_eV ⟨rfl, by rw [e1]⟩ rfl rfl rfl
theorem cx_addC {x y z : Int} {σ : ck_M} (hx : 0 ≤ x ∧ x < 10) (hy : 0 ≤ y ∧ y < 10) (hz : -100 ≤ z ∧ z ≤ 100) (hyn : co_nb (σ 20 y)) (hst : σ 1 9 = 0) : ck_cal 2 cm_Ma_add [.inr (1, 3, 3), .inl x, .inl y, .inl z] σ (fun q σ' => q = none ∧ σ' = if co_nb (σ 20 y + z) then ck_up σ 20 x (σ 20 y + z) else ck_up σ 1 9 5) := by
  by_cases hb : co_nb (σ 20 y + z)
  · rw [if_pos hb]
    exact cx_add1 hx hy hz hyn hst hb
  · rw [if_neg hb]
    exact cx_add0 hx hy hz hyn hst hb
theorem cx_pp0 {x y z k c nd : Int} {σ m : ck_M} (hk : 0 ≤ k ∧ k < 64) (hcl : co_cl σ m) (hmd : co_md c m) (ht : σ 6 k = 0) (hx : 0 ≤ x ∧ x < 10) : ck_cal 4 cm_Ma_performPlain [.inr (1, 3, 3), .inl k, .inl x, .inl y, .inl z] σ (fun q σ' => q = none ∧ co_cl σ' (co_act 0 x y z nd m).2 ∧ co_cf σ σ') := by
  refine ck_cal_of ?_
  refine ck_go_run 6 (X1 := (ck_sw 0 (σ 6 k) 300 [80, 90, 101, 117, 155, 192, 228, 242, 252, 300, 300, 300, 300, 267], [some (.inr (1, 3, 3)), some (.inl k), some (.inl x), some (.inl y), some (.inl z)], [], σ)) (ps := [0 ≤ k ∧ k < ((64 : Nat) : Int), ck_rg (σ 6 k)]) rfl ⟨⟨by omega, by omega⟩, (ck_rgo (by omega) (by omega)), trivial⟩ ?_
  have hsw := ht
  · rw [hsw]
    refine ck_go_pc (q := 80) rfl ?_
    refine ck_go_run 6 (X1 := (300, [some (.inr (1, 3, 3)), some (.inl k), some (.inl x), some (.inl y), some (.inl z)], [], ck_up σ 20 x y)) (ps := [0 ≤ x ∧ x < ((10 : Nat) : Int)]) rfl ⟨⟨by omega, by omega⟩, trivial⟩ ?_
    exact ck_eV ⟨rfl, co_cl_num hcl x y, fun b j z1 z2 z3 => if_neg (by omega)⟩ rfl rfl rfl
theorem cx_pp1 {x y z k c nd : Int} {σ m : ck_M} (hk : 0 ≤ k ∧ k < 64) (hcl : co_cl σ m) (hmd : co_md c m) (ht : σ 6 k = 1) (hx : 0 ≤ x ∧ x < 10) (hy : 0 ≤ y ∧ y < 10) (hz : -100 ≤ z ∧ z ≤ 100) (hst : σ 1 9 = 0) : ck_cal 4 cm_Ma_performPlain [.inr (1, 3, 3), .inl k, .inl x, .inl y, .inl z] σ (fun q σ' => q = none ∧ co_cl σ' (co_act 1 x y z nd m).2 ∧ co_cf σ σ') := by
  refine ck_cal_of ?_
  have hyn : co_nb (σ 20 y) := by
    rw [hcl.1 y hy.1 hy.2]
    exact hmd.1 y hy.1 hy.2
  refine ck_go_run 6 (X1 := (ck_sw 0 (σ 6 k) 300 [80, 90, 101, 117, 155, 192, 228, 242, 252, 300, 300, 300, 300, 267], [some (.inr (1, 3, 3)), some (.inl k), some (.inl x), some (.inl y), some (.inl z)], [], σ)) (ps := [0 ≤ k ∧ k < ((64 : Nat) : Int), ck_rg (σ 6 k)]) rfl ⟨⟨by omega, by omega⟩, (ck_rgo (by omega) (by omega)), trivial⟩ ?_
  have hsw := ht
  · rw [hsw]
    refine ck_go_pc (q := 90) rfl ?_
    refine ck_go_run 4 (X1 := (95, [some (.inr (1, 3, 3)), some (.inl k), some (.inl x), some (.inl y), some (.inl z)], [.inl z, .inl y, .inl x, .inr (1, 3, 3)], σ)) (ps := []) rfl trivial ?_
    refine ck_go_cal (rest := []) (ck_cal_le (by decide) (cx_addC (σ := σ) hx hy hz hyn hst)) ⟨_, rfl, Or.inl ⟨_, rfl⟩, rfl, rfl, rfl, Nat.le_of_ble_eq_true rfl, fun _ => ⟨_, _, rfl⟩⟩ ?_
    rintro _ s1 ⟨rfl, e1⟩
    refine ck_go_run 1 (X1 := (300, [some (.inr (1, 3, 3)), some (.inl k), some (.inl x), some (.inl y), some (.inl z)], [], s1)) (ps := []) rfl trivial ?_
    have e : co_act 1 x y z nd m = (if co_nb (m 496 y + z) then (1, ck_up m 496 x (m 496 y + z)) else (0, co_stp m 4)) := rfl
    have ey := hcl.1 y hy.1 hy.2
    refine ck_eV ⟨rfl, ?_, ?_⟩ rfl rfl rfl
    · rw [e1, e, ← ey]
      split
      · exact co_cl_num hcl x _
      · exact co_cl_how hcl _
    · intro b j z1 z2 z3
      rw [e1]
      split
      · exact if_neg (by omega)
      · exact if_neg (by omega)
theorem cx_pp2 {x y z k c nd : Int} {σ m : ck_M} (hk : 0 ≤ k ∧ k < 64) (hcl : co_cl σ m) (hmd : co_md c m) (ht : σ 6 k = 2) (hx : 0 ≤ x ∧ x < 10) : ck_cal 4 cm_Ma_performPlain [.inr (1, 3, 3), .inl k, .inl x, .inl y, .inl z] σ (fun q σ' => q = none ∧ co_cl σ' (co_act 2 x y z nd m).2 ∧ co_cf σ σ') := by
  refine ck_cal_of ?_
  have h12 := hmd.2.2.2.2.2.2.1.1
  have e22 : σ 2 2 = m 480 12 := hcl.2.2.2.2.2.2.1
  have h21 := hcl.2.2.2.2.2.2.2.1
  have h22 : 0 ≤ σ 2 2 ∧ σ 2 2 ≤ 64 := by omega
  refine ck_go_run 6 (X1 := (ck_sw 0 (σ 6 k) 300 [80, 90, 101, 117, 155, 192, 228, 242, 252, 300, 300, 300, 300, 267], [some (.inr (1, 3, 3)), some (.inl k), some (.inl x), some (.inl y), some (.inl z)], [], σ)) (ps := [0 ≤ k ∧ k < ((64 : Nat) : Int), ck_rg (σ 6 k)]) rfl ⟨⟨by omega, by omega⟩, (ck_rgo (by omega) (by omega)), trivial⟩ ?_
  have hsw := ht
  · rw [hsw]
    refine ck_go_pc (q := 101) rfl ?_
    refine ck_go_run 5 (X1 := (110, [some (.inr (1, 3, 3)), some (.inl k), some (.inl x), some (.inl y), some (.inl z)], [.inr (2, 3, 2), .inl x, .inr (20, 0, 10)], σ)) (ps := []) rfl trivial ?_
    refine ck_go_cal (rest := [.inl x, .inr (20, 0, 10)]) (ck_cal_le (by decide) (cx_takeNext (σ := σ) h21 h22)) ⟨_, rfl, Or.inl ⟨_, rfl⟩, rfl, rfl, rfl, Nat.le_of_ble_eq_true rfl, fun _ => ⟨_, _, rfl⟩⟩ ?_
    rintro _ s1 ⟨v, rfl, hv⟩
    refine ck_go_run 2 (X1 := (300, [some (.inr (1, 3, 3)), some (.inl k), some (.inl x), some (.inl y), some (.inl z)], [], ck_up s1 20 x v)) (ps := [0 ≤ x ∧ x < ((10 : Nat) : Int)]) rfl ⟨⟨by omega, by omega⟩, trivial⟩ ?_
    rcases hv with ⟨u1, u2, u3⟩ | ⟨u1, u2, u3⟩
    · refine ck_eV ⟨rfl, ?_, ?_⟩ rfl rfl rfl
      · rw [u3, u2]
        exact co_cl_in0 hcl (by omega) x
      · rw [u3]
        exact fun b j z1 z2 z3 => if_neg (by omega)
    · refine ck_eV ⟨rfl, ?_, ?_⟩ rfl rfl rfl
      · rw [u3, u2]
        exact co_cl_in1 hcl (by omega) (by omega) x
      · rw [u3]
        exact fun b j z1 z2 z3 => (if_neg (by omega)).trans ((if_neg (by omega)).trans (if_neg (by omega)))
theorem cx_pp3 {x y z k c nd : Int} {σ m : ck_M} (hk : 0 ≤ k ∧ k < 64) (hcl : co_cl σ m) (hmd : co_md c m) (ht : σ 6 k = 3) (hx : 0 ≤ x ∧ x < 10) (hy : 0 ≤ y ∧ y < 4) (hn : σ 17 k = nd) (hn7 : 0 ≤ nd ∧ nd ≤ 7) (hlo : 0 < ck_and nd 1 → m 497 y ≠ -1) : ck_cal 4 cm_Ma_performPlain [.inr (1, 3, 3), .inl k, .inl x, .inl y, .inl z] σ (fun q σ' => q = none ∧ co_cl σ' (co_act 3 x y z nd m).2 ∧ co_cf σ σ') := by
  refine ck_cal_of ?_
  have hRm := hmd.2.2.1 y hy.1 hy.2
  have h26 := hmd.2.1
  have eR : σ 21 y = m 497 y := hcl.2.1 y hy.1 hy.2
  have hR : σ 21 y = -1 ∨ (0 ≤ σ 21 y ∧ σ 21 y < 40) := by omega
  obtain ⟨L, hL⟩ : ∃ L, (if σ 21 y = -1 then -1 else σ 22 (σ 21 y)) = L := ⟨_, rfl⟩
  have hLm : (m 497 y = -1 ∧ L = -1) ∨ (m 497 y ≠ -1 ∧ L = m 498 (m 497 y) ∧ 0 ≤ L ∧ L ≤ 40) := by
    by_cases z : σ 21 y = -1
    · rw [if_pos z] at hL
      exact Or.inl ⟨by omega, hL.symm⟩
    · rw [if_neg z, eR, hcl.2.2.1 _ (by omega) (by omega)] at hL
      have := hmd.2.2.2.1 (m 497 y) (by omega) (by omega)
      exact Or.inr ⟨by omega, hL.symm, by omega, by omega⟩
  refine ck_go_run 6 (X1 := (ck_sw 0 (σ 6 k) 300 [80, 90, 101, 117, 155, 192, 228, 242, 252, 300, 300, 300, 300, 267], [some (.inr (1, 3, 3)), some (.inl k), some (.inl x), some (.inl y), some (.inl z)], [], σ)) (ps := [0 ≤ k ∧ k < ((64 : Nat) : Int), ck_rg (σ 6 k)]) rfl ⟨⟨by omega, by omega⟩, (ck_rgo (by omega) (by omega)), trivial⟩ ?_
  have hsw := ht
  · rw [hsw]
    refine ck_go_pc (q := 117) rfl ?_
    refine ck_go_run 5 (X1 := (122, [some (.inr (1, 3, 3)), some (.inl k), some (.inl x), some (.inl y), some (.inl z)], [.inl y, .inr (1, 3, 3), .inl 1, .inl k, .inr (1, 3, 3)], σ)) (ps := []) rfl trivial ?_
    refine ck_go_cal (rest := [.inl 1, .inl k, .inr (1, 3, 3)]) (ck_cal_le (by decide) (cx_lengthOf (σ := σ) (r := y) (L := L) hy hR hL)) ⟨_, rfl, Or.inl ⟨_, rfl⟩, rfl, rfl, rfl, Nat.le_of_ble_eq_true rfl, fun _ => ⟨_, _, rfl⟩⟩ ?_
    rintro _ s' ⟨rfl, e'⟩
    rw [e']
    clear e' s'
    refine ck_go_run 2 (X1 := (if L = (-1) then 133 else 129, [some (.inr (1, 3, 3)), some (.inl k), some (.inl x), some (.inl y), some (.inl z)], [.inl 1, .inl k, .inr (1, 3, 3)], σ)) (ps := [ck_rg L, ck_rg ((-1))]) rfl ⟨(ck_rgo (by omega) (by omega)), (ck_rgo (by omega) (by omega)), trivial⟩ ?_
    refine ck_go_ite (fun h1 => ?_) (fun h1 => ?_)
    · refine ck_go_run 2 (X1 := (135, [some (.inr (1, 3, 3)), some (.inl k), some (.inl x), some (.inl y), some (.inl z)], [.inl 2, .inl 0, .inl 1, .inl k, .inr (1, 3, 3)], σ)) (ps := []) rfl trivial ?_
      refine ck_go_cal (rest := []) (ck_cal_le (by decide) (cx_passes (σ := σ) hk (by decide) (by decide) hn hn7 (fun z => absurd (hlo z) (by omega)))) ⟨_, rfl, Or.inl ⟨_, rfl⟩, rfl, rfl, rfl, Nat.le_of_ble_eq_true rfl, fun _ => ⟨_, _, rfl⟩⟩ ?_
      rintro _ s1 ⟨rfl, e1⟩
      rw [if_pos rfl] at e1
      have c1 : co_cl s1 (co_stp (co_cnt nd 1 m) 1) := by
        rw [e1]
        exact co_cl_how (co_cl_cnt hcl nd 1) _
      have g1 : co_cf σ s1 := by
        intro b j z1 z2 z3
        rw [e1]
        exact (if_neg (by omega)).trans (co_ccn_o _ _ (by omega))
      refine ck_go_run 1 (X1 := (if 0 = 0 then 300 else 141, [some (.inr (1, 3, 3)), some (.inl k), some (.inl x), some (.inl y), some (.inl z)], [], s1)) (ps := [ck_rg 0]) rfl ⟨(ck_rgo (by omega) (by omega)), trivial⟩ ?_
      refine ck_go_t (by decide) ?_
      have e : co_act 3 x y z nd m = (if m 497 y = -1 then (0, co_stp (co_cnt nd 1 m) 1) else (1, ck_up (co_cnt nd 1 m) 496 x (m 498 (m 497 y)))) := rfl
      refine ck_eV ⟨rfl, ?_, g1⟩ rfl rfl rfl
      rw [e, if_pos (by omega)]
      exact c1
    · refine ck_go_run 3 (X1 := (135, [some (.inr (1, 3, 3)), some (.inl k), some (.inl x), some (.inl y), some (.inl z)], [.inl 2, .inl 1, .inl 1, .inl k, .inr (1, 3, 3)], σ)) (ps := []) rfl trivial ?_
      refine ck_go_cal (rest := []) (ck_cal_le (by decide) (cx_passes (σ := σ) hk (by decide) (by decide) hn hn7 (fun _ => rfl))) ⟨_, rfl, Or.inl ⟨_, rfl⟩, rfl, rfl, rfl, Nat.le_of_ble_eq_true rfl, fun _ => ⟨_, _, rfl⟩⟩ ?_
      rintro _ s1 ⟨rfl, e1⟩
      rw [if_neg (by decide)] at e1
      have c1 : co_cl s1 (co_cnt nd 1 m) := by
        rw [e1]
        exact co_cl_cnt hcl nd 1
      have g1 : co_cf σ s1 := by
        intro b j z1 z2 z3
        rw [e1]
        exact co_ccn_o _ _ (by omega)
      have f1 : s1 21 y = σ 21 y := by
        rw [e1]
        exact co_ccn_o _ _ (by omega)
      have f2 : s1 22 (σ 21 y) = σ 22 (σ 21 y) := by
        rw [e1]
        exact co_ccn_o _ _ (by omega)
      refine ck_go_run 1 (X1 := (if 1 = 0 then 300 else 141, [some (.inr (1, 3, 3)), some (.inl k), some (.inl x), some (.inl y), some (.inl z)], [], s1)) (ps := [ck_rg 1]) rfl ⟨(ck_rgo (by omega) (by omega)), trivial⟩ ?_
      refine ck_go_f (by decide) ?_
      refine ck_go_run 5 (X1 := (148, [some (.inr (1, 3, 3)), some (.inl k), some (.inl x), some (.inl y), some (.inl z)], [.inl y, .inr (1, 3, 3), .inl x, .inr (20, 0, 10)], s1)) (ps := []) rfl trivial ?_
      refine ck_go_cal (rest := [.inl x, .inr (20, 0, 10)]) (ck_cal_le (by decide) (cx_lengthOf (σ := s1) (r := y) (L := L) hy (by rw [f1]; exact hR) (by rw [f1, f2]; exact hL))) ⟨_, rfl, Or.inl ⟨_, rfl⟩, rfl, rfl, rfl, Nat.le_of_ble_eq_true rfl, fun _ => ⟨_, _, rfl⟩⟩ ?_
      rintro _ s' ⟨rfl, e'⟩
      rw [e']
      clear e' s'
      refine ck_go_run 2 (X1 := (300, [some (.inr (1, 3, 3)), some (.inl k), some (.inl x), some (.inl y), some (.inl z)], [], ck_up s1 20 x L)) (ps := [0 ≤ x ∧ x < ((10 : Nat) : Int)]) rfl ⟨⟨by omega, by omega⟩, trivial⟩ ?_
      have e : co_act 3 x y z nd m = (if m 497 y = -1 then (0, co_stp (co_cnt nd 1 m) 1) else (1, ck_up (co_cnt nd 1 m) 496 x (m 498 (m 497 y)))) := rfl
      refine ck_eV ⟨rfl, ?_, ?_⟩ rfl rfl rfl
      · rw [e, if_neg (by omega), show L = m 498 (m 497 y) by omega]
        exact co_cl_num c1 x _
      · exact co_cf_tr g1 (fun b j z1 z2 z3 => if_neg (by omega))
theorem cx_pp4 {x y z k c nd : Int} {σ m : ck_M} (hk : 0 ≤ k ∧ k < 64) (hcl : co_cl σ m) (hmd : co_md c m) (ht : σ 6 k = 4) (hx : 0 ≤ x ∧ x < 10) (hy : 0 ≤ y ∧ y < 4) (hz : 0 ≤ z ∧ z < 10) (hn : σ 17 k = nd) (hn7 : 0 ≤ nd ∧ nd ≤ 7) (hlo : co_lc nd y (m 496 z) m) : ck_cal 4 cm_Ma_performPlain [.inr (1, 3, 3), .inl k, .inl x, .inl y, .inl z] σ (fun q σ' => q = none ∧ co_cl σ' (co_act 4 x y z nd m).2 ∧ co_cf σ σ') := by
  refine ck_cal_of ?_
  have ei : σ 20 z = m 496 z := hcl.1 z hz.1 hz.2
  refine ck_go_run 6 (X1 := (ck_sw 0 (σ 6 k) 300 [80, 90, 101, 117, 155, 192, 228, 242, 252, 300, 300, 300, 300, 267], [some (.inr (1, 3, 3)), some (.inl k), some (.inl x), some (.inl y), some (.inl z)], [], σ)) (ps := [0 ≤ k ∧ k < ((64 : Nat) : Int), ck_rg (σ 6 k)]) rfl ⟨⟨by omega, by omega⟩, (ck_rgo (by omega) (by omega)), trivial⟩ ?_
  have hsw := ht
  · rw [hsw]
    refine ck_go_pc (q := 155) rfl ?_
    refine ck_go_run 7 (X1 := (165, [some (.inr (1, 3, 3)), some (.inl k), some (.inl x), some (.inl y), some (.inl z)], [.inl (σ 20 z), .inl y, .inl k, .inr (1, 3, 3)], σ)) (ps := [0 ≤ z ∧ z < ((10 : Nat) : Int)]) rfl ⟨⟨by omega, by omega⟩, trivial⟩ ?_
    refine ck_go_cal (rest := []) (ck_cal_le (by decide) (cx_passesAll (σ := σ) (i := σ 20 z) hk hcl hmd hy (by rw [ei]; exact hmd.1 z hz.1 hz.2) hn hn7 (by rw [ei]; exact hlo) rfl)) ⟨_, rfl, Or.inl ⟨_, rfl⟩, rfl, rfl, rfl, Nat.le_of_ble_eq_true rfl, fun _ => ⟨_, _, rfl⟩⟩ ?_
    rintro _ s1 ⟨v, rfl, hv, hv01, c1, g1⟩
    rw [ei] at hv c1
    refine ck_go_run 1 (X1 := (if v = 0 then 300 else 171, [some (.inr (1, 3, 3)), some (.inl k), some (.inl x), some (.inl y), some (.inl z)], [], s1)) (ps := [ck_rg v]) rfl ⟨(ck_rgo (by omega) (by omega)), trivial⟩ ?_
    refine ck_go_ite (fun h1 => ?_) (fun h1 => ?_)
    · have e : co_act 4 x y z nd m = (if (co_chs nd y (m 496 z) m).1 = 0 then co_chs nd y (m 496 z) m else (1, ck_up (co_chs nd y (m 496 z) m).2 496 x (m 499 (40 * m 497 y + m 496 z)))) := rfl
      refine ck_eV ⟨rfl, ?_, g1⟩ rfl rfl rfl
      rw [e, if_pos (by omega)]
      exact c1
    · obtain ⟨q1, q2, q3⟩ := co_chs_ok hmd (nd := nd) (r := y) (i := m 496 z) hy.1 hy.2
      obtain ⟨q4, q5, q6, q7, q8⟩ := q3.resolve_right (fun z => absurd z.1 (by omega))
      have hR := hmd.2.2.1 y hy.1 hy.2
      have h26 := hmd.2.1
      have hL := hmd.2.2.2.1 (m 497 y) (by omega) (by omega)
      have f0 : s1 20 z = m 496 z := (c1.1 z hz.1 hz.2).trans (q2 _ _ (by omega))
      have f1 : s1 21 y = m 497 y := (c1.2.1 y hy.1 hy.2).trans (q2 _ _ (by omega))
      have f2 : s1 22 (m 497 y) = m 498 (m 497 y) := (c1.2.2.1 _ (by omega) (by omega)).trans (q2 _ _ (by omega))
      have f3 : s1 23 (40 * m 497 y + m 496 z) = m 499 (40 * m 497 y + m 496 z) := (c1.2.2.2.1 _ (by omega) (by omega)).trans (q2 _ _ (by omega))
      refine ck_go_run 9 (X1 := (185, [some (.inr (1, 3, 3)), some (.inl k), some (.inl x), some (.inl y), some (.inl z)], [.inl (s1 20 z), .inl y, .inr (1, 3, 3), .inl x, .inr (20, 0, 10)], s1)) (ps := [0 ≤ z ∧ z < ((10 : Nat) : Int)]) rfl ⟨⟨by omega, by omega⟩, trivial⟩ ?_
      refine ck_go_cal (rest := [.inl x, .inr (20, 0, 10)]) (ck_cal_le (by decide) (cx_placeOf (σ := s1) (r := y) (i := s1 20 z) (L := m 498 (m 497 y)) hy (by rw [f1]; omega) (by rw [f1, if_neg q6, f2]) (by omega) (by rw [f0]; exact ck_rgo (by omega) (by omega)))) ⟨_, rfl, Or.inl ⟨_, rfl⟩, rfl, rfl, rfl, Nat.le_of_ble_eq_true rfl, fun _ => ⟨_, _, rfl⟩⟩ ?_
      rintro _ s' ⟨rfl, e'⟩
      rw [e']
      clear e' s'
      refine ck_go_run 2 (X1 := (300, [some (.inr (1, 3, 3)), some (.inl k), some (.inl x), some (.inl y), some (.inl z)], [], ck_up s1 20 x ((if 0 ≤ s1 20 z ∧ s1 20 z < m 498 (m 497 y) then s1 23 (40 * s1 21 y + s1 20 z) else 1000000000)))) (ps := [0 ≤ x ∧ x < ((10 : Nat) : Int)]) rfl ⟨⟨by omega, by omega⟩, trivial⟩ ?_
      have e : co_act 4 x y z nd m = (if (co_chs nd y (m 496 z) m).1 = 0 then co_chs nd y (m 496 z) m else (1, ck_up (co_chs nd y (m 496 z) m).2 496 x (m 499 (40 * m 497 y + m 496 z)))) := rfl
      refine ck_eV ⟨rfl, ?_, ?_⟩ rfl rfl rfl
      · rw [f0, f1, if_pos ⟨q7, q8⟩, f3, e, if_neg (by omega)]
        exact co_cl_num c1 x _
      · exact co_cf_tr g1 (fun b j z1 z2 z3 => if_neg (by omega))
theorem cx_pp5 {x y z k c nd : Int} {σ m : ck_M} (hk : 0 ≤ k ∧ k < 64) (hcl : co_cl σ m) (hmd : co_md c m) (ht : σ 6 k = 5) (hx : 0 ≤ x ∧ x < 4) (hy : 0 ≤ y ∧ y < 10) (hz : 0 ≤ z ∧ z < 10) (hn : σ 17 k = nd) (hn7 : 0 ≤ nd ∧ nd ≤ 7) (hlo : co_lc nd x (m 496 y) m) : ck_cal 4 cm_Ma_performPlain [.inr (1, 3, 3), .inl k, .inl x, .inl y, .inl z] σ (fun q σ' => q = none ∧ co_cl σ' (co_act 5 x y z nd m).2 ∧ co_cf σ σ') := by
  refine ck_cal_of ?_
  have ei : σ 20 y = m 496 y := hcl.1 y hy.1 hy.2
  refine ck_go_run 6 (X1 := (ck_sw 0 (σ 6 k) 300 [80, 90, 101, 117, 155, 192, 228, 242, 252, 300, 300, 300, 300, 267], [some (.inr (1, 3, 3)), some (.inl k), some (.inl x), some (.inl y), some (.inl z)], [], σ)) (ps := [0 ≤ k ∧ k < ((64 : Nat) : Int), ck_rg (σ 6 k)]) rfl ⟨⟨by omega, by omega⟩, (ck_rgo (by omega) (by omega)), trivial⟩ ?_
  have hsw := ht
  · rw [hsw]
    refine ck_go_pc (q := 192) rfl ?_
    refine ck_go_run 7 (X1 := (201, [some (.inr (1, 3, 3)), some (.inl k), some (.inl x), some (.inl y), some (.inl z)], [.inl (σ 20 y), .inl x, .inl k, .inr (1, 3, 3)], σ)) (ps := [0 ≤ y ∧ y < ((10 : Nat) : Int)]) rfl ⟨⟨by omega, by omega⟩, trivial⟩ ?_
    refine ck_go_cal (rest := []) (ck_cal_le (by decide) (cx_passesAll (σ := σ) (i := σ 20 y) hk hcl hmd hx (by rw [ei]; exact hmd.1 y hy.1 hy.2) hn hn7 (by rw [ei]; exact hlo) rfl)) ⟨_, rfl, Or.inl ⟨_, rfl⟩, rfl, rfl, rfl, Nat.le_of_ble_eq_true rfl, fun _ => ⟨_, _, rfl⟩⟩ ?_
    rintro _ s1 ⟨v, rfl, hv, hv01, c1, g1⟩
    rw [ei] at hv c1
    refine ck_go_run 1 (X1 := (if v = 0 then 300 else 207, [some (.inr (1, 3, 3)), some (.inl k), some (.inl x), some (.inl y), some (.inl z)], [], s1)) (ps := [ck_rg v]) rfl ⟨(ck_rgo (by omega) (by omega)), trivial⟩ ?_
    refine ck_go_ite (fun h1 => ?_) (fun h1 => ?_)
    · have e : co_act 5 x y z nd m = (if (co_chs nd x (m 496 y) m).1 = 0 then co_chs nd x (m 496 y) m else (1, ck_up (co_chs nd x (m 496 y) m).2 499 (40 * m 497 x + m 496 y) (m 496 z))) := rfl
      refine ck_eV ⟨rfl, ?_, g1⟩ rfl rfl rfl
      rw [e, if_pos (by omega)]
      exact c1
    · obtain ⟨q1, q2, q3⟩ := co_chs_ok hmd (nd := nd) (r := x) (i := m 496 y) hx.1 hx.2
      obtain ⟨q4, q5, q6, q7, q8⟩ := q3.resolve_right (fun z => absurd z.1 (by omega))
      have hR := hmd.2.2.1 x hx.1 hx.2
      have h26 := hmd.2.1
      have hL := hmd.2.2.2.1 (m 497 x) (by omega) (by omega)
      have f0 : s1 20 y = m 496 y := (c1.1 y hy.1 hy.2).trans (q2 _ _ (by omega))
      have f1 : s1 21 x = m 497 x := (c1.2.1 x hx.1 hx.2).trans (q2 _ _ (by omega))
      have f2 : s1 22 (m 497 x) = m 498 (m 497 x) := (c1.2.2.1 _ (by omega) (by omega)).trans (q2 _ _ (by omega))
      have f3 : s1 20 z = m 496 z := (c1.1 z hz.1 hz.2).trans (q2 _ _ (by omega))
      refine ck_go_run 10 (X1 := (222, [some (.inr (1, 3, 3)), some (.inl k), some (.inl x), some (.inl y), some (.inl z)], [.inl (s1 20 z), .inl (s1 20 y), .inl x, .inr (1, 3, 3)], s1)) (ps := [0 ≤ y ∧ y < ((10 : Nat) : Int), 0 ≤ z ∧ z < ((10 : Nat) : Int)]) rfl ⟨⟨by omega, by omega⟩, ⟨by omega, by omega⟩, trivial⟩ ?_
      refine ck_go_cal (rest := []) (ck_cal_le (by decide) (cx_store (σ := s1) (r := x) (i := s1 20 y) (v := s1 20 z) (L := m 498 (m 497 x)) hx (by rw [f1]; omega) (by rw [f1, if_neg q6, f2]) (by omega) (by rw [f0]; exact ck_rgo (by omega) (by omega)))) ⟨_, rfl, Or.inl ⟨_, rfl⟩, rfl, rfl, rfl, Nat.le_of_ble_eq_true rfl, fun _ => ⟨_, _, rfl⟩⟩ ?_
      rintro _ s2 ⟨rfl, e2⟩
      refine ck_go_run 1 (X1 := (300, [some (.inr (1, 3, 3)), some (.inl k), some (.inl x), some (.inl y), some (.inl z)], [], s2)) (ps := []) rfl trivial ?_
      have e : co_act 5 x y z nd m = (if (co_chs nd x (m 496 y) m).1 = 0 then co_chs nd x (m 496 y) m else (1, ck_up (co_chs nd x (m 496 y) m).2 499 (40 * m 497 x + m 496 y) (m 496 z))) := rfl
      refine ck_eV ⟨rfl, ?_, ?_⟩ rfl rfl rfl
      · rw [e2, f0, f1, if_pos ⟨q7, q8⟩, f3, e, if_neg (by omega)]
        exact co_cl_plc c1 _ _
      · rw [e2, f0, f1, if_pos ⟨q7, q8⟩]
        exact co_cf_tr g1 (fun b j z1 z2 z3 => if_neg (by omega))
theorem cx_pp6 {x y z k c nd : Int} {σ m : ck_M} (hk : 0 ≤ k ∧ k < 64) (hcl : co_cl σ m) (hmd : co_md c m) (ht : σ 6 k = 6) (hx : 0 ≤ x ∧ x < 4) (hy : 0 ≤ y ∧ y < 10) : ck_cal 4 cm_Ma_performPlain [.inr (1, 3, 3), .inl k, .inl x, .inl y, .inl z] σ (fun q σ' => q = none ∧ co_cl σ' (co_act 6 x y z nd m).2 ∧ co_cf σ σ') := by
  refine ck_cal_of ?_
  have ei : σ 20 y = m 496 y := hcl.1 y hy.1 hy.2
  refine ck_go_run 6 (X1 := (ck_sw 0 (σ 6 k) 300 [80, 90, 101, 117, 155, 192, 228, 242, 252, 300, 300, 300, 300, 267], [some (.inr (1, 3, 3)), some (.inl k), some (.inl x), some (.inl y), some (.inl z)], [], σ)) (ps := [0 ≤ k ∧ k < ((64 : Nat) : Int), ck_rg (σ 6 k)]) rfl ⟨⟨by omega, by omega⟩, (ck_rgo (by omega) (by omega)), trivial⟩ ?_
  have hsw := ht
  · rw [hsw]
    refine ck_go_pc (q := 228) rfl ?_
    refine ck_go_run 6 (X1 := (236, [some (.inr (1, 3, 3)), some (.inl k), some (.inl x), some (.inl y), some (.inl z)], [.inl (σ 20 y), .inl x, .inr (1, 3, 3)], σ)) (ps := [0 ≤ y ∧ y < ((10 : Nat) : Int)]) rfl ⟨⟨by omega, by omega⟩, trivial⟩ ?_
    refine ck_go_cal (rest := []) (ck_cal_le (by decide) (cx_makeArray (σ := σ) (l := σ 20 y) hx (by rw [ei]; exact hmd.1 y hy.1 hy.2) hcl hmd)) ⟨_, rfl, Or.inl ⟨_, rfl⟩, rfl, rfl, rfl, Nat.le_of_ble_eq_true rfl, fun _ => ⟨_, _, rfl⟩⟩ ?_
    rintro _ s1 ⟨rfl, c1, g1⟩
    refine ck_go_run 1 (X1 := (300, [some (.inr (1, 3, 3)), some (.inl k), some (.inl x), some (.inl y), some (.inl z)], [], s1)) (ps := []) rfl trivial ?_
    refine ck_eV ⟨rfl, ?_, g1⟩ rfl rfl rfl
    rw [ei] at c1
    exact c1
theorem cx_pp7 {x y z k c nd : Int} {σ m : ck_M} (hk : 0 ≤ k ∧ k < 64) (hcl : co_cl σ m) (hmd : co_md c m) (ht : σ 6 k = 7) (hx : 0 ≤ x ∧ x < 4) : ck_cal 4 cm_Ma_performPlain [.inr (1, 3, 3), .inl k, .inl x, .inl y, .inl z] σ (fun q σ' => q = none ∧ co_cl σ' (co_act 7 x y z nd m).2 ∧ co_cf σ σ') := by
  refine ck_cal_of ?_
  refine ck_go_run 6 (X1 := (ck_sw 0 (σ 6 k) 300 [80, 90, 101, 117, 155, 192, 228, 242, 252, 300, 300, 300, 300, 267], [some (.inr (1, 3, 3)), some (.inl k), some (.inl x), some (.inl y), some (.inl z)], [], σ)) (ps := [0 ≤ k ∧ k < ((64 : Nat) : Int), ck_rg (σ 6 k)]) rfl ⟨⟨by omega, by omega⟩, (ck_rgo (by omega) (by omega)), trivial⟩ ?_
  have hsw := ht
  · rw [hsw]
    refine ck_go_pc (q := 242) rfl ?_
    refine ck_go_run 6 (X1 := (300, [some (.inr (1, 3, 3)), some (.inl k), some (.inl x), some (.inl y), some (.inl z)], [], ck_up σ 21 x ((-1)))) (ps := [0 ≤ x ∧ x < ((4 : Nat) : Int)]) rfl ⟨⟨by omega, by omega⟩, trivial⟩ ?_
    exact ck_eV ⟨rfl, co_cl_arr hcl x (-1), fun b j z1 z2 z3 => if_neg (by omega)⟩ rfl rfl rfl
theorem cx_pp8 {x y z k c nd : Int} {σ m : ck_M} (hk : 0 ≤ k ∧ k < 64) (hcl : co_cl σ m) (hmd : co_md c m) (ht : σ 6 k = 8) (hx : 0 ≤ x ∧ x < 4) (hy : 0 ≤ y ∧ y < 4) : ck_cal 4 cm_Ma_performPlain [.inr (1, 3, 3), .inl k, .inl x, .inl y, .inl z] σ (fun q σ' => q = none ∧ co_cl σ' (co_act 8 x y z nd m).2 ∧ co_cf σ σ') := by
  refine ck_cal_of ?_
  refine ck_go_run 6 (X1 := (ck_sw 0 (σ 6 k) 300 [80, 90, 101, 117, 155, 192, 228, 242, 252, 300, 300, 300, 300, 267], [some (.inr (1, 3, 3)), some (.inl k), some (.inl x), some (.inl y), some (.inl z)], [], σ)) (ps := [0 ≤ k ∧ k < ((64 : Nat) : Int), ck_rg (σ 6 k)]) rfl ⟨⟨by omega, by omega⟩, (ck_rgo (by omega) (by omega)), trivial⟩ ?_
  have hsw := ht
  · rw [hsw]
    refine ck_go_pc (q := 252) rfl ?_
    refine ck_go_run 9 (X1 := (300, [some (.inr (1, 3, 3)), some (.inl k), some (.inl x), some (.inl y), some (.inl z)], [], ck_up σ 21 x (σ 21 y))) (ps := [0 ≤ y ∧ y < ((4 : Nat) : Int), 0 ≤ x ∧ x < ((4 : Nat) : Int)]) rfl ⟨⟨by omega, by omega⟩, ⟨by omega, by omega⟩, trivial⟩ ?_
    refine ck_eV ⟨rfl, ?_, fun b j z1 z2 z3 => if_neg (by omega)⟩ rfl rfl rfl
    rw [hcl.2.1 y hy.1 hy.2]
    exact co_cl_arr hcl x (m 497 y)
theorem cx_pp13 {x y z k c nd : Int} {σ m : ck_M} (hk : 0 ≤ k ∧ k < 64) (hcl : co_cl σ m) (hmd : co_md c m) (ht : σ 6 k = 13) (hx : 0 ≤ x ∧ x < 10) (hc : c ≤ 1000000000) : ck_cal 4 cm_Ma_performPlain [.inr (1, 3, 3), .inl k, .inl x, .inl y, .inl z] σ (fun q σ' => q = none ∧ co_cl σ' (co_act 13 x y z nd m).2 ∧ co_cf σ σ') := by
  refine ck_cal_of ?_
  have h25 := hmd.2.2.2.2.2.2.2.2.2.2
  have e14 : σ 1 14 = m 480 25 := hcl.2.2.2.2.2.1.2.2.2.2.2.1
  refine ck_go_run 6 (X1 := (ck_sw 0 (σ 6 k) 300 [80, 90, 101, 117, 155, 192, 228, 242, 252, 300, 300, 300, 300, 267], [some (.inr (1, 3, 3)), some (.inl k), some (.inl x), some (.inl y), some (.inl z)], [], σ)) (ps := [0 ≤ k ∧ k < ((64 : Nat) : Int), ck_rg (σ 6 k)]) rfl ⟨⟨by omega, by omega⟩, (ck_rgo (by omega) (by omega)), trivial⟩ ?_
  have hsw := ht
  · rw [hsw]
    refine ck_go_pc (q := 267) rfl ?_
    refine ck_go_run 5 (X1 := (277, [some (.inr (1, 3, 3)), some (.inl k), some (.inl x), some (.inl y), some (.inl z)], [.inl 16, .inl (σ 1 14), .inr (24, 0, 16)], σ)) (ps := []) rfl trivial ?_
    refine ck_go_cal (rest := [.inr (24, 0, 16)]) (ck_cal_le (by decide) (cx_floorMod (x := σ 1 14) (by omega) _)) ⟨_, rfl, Or.inr ⟨_, rfl⟩, rfl, rfl, rfl, Nat.le_of_ble_eq_true rfl, fun h => absurd h (by decide)⟩ ?_
    rintro _ s' ⟨rfl, e'⟩
    rw [e']
    clear e' s'
    refine ck_go_run 12 (X1 := (300, [some (.inr (1, 3, 3)), some (.inl k), some (.inl x), some (.inl y), some (.inl z)], [], ck_up (ck_up σ 24 (((σ 1 14) % 16)) (σ 20 x)) 1 14 ((σ 1 14) + 1))) (ps := [0 ≤ x ∧ x < ((10 : Nat) : Int), 0 ≤ ((σ 1 14) % 16) ∧ ((σ 1 14) % 16) < ((16 : Nat) : Int)]) rfl ⟨⟨by omega, by omega⟩, ⟨by omega, by omega⟩, trivial⟩ ?_
    refine ck_eV ⟨rfl, ?_, ?_⟩ rfl rfl rfl
    · rw [e14, hcl.1 x hx.1 hx.2]
      exact co_cl_ot (co_cl_kpt hcl _ _) _
    · exact fun b j z1 z2 z3 => (if_neg (by omega)).trans (if_neg (by omega))
theorem cx_pp {t x y z k c nd : Int} {σ m : ck_M} (hk : 0 ≤ k ∧ k < 64) (hcl : co_cl σ m) (hmd : co_md c m) (hc : c ≤ 1000000000) (ht : σ 6 k = t) (hO : ck_sOk t x y z) (hp : t ≠ 9 ∧ t ≠ 10 ∧ t ≠ 11 ∧ t ≠ 12) (hst : σ 1 9 = 0) (hn : σ 17 k = nd) (hn7 : 0 ≤ nd ∧ nd ≤ 7) (hlo : co_lo t x y z nd m) : ck_cal 4 cm_Ma_performPlain [.inr (1, 3, 3), .inl k, .inl x, .inl y, .inl z] σ (fun q σ' => q = none ∧ co_cl σ' (co_act t x y z nd m).2 ∧ co_cf σ σ') := by
  unfold ck_sOk at hO
  have h2 : t = 0 ∨ t = 1 ∨ t = 2 ∨ t = 3 ∨ t = 4 ∨ t = 5 ∨ t = 6 ∨ t = 7 ∨ t = 8 ∨ t = 13 := by omega
  rcases h2 with rfl | rfl | rfl | rfl | rfl | rfl | rfl | rfl | rfl | rfl
  · exact cx_pp0 hk hcl hmd ht (by omega)
  · exact cx_pp1 hk hcl hmd ht (by omega) (by omega) (by omega) hst
  · exact cx_pp2 hk hcl hmd ht (by omega)
  · exact cx_pp3 hk hcl hmd ht (by omega) (by omega) hn hn7 (hlo.1 rfl)
  · exact cx_pp4 hk hcl hmd ht (by omega) (by omega) (by omega) hn hn7 (hlo.2.1 rfl)
  · exact cx_pp5 hk hcl hmd ht (by omega) (by omega) (by omega) hn hn7 (hlo.2.2 rfl)
  · exact cx_pp6 hk hcl hmd ht (by omega) (by omega)
  · exact cx_pp7 hk hcl hmd ht (by omega)
  · exact cx_pp8 hk hcl hmd ht (by omega) (by omega)
  · exact cx_pp13 hk hcl hmd ht (by omega) hc
