/-! ## The class's search: before[k] is the Facts at 25 + 7 k, the way the one at 473 -/
abbrev ck_B (σ : ck_M) (k : Int) : ck_D := ck_rd σ (25 + 7 * k)
def ck_dEff (t x y z k : Int) (f : ck_D) : ck_D := if t = 0 then ck_dSet x y f else if t = 1 then ck_dSum x y z f else if t = 2 then ck_dAny x f else if t = 3 then ck_dLen x y f else if t = 4 then ck_dAny x (ck_dUse y z f) else if t = 5 then ck_dUse x y f else if t = 6 then ck_dNew x y k f else if t = 7 then ck_dNull x f else if t = 8 then ck_dLet x y f else f
/-- the way that comes to an ELSE at e, else the one on which h doesn't hold -/
def ck_oth (σ : ck_M) (h e : Int) : ck_D := if e = -1 then ck_dNot (σ 7 h) (σ 8 h) (σ 9 h) (ck_B σ h) else ck_B σ e
/-- what comes from statement k to the next -/
def ck_fl (σ : ck_M) (k : Int) : ck_D := if σ 6 k = 9 ∨ σ 6 k = 12 then ck_dBel (σ 7 k) (σ 8 k) (σ 9 k) (ck_B σ k) else if σ 6 k = 10 then ck_oth σ (σ 10 k) (-1) else if σ 6 k = 11 then (if σ 6 (σ 10 k) = 9 then ck_dJw (ck_B σ k) k (ck_oth σ (σ 10 k) (σ 11 (σ 10 k))) else ck_oth σ (σ 10 k) (σ 11 (σ 10 k))) else ck_dEff (σ 6 k) (σ 7 k) (σ 8 k) (σ 9 k) k (ck_B σ k)
theorem cx_takeOtherWay {h e : Int} (hh : 0 ≤ h ∧ h < 64) (he : -1 ≤ e ∧ e < 64) {σ : ck_M} (hx : 0 ≤ σ 7 h ∧ σ 7 h < 10) (hy : 0 ≤ σ 8 h ∧ σ 8 h ≤ 10) (hz : -100 ≤ σ 9 h ∧ σ 9 h ≤ 100) (hBh : ck_fb (ck_B σ h)) (hBe : e ≠ -1 → ck_fb (ck_B σ e)) : ck_cal 3 cm_Fi_takeOtherWay [.inr (4, 3, 1), .inl h, .inl e] σ (fun q σ' => q = none ∧ ck_f6 σ σ' 473 ∧ ck_rd σ' 473 = ck_oth σ h e) := by
  refine ck_cal_of ?_
  refine ck_go_run 3 (X1 := (if e = (-1) then 19 else 5, [some (.inr (4, 3, 1)), some (.inl h), some (.inl e)], [], σ)) (ps := [ck_rg e, ck_rg ((-1))]) rfl ⟨(ck_rgo (by omega) (by omega)), (ck_rgo (by omega) (by omega)), trivial⟩ ?_
  refine ck_go_ite (fun h1 => ?_) (fun h1 => ?_)
  · refine ck_go_run 6 (X1 := (29, [some (.inr (4, 3, 1)), some (.inl h), some (.inl e)], [.inr (25 + 7 * h, 3, 0), .inr (473, 3, 0)], σ)) (ps := [0 ≤ h ∧ h < ((64 : Nat) : Int)]) rfl ⟨⟨by omega, by omega⟩, trivial⟩ ?_
    refine ck_go_cal (rest := []) (ck_cal_le (by decide) (cx_copy (σ := σ) (c := 473) (e := 25 + 7 * h) (by omega) rfl hBh)) ⟨_, rfl, Or.inl ⟨_, rfl⟩, rfl, rfl, rfl, Nat.le_of_ble_eq_true rfl, fun _ => ⟨_, _, rfl⟩⟩ ?_
    rintro _ s1 ⟨rfl, g1, r1⟩
    try dsimp only at g1 r1
    refine ck_go_run 17 (X1 := (63, [some (.inr (4, 3, 1)), some (.inl h), some (.inl e)], [.inl (s1 9 h), .inl (s1 8 h), .inl (s1 7 h), .inr (473, 3, 0)], s1)) (ps := [0 ≤ h ∧ h < ((64 : Nat) : Int), 0 ≤ h ∧ h < ((64 : Nat) : Int), 0 ≤ h ∧ h < ((64 : Nat) : Int)]) rfl ⟨⟨by omega, by omega⟩, ⟨by omega, by omega⟩, ⟨by omega, by omega⟩, trivial⟩ ?_
    refine ck_go_cal (rest := []) (ck_cal_le (by decide) (cx_assumeNotBelow (σ := s1) (c := 473) (x := s1 7 h) (y := s1 8 h) (z := s1 9 h) (by rw [g1 _ _ (by decide)]; omega) (by rw [g1 _ _ (by decide)]; omega) (by rw [g1 _ _ (by decide)]; omega) r1 hBh)) ⟨_, rfl, Or.inl ⟨_, rfl⟩, rfl, rfl, rfl, Nat.le_of_ble_eq_true rfl, fun _ => ⟨_, _, rfl⟩⟩ ?_
    rintro _ s2 ⟨rfl, g2, r2⟩
    try dsimp only at g2 r2
    exact ck_eV ⟨rfl, ck_f6_tr g1 g2, by rw [r2, g1 _ _ (by decide), g1 _ _ (by decide), g1 _ _ (by decide)]; unfold ck_oth; rw [if_pos h1]⟩ rfl rfl rfl
  · refine ck_go_run 6 (X1 := (15, [some (.inr (4, 3, 1)), some (.inl h), some (.inl e)], [.inr (25 + 7 * e, 3, 0), .inr (473, 3, 0)], σ)) (ps := [0 ≤ e ∧ e < ((64 : Nat) : Int)]) rfl ⟨⟨by omega, by omega⟩, trivial⟩ ?_
    refine ck_go_cal (rest := []) (ck_cal_le (by decide) (cx_copy (σ := σ) (c := 473) (e := 25 + 7 * e) (by omega) rfl (hBe h1))) ⟨_, rfl, Or.inl ⟨_, rfl⟩, rfl, rfl, rfl, Nat.le_of_ble_eq_true rfl, fun _ => ⟨_, _, rfl⟩⟩ ?_
    rintro _ s3 ⟨rfl, g3, r3⟩
    try dsimp only at g3 r3
    exact ck_eV ⟨rfl, g3, by rw [r3]; unfold ck_oth; rw [if_neg h1]⟩ rfl rfl rfl
set_option maxHeartbeats 4000000 in
theorem cx_follow0 {k : Int} (hk : 0 ≤ k ∧ k < 64) {σ : ck_M} (hO : ck_sOk (σ 6 k) (σ 7 k) (σ 8 k) (σ 9 k)) (hBk : ck_fb (ck_B σ k)) (hT : σ 6 k = 0) : ck_cal 4 cm_Fi_follow [.inr (4, 3, 1), .inl k] σ (fun q σ' => q = none ∧ ck_f6 σ σ' 473 ∧ ck_rd σ' 473 = ck_fl σ k) := by
  refine ck_cal_of ?_
  refine ck_go_run 24 (X1 := (41, [some (.inr (4, 3, 1)), some (.inl k), some (.inl (σ 7 k)), some (.inl (σ 8 k)), some (.inl (σ 9 k)), none], [.inr (25 + 7 * k, 3, 0), .inr (473, 3, 0)], σ)) (ps := [0 ≤ k ∧ k < ((64 : Nat) : Int), 0 ≤ k ∧ k < ((64 : Nat) : Int), 0 ≤ k ∧ k < ((64 : Nat) : Int), 0 ≤ k ∧ k < ((64 : Nat) : Int)]) rfl ⟨⟨by omega, by omega⟩, ⟨by omega, by omega⟩, ⟨by omega, by omega⟩, ⟨by omega, by omega⟩, trivial⟩ ?_
  refine ck_go_cal (rest := []) (ck_cal_le (by decide) (cx_copy (σ := σ) (c := 473) (e := 25 + 7 * k) (by omega) rfl hBk)) ⟨_, rfl, Or.inl ⟨_, rfl⟩, rfl, rfl, rfl, Nat.le_of_ble_eq_true rfl, fun _ => ⟨_, _, rfl⟩⟩ ?_
  rintro _ s1 ⟨rfl, g1, r1⟩
  try dsimp only at g1 r1
  have hT1 : s1 6 k = 0 := by rw [g1 _ _ (by decide)]; exact hT
  refine ck_go_run 6 (X1 := (ck_sw 0 (s1 6 k) 328 [120, 132, 146, 157, 169, 190, 202, 215, 226, 238, 252, 269, 238], [some (.inr (4, 3, 1)), some (.inl k), some (.inl (σ 7 k)), some (.inl (σ 8 k)), some (.inl (σ 9 k)), none], [], s1)) (ps := [0 ≤ k ∧ k < ((64 : Nat) : Int), ck_rg (s1 6 k)]) rfl ⟨⟨by omega, by omega⟩, (ck_rgo (by omega) (by omega)), trivial⟩ ?_
  have hsw := hT1
  · rw [hsw]
    refine ck_go_pc (q := 120) rfl ?_
    refine ck_go_run 4 (X1 := (126, [some (.inr (4, 3, 1)), some (.inl k), some (.inl (σ 7 k)), some (.inl (σ 8 k)), some (.inl (σ 9 k)), none], [.inl (σ 8 k), .inl (σ 7 k), .inr (473, 3, 0)], s1)) (ps := []) rfl trivial ?_
    refine ck_go_cal (rest := []) (ck_cal_le (by decide) (cx_setConstant (σ := s1) (c := 473) (x := σ 7 k) (k := σ 8 k) (by unfold ck_sOk at hO; omega) (by unfold ck_sOk at hO; omega) r1 hBk)) ⟨_, rfl, Or.inl ⟨_, rfl⟩, rfl, rfl, rfl, Nat.le_of_ble_eq_true rfl, fun _ => ⟨_, _, rfl⟩⟩ ?_
    rintro _ s2 ⟨rfl, g2, r2⟩
    try dsimp only at g2 r2
    refine ck_go_run 1 (X1 := (328, [some (.inr (4, 3, 1)), some (.inl k), some (.inl (σ 7 k)), some (.inl (σ 8 k)), some (.inl (σ 9 k)), none], [], s2)) (ps := []) rfl trivial ?_
    exact ck_eV ⟨rfl, (ck_f6_tr g1 g2), by rw [r2]; (try rw [r1]); unfold ck_fl; rw [hT]; rfl⟩ rfl rfl rfl
set_option maxHeartbeats 4000000 in
theorem cx_follow1 {k : Int} (hk : 0 ≤ k ∧ k < 64) {σ : ck_M} (hO : ck_sOk (σ 6 k) (σ 7 k) (σ 8 k) (σ 9 k)) (hBk : ck_fb (ck_B σ k)) (hT : σ 6 k = 1) : ck_cal 4 cm_Fi_follow [.inr (4, 3, 1), .inl k] σ (fun q σ' => q = none ∧ ck_f6 σ σ' 473 ∧ ck_rd σ' 473 = ck_fl σ k) := by
  refine ck_cal_of ?_
  refine ck_go_run 24 (X1 := (41, [some (.inr (4, 3, 1)), some (.inl k), some (.inl (σ 7 k)), some (.inl (σ 8 k)), some (.inl (σ 9 k)), none], [.inr (25 + 7 * k, 3, 0), .inr (473, 3, 0)], σ)) (ps := [0 ≤ k ∧ k < ((64 : Nat) : Int), 0 ≤ k ∧ k < ((64 : Nat) : Int), 0 ≤ k ∧ k < ((64 : Nat) : Int), 0 ≤ k ∧ k < ((64 : Nat) : Int)]) rfl ⟨⟨by omega, by omega⟩, ⟨by omega, by omega⟩, ⟨by omega, by omega⟩, ⟨by omega, by omega⟩, trivial⟩ ?_
  refine ck_go_cal (rest := []) (ck_cal_le (by decide) (cx_copy (σ := σ) (c := 473) (e := 25 + 7 * k) (by omega) rfl hBk)) ⟨_, rfl, Or.inl ⟨_, rfl⟩, rfl, rfl, rfl, Nat.le_of_ble_eq_true rfl, fun _ => ⟨_, _, rfl⟩⟩ ?_
  rintro _ s1 ⟨rfl, g1, r1⟩
  try dsimp only at g1 r1
  have hT1 : s1 6 k = 1 := by rw [g1 _ _ (by decide)]; exact hT
  refine ck_go_run 6 (X1 := (ck_sw 0 (s1 6 k) 328 [120, 132, 146, 157, 169, 190, 202, 215, 226, 238, 252, 269, 238], [some (.inr (4, 3, 1)), some (.inl k), some (.inl (σ 7 k)), some (.inl (σ 8 k)), some (.inl (σ 9 k)), none], [], s1)) (ps := [0 ≤ k ∧ k < ((64 : Nat) : Int), ck_rg (s1 6 k)]) rfl ⟨⟨by omega, by omega⟩, (ck_rgo (by omega) (by omega)), trivial⟩ ?_
  have hsw := hT1
  · rw [hsw]
    refine ck_go_pc (q := 132) rfl ?_
    refine ck_go_run 5 (X1 := (140, [some (.inr (4, 3, 1)), some (.inl k), some (.inl (σ 7 k)), some (.inl (σ 8 k)), some (.inl (σ 9 k)), none], [.inl (σ 9 k), .inl (σ 8 k), .inl (σ 7 k), .inr (473, 3, 0)], s1)) (ps := []) rfl trivial ?_
    refine ck_go_cal (rest := []) (ck_cal_le (by decide) (cx_setSum (σ := s1) (c := 473) (x := σ 7 k) (y := σ 8 k) (z := σ 9 k) (by unfold ck_sOk at hO; omega) (by unfold ck_sOk at hO; omega) (by unfold ck_sOk at hO; omega) r1 hBk)) ⟨_, rfl, Or.inl ⟨_, rfl⟩, rfl, rfl, rfl, Nat.le_of_ble_eq_true rfl, fun _ => ⟨_, _, rfl⟩⟩ ?_
    rintro _ s2 ⟨rfl, g2, r2⟩
    try dsimp only at g2 r2
    refine ck_go_run 1 (X1 := (328, [some (.inr (4, 3, 1)), some (.inl k), some (.inl (σ 7 k)), some (.inl (σ 8 k)), some (.inl (σ 9 k)), none], [], s2)) (ps := []) rfl trivial ?_
    exact ck_eV ⟨rfl, (ck_f6_tr g1 g2), by rw [r2]; (try rw [r1]); unfold ck_fl; rw [hT]; rfl⟩ rfl rfl rfl
set_option maxHeartbeats 4000000 in
theorem cx_follow2 {k : Int} (hk : 0 ≤ k ∧ k < 64) {σ : ck_M} (hO : ck_sOk (σ 6 k) (σ 7 k) (σ 8 k) (σ 9 k)) (hBk : ck_fb (ck_B σ k)) (hT : σ 6 k = 2) : ck_cal 4 cm_Fi_follow [.inr (4, 3, 1), .inl k] σ (fun q σ' => q = none ∧ ck_f6 σ σ' 473 ∧ ck_rd σ' 473 = ck_fl σ k) := by
  refine ck_cal_of ?_
  refine ck_go_run 24 (X1 := (41, [some (.inr (4, 3, 1)), some (.inl k), some (.inl (σ 7 k)), some (.inl (σ 8 k)), some (.inl (σ 9 k)), none], [.inr (25 + 7 * k, 3, 0), .inr (473, 3, 0)], σ)) (ps := [0 ≤ k ∧ k < ((64 : Nat) : Int), 0 ≤ k ∧ k < ((64 : Nat) : Int), 0 ≤ k ∧ k < ((64 : Nat) : Int), 0 ≤ k ∧ k < ((64 : Nat) : Int)]) rfl ⟨⟨by omega, by omega⟩, ⟨by omega, by omega⟩, ⟨by omega, by omega⟩, ⟨by omega, by omega⟩, trivial⟩ ?_
  refine ck_go_cal (rest := []) (ck_cal_le (by decide) (cx_copy (σ := σ) (c := 473) (e := 25 + 7 * k) (by omega) rfl hBk)) ⟨_, rfl, Or.inl ⟨_, rfl⟩, rfl, rfl, rfl, Nat.le_of_ble_eq_true rfl, fun _ => ⟨_, _, rfl⟩⟩ ?_
  rintro _ s1 ⟨rfl, g1, r1⟩
  try dsimp only at g1 r1
  have hT1 : s1 6 k = 2 := by rw [g1 _ _ (by decide)]; exact hT
  refine ck_go_run 6 (X1 := (ck_sw 0 (s1 6 k) 328 [120, 132, 146, 157, 169, 190, 202, 215, 226, 238, 252, 269, 238], [some (.inr (4, 3, 1)), some (.inl k), some (.inl (σ 7 k)), some (.inl (σ 8 k)), some (.inl (σ 9 k)), none], [], s1)) (ps := [0 ≤ k ∧ k < ((64 : Nat) : Int), ck_rg (s1 6 k)]) rfl ⟨⟨by omega, by omega⟩, (ck_rgo (by omega) (by omega)), trivial⟩ ?_
  have hsw := hT1
  · rw [hsw]
    refine ck_go_pc (q := 146) rfl ?_
    refine ck_go_run 3 (X1 := (151, [some (.inr (4, 3, 1)), some (.inl k), some (.inl (σ 7 k)), some (.inl (σ 8 k)), some (.inl (σ 9 k)), none], [.inl (σ 7 k), .inr (473, 3, 0)], s1)) (ps := []) rfl trivial ?_
    refine ck_go_cal (rest := []) (ck_cal_le (by decide) (cx_setAnything (σ := s1) (c := 473) (x := σ 7 k) (by unfold ck_sOk at hO; omega))) ⟨_, rfl, Or.inl ⟨_, rfl⟩, rfl, rfl, rfl, Nat.le_of_ble_eq_true rfl, fun _ => ⟨_, _, rfl⟩⟩ ?_
    rintro _ s2 ⟨rfl, g2, r2⟩
    try dsimp only at g2 r2
    refine ck_go_run 1 (X1 := (328, [some (.inr (4, 3, 1)), some (.inl k), some (.inl (σ 7 k)), some (.inl (σ 8 k)), some (.inl (σ 9 k)), none], [], s2)) (ps := []) rfl trivial ?_
    exact ck_eV ⟨rfl, (ck_f6_tr g1 g2), by rw [r2]; (try rw [r1]); unfold ck_fl; rw [hT]; rfl⟩ rfl rfl rfl
set_option maxHeartbeats 4000000 in
theorem cx_follow3 {k : Int} (hk : 0 ≤ k ∧ k < 64) {σ : ck_M} (hO : ck_sOk (σ 6 k) (σ 7 k) (σ 8 k) (σ 9 k)) (hBk : ck_fb (ck_B σ k)) (hT : σ 6 k = 3) : ck_cal 4 cm_Fi_follow [.inr (4, 3, 1), .inl k] σ (fun q σ' => q = none ∧ ck_f6 σ σ' 473 ∧ ck_rd σ' 473 = ck_fl σ k) := by
  refine ck_cal_of ?_
  refine ck_go_run 24 (X1 := (41, [some (.inr (4, 3, 1)), some (.inl k), some (.inl (σ 7 k)), some (.inl (σ 8 k)), some (.inl (σ 9 k)), none], [.inr (25 + 7 * k, 3, 0), .inr (473, 3, 0)], σ)) (ps := [0 ≤ k ∧ k < ((64 : Nat) : Int), 0 ≤ k ∧ k < ((64 : Nat) : Int), 0 ≤ k ∧ k < ((64 : Nat) : Int), 0 ≤ k ∧ k < ((64 : Nat) : Int)]) rfl ⟨⟨by omega, by omega⟩, ⟨by omega, by omega⟩, ⟨by omega, by omega⟩, ⟨by omega, by omega⟩, trivial⟩ ?_
  refine ck_go_cal (rest := []) (ck_cal_le (by decide) (cx_copy (σ := σ) (c := 473) (e := 25 + 7 * k) (by omega) rfl hBk)) ⟨_, rfl, Or.inl ⟨_, rfl⟩, rfl, rfl, rfl, Nat.le_of_ble_eq_true rfl, fun _ => ⟨_, _, rfl⟩⟩ ?_
  rintro _ s1 ⟨rfl, g1, r1⟩
  try dsimp only at g1 r1
  have hT1 : s1 6 k = 3 := by rw [g1 _ _ (by decide)]; exact hT
  refine ck_go_run 6 (X1 := (ck_sw 0 (s1 6 k) 328 [120, 132, 146, 157, 169, 190, 202, 215, 226, 238, 252, 269, 238], [some (.inr (4, 3, 1)), some (.inl k), some (.inl (σ 7 k)), some (.inl (σ 8 k)), some (.inl (σ 9 k)), none], [], s1)) (ps := [0 ≤ k ∧ k < ((64 : Nat) : Int), ck_rg (s1 6 k)]) rfl ⟨⟨by omega, by omega⟩, (ck_rgo (by omega) (by omega)), trivial⟩ ?_
  have hsw := hT1
  · rw [hsw]
    refine ck_go_pc (q := 157) rfl ?_
    refine ck_go_run 4 (X1 := (163, [some (.inr (4, 3, 1)), some (.inl k), some (.inl (σ 7 k)), some (.inl (σ 8 k)), some (.inl (σ 9 k)), none], [.inl (σ 8 k), .inl (σ 7 k), .inr (473, 3, 0)], s1)) (ps := []) rfl trivial ?_
    refine ck_go_cal (rest := []) (ck_cal_le (by decide) (cx_setLength (σ := s1) (c := 473) (x := σ 7 k) (a := σ 8 k) (by unfold ck_sOk at hO; omega) (by unfold ck_sOk at hO; omega) r1 hBk)) ⟨_, rfl, Or.inl ⟨_, rfl⟩, rfl, rfl, rfl, Nat.le_of_ble_eq_true rfl, fun _ => ⟨_, _, rfl⟩⟩ ?_
    rintro _ s2 ⟨rfl, g2, r2⟩
    try dsimp only at g2 r2
    refine ck_go_run 1 (X1 := (328, [some (.inr (4, 3, 1)), some (.inl k), some (.inl (σ 7 k)), some (.inl (σ 8 k)), some (.inl (σ 9 k)), none], [], s2)) (ps := []) rfl trivial ?_
    exact ck_eV ⟨rfl, (ck_f6_tr g1 g2), by rw [r2]; (try rw [r1]); unfold ck_fl; rw [hT]; rfl⟩ rfl rfl rfl
set_option maxHeartbeats 4000000 in
theorem cx_follow4 {k : Int} (hk : 0 ≤ k ∧ k < 64) {σ : ck_M} (hO : ck_sOk (σ 6 k) (σ 7 k) (σ 8 k) (σ 9 k)) (hBk : ck_fb (ck_B σ k)) (hT : σ 6 k = 4) : ck_cal 4 cm_Fi_follow [.inr (4, 3, 1), .inl k] σ (fun q σ' => q = none ∧ ck_f6 σ σ' 473 ∧ ck_rd σ' 473 = ck_fl σ k) := by
  refine ck_cal_of ?_
  refine ck_go_run 24 (X1 := (41, [some (.inr (4, 3, 1)), some (.inl k), some (.inl (σ 7 k)), some (.inl (σ 8 k)), some (.inl (σ 9 k)), none], [.inr (25 + 7 * k, 3, 0), .inr (473, 3, 0)], σ)) (ps := [0 ≤ k ∧ k < ((64 : Nat) : Int), 0 ≤ k ∧ k < ((64 : Nat) : Int), 0 ≤ k ∧ k < ((64 : Nat) : Int), 0 ≤ k ∧ k < ((64 : Nat) : Int)]) rfl ⟨⟨by omega, by omega⟩, ⟨by omega, by omega⟩, ⟨by omega, by omega⟩, ⟨by omega, by omega⟩, trivial⟩ ?_
  refine ck_go_cal (rest := []) (ck_cal_le (by decide) (cx_copy (σ := σ) (c := 473) (e := 25 + 7 * k) (by omega) rfl hBk)) ⟨_, rfl, Or.inl ⟨_, rfl⟩, rfl, rfl, rfl, Nat.le_of_ble_eq_true rfl, fun _ => ⟨_, _, rfl⟩⟩ ?_
  rintro _ s1 ⟨rfl, g1, r1⟩
  try dsimp only at g1 r1
  have hT1 : s1 6 k = 4 := by rw [g1 _ _ (by decide)]; exact hT
  refine ck_go_run 6 (X1 := (ck_sw 0 (s1 6 k) 328 [120, 132, 146, 157, 169, 190, 202, 215, 226, 238, 252, 269, 238], [some (.inr (4, 3, 1)), some (.inl k), some (.inl (σ 7 k)), some (.inl (σ 8 k)), some (.inl (σ 9 k)), none], [], s1)) (ps := [0 ≤ k ∧ k < ((64 : Nat) : Int), ck_rg (s1 6 k)]) rfl ⟨⟨by omega, by omega⟩, (ck_rgo (by omega) (by omega)), trivial⟩ ?_
  have hsw := hT1
  · rw [hsw]
    refine ck_go_pc (q := 169) rfl ?_
    refine ck_go_run 4 (X1 := (176, [some (.inr (4, 3, 1)), some (.inl k), some (.inl (σ 7 k)), some (.inl (σ 8 k)), some (.inl (σ 9 k)), none], [.inl (σ 9 k), .inl (σ 8 k), .inr (473, 3, 0)], s1)) (ps := []) rfl trivial ?_
    refine ck_go_cal (rest := []) (ck_cal_le (by decide) (cx_useIndex (σ := s1) (c := 473) (a := σ 8 k) (m := σ 9 k) (by unfold ck_sOk at hO; omega) (by unfold ck_sOk at hO; omega) r1 hBk)) ⟨_, rfl, Or.inl ⟨_, rfl⟩, rfl, rfl, rfl, Nat.le_of_ble_eq_true rfl, fun _ => ⟨_, _, rfl⟩⟩ ?_
    rintro _ s2 ⟨rfl, g2, r2⟩
    try dsimp only at g2 r2
    refine ck_go_run 3 (X1 := (184, [some (.inr (4, 3, 1)), some (.inl k), some (.inl (σ 7 k)), some (.inl (σ 8 k)), some (.inl (σ 9 k)), none], [.inl (σ 7 k), .inr (473, 3, 0)], s2)) (ps := []) rfl trivial ?_
    refine ck_go_cal (rest := []) (ck_cal_le (by decide) (cx_setAnything (σ := s2) (c := 473) (x := σ 7 k) (by unfold ck_sOk at hO; omega))) ⟨_, rfl, Or.inl ⟨_, rfl⟩, rfl, rfl, rfl, Nat.le_of_ble_eq_true rfl, fun _ => ⟨_, _, rfl⟩⟩ ?_
    rintro _ s3 ⟨rfl, g3, r3⟩
    try dsimp only at g3 r3
    refine ck_go_run 1 (X1 := (328, [some (.inr (4, 3, 1)), some (.inl k), some (.inl (σ 7 k)), some (.inl (σ 8 k)), some (.inl (σ 9 k)), none], [], s3)) (ps := []) rfl trivial ?_
    exact ck_eV ⟨rfl, (ck_f6_tr (ck_f6_tr g1 g2) g3), by rw [r3]; (try rw [r2]); (try rw [r1]); unfold ck_fl; rw [hT]; rfl⟩ rfl rfl rfl
set_option maxHeartbeats 4000000 in
theorem cx_follow5 {k : Int} (hk : 0 ≤ k ∧ k < 64) {σ : ck_M} (hO : ck_sOk (σ 6 k) (σ 7 k) (σ 8 k) (σ 9 k)) (hBk : ck_fb (ck_B σ k)) (hT : σ 6 k = 5) : ck_cal 4 cm_Fi_follow [.inr (4, 3, 1), .inl k] σ (fun q σ' => q = none ∧ ck_f6 σ σ' 473 ∧ ck_rd σ' 473 = ck_fl σ k) := by
  refine ck_cal_of ?_
  refine ck_go_run 24 (X1 := (41, [some (.inr (4, 3, 1)), some (.inl k), some (.inl (σ 7 k)), some (.inl (σ 8 k)), some (.inl (σ 9 k)), none], [.inr (25 + 7 * k, 3, 0), .inr (473, 3, 0)], σ)) (ps := [0 ≤ k ∧ k < ((64 : Nat) : Int), 0 ≤ k ∧ k < ((64 : Nat) : Int), 0 ≤ k ∧ k < ((64 : Nat) : Int), 0 ≤ k ∧ k < ((64 : Nat) : Int)]) rfl ⟨⟨by omega, by omega⟩, ⟨by omega, by omega⟩, ⟨by omega, by omega⟩, ⟨by omega, by omega⟩, trivial⟩ ?_
  refine ck_go_cal (rest := []) (ck_cal_le (by decide) (cx_copy (σ := σ) (c := 473) (e := 25 + 7 * k) (by omega) rfl hBk)) ⟨_, rfl, Or.inl ⟨_, rfl⟩, rfl, rfl, rfl, Nat.le_of_ble_eq_true rfl, fun _ => ⟨_, _, rfl⟩⟩ ?_
  rintro _ s1 ⟨rfl, g1, r1⟩
  try dsimp only at g1 r1
  have hT1 : s1 6 k = 5 := by rw [g1 _ _ (by decide)]; exact hT
  refine ck_go_run 6 (X1 := (ck_sw 0 (s1 6 k) 328 [120, 132, 146, 157, 169, 190, 202, 215, 226, 238, 252, 269, 238], [some (.inr (4, 3, 1)), some (.inl k), some (.inl (σ 7 k)), some (.inl (σ 8 k)), some (.inl (σ 9 k)), none], [], s1)) (ps := [0 ≤ k ∧ k < ((64 : Nat) : Int), ck_rg (s1 6 k)]) rfl ⟨⟨by omega, by omega⟩, (ck_rgo (by omega) (by omega)), trivial⟩ ?_
  have hsw := hT1
  · rw [hsw]
    refine ck_go_pc (q := 190) rfl ?_
    refine ck_go_run 4 (X1 := (196, [some (.inr (4, 3, 1)), some (.inl k), some (.inl (σ 7 k)), some (.inl (σ 8 k)), some (.inl (σ 9 k)), none], [.inl (σ 8 k), .inl (σ 7 k), .inr (473, 3, 0)], s1)) (ps := []) rfl trivial ?_
    refine ck_go_cal (rest := []) (ck_cal_le (by decide) (cx_useIndex (σ := s1) (c := 473) (a := σ 7 k) (m := σ 8 k) (by unfold ck_sOk at hO; omega) (by unfold ck_sOk at hO; omega) r1 hBk)) ⟨_, rfl, Or.inl ⟨_, rfl⟩, rfl, rfl, rfl, Nat.le_of_ble_eq_true rfl, fun _ => ⟨_, _, rfl⟩⟩ ?_
    rintro _ s2 ⟨rfl, g2, r2⟩
    try dsimp only at g2 r2
    refine ck_go_run 1 (X1 := (328, [some (.inr (4, 3, 1)), some (.inl k), some (.inl (σ 7 k)), some (.inl (σ 8 k)), some (.inl (σ 9 k)), none], [], s2)) (ps := []) rfl trivial ?_
    exact ck_eV ⟨rfl, (ck_f6_tr g1 g2), by rw [r2]; (try rw [r1]); unfold ck_fl; rw [hT]; rfl⟩ rfl rfl rfl
set_option maxHeartbeats 4000000 in
theorem cx_follow6 {k : Int} (hk : 0 ≤ k ∧ k < 64) {σ : ck_M} (hO : ck_sOk (σ 6 k) (σ 7 k) (σ 8 k) (σ 9 k)) (hBk : ck_fb (ck_B σ k)) (hT : σ 6 k = 6) : ck_cal 4 cm_Fi_follow [.inr (4, 3, 1), .inl k] σ (fun q σ' => q = none ∧ ck_f6 σ σ' 473 ∧ ck_rd σ' 473 = ck_fl σ k) := by
  refine ck_cal_of ?_
  refine ck_go_run 24 (X1 := (41, [some (.inr (4, 3, 1)), some (.inl k), some (.inl (σ 7 k)), some (.inl (σ 8 k)), some (.inl (σ 9 k)), none], [.inr (25 + 7 * k, 3, 0), .inr (473, 3, 0)], σ)) (ps := [0 ≤ k ∧ k < ((64 : Nat) : Int), 0 ≤ k ∧ k < ((64 : Nat) : Int), 0 ≤ k ∧ k < ((64 : Nat) : Int), 0 ≤ k ∧ k < ((64 : Nat) : Int)]) rfl ⟨⟨by omega, by omega⟩, ⟨by omega, by omega⟩, ⟨by omega, by omega⟩, ⟨by omega, by omega⟩, trivial⟩ ?_
  refine ck_go_cal (rest := []) (ck_cal_le (by decide) (cx_copy (σ := σ) (c := 473) (e := 25 + 7 * k) (by omega) rfl hBk)) ⟨_, rfl, Or.inl ⟨_, rfl⟩, rfl, rfl, rfl, Nat.le_of_ble_eq_true rfl, fun _ => ⟨_, _, rfl⟩⟩ ?_
  rintro _ s1 ⟨rfl, g1, r1⟩
  try dsimp only at g1 r1
  have hT1 : s1 6 k = 6 := by rw [g1 _ _ (by decide)]; exact hT
  refine ck_go_run 6 (X1 := (ck_sw 0 (s1 6 k) 328 [120, 132, 146, 157, 169, 190, 202, 215, 226, 238, 252, 269, 238], [some (.inr (4, 3, 1)), some (.inl k), some (.inl (σ 7 k)), some (.inl (σ 8 k)), some (.inl (σ 9 k)), none], [], s1)) (ps := [0 ≤ k ∧ k < ((64 : Nat) : Int), ck_rg (s1 6 k)]) rfl ⟨⟨by omega, by omega⟩, (ck_rgo (by omega) (by omega)), trivial⟩ ?_
  have hsw := hT1
  · rw [hsw]
    refine ck_go_pc (q := 202) rfl ?_
    refine ck_go_run 5 (X1 := (209, [some (.inr (4, 3, 1)), some (.inl k), some (.inl (σ 7 k)), some (.inl (σ 8 k)), some (.inl (σ 9 k)), none], [.inl k, .inl (σ 8 k), .inl (σ 7 k), .inr (473, 3, 0)], s1)) (ps := []) rfl trivial ?_
    refine ck_go_cal (rest := []) (ck_cal_le (by decide) (cx_setNew (σ := s1) (c := 473) (a := σ 7 k) (y := σ 8 k) (k := k) (by unfold ck_sOk at hO; omega) (by unfold ck_sOk at hO; omega) hk r1 hBk)) ⟨_, rfl, Or.inl ⟨_, rfl⟩, rfl, rfl, rfl, Nat.le_of_ble_eq_true rfl, fun _ => ⟨_, _, rfl⟩⟩ ?_
    rintro _ s2 ⟨rfl, g2, r2⟩
    try dsimp only at g2 r2
    refine ck_go_run 1 (X1 := (328, [some (.inr (4, 3, 1)), some (.inl k), some (.inl (σ 7 k)), some (.inl (σ 8 k)), some (.inl (σ 9 k)), none], [], s2)) (ps := []) rfl trivial ?_
    exact ck_eV ⟨rfl, (ck_f6_tr g1 g2), by rw [r2]; (try rw [r1]); unfold ck_fl; rw [hT]; rfl⟩ rfl rfl rfl
set_option maxHeartbeats 4000000 in
theorem cx_follow7 {k : Int} (hk : 0 ≤ k ∧ k < 64) {σ : ck_M} (hO : ck_sOk (σ 6 k) (σ 7 k) (σ 8 k) (σ 9 k)) (hBk : ck_fb (ck_B σ k)) (hT : σ 6 k = 7) : ck_cal 4 cm_Fi_follow [.inr (4, 3, 1), .inl k] σ (fun q σ' => q = none ∧ ck_f6 σ σ' 473 ∧ ck_rd σ' 473 = ck_fl σ k) := by
  refine ck_cal_of ?_
  refine ck_go_run 24 (X1 := (41, [some (.inr (4, 3, 1)), some (.inl k), some (.inl (σ 7 k)), some (.inl (σ 8 k)), some (.inl (σ 9 k)), none], [.inr (25 + 7 * k, 3, 0), .inr (473, 3, 0)], σ)) (ps := [0 ≤ k ∧ k < ((64 : Nat) : Int), 0 ≤ k ∧ k < ((64 : Nat) : Int), 0 ≤ k ∧ k < ((64 : Nat) : Int), 0 ≤ k ∧ k < ((64 : Nat) : Int)]) rfl ⟨⟨by omega, by omega⟩, ⟨by omega, by omega⟩, ⟨by omega, by omega⟩, ⟨by omega, by omega⟩, trivial⟩ ?_
  refine ck_go_cal (rest := []) (ck_cal_le (by decide) (cx_copy (σ := σ) (c := 473) (e := 25 + 7 * k) (by omega) rfl hBk)) ⟨_, rfl, Or.inl ⟨_, rfl⟩, rfl, rfl, rfl, Nat.le_of_ble_eq_true rfl, fun _ => ⟨_, _, rfl⟩⟩ ?_
  rintro _ s1 ⟨rfl, g1, r1⟩
  try dsimp only at g1 r1
  have hT1 : s1 6 k = 7 := by rw [g1 _ _ (by decide)]; exact hT
  refine ck_go_run 6 (X1 := (ck_sw 0 (s1 6 k) 328 [120, 132, 146, 157, 169, 190, 202, 215, 226, 238, 252, 269, 238], [some (.inr (4, 3, 1)), some (.inl k), some (.inl (σ 7 k)), some (.inl (σ 8 k)), some (.inl (σ 9 k)), none], [], s1)) (ps := [0 ≤ k ∧ k < ((64 : Nat) : Int), ck_rg (s1 6 k)]) rfl ⟨⟨by omega, by omega⟩, (ck_rgo (by omega) (by omega)), trivial⟩ ?_
  have hsw := hT1
  · rw [hsw]
    refine ck_go_pc (q := 215) rfl ?_
    refine ck_go_run 3 (X1 := (220, [some (.inr (4, 3, 1)), some (.inl k), some (.inl (σ 7 k)), some (.inl (σ 8 k)), some (.inl (σ 9 k)), none], [.inl (σ 7 k), .inr (473, 3, 0)], s1)) (ps := []) rfl trivial ?_
    refine ck_go_cal (rest := []) (ck_cal_le (by decide) (cx_setNull (σ := s1) (c := 473) (r := σ 7 k) (by unfold ck_sOk at hO; omega))) ⟨_, rfl, Or.inl ⟨_, rfl⟩, rfl, rfl, rfl, Nat.le_of_ble_eq_true rfl, fun _ => ⟨_, _, rfl⟩⟩ ?_
    rintro _ s2 ⟨rfl, g2, r2⟩
    try dsimp only at g2 r2
    refine ck_go_run 1 (X1 := (328, [some (.inr (4, 3, 1)), some (.inl k), some (.inl (σ 7 k)), some (.inl (σ 8 k)), some (.inl (σ 9 k)), none], [], s2)) (ps := []) rfl trivial ?_
    exact ck_eV ⟨rfl, (ck_f6_tr g1 g2), by rw [r2]; (try rw [r1]); unfold ck_fl; rw [hT]; rfl⟩ rfl rfl rfl
set_option maxHeartbeats 4000000 in
theorem cx_follow8 {k : Int} (hk : 0 ≤ k ∧ k < 64) {σ : ck_M} (hO : ck_sOk (σ 6 k) (σ 7 k) (σ 8 k) (σ 9 k)) (hBk : ck_fb (ck_B σ k)) (hT : σ 6 k = 8) : ck_cal 4 cm_Fi_follow [.inr (4, 3, 1), .inl k] σ (fun q σ' => q = none ∧ ck_f6 σ σ' 473 ∧ ck_rd σ' 473 = ck_fl σ k) := by
  refine ck_cal_of ?_
  refine ck_go_run 24 (X1 := (41, [some (.inr (4, 3, 1)), some (.inl k), some (.inl (σ 7 k)), some (.inl (σ 8 k)), some (.inl (σ 9 k)), none], [.inr (25 + 7 * k, 3, 0), .inr (473, 3, 0)], σ)) (ps := [0 ≤ k ∧ k < ((64 : Nat) : Int), 0 ≤ k ∧ k < ((64 : Nat) : Int), 0 ≤ k ∧ k < ((64 : Nat) : Int), 0 ≤ k ∧ k < ((64 : Nat) : Int)]) rfl ⟨⟨by omega, by omega⟩, ⟨by omega, by omega⟩, ⟨by omega, by omega⟩, ⟨by omega, by omega⟩, trivial⟩ ?_
  refine ck_go_cal (rest := []) (ck_cal_le (by decide) (cx_copy (σ := σ) (c := 473) (e := 25 + 7 * k) (by omega) rfl hBk)) ⟨_, rfl, Or.inl ⟨_, rfl⟩, rfl, rfl, rfl, Nat.le_of_ble_eq_true rfl, fun _ => ⟨_, _, rfl⟩⟩ ?_
  rintro _ s1 ⟨rfl, g1, r1⟩
  try dsimp only at g1 r1
  have hT1 : s1 6 k = 8 := by rw [g1 _ _ (by decide)]; exact hT
  refine ck_go_run 6 (X1 := (ck_sw 0 (s1 6 k) 328 [120, 132, 146, 157, 169, 190, 202, 215, 226, 238, 252, 269, 238], [some (.inr (4, 3, 1)), some (.inl k), some (.inl (σ 7 k)), some (.inl (σ 8 k)), some (.inl (σ 9 k)), none], [], s1)) (ps := [0 ≤ k ∧ k < ((64 : Nat) : Int), ck_rg (s1 6 k)]) rfl ⟨⟨by omega, by omega⟩, (ck_rgo (by omega) (by omega)), trivial⟩ ?_
  have hsw := hT1
  · rw [hsw]
    refine ck_go_pc (q := 226) rfl ?_
    refine ck_go_run 4 (X1 := (232, [some (.inr (4, 3, 1)), some (.inl k), some (.inl (σ 7 k)), some (.inl (σ 8 k)), some (.inl (σ 9 k)), none], [.inl (σ 8 k), .inl (σ 7 k), .inr (473, 3, 0)], s1)) (ps := []) rfl trivial ?_
    refine ck_go_cal (rest := []) (ck_cal_le (by decide) (cx_setArray (σ := s1) (c := 473) (a := σ 7 k) (e := σ 8 k) (by unfold ck_sOk at hO; omega) (by unfold ck_sOk at hO; omega) r1 hBk)) ⟨_, rfl, Or.inl ⟨_, rfl⟩, rfl, rfl, rfl, Nat.le_of_ble_eq_true rfl, fun _ => ⟨_, _, rfl⟩⟩ ?_
    rintro _ s2 ⟨rfl, g2, r2⟩
    try dsimp only at g2 r2
    refine ck_go_run 1 (X1 := (328, [some (.inr (4, 3, 1)), some (.inl k), some (.inl (σ 7 k)), some (.inl (σ 8 k)), some (.inl (σ 9 k)), none], [], s2)) (ps := []) rfl trivial ?_
    exact ck_eV ⟨rfl, (ck_f6_tr g1 g2), by rw [r2]; (try rw [r1]); unfold ck_fl; rw [hT]; rfl⟩ rfl rfl rfl
set_option maxHeartbeats 4000000 in
theorem cx_follow9 {k : Int} (hk : 0 ≤ k ∧ k < 64) {σ : ck_M} (hO : ck_sOk (σ 6 k) (σ 7 k) (σ 8 k) (σ 9 k)) (hBk : ck_fb (ck_B σ k)) (hT : σ 6 k = 9) : ck_cal 4 cm_Fi_follow [.inr (4, 3, 1), .inl k] σ (fun q σ' => q = none ∧ ck_f6 σ σ' 473 ∧ ck_rd σ' 473 = ck_fl σ k) := by
  refine ck_cal_of ?_
  refine ck_go_run 24 (X1 := (41, [some (.inr (4, 3, 1)), some (.inl k), some (.inl (σ 7 k)), some (.inl (σ 8 k)), some (.inl (σ 9 k)), none], [.inr (25 + 7 * k, 3, 0), .inr (473, 3, 0)], σ)) (ps := [0 ≤ k ∧ k < ((64 : Nat) : Int), 0 ≤ k ∧ k < ((64 : Nat) : Int), 0 ≤ k ∧ k < ((64 : Nat) : Int), 0 ≤ k ∧ k < ((64 : Nat) : Int)]) rfl ⟨⟨by omega, by omega⟩, ⟨by omega, by omega⟩, ⟨by omega, by omega⟩, ⟨by omega, by omega⟩, trivial⟩ ?_
  refine ck_go_cal (rest := []) (ck_cal_le (by decide) (cx_copy (σ := σ) (c := 473) (e := 25 + 7 * k) (by omega) rfl hBk)) ⟨_, rfl, Or.inl ⟨_, rfl⟩, rfl, rfl, rfl, Nat.le_of_ble_eq_true rfl, fun _ => ⟨_, _, rfl⟩⟩ ?_
  rintro _ s1 ⟨rfl, g1, r1⟩
  try dsimp only at g1 r1
  have hT1 : s1 6 k = 9 := by rw [g1 _ _ (by decide)]; exact hT
  refine ck_go_run 6 (X1 := (ck_sw 0 (s1 6 k) 328 [120, 132, 146, 157, 169, 190, 202, 215, 226, 238, 252, 269, 238], [some (.inr (4, 3, 1)), some (.inl k), some (.inl (σ 7 k)), some (.inl (σ 8 k)), some (.inl (σ 9 k)), none], [], s1)) (ps := [0 ≤ k ∧ k < ((64 : Nat) : Int), ck_rg (s1 6 k)]) rfl ⟨⟨by omega, by omega⟩, (ck_rgo (by omega) (by omega)), trivial⟩ ?_
  have hsw := hT1
  · rw [hsw]
    refine ck_go_pc (q := 238) rfl ?_
    refine ck_go_run 5 (X1 := (246, [some (.inr (4, 3, 1)), some (.inl k), some (.inl (σ 7 k)), some (.inl (σ 8 k)), some (.inl (σ 9 k)), none], [.inl (σ 9 k), .inl (σ 8 k), .inl (σ 7 k), .inr (473, 3, 0)], s1)) (ps := []) rfl trivial ?_
    refine ck_go_cal (rest := []) (ck_cal_le (by decide) (cx_assumeBelow (σ := s1) (c := 473) (x := σ 7 k) (y := σ 8 k) (z := σ 9 k) (by unfold ck_sOk at hO; omega) (by unfold ck_sOk at hO; omega) (by unfold ck_sOk at hO; omega) r1 hBk)) ⟨_, rfl, Or.inl ⟨_, rfl⟩, rfl, rfl, rfl, Nat.le_of_ble_eq_true rfl, fun _ => ⟨_, _, rfl⟩⟩ ?_
    rintro _ s2 ⟨rfl, g2, r2⟩
    try dsimp only at g2 r2
    refine ck_go_run 1 (X1 := (328, [some (.inr (4, 3, 1)), some (.inl k), some (.inl (σ 7 k)), some (.inl (σ 8 k)), some (.inl (σ 9 k)), none], [], s2)) (ps := []) rfl trivial ?_
    exact ck_eV ⟨rfl, (ck_f6_tr g1 g2), by rw [r2]; (try rw [r1]); unfold ck_fl; rw [hT]; rfl⟩ rfl rfl rfl
set_option maxHeartbeats 4000000 in
theorem cx_follow12 {k : Int} (hk : 0 ≤ k ∧ k < 64) {σ : ck_M} (hO : ck_sOk (σ 6 k) (σ 7 k) (σ 8 k) (σ 9 k)) (hBk : ck_fb (ck_B σ k)) (hT : σ 6 k = 12) : ck_cal 4 cm_Fi_follow [.inr (4, 3, 1), .inl k] σ (fun q σ' => q = none ∧ ck_f6 σ σ' 473 ∧ ck_rd σ' 473 = ck_fl σ k) := by
  refine ck_cal_of ?_
  refine ck_go_run 24 (X1 := (41, [some (.inr (4, 3, 1)), some (.inl k), some (.inl (σ 7 k)), some (.inl (σ 8 k)), some (.inl (σ 9 k)), none], [.inr (25 + 7 * k, 3, 0), .inr (473, 3, 0)], σ)) (ps := [0 ≤ k ∧ k < ((64 : Nat) : Int), 0 ≤ k ∧ k < ((64 : Nat) : Int), 0 ≤ k ∧ k < ((64 : Nat) : Int), 0 ≤ k ∧ k < ((64 : Nat) : Int)]) rfl ⟨⟨by omega, by omega⟩, ⟨by omega, by omega⟩, ⟨by omega, by omega⟩, ⟨by omega, by omega⟩, trivial⟩ ?_
  refine ck_go_cal (rest := []) (ck_cal_le (by decide) (cx_copy (σ := σ) (c := 473) (e := 25 + 7 * k) (by omega) rfl hBk)) ⟨_, rfl, Or.inl ⟨_, rfl⟩, rfl, rfl, rfl, Nat.le_of_ble_eq_true rfl, fun _ => ⟨_, _, rfl⟩⟩ ?_
  rintro _ s1 ⟨rfl, g1, r1⟩
  try dsimp only at g1 r1
  have hT1 : s1 6 k = 12 := by rw [g1 _ _ (by decide)]; exact hT
  refine ck_go_run 6 (X1 := (ck_sw 0 (s1 6 k) 328 [120, 132, 146, 157, 169, 190, 202, 215, 226, 238, 252, 269, 238], [some (.inr (4, 3, 1)), some (.inl k), some (.inl (σ 7 k)), some (.inl (σ 8 k)), some (.inl (σ 9 k)), none], [], s1)) (ps := [0 ≤ k ∧ k < ((64 : Nat) : Int), ck_rg (s1 6 k)]) rfl ⟨⟨by omega, by omega⟩, (ck_rgo (by omega) (by omega)), trivial⟩ ?_
  have hsw := hT1
  · rw [hsw]
    refine ck_go_pc (q := 238) rfl ?_
    refine ck_go_run 5 (X1 := (246, [some (.inr (4, 3, 1)), some (.inl k), some (.inl (σ 7 k)), some (.inl (σ 8 k)), some (.inl (σ 9 k)), none], [.inl (σ 9 k), .inl (σ 8 k), .inl (σ 7 k), .inr (473, 3, 0)], s1)) (ps := []) rfl trivial ?_
    refine ck_go_cal (rest := []) (ck_cal_le (by decide) (cx_assumeBelow (σ := s1) (c := 473) (x := σ 7 k) (y := σ 8 k) (z := σ 9 k) (by unfold ck_sOk at hO; omega) (by unfold ck_sOk at hO; omega) (by unfold ck_sOk at hO; omega) r1 hBk)) ⟨_, rfl, Or.inl ⟨_, rfl⟩, rfl, rfl, rfl, Nat.le_of_ble_eq_true rfl, fun _ => ⟨_, _, rfl⟩⟩ ?_
    rintro _ s2 ⟨rfl, g2, r2⟩
    try dsimp only at g2 r2
    refine ck_go_run 1 (X1 := (328, [some (.inr (4, 3, 1)), some (.inl k), some (.inl (σ 7 k)), some (.inl (σ 8 k)), some (.inl (σ 9 k)), none], [], s2)) (ps := []) rfl trivial ?_
    exact ck_eV ⟨rfl, (ck_f6_tr g1 g2), by rw [r2]; (try rw [r1]); unfold ck_fl; rw [hT]; rfl⟩ rfl rfl rfl
set_option maxHeartbeats 4000000 in
theorem cx_follow13 {k : Int} (hk : 0 ≤ k ∧ k < 64) {σ : ck_M} (hO : ck_sOk (σ 6 k) (σ 7 k) (σ 8 k) (σ 9 k)) (hBk : ck_fb (ck_B σ k)) (hT : σ 6 k = 13) : ck_cal 4 cm_Fi_follow [.inr (4, 3, 1), .inl k] σ (fun q σ' => q = none ∧ ck_f6 σ σ' 473 ∧ ck_rd σ' 473 = ck_fl σ k) := by
  refine ck_cal_of ?_
  refine ck_go_run 24 (X1 := (41, [some (.inr (4, 3, 1)), some (.inl k), some (.inl (σ 7 k)), some (.inl (σ 8 k)), some (.inl (σ 9 k)), none], [.inr (25 + 7 * k, 3, 0), .inr (473, 3, 0)], σ)) (ps := [0 ≤ k ∧ k < ((64 : Nat) : Int), 0 ≤ k ∧ k < ((64 : Nat) : Int), 0 ≤ k ∧ k < ((64 : Nat) : Int), 0 ≤ k ∧ k < ((64 : Nat) : Int)]) rfl ⟨⟨by omega, by omega⟩, ⟨by omega, by omega⟩, ⟨by omega, by omega⟩, ⟨by omega, by omega⟩, trivial⟩ ?_
  refine ck_go_cal (rest := []) (ck_cal_le (by decide) (cx_copy (σ := σ) (c := 473) (e := 25 + 7 * k) (by omega) rfl hBk)) ⟨_, rfl, Or.inl ⟨_, rfl⟩, rfl, rfl, rfl, Nat.le_of_ble_eq_true rfl, fun _ => ⟨_, _, rfl⟩⟩ ?_
  rintro _ s1 ⟨rfl, g1, r1⟩
  try dsimp only at g1 r1
  have hT1 : s1 6 k = 13 := by rw [g1 _ _ (by decide)]; exact hT
  refine ck_go_run 6 (X1 := (ck_sw 0 (s1 6 k) 328 [120, 132, 146, 157, 169, 190, 202, 215, 226, 238, 252, 269, 238], [some (.inr (4, 3, 1)), some (.inl k), some (.inl (σ 7 k)), some (.inl (σ 8 k)), some (.inl (σ 9 k)), none], [], s1)) (ps := [0 ≤ k ∧ k < ((64 : Nat) : Int), ck_rg (s1 6 k)]) rfl ⟨⟨by omega, by omega⟩, (ck_rgo (by omega) (by omega)), trivial⟩ ?_
  have hsw := hT1
  · rw [hsw]
    refine ck_go_pc (q := 328) rfl ?_
    exact ck_eV ⟨rfl, g1, by rw [r1]; unfold ck_fl; rw [hT]; rfl⟩ rfl rfl rfl
theorem ck_B_f6 {a b : ck_M} (h : ck_f6 a b 473) {k : Int} (h0 : 0 ≤ k) (h1 : k < 64) : ck_B b k = ck_B a k := ck_rd_f6 h (by omega)
theorem ck_oth_f6 {a b : ck_M} (h : ck_f6 a b 473) {p e : Int} (h0 : 0 ≤ p ∧ p < 64) (h1 : -1 ≤ e ∧ e < 64) : ck_oth b p e = ck_oth a p e := by
  unfold ck_oth
  by_cases he : e = -1
  · rw [if_pos he, if_pos he, ck_B_f6 h h0.1 h0.2, h _ _ (by omega), h _ _ (by omega), h _ _ (by omega)]
  · rw [if_neg he, if_neg he, ck_B_f6 h (by omega) h1.2]
theorem cx_follow10 {k : Int} (hk : 0 ≤ k ∧ k < 64) {σ : ck_M} (hO : ck_sOk (σ 6 k) (σ 7 k) (σ 8 k) (σ 9 k)) (hBk : ck_fb (ck_B σ k)) (hh : 0 ≤ σ 10 k ∧ σ 10 k < 64) (hx : 0 ≤ σ 7 (σ 10 k) ∧ σ 7 (σ 10 k) < 10) (hy : 0 ≤ σ 8 (σ 10 k) ∧ σ 8 (σ 10 k) ≤ 10) (hz : -100 ≤ σ 9 (σ 10 k) ∧ σ 9 (σ 10 k) ≤ 100) (hBh : ck_fb (ck_B σ (σ 10 k))) (hT : σ 6 k = 10) : ck_cal 4 cm_Fi_follow [.inr (4, 3, 1), .inl k] σ (fun q σ' => q = none ∧ ck_f6 σ σ' 473 ∧ ck_rd σ' 473 = ck_fl σ k) := by
  refine ck_cal_of ?_
  refine ck_go_run 24 (X1 := (41, [some (.inr (4, 3, 1)), some (.inl k), some (.inl (σ 7 k)), some (.inl (σ 8 k)), some (.inl (σ 9 k)), none], [.inr (25 + 7 * k, 3, 0), .inr (473, 3, 0)], σ)) (ps := [0 ≤ k ∧ k < ((64 : Nat) : Int), 0 ≤ k ∧ k < ((64 : Nat) : Int), 0 ≤ k ∧ k < ((64 : Nat) : Int), 0 ≤ k ∧ k < ((64 : Nat) : Int)]) rfl ⟨⟨by omega, by omega⟩, ⟨by omega, by omega⟩, ⟨by omega, by omega⟩, ⟨by omega, by omega⟩, trivial⟩ ?_
  refine ck_go_cal (rest := []) (ck_cal_le (by decide) (cx_copy (σ := σ) (c := 473) (e := 25 + 7 * k) (by omega) rfl hBk)) ⟨_, rfl, Or.inl ⟨_, rfl⟩, rfl, rfl, rfl, Nat.le_of_ble_eq_true rfl, fun _ => ⟨_, _, rfl⟩⟩ ?_
  rintro _ s1 ⟨rfl, g1, r1⟩
  try dsimp only at g1 r1
  have hT1 : s1 6 k = 10 := by rw [g1 _ _ (by decide)]; exact hT
  have eh : s1 10 k = σ 10 k := g1 _ _ (by decide)
  refine ck_go_run 6 (X1 := (ck_sw 0 (s1 6 k) 328 [120, 132, 146, 157, 169, 190, 202, 215, 226, 238, 252, 269, 238], [some (.inr (4, 3, 1)), some (.inl k), some (.inl (σ 7 k)), some (.inl (σ 8 k)), some (.inl (σ 9 k)), none], [], s1)) (ps := [0 ≤ k ∧ k < ((64 : Nat) : Int), ck_rg (s1 6 k)]) rfl ⟨⟨by omega, by omega⟩, (ck_rgo (by omega) (by omega)), trivial⟩ ?_
  have hsw := hT1
  · rw [hsw]
    refine ck_go_pc (q := 252) rfl ?_
    refine ck_go_run 7 (X1 := (263, [some (.inr (4, 3, 1)), some (.inl k), some (.inl (σ 7 k)), some (.inl (σ 8 k)), some (.inl (σ 9 k)), none], [.inl ((-1)), .inl (s1 10 k), .inr (4, 3, 1)], s1)) (ps := [0 ≤ k ∧ k < ((64 : Nat) : Int)]) rfl ⟨⟨by omega, by omega⟩, trivial⟩ ?_
    refine ck_go_cal (rest := []) (ck_cal_le (by decide) (cx_takeOtherWay (σ := s1) (h := s1 10 k) (e := (-1)) (by rw [eh]; exact hh) (by omega) (by rw [eh, g1 _ _ (by decide)]; exact hx) (by rw [eh, g1 _ _ (by decide)]; exact hy) (by rw [eh, g1 _ _ (by decide)]; exact hz) (by rw [eh, ck_B_f6 g1 hh.1 hh.2]; exact hBh) (fun z => absurd rfl z))) ⟨_, rfl, Or.inl ⟨_, rfl⟩, rfl, rfl, rfl, Nat.le_of_ble_eq_true rfl, fun _ => ⟨_, _, rfl⟩⟩ ?_
    rintro _ s2 ⟨rfl, g2, r2⟩
    try dsimp only at g2 r2
    refine ck_go_run 1 (X1 := (328, [some (.inr (4, 3, 1)), some (.inl k), some (.inl (σ 7 k)), some (.inl (σ 8 k)), some (.inl (σ 9 k)), none], [], s2)) (ps := []) rfl trivial ?_
    exact ck_eV ⟨rfl, ck_f6_tr g1 g2, by rw [r2, eh, ck_oth_f6 g1 hh (by omega)]; unfold ck_fl; rw [hT]; rfl⟩ rfl rfl rfl
set_option maxHeartbeats 4000000 in
theorem cx_follow11 {k : Int} (hk : 0 ≤ k ∧ k < 64) {σ : ck_M} (hO : ck_sOk (σ 6 k) (σ 7 k) (σ 8 k) (σ 9 k)) (hBk : ck_fb (ck_B σ k)) (hh : 0 ≤ σ 10 k ∧ σ 10 k < 64) (hx : 0 ≤ σ 7 (σ 10 k) ∧ σ 7 (σ 10 k) < 10) (hy : 0 ≤ σ 8 (σ 10 k) ∧ σ 8 (σ 10 k) ≤ 10) (hz : -100 ≤ σ 9 (σ 10 k) ∧ σ 9 (σ 10 k) ≤ 100) (hBh : ck_fb (ck_B σ (σ 10 k))) (hee : -1 ≤ σ 11 (σ 10 k) ∧ σ 11 (σ 10 k) < 64) (h6 : ck_rg (σ 6 (σ 10 k))) (hBe : σ 11 (σ 10 k) ≠ -1 → ck_fb (ck_B σ (σ 11 (σ 10 k)))) (hBo : ck_fb (ck_oth σ (σ 10 k) (σ 11 (σ 10 k)))) (hT : σ 6 k = 11) : ck_cal 4 cm_Fi_follow [.inr (4, 3, 1), .inl k] σ (fun q σ' => q = none ∧ ck_f6 σ σ' 473 ∧ ck_rd σ' 473 = ck_fl σ k) := by
  refine ck_cal_of ?_
  refine ck_go_run 24 (X1 := (41, [some (.inr (4, 3, 1)), some (.inl k), some (.inl (σ 7 k)), some (.inl (σ 8 k)), some (.inl (σ 9 k)), none], [.inr (25 + 7 * k, 3, 0), .inr (473, 3, 0)], σ)) (ps := [0 ≤ k ∧ k < ((64 : Nat) : Int), 0 ≤ k ∧ k < ((64 : Nat) : Int), 0 ≤ k ∧ k < ((64 : Nat) : Int), 0 ≤ k ∧ k < ((64 : Nat) : Int)]) rfl ⟨⟨by omega, by omega⟩, ⟨by omega, by omega⟩, ⟨by omega, by omega⟩, ⟨by omega, by omega⟩, trivial⟩ ?_
  refine ck_go_cal (rest := []) (ck_cal_le (by decide) (cx_copy (σ := σ) (c := 473) (e := 25 + 7 * k) (by omega) rfl hBk)) ⟨_, rfl, Or.inl ⟨_, rfl⟩, rfl, rfl, rfl, Nat.le_of_ble_eq_true rfl, fun _ => ⟨_, _, rfl⟩⟩ ?_
  rintro _ s1 ⟨rfl, g1, r1⟩
  try dsimp only at g1 r1
  have hT1 : s1 6 k = 11 := by rw [g1 _ _ (by decide)]; exact hT
  have eh : s1 10 k = σ 10 k := g1 _ _ (by decide)
  have ee : s1 11 (s1 10 k) = σ 11 (σ 10 k) := by rw [eh]; exact g1 _ _ (by decide)
  obtain ⟨w1, w2⟩ := id h6
  refine ck_go_run 6 (X1 := (ck_sw 0 (s1 6 k) 328 [120, 132, 146, 157, 169, 190, 202, 215, 226, 238, 252, 269, 238], [some (.inr (4, 3, 1)), some (.inl k), some (.inl (σ 7 k)), some (.inl (σ 8 k)), some (.inl (σ 9 k)), none], [], s1)) (ps := [0 ≤ k ∧ k < ((64 : Nat) : Int), ck_rg (s1 6 k)]) rfl ⟨⟨by omega, by omega⟩, (ck_rgo (by omega) (by omega)), trivial⟩ ?_
  have hsw := hT1
  · rw [hsw]
    refine ck_go_pc (q := 269) rfl ?_
    refine ck_go_run 13 (X1 := (293, [some (.inr (4, 3, 1)), some (.inl k), some (.inl (σ 7 k)), some (.inl (σ 8 k)), some (.inl (σ 9 k)), some (.inl (s1 10 k))], [.inl (s1 11 (s1 10 k)), .inl (s1 10 k), .inr (4, 3, 1)], s1)) (ps := [0 ≤ k ∧ k < ((64 : Nat) : Int), 0 ≤ s1 10 k ∧ s1 10 k < ((64 : Nat) : Int)]) rfl ⟨⟨by omega, by omega⟩, ⟨by omega, by omega⟩, trivial⟩ ?_
    refine ck_go_cal (rest := []) (ck_cal_le (by decide) (cx_takeOtherWay (σ := s1) (h := s1 10 k) (e := s1 11 (s1 10 k)) (by rw [eh]; exact hh) (by rw [ee]; omega) (by rw [eh, g1 _ _ (by decide)]; exact hx) (by rw [eh, g1 _ _ (by decide)]; exact hy) (by rw [eh, g1 _ _ (by decide)]; exact hz) (by rw [eh, ck_B_f6 g1 hh.1 hh.2]; exact hBh) (fun z => by rw [ee] at z ⊢; rw [ck_B_f6 g1 (by omega) (by omega)]; exact hBe z))) ⟨_, rfl, Or.inl ⟨_, rfl⟩, rfl, rfl, rfl, Nat.le_of_ble_eq_true rfl, fun _ => ⟨_, _, rfl⟩⟩ ?_
    rintro _ s2 ⟨rfl, g2, r2⟩
    try dsimp only at g2 r2
    have e6 : s2 6 (s1 10 k) = σ 6 (σ 10 k) := by rw [eh, g2 _ _ (by decide), g1 _ _ (by decide)]
    refine ck_go_run 7 (X1 := (if s2 6 (s1 10 k) = 9 then 311 else 328, [some (.inr (4, 3, 1)), some (.inl k), some (.inl (σ 7 k)), some (.inl (σ 8 k)), some (.inl (σ 9 k)), some (.inl (s1 10 k))], [], s2)) (ps := [0 ≤ s1 10 k ∧ s1 10 k < ((64 : Nat) : Int), ck_rg (s2 6 (s1 10 k)), ck_rg 9]) rfl ⟨⟨by omega, by omega⟩, (ck_rgo (by omega) (by omega)), (ck_rgo (by omega) (by omega)), trivial⟩ ?_
    refine ck_go_ite (fun h1 => ?_) (fun h1 => ?_)
    · refine ck_go_run 7 (X1 := (322, [some (.inr (4, 3, 1)), some (.inl k), some (.inl (σ 7 k)), some (.inl (σ 8 k)), some (.inl (σ 9 k)), some (.inl (s1 10 k))], [.inl k, .inr (25 + 7 * k, 3, 0), .inr (473, 3, 0)], s2)) (ps := [0 ≤ k ∧ k < ((64 : Nat) : Int)]) rfl ⟨⟨by omega, by omega⟩, trivial⟩ ?_
      refine ck_go_cal (rest := []) (ck_cal_le (by decide) (cx_joinWays (σ := s2) (c := 473) (e := 25 + 7 * k) (k := k) (by omega) r2 (by rw [ck_oth_f6 g1 (by rw [eh]; exact hh) (by rw [ee]; omega), ee, eh]; exact hBo) rfl (by
          show ck_fb (ck_B s2 k)
          rw [ck_B_f6 (ck_f6_tr g1 g2) hk.1 hk.2]; exact hBk))) ⟨_, rfl, Or.inl ⟨_, rfl⟩, rfl, rfl, rfl, Nat.le_of_ble_eq_true rfl, fun _ => ⟨_, _, rfl⟩⟩ ?_
      rintro _ s3 ⟨rfl, g3, r3⟩
      try dsimp only at g3 r3
      refine ck_go_run 1 (X1 := (328, [some (.inr (4, 3, 1)), some (.inl k), some (.inl (σ 7 k)), some (.inl (σ 8 k)), some (.inl (σ 9 k)), some (.inl (s1 10 k))], [], s3)) (ps := []) rfl trivial ?_
      exact ck_eV ⟨rfl, ck_f6_tr (ck_f6_tr g1 g2) g3, by
        rw [r3, show ck_rd s2 (25 + 7 * k) = ck_B σ k from ck_B_f6 (ck_f6_tr g1 g2) hk.1 hk.2, ck_oth_f6 g1 (by rw [eh]; exact hh) (by rw [ee]; omega), ee, eh]
        unfold ck_fl
        rw [if_neg (by omega), if_neg (by omega), if_pos hT, if_pos (by rw [← e6]; exact h1)]⟩ rfl rfl rfl
    · exact ck_eV ⟨rfl, ck_f6_tr g1 g2, by
        rw [r2, ck_oth_f6 g1 (by rw [eh]; exact hh) (by rw [ee]; omega), ee, eh]
        unfold ck_fl
        rw [if_neg (by omega), if_neg (by omega), if_pos hT, if_neg (by rw [← e6]; exact h1)]⟩ rfl rfl rfl
theorem cx_follow {k : Int} (hk : 0 ≤ k ∧ k < 64) {σ : ck_M} (hO : ck_sOk (σ 6 k) (σ 7 k) (σ 8 k) (σ 9 k)) (hBk : ck_fb (ck_B σ k)) (hH : σ 6 k = 10 ∨ σ 6 k = 11 → (0 ≤ σ 10 k ∧ σ 10 k < 64) ∧ (0 ≤ σ 7 (σ 10 k) ∧ σ 7 (σ 10 k) < 10) ∧ (0 ≤ σ 8 (σ 10 k) ∧ σ 8 (σ 10 k) ≤ 10) ∧ (-100 ≤ σ 9 (σ 10 k) ∧ σ 9 (σ 10 k) ≤ 100) ∧ ck_fb (ck_B σ (σ 10 k)))
    (hE : σ 6 k = 11 → (-1 ≤ σ 11 (σ 10 k) ∧ σ 11 (σ 10 k) < 64) ∧ ck_rg (σ 6 (σ 10 k)) ∧ (σ 11 (σ 10 k) ≠ -1 → ck_fb (ck_B σ (σ 11 (σ 10 k)))) ∧ ck_fb (ck_oth σ (σ 10 k) (σ 11 (σ 10 k)))) : ck_cal 4 cm_Fi_follow [.inr (4, 3, 1), .inl k] σ (fun q σ' => q = none ∧ ck_f6 σ σ' 473 ∧ ck_rd σ' 473 = ck_fl σ k) := by
  have hT : σ 6 k = 0 ∨ σ 6 k = 1 ∨ σ 6 k = 2 ∨ σ 6 k = 3 ∨ σ 6 k = 4 ∨ σ 6 k = 5 ∨ σ 6 k = 6 ∨ σ 6 k = 7 ∨ σ 6 k = 8 ∨ σ 6 k = 9 ∨ σ 6 k = 10 ∨ σ 6 k = 11 ∨ σ 6 k = 12 ∨ σ 6 k = 13 := by unfold ck_sOk at hO; omega
  rcases hT with h | h | h | h | h | h | h | h | h | h | h | h | h | h
  · exact cx_follow0 hk hO hBk h
  · exact cx_follow1 hk hO hBk h
  · exact cx_follow2 hk hO hBk h
  · exact cx_follow3 hk hO hBk h
  · exact cx_follow4 hk hO hBk h
  · exact cx_follow5 hk hO hBk h
  · exact cx_follow6 hk hO hBk h
  · exact cx_follow7 hk hO hBk h
  · exact cx_follow8 hk hO hBk h
  · exact cx_follow9 hk hO hBk h
  · obtain ⟨a1, a2, a3, a4, a5⟩ := hH (Or.inl h)
    exact cx_follow10 hk hO hBk a1 a2 a3 a4 a5 h
  · obtain ⟨a1, a2, a3, a4, a5⟩ := hH (Or.inr h)
    obtain ⟨b1, b2, b3, b4⟩ := hE h
    exact cx_follow11 hk hO hBk a1 a2 a3 a4 a5 b1 b2 b3 b4 h
  · exact cx_follow12 hk hO hBk h
  · exact cx_follow13 hk hO hBk h
