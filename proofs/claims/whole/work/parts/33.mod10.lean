theorem ck_go_pc {d : Nat} {md : ck_MD} {T : ck_F → Prop} {p q : Nat} {ls : ck_Ls} {st : List ck_PV} {σ : ck_M} (h : p = q) (k : ck_go d md (q, ls, st, σ) T) : ck_go d md (p, ls, st, σ) T := h ▸ k
/-- what a statement that is no if, while, ELSE or END does to a row -/
def ck_qEff (t x y z k : Int) (f : ck_Q) : ck_Q := if t = 0 then ck_qSet x y f else if t = 1 then ck_qSum x y z f else if t = 2 then ck_qAny x f else if t = 3 then ck_qLen x y f else if t = 4 then ck_qAny x (ck_qUse y z f) else if t = 5 then ck_qUse x y f else if t = 6 then ck_qNew k x y f else if t = 7 then ck_qNull x f else if t = 8 then ck_qLet x y f else f
/-- a statement's numbers are in their ranges -/
def ck_sOk (t x y z : Int) : Prop := (t = 0 ∧ (0 ≤ x ∧ x < 10) ∧ (-100 ≤ y ∧ y ≤ 100)) ∨ (t = 1 ∧ (0 ≤ x ∧ x < 10) ∧ (0 ≤ y ∧ y < 10) ∧ (-100 ≤ z ∧ z ≤ 100)) ∨ (t = 2 ∧ 0 ≤ x ∧ x < 10) ∨ (t = 3 ∧ (0 ≤ x ∧ x < 10) ∧ 0 ≤ y ∧ y < 4) ∨ (t = 4 ∧ (0 ≤ x ∧ x < 10) ∧ (0 ≤ y ∧ y < 4) ∧ 0 ≤ z ∧ z < 10) ∨ (t = 5 ∧ (0 ≤ x ∧ x < 4) ∧ (0 ≤ y ∧ y < 10) ∧ 0 ≤ z ∧ z < 10) ∨ (t = 6 ∧ (0 ≤ x ∧ x < 4) ∧ 0 ≤ y ∧ y < 10) ∨ (t = 7 ∧ 0 ≤ x ∧ x < 4) ∨ (t = 8 ∧ (0 ≤ x ∧ x < 4) ∧ 0 ≤ y ∧ y < 4) ∨ (t = 9 ∧ (0 ≤ x ∧ x < 10) ∧ (0 ≤ y ∧ y ≤ 10) ∧ (-100 ≤ z ∧ z ≤ 100)) ∨ t = 10 ∨ t = 11 ∨ (t = 12 ∧ (0 ≤ x ∧ x < 10) ∧ (0 ≤ y ∧ y ≤ 10) ∧ (-100 ≤ z ∧ z ≤ 100)) ∨ (t = 13 ∧ 0 ≤ x ∧ x < 10)
set_option maxHeartbeats 20000000 in
theorem cx_effect {k : Int} (hk : 0 ≤ k ∧ k < 64) {σ : ck_M} (hO : ck_sOk (σ 481 k) (σ 482 k) (σ 483 k) (σ 484 k)) {f : ck_Q} (hf : ck_mv (σ 490) = f) (hB : ck_qb f) : ck_cal 4 cm_Mo_effect [.inr (480, 3, 6), .inl k] σ (fun q σ' => q = none ∧ ck_f1 σ σ' 490 ∧ ck_mv (σ' 490) = ck_qEff (σ 481 k) (σ 482 k) (σ 483 k) (σ 484 k) k f) := by
  refine ck_cal_of ?_
  have hT : σ 481 k = 0 ∨ σ 481 k = 1 ∨ σ 481 k = 2 ∨ σ 481 k = 3 ∨ σ 481 k = 4 ∨ σ 481 k = 5 ∨ σ 481 k = 6 ∨ σ 481 k = 7 ∨ σ 481 k = 8 ∨ σ 481 k = 9 ∨ σ 481 k = 10 ∨ σ 481 k = 11 ∨ σ 481 k = 12 ∨ σ 481 k = 13 := by unfold ck_sOk at hO; omega
  refine ck_go_run 5 (X1 := (ck_sw 0 (σ 481 k) 232 [56, 75, 100, 113, 132, 161, 180, 200, 213], [some (.inr (480, 3, 6)), some (.inl k)], [], σ)) (ps := [0 ≤ k ∧ k < ((64 : Nat) : Int), ck_rg (σ 481 k)]) rfl ⟨⟨by omega, by omega⟩, (ck_rgo (by omega) (by omega)), trivial⟩ ?_
  rcases hT with hsw | hsw | hsw | hsw | hsw | hsw | hsw | hsw | hsw | hsw | hsw | hsw | hsw | hsw
  · rw [hsw]
    refine ck_go_pc (q := 56) rfl ?_
    refine ck_go_run 9 (X1 := (69, [some (.inr (480, 3, 6)), some (.inl k)], [.inl (σ 483 k), .inl (σ 482 k), .inr (480, 3, 6)], σ)) (ps := [0 ≤ k ∧ k < ((64 : Nat) : Int), 0 ≤ k ∧ k < ((64 : Nat) : Int)]) rfl ⟨⟨by omega, by omega⟩, ⟨by omega, by omega⟩, trivial⟩ ?_
    refine ck_go_cal (rest := []) (ck_cal_le (by decide) (cx_set (x := σ 482 k) (k := σ 483 k) (by unfold ck_sOk at hO; omega) (by unfold ck_sOk at hO; omega) hf hB)) ⟨_, rfl, Or.inl ⟨_, rfl⟩, rfl, rfl, rfl, Nat.le_of_ble_eq_true rfl, fun _ => ⟨_, _, rfl⟩⟩ ?_
    rintro _ s1 ⟨rfl, g1, r1⟩
    try dsimp only at g1 r1
    refine ck_go_run 1 (X1 := (232, [some (.inr (480, 3, 6)), some (.inl k)], [], s1)) (ps := []) rfl trivial ?_
    first
    | exact ck_eV ⟨rfl, g1, by rw [r1]; rfl⟩ rfl rfl rfl
    | exact ck_eV ⟨rfl, ck_f1_tr g0 g1, by rw [r1, g0 _ _ (by decide)]; rfl⟩ rfl rfl rfl
  · rw [hsw]
    refine ck_go_pc (q := 75) rfl ?_
    refine ck_go_run 13 (X1 := (94, [some (.inr (480, 3, 6)), some (.inl k)], [.inl (σ 484 k), .inl (σ 483 k), .inl (σ 482 k), .inr (480, 3, 6)], σ)) (ps := [0 ≤ k ∧ k < ((64 : Nat) : Int), 0 ≤ k ∧ k < ((64 : Nat) : Int), 0 ≤ k ∧ k < ((64 : Nat) : Int)]) rfl ⟨⟨by omega, by omega⟩, ⟨by omega, by omega⟩, ⟨by omega, by omega⟩, trivial⟩ ?_
    refine ck_go_cal (rest := []) (ck_cal_le (by decide) (cx_add (x := σ 482 k) (y := σ 483 k) (z := σ 484 k) (by unfold ck_sOk at hO; omega) (by unfold ck_sOk at hO; omega) (by unfold ck_sOk at hO; omega) hf hB)) ⟨_, rfl, Or.inl ⟨_, rfl⟩, rfl, rfl, rfl, Nat.le_of_ble_eq_true rfl, fun _ => ⟨_, _, rfl⟩⟩ ?_
    rintro _ s2 ⟨rfl, g2, r2⟩
    try dsimp only at g2 r2
    refine ck_go_run 1 (X1 := (232, [some (.inr (480, 3, 6)), some (.inl k)], [], s2)) (ps := []) rfl trivial ?_
    first
    | exact ck_eV ⟨rfl, g2, by rw [r2]; rfl⟩ rfl rfl rfl
    | exact ck_eV ⟨rfl, ck_f1_tr g1 g2, by rw [r2, g1 _ _ (by decide)]; rfl⟩ rfl rfl rfl
  · rw [hsw]
    refine ck_go_pc (q := 100) rfl ?_
    refine ck_go_run 5 (X1 := (107, [some (.inr (480, 3, 6)), some (.inl k)], [.inl (σ 482 k), .inr (480, 3, 6)], σ)) (ps := [0 ≤ k ∧ k < ((64 : Nat) : Int)]) rfl ⟨⟨by omega, by omega⟩, trivial⟩ ?_
    refine ck_go_cal (rest := []) (ck_cal_le (by decide) (cx_forget (x := σ 482 k) (by unfold ck_sOk at hO; omega) hf)) ⟨_, rfl, Or.inl ⟨_, rfl⟩, rfl, rfl, rfl, Nat.le_of_ble_eq_true rfl, fun _ => ⟨_, _, rfl⟩⟩ ?_
    rintro _ s3 ⟨rfl, g3, r3⟩
    try dsimp only at g3 r3
    refine ck_go_run 1 (X1 := (232, [some (.inr (480, 3, 6)), some (.inl k)], [], s3)) (ps := []) rfl trivial ?_
    first
    | exact ck_eV ⟨rfl, g3, by rw [r3]; rfl⟩ rfl rfl rfl
    | exact ck_eV ⟨rfl, ck_f1_tr g2 g3, by rw [r3, g2 _ _ (by decide)]; rfl⟩ rfl rfl rfl
  · rw [hsw]
    refine ck_go_pc (q := 113) rfl ?_
    refine ck_go_run 9 (X1 := (126, [some (.inr (480, 3, 6)), some (.inl k)], [.inl (σ 483 k), .inl (σ 482 k), .inr (480, 3, 6)], σ)) (ps := [0 ≤ k ∧ k < ((64 : Nat) : Int), 0 ≤ k ∧ k < ((64 : Nat) : Int)]) rfl ⟨⟨by omega, by omega⟩, ⟨by omega, by omega⟩, trivial⟩ ?_
    refine ck_go_cal (rest := []) (ck_cal_le (by decide) (cx_measured (x := σ 482 k) (a := σ 483 k) (by unfold ck_sOk at hO; omega) (by unfold ck_sOk at hO; omega) hf hB)) ⟨_, rfl, Or.inl ⟨_, rfl⟩, rfl, rfl, rfl, Nat.le_of_ble_eq_true rfl, fun _ => ⟨_, _, rfl⟩⟩ ?_
    rintro _ s4 ⟨rfl, g4, r4⟩
    try dsimp only at g4 r4
    refine ck_go_run 1 (X1 := (232, [some (.inr (480, 3, 6)), some (.inl k)], [], s4)) (ps := []) rfl trivial ?_
    first
    | exact ck_eV ⟨rfl, g4, by rw [r4]; rfl⟩ rfl rfl rfl
    | exact ck_eV ⟨rfl, ck_f1_tr g3 g4, by rw [r4, g3 _ _ (by decide)]; rfl⟩ rfl rfl rfl
  · rw [hsw]
    refine ck_go_pc (q := 132) rfl ?_
    refine ck_go_run 9 (X1 := (145, [some (.inr (480, 3, 6)), some (.inl k)], [.inl (σ 484 k), .inl (σ 483 k), .inr (480, 3, 6)], σ)) (ps := [0 ≤ k ∧ k < ((64 : Nat) : Int), 0 ≤ k ∧ k < ((64 : Nat) : Int)]) rfl ⟨⟨by omega, by omega⟩, ⟨by omega, by omega⟩, trivial⟩ ?_
    refine ck_go_cal (rest := []) (ck_cal_le (by decide) (cx_indexed (a := σ 483 k) (m := σ 484 k) (by unfold ck_sOk at hO; omega) (by unfold ck_sOk at hO; omega) hf hB)) ⟨_, rfl, Or.inl ⟨_, rfl⟩, rfl, rfl, rfl, Nat.le_of_ble_eq_true rfl, fun _ => ⟨_, _, rfl⟩⟩ ?_
    rintro _ s5 ⟨rfl, g5, r5⟩
    try dsimp only at g5 r5
    refine ck_go_run 5 (X1 := (155, [some (.inr (480, 3, 6)), some (.inl k)], [.inl (s5 482 k), .inr (480, 3, 6)], s5)) (ps := [0 ≤ k ∧ k < ((64 : Nat) : Int)]) rfl ⟨⟨by omega, by omega⟩, trivial⟩ ?_
    refine ck_go_cal (rest := []) (ck_cal_le (by decide) (cx_forget (x := s5 482 k) (by rw [g5 _ _ (by decide)]; unfold ck_sOk at hO; omega) r5)) ⟨_, rfl, Or.inl ⟨_, rfl⟩, rfl, rfl, rfl, Nat.le_of_ble_eq_true rfl, fun _ => ⟨_, _, rfl⟩⟩ ?_
    rintro _ s6 ⟨rfl, g6, r6⟩
    try dsimp only at g6 r6
    refine ck_go_run 1 (X1 := (232, [some (.inr (480, 3, 6)), some (.inl k)], [], s6)) (ps := []) rfl trivial ?_
    first
    | exact ck_eV ⟨rfl, g6, by rw [r6]; rfl⟩ rfl rfl rfl
    | exact ck_eV ⟨rfl, ck_f1_tr g5 g6, by rw [r6, g5 _ _ (by decide)]; rfl⟩ rfl rfl rfl
  · rw [hsw]
    refine ck_go_pc (q := 161) rfl ?_
    refine ck_go_run 9 (X1 := (174, [some (.inr (480, 3, 6)), some (.inl k)], [.inl (σ 483 k), .inl (σ 482 k), .inr (480, 3, 6)], σ)) (ps := [0 ≤ k ∧ k < ((64 : Nat) : Int), 0 ≤ k ∧ k < ((64 : Nat) : Int)]) rfl ⟨⟨by omega, by omega⟩, ⟨by omega, by omega⟩, trivial⟩ ?_
    refine ck_go_cal (rest := []) (ck_cal_le (by decide) (cx_indexed (a := σ 482 k) (m := σ 483 k) (by unfold ck_sOk at hO; omega) (by unfold ck_sOk at hO; omega) hf hB)) ⟨_, rfl, Or.inl ⟨_, rfl⟩, rfl, rfl, rfl, Nat.le_of_ble_eq_true rfl, fun _ => ⟨_, _, rfl⟩⟩ ?_
    rintro _ s7 ⟨rfl, g7, r7⟩
    try dsimp only at g7 r7
    refine ck_go_run 1 (X1 := (232, [some (.inr (480, 3, 6)), some (.inl k)], [], s7)) (ps := []) rfl trivial ?_
    first
    | exact ck_eV ⟨rfl, g7, by rw [r7]; rfl⟩ rfl rfl rfl
    | exact ck_eV ⟨rfl, ck_f1_tr g6 g7, by rw [r7, g6 _ _ (by decide)]; rfl⟩ rfl rfl rfl
  · rw [hsw]
    refine ck_go_pc (q := 180) rfl ?_
    refine ck_go_run 10 (X1 := (194, [some (.inr (480, 3, 6)), some (.inl k)], [.inl (σ 483 k), .inl (σ 482 k), .inl k, .inr (480, 3, 6)], σ)) (ps := [0 ≤ k ∧ k < ((64 : Nat) : Int), 0 ≤ k ∧ k < ((64 : Nat) : Int)]) rfl ⟨⟨by omega, by omega⟩, ⟨by omega, by omega⟩, trivial⟩ ?_
    refine ck_go_cal (rest := []) (ck_cal_le (by decide) (cx_make (k := k) (a := σ 482 k) (y := σ 483 k) hk (by unfold ck_sOk at hO; omega) (by unfold ck_sOk at hO; omega) hf hB)) ⟨_, rfl, Or.inl ⟨_, rfl⟩, rfl, rfl, rfl, Nat.le_of_ble_eq_true rfl, fun _ => ⟨_, _, rfl⟩⟩ ?_
    rintro _ s8 ⟨rfl, g8, r8⟩
    try dsimp only at g8 r8
    refine ck_go_run 1 (X1 := (232, [some (.inr (480, 3, 6)), some (.inl k)], [], s8)) (ps := []) rfl trivial ?_
    first
    | exact ck_eV ⟨rfl, g8, by rw [r8]; rfl⟩ rfl rfl rfl
    | exact ck_eV ⟨rfl, ck_f1_tr g7 g8, by rw [r8, g7 _ _ (by decide)]; rfl⟩ rfl rfl rfl
  · rw [hsw]
    refine ck_go_pc (q := 200) rfl ?_
    refine ck_go_run 5 (X1 := (207, [some (.inr (480, 3, 6)), some (.inl k)], [.inl (σ 482 k), .inr (480, 3, 6)], σ)) (ps := [0 ≤ k ∧ k < ((64 : Nat) : Int)]) rfl ⟨⟨by omega, by omega⟩, trivial⟩ ?_
    refine ck_go_cal (rest := []) (ck_cal_le (by decide) (cx_nothing (r := σ 482 k) (by unfold ck_sOk at hO; omega) hf)) ⟨_, rfl, Or.inl ⟨_, rfl⟩, rfl, rfl, rfl, Nat.le_of_ble_eq_true rfl, fun _ => ⟨_, _, rfl⟩⟩ ?_
    rintro _ s9 ⟨rfl, g9, r9⟩
    try dsimp only at g9 r9
    refine ck_go_run 1 (X1 := (232, [some (.inr (480, 3, 6)), some (.inl k)], [], s9)) (ps := []) rfl trivial ?_
    first
    | exact ck_eV ⟨rfl, g9, by rw [r9]; rfl⟩ rfl rfl rfl
    | exact ck_eV ⟨rfl, ck_f1_tr g8 g9, by rw [r9, g8 _ _ (by decide)]; rfl⟩ rfl rfl rfl
  · rw [hsw]
    refine ck_go_pc (q := 213) rfl ?_
    refine ck_go_run 9 (X1 := (226, [some (.inr (480, 3, 6)), some (.inl k)], [.inl (σ 483 k), .inl (σ 482 k), .inr (480, 3, 6)], σ)) (ps := [0 ≤ k ∧ k < ((64 : Nat) : Int), 0 ≤ k ∧ k < ((64 : Nat) : Int)]) rfl ⟨⟨by omega, by omega⟩, ⟨by omega, by omega⟩, trivial⟩ ?_
    refine ck_go_cal (rest := []) (ck_cal_le (by decide) (cx_let (a := σ 482 k) (e := σ 483 k) (by unfold ck_sOk at hO; omega) (by unfold ck_sOk at hO; omega) hf)) ⟨_, rfl, Or.inl ⟨_, rfl⟩, rfl, rfl, rfl, Nat.le_of_ble_eq_true rfl, fun _ => ⟨_, _, rfl⟩⟩ ?_
    rintro _ s10 ⟨rfl, g10, r10⟩
    try dsimp only at g10 r10
    refine ck_go_run 1 (X1 := (232, [some (.inr (480, 3, 6)), some (.inl k)], [], s10)) (ps := []) rfl trivial ?_
    first
    | exact ck_eV ⟨rfl, g10, by rw [r10]; rfl⟩ rfl rfl rfl
    | exact ck_eV ⟨rfl, ck_f1_tr g9 g10, by rw [r10, g9 _ _ (by decide)]; rfl⟩ rfl rfl rfl
  · rw [hsw]
    refine ck_go_pc (q := 232) rfl ?_
    exact ck_eV ⟨rfl, fun _ _ _ => rfl, by rw [hf]; rfl⟩ rfl rfl rfl
  · rw [hsw]
    refine ck_go_pc (q := 232) rfl ?_
    exact ck_eV ⟨rfl, fun _ _ _ => rfl, by rw [hf]; rfl⟩ rfl rfl rfl
  · rw [hsw]
    refine ck_go_pc (q := 232) rfl ?_
    exact ck_eV ⟨rfl, fun _ _ _ => rfl, by rw [hf]; rfl⟩ rfl rfl rfl
  · rw [hsw]
    refine ck_go_pc (q := 232) rfl ?_
    exact ck_eV ⟨rfl, fun _ _ _ => rfl, by rw [hf]; rfl⟩ rfl rfl rfl
  · rw [hsw]
    refine ck_go_pc (q := 232) rfl ?_
    exact ck_eV ⟨rfl, fun _ _ _ => rfl, by rw [hf]; rfl⟩ rfl rfl rfl
