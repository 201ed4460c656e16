/-- g with the values of f -/
def ck_qV (g f : ck_Q) : ck_Q := ck_P (ck_K g) (ck_I g) (ck_L g) (ck_V f) (ck_T g) (ck_G g) (ck_H g)
theorem ck_qb_V {g f : ck_Q} (hg : ck_qb g) (hf : ck_qb f) : ck_qb (ck_qV g f) := by
  obtain ⟨a1, a2, a3, a4, a5, a6, a7⟩ := hg
  have zz : (-1000000000 : Int) ≤ 0 ∧ (0 : Int) ≤ 1000000000 := by decide
  refine ⟨fun n => ?_, fun n => ?_, fun n => ?_, fun r => ?_, fun r => ?_, fun r => ?_, fun n r => ?_⟩
  · show _ ≤ (if _ then _ else _) ∧ (if _ then _ else _) ≤ _
    split; exact a1 n; exact zz
  · show _ ≤ (if _ then _ else _) ∧ (if _ then _ else _) ≤ _
    split; exact a2 n; exact zz
  · show _ ≤ (if _ then _ else _) ∧ (if _ then _ else _) ≤ _
    split; exact a3 n; exact zz
  · show _ ≤ (if _ then _ else _) ∧ (if _ then _ else _) ≤ _
    split; exact hf.2.2.2.1 r; exact zz
  · show _ ≤ (if _ then _ else _) ∧ (if _ then _ else _) ≤ _
    split; exact a5 r; exact zz
  · show _ ≤ (if _ then _ else _) ∧ (if _ then _ else _) ≤ _
    split; exact a6 r; exact zz
  · show _ ≤ (if _ then _ else _) ∧ (if _ then _ else _) ≤ _
    split; exact a7 n r; exact zz
theorem cx_joinBack {k : Int} (hk : 0 ≤ k ∧ k < 64) {σ : ck_M} {f g : ck_Q} (hf : ck_mv (σ 490) = f) (hB : ck_qb f) (hg : ck_mv (fun j => σ 494 (82 * k + j)) = g) (hG : ck_qb g) : ck_cal 3 cm_Mo_joinBack [.inr (480, 3, 6), .inl k] σ (fun q σ' => q = none ∧ (∀ b j, b ≠ 490 → (b ≠ 494 ∨ j < 82 * k + 30 ∨ 82 * k + 34 ≤ j) → σ' b j = σ b j) ∧ ck_mv (σ' 490) = ck_qJ (ck_qV g f) k f) := by
  refine ck_cal_of ?_
  refine ck_go_run 2 (X1 := (2, [some (.inr (480, 3, 6)), some (.inl k), some (.inl 0)], [], σ)) (ps := []) rfl trivial ?_
  refine ck_for 2 (fun v => [some (.inr (480, 3, 6)), some (.inl k), some (.inl v)]) 4 (fun v s => 0 ≤ v ∧ v ≤ 4 ∧ (∀ b j, (b ≠ 494 ∨ j < 82 * k + 30 ∨ 82 * k + 30 + v ≤ j) → s b j = σ b j) ∧ ∀ q, 0 ≤ q → q < v → s 494 (82 * k + 30 + q) = ck_V f q) (fun v s hv hI kk => ?_) (fun v s hv hI => ?_) 0 _ ⟨by omega, by omega, fun _ _ _ => rfl, fun _ _ _ => by omega⟩
  · obtain ⟨h0, h4, hI1, hI2⟩ := hI
    refine ck_go_run 3 (X1 := (if v < 4 then 7 else 36, [some (.inr (480, 3, 6)), some (.inl k), some (.inl v)], [], s)) (ps := [ck_rg v, ck_rg 4]) rfl ⟨(ck_rgo (by omega) (by omega)), (ck_rgo (by omega) (by omega)), trivial⟩ ?_
    refine ck_go_t hv ?_
    refine ck_go_run 18 (X1 := (2, [some (.inr (480, 3, 6)), some (.inl k), some (.inl (v + 1))], [], ck_up s 494 (((82 * k) + 30) + v) (s 490 (30 + v)))) (ps := [0 ≤ 30 + v ∧ 30 + v < ((82 : Nat) : Int), 0 ≤ ((82 * k) + 30) + v ∧ ((82 * k) + 30) + v < ((5248 : Nat) : Int)]) rfl ⟨⟨by omega, by omega⟩, ⟨by omega, by omega⟩, trivial⟩ ?_
    exact kk _ ⟨by omega, by omega, ck_st1 (base := 82 * k + 30) (g := fun q => ck_V f q) hI1 hI2 (by rw [hI1 _ _ (by omega), ck_y_V hf h0 hv]) h0⟩
  · obtain ⟨h0, h4, hI1, hI2⟩ := hI
    refine ck_go_run 3 (X1 := (if v < 4 then 7 else 36, [some (.inr (480, 3, 6)), some (.inl k), some (.inl v)], [], s)) (ps := [ck_rg v, ck_rg 4]) rfl ⟨(ck_rgo (by omega) (by omega)), (ck_rgo (by omega) (by omega)), trivial⟩ ?_
    refine ck_go_f (by omega) ?_
    refine ck_go_run 7 (X1 := (46, [some (.inr (480, 3, 6)), some (.inl k), some (.inl v)], [.inl k, .inl (82 * k), .inr (494, 0, 5248), .inr (480, 3, 6)], s)) (ps := []) rfl trivial ?_
    refine ck_go_cal (rest := []) (ck_cal_le (by decide) (cx_join (σ := s) (a := 494) (o := 82 * k) (k := k) (f := f) (g := ck_qV g f) (by decide) (by omega) (by
        rw [← hf]
        congr 1
        funext j
        exact hI1 490 j (by omega)) hB (by
        unfold ck_qV
        refine ck_P_ext (fun n a0 a1 => ?_) (fun n a0 a1 => ?_) (fun n a0 a1 => ?_) (fun q b0 b1 => ?_) (fun q b0 b1 => ?_) (fun q b0 b1 => ?_) (fun n q a0 a1 b0 b1 => ?_)
        · show s 494 (82 * k + (0 + n)) = _
          rw [hI1 _ _ (by omega)]; exact ck_y_K hg a0 a1
        · show s 494 (82 * k + (10 + n)) = _
          rw [hI1 _ _ (by omega)]; exact ck_y_I hg a0 a1
        · show s 494 (82 * k + (20 + n)) = _
          rw [hI1 _ _ (by omega)]; exact ck_y_L hg a0 a1
        · show s 494 (82 * k + (30 + q)) = _
          rw [show 82 * k + (30 + q) = 82 * k + 30 + q by omega]; exact hI2 q b0 (by omega)
        · show s 494 (82 * k + (34 + q)) = _
          rw [hI1 _ _ (by omega)]; exact ck_y_T hg b0 b1
        · show s 494 (82 * k + (38 + q)) = _
          rw [hI1 _ _ (by omega)]; exact ck_y_G hg b0 b1
        · show s 494 (82 * k + (42 + 4 * n + q)) = _
          rw [hI1 _ _ (by omega)]; exact ck_y_H hg a0 a1 b0 b1) (ck_qb_V hG hB))) ⟨_, rfl, Or.inl ⟨_, rfl⟩, rfl, rfl, rfl, Nat.le_of_ble_eq_true rfl, fun _ => ⟨_, _, rfl⟩⟩ ?_
    rintro _ s1 ⟨rfl, g1, r1⟩
    try dsimp only at g1 r1
    exact ck_eV ⟨rfl, fun b j hb hj => by rw [g1 b j hb]; exact hI1 b j (by omega), r1⟩ rfl rfl rfl
/-- the rows of an array of the reference -/
def ck_rw (σ : ck_M) (a k : Int) : ck_Q := ck_mv (fun j => σ a (82 * k + j))
theorem ck_mv_congr {w w' : Int → Int} (h : ∀ q, 0 ≤ q → q < 82 → w q = w' q) : ck_mv w = ck_mv w' := by
  refine ck_P_ext (fun n a0 a1 => ?_) (fun n a0 a1 => ?_) (fun n a0 a1 => ?_) (fun q b0 b1 => ?_) (fun q b0 b1 => ?_) (fun q b0 b1 => ?_) (fun n q a0 a1 b0 b1 => ?_) <;> exact h _ (by omega) (by omega)
theorem ck_kp_rw {σ σ' : ck_M} {a k : Int} (h : ck_kp σ σ' a k) (j : Int) : ck_rw σ' a j = if j = k then ck_mv (σ 490) else ck_rw σ a j := by
  by_cases hj : j = k
  · subst hj
    rw [if_pos rfl]
    exact ck_mv_congr (fun q h0 h1 => h.2 q h0 h1)
  · rw [if_neg hj]
    exact ck_mv_congr (fun q h0 h1 => h.1 _ _ (by omega))
theorem cx_close {h k : Int} (hh : 0 ≤ h ∧ h < 64) {σ : ck_M} (hS : ck_rg (σ 481 h)) (hO : ck_rg (σ 485 h)) {f : ck_Q} (hf : ck_mv (σ 490) = f) (hB : ck_qb f) (hG492 : ck_qb (ck_rw σ 492 h)) (hG493 : ck_qb (ck_rw σ 493 h)) : ck_cal 3 cm_Mo_close [.inr (480, 3, 6), .inl h, .inl k] σ (fun q σ' => q = none ∧ (σ 481 h = 12 → (∀ b j, b ≠ 490 → (b ≠ 495 ∨ j ≠ h) → (b ≠ 494 ∨ j < 82 * h ∨ 82 * h + 82 ≤ j) → σ' b j = σ b j) ∧ σ' 495 h = 1 ∧ (∀ q, 0 ≤ q → q < 82 → σ' 494 (82 * h + q) = σ 490 q) ∧ ck_mv (σ' 490) = ck_rw σ 492 h) ∧ (σ 481 h ≠ 12 → σ 485 h = -1 → ck_f1 σ σ' 490 ∧ ck_mv (σ' 490) = ck_qJ (ck_rw σ 492 h) k f) ∧ (σ 481 h ≠ 12 → σ 485 h ≠ -1 → ck_f1 σ σ' 490 ∧ ck_mv (σ' 490) = ck_qJ (ck_rw σ 493 h) k f)) := by
  refine ck_cal_of ?_
  obtain ⟨o1, o2⟩ := id hO
  obtain ⟨p1, p2⟩ := id hS
  refine ck_go_run 6 (X1 := (if σ 481 h = 12 then 11 else 39, [some (.inr (480, 3, 6)), some (.inl h), some (.inl k)], [], σ)) (ps := [0 ≤ h ∧ h < ((64 : Nat) : Int), ck_rg (σ 481 h), ck_rg 12]) rfl ⟨⟨by omega, by omega⟩, (ck_rgo (by omega) (by omega)), (ck_rgo (by omega) (by omega)), trivial⟩ ?_
  refine ck_go_ite (fun h1 => ?_) (fun h1 => ?_)
  · refine ck_go_run 4 (X1 := (17, [some (.inr (480, 3, 6)), some (.inl h), some (.inl k)], [.inl h, .inr (494, 0, 5248), .inr (480, 3, 6)], σ)) (ps := []) rfl trivial ?_
    refine ck_go_cal (rest := []) (ck_cal_le (by decide) (cx_keep (σ := σ) (a := 494) (k := h) (by decide) hh)) ⟨_, rfl, Or.inl ⟨_, rfl⟩, rfl, rfl, rfl, Nat.le_of_ble_eq_true rfl, fun _ => ⟨_, _, rfl⟩⟩ ?_
    rintro _ s1 ⟨rfl, g1⟩
    try dsimp only at g1
    refine ck_go_run 9 (X1 := (33, [some (.inr (480, 3, 6)), some (.inl h), some (.inl k)], [.inl h, .inr (492, 0, 5248), .inr (480, 3, 6)], ck_up s1 495 h 1)) (ps := [0 ≤ h ∧ h < ((64 : Nat) : Int), 1 = 0 ∨ 1 = 1]) rfl ⟨⟨by omega, by omega⟩, Or.inr rfl, trivial⟩ ?_
    refine ck_go_cal (rest := []) (ck_cal_le (by decide) (cx_take (σ := ck_up s1 495 h 1) (a := 492) (k := h) (by decide) hh)) ⟨_, rfl, Or.inl ⟨_, rfl⟩, rfl, rfl, rfl, Nat.le_of_ble_eq_true rfl, fun _ => ⟨_, _, rfl⟩⟩ ?_
    rintro _ s2 ⟨rfl, g2, r2⟩
    try dsimp only at g2 r2
    refine ck_go_run 1 (X1 := (78, [some (.inr (480, 3, 6)), some (.inl h), some (.inl k)], [], s2)) (ps := []) rfl trivial ?_
    refine ck_eV ⟨rfl, fun _ => ⟨?_, ?_, ?_⟩, fun q _ => absurd h1 q, fun q _ => absurd h1 q⟩ rfl rfl rfl
    · intro b j z0 z1 z2
      rw [g2 b j z0]
      simp only [ck_up]
      rw [if_neg (by omega)]
      exact g1.1 b j (by omega)
    · rw [g2 _ _ (by decide)]
      simp only [ck_up, and_self, if_true]
    · refine ⟨fun q z0 z1 => ?_, ck_mv_congr (fun q z0 z1 => ?_)⟩
      · rw [g2 _ _ (by decide)]
        simp only [ck_up]
        rw [if_neg (by omega)]
        exact g1.2 q z0 z1
      · rw [r2 q z0 z1]
        simp only [ck_up]
        rw [if_neg (by omega)]
        exact g1.1 _ _ (by omega)
  · refine ck_go_run 6 (X1 := (if σ 485 h = (-1) then 49 else 65, [some (.inr (480, 3, 6)), some (.inl h), some (.inl k)], [], σ)) (ps := [0 ≤ h ∧ h < ((64 : Nat) : Int), ck_rg (σ 485 h), ck_rg ((-1))]) rfl ⟨⟨by omega, by omega⟩, (ck_rgo (by omega) (by omega)), (ck_rgo (by omega) (by omega)), trivial⟩ ?_
    refine ck_go_ite (fun h2 => ?_) (fun h2 => ?_)
    · refine ck_go_run 7 (X1 := (59, [some (.inr (480, 3, 6)), some (.inl h), some (.inl k)], [.inl k, .inl (82 * h), .inr (492, 0, 5248), .inr (480, 3, 6)], σ)) (ps := []) rfl trivial ?_
      refine ck_go_cal (rest := []) (ck_cal_le (by decide) (cx_join (σ := σ) (a := 492) (o := 82 * h) (k := k) (f := f) (g := ck_rw σ 492 h) (by decide) (by omega) hf hB rfl hG492)) ⟨_, rfl, Or.inl ⟨_, rfl⟩, rfl, rfl, rfl, Nat.le_of_ble_eq_true rfl, fun _ => ⟨_, _, rfl⟩⟩ ?_
      rintro _ s3 ⟨rfl, g1, r1⟩
      try dsimp only at g1 r1
      refine ck_go_run 1 (X1 := (78, [some (.inr (480, 3, 6)), some (.inl h), some (.inl k)], [], s3)) (ps := []) rfl trivial ?_
      exact ck_eV ⟨rfl, fun q => absurd q h1, fun _ _ => ⟨g1, r1⟩, fun _ q => absurd h2 q⟩ rfl rfl rfl
    · refine ck_go_run 7 (X1 := (75, [some (.inr (480, 3, 6)), some (.inl h), some (.inl k)], [.inl k, .inl (82 * h), .inr (493, 0, 5248), .inr (480, 3, 6)], σ)) (ps := []) rfl trivial ?_
      refine ck_go_cal (rest := []) (ck_cal_le (by decide) (cx_join (σ := σ) (a := 493) (o := 82 * h) (k := k) (f := f) (g := ck_rw σ 493 h) (by decide) (by omega) hf hB rfl hG493)) ⟨_, rfl, Or.inl ⟨_, rfl⟩, rfl, rfl, rfl, Nat.le_of_ble_eq_true rfl, fun _ => ⟨_, _, rfl⟩⟩ ?_
      rintro _ s4 ⟨rfl, g1, r1⟩
      try dsimp only at g1 r1
      exact ck_eV ⟨rfl, fun q => absurd q h1, fun _ q => absurd q h2, fun _ _ => ⟨g1, r1⟩⟩ rfl rfl rfl
/-- which checks of a statement are spared, by the row before it -/
def ck_spq (t x y z : Int) (f : ck_Q) : Int := if t < 3 ∨ 5 < t then 0 else if t = 3 then ck_T f y else if t = 5 then ck_T f x + (if ck_L f y ≠ 1000000000 ∧ 0 ≤ ck_L f y then 2 else 0) + (if ck_H f y x ≠ 1000000000 ∧ ck_H f y x ≤ -1 then 4 else 0) else ck_T f y + (if ck_L f z ≠ 1000000000 ∧ 0 ≤ ck_L f z then 2 else 0) + (if ck_H f z y ≠ 1000000000 ∧ ck_H f z y ≤ -1 then 4 else 0)
theorem cx_spared3 {k : Int} (hk : 0 ≤ k ∧ k < 64) {σ : ck_M} (hT : σ 481 k = 3) (hO : ck_sOk (σ 481 k) (σ 482 k) (σ 483 k) (σ 484 k)) {f : ck_Q} (hf : ck_rw σ 491 k = f) (hB : ck_qb f) : ck_cal 1 cm_Mo_spared [.inr (480, 3, 6), .inl k] σ (fun q σ' => q = some (ck_spq (σ 481 k) (σ 482 k) (σ 483 k) (σ 484 k) f) ∧ σ' = σ) := by
  refine ck_cal_of ?_
  have eT : σ 491 (82 * k + 34 + (σ 483 k)) = ck_T f (σ 483 k) := by
    rw [show 82 * k + 34 + (σ 483 k) = 82 * k + (34 + (σ 483 k)) by omega]
    exact ck_y_T hf (by unfold ck_sOk at hO; omega) (by unfold ck_sOk at hO; omega)
  have bT := hB.2.2.2.2.1 (σ 483 k)
  have hi : 0 ≤ (σ 483 k) ∧ (σ 483 k) < 4 := by unfold ck_sOk at hO; omega
  refine ck_go_run 10 (X1 := (if σ 481 k = 5 then 15 else 24, [some (.inr (480, 3, 6)), some (.inl k), some (.inl (82 * k)), none, none, none], [], σ)) (ps := [0 ≤ k ∧ k < ((64 : Nat) : Int), ck_rg (σ 481 k), ck_rg 5]) rfl ⟨⟨by omega, by omega⟩, (ck_rgo (by omega) (by omega)), (ck_rgo (by omega) (by omega)), trivial⟩ ?_
  refine ck_go_f (by omega) ?_
  refine ck_go_run 11 (X1 := (if σ 481 k = 5 then 41 else 50, [some (.inr (480, 3, 6)), some (.inl k), some (.inl (82 * k)), some (.inl (σ 483 k)), none, none], [], σ)) (ps := [0 ≤ k ∧ k < ((64 : Nat) : Int), 0 ≤ k ∧ k < ((64 : Nat) : Int), ck_rg (σ 481 k), ck_rg 5]) rfl ⟨⟨by omega, by omega⟩, ⟨by omega, by omega⟩, (ck_rgo (by omega) (by omega)), (ck_rgo (by omega) (by omega)), trivial⟩ ?_
  refine ck_go_f (by omega) ?_
  refine ck_go_run 11 (X1 := (if σ 481 k < 3 then 78 else 68, [some (.inr (480, 3, 6)), some (.inl k), some (.inl (82 * k)), some (.inl (σ 483 k)), some (.inl (σ 484 k)), none], [], σ)) (ps := [0 ≤ k ∧ k < ((64 : Nat) : Int), 0 ≤ k ∧ k < ((64 : Nat) : Int), ck_rg (σ 481 k), ck_rg 3]) rfl ⟨⟨by omega, by omega⟩, ⟨by omega, by omega⟩, (ck_rgo (by omega) (by omega)), (ck_rgo (by omega) (by omega)), trivial⟩ ?_
  refine ck_go_f (by omega) ?_
  refine ck_go_run 6 (X1 := (if 5 < σ 481 k then 78 else 80, [some (.inr (480, 3, 6)), some (.inl k), some (.inl (82 * k)), some (.inl (σ 483 k)), some (.inl (σ 484 k)), none], [], σ)) (ps := [0 ≤ k ∧ k < ((64 : Nat) : Int), ck_rg (σ 481 k), ck_rg 5]) rfl ⟨⟨by omega, by omega⟩, (ck_rgo (by omega) (by omega)), (ck_rgo (by omega) (by omega)), trivial⟩ ?_
  refine ck_go_f (by omega) ?_
  refine ck_go_run 15 (X1 := (if σ 481 k = 3 then 103 else 106, [some (.inr (480, 3, 6)), some (.inl k), some (.inl (82 * k)), some (.inl (σ 483 k)), some (.inl (σ 484 k)), some (.inl (σ 491 (((82 * k) + 34) + (σ 483 k))))], [], σ)) (ps := [0 ≤ ((82 * k) + 34) + (σ 483 k) ∧ ((82 * k) + 34) + (σ 483 k) < ((5248 : Nat) : Int), 0 ≤ k ∧ k < ((64 : Nat) : Int), ck_rg (σ 481 k), ck_rg 3]) rfl ⟨⟨by omega, by omega⟩, ⟨by omega, by omega⟩, (ck_rgo (by omega) (by omega)), (ck_rgo (by omega) (by omega)), trivial⟩ ?_
  refine ck_go_t (by omega) ?_
  refine ck_go_run 1 (X1 := (105, [some (.inr (480, 3, 6)), some (.inl k), some (.inl (82 * k)), some (.inl (σ 483 k)), some (.inl (σ 484 k)), some (.inl (σ 491 (((82 * k) + 34) + (σ 483 k))))], [.inl (σ 491 (((82 * k) + 34) + (σ 483 k)))], σ)) (ps := []) rfl trivial ?_
  refine ck_eI ⟨?_, rfl⟩ rfl rfl rfl
  unfold ck_spq
  rw [if_neg (by omega), if_pos hT]
  rw [eT]
  first | done | rfl | (congr 1; (repeat' split) <;> omega)
theorem cx_spared4 {k : Int} (hk : 0 ≤ k ∧ k < 64) {σ : ck_M} (hT : σ 481 k = 4) (hO : ck_sOk (σ 481 k) (σ 482 k) (σ 483 k) (σ 484 k)) {f : ck_Q} (hf : ck_rw σ 491 k = f) (hB : ck_qb f) : ck_cal 1 cm_Mo_spared [.inr (480, 3, 6), .inl k] σ (fun q σ' => q = some (ck_spq (σ 481 k) (σ 482 k) (σ 483 k) (σ 484 k) f) ∧ σ' = σ) := by
  refine ck_cal_of ?_
  have eT : σ 491 (82 * k + 34 + (σ 483 k)) = ck_T f (σ 483 k) := by
    rw [show 82 * k + 34 + (σ 483 k) = 82 * k + (34 + (σ 483 k)) by omega]
    exact ck_y_T hf (by unfold ck_sOk at hO; omega) (by unfold ck_sOk at hO; omega)
  have bT := hB.2.2.2.2.1 (σ 483 k)
  have eL : σ 491 (82 * k + 20 + (σ 484 k)) = ck_L f (σ 484 k) := by
    rw [show 82 * k + 20 + (σ 484 k) = 82 * k + (20 + (σ 484 k)) by omega]
    exact ck_y_L hf (by unfold ck_sOk at hO; omega) (by unfold ck_sOk at hO; omega)
  have bL := hB.2.2.1 (σ 484 k)
  have eH : σ 491 (82 * k + 42 + 4 * (σ 484 k) + (σ 483 k)) = ck_H f (σ 484 k) (σ 483 k) := by
    rw [show 82 * k + 42 + 4 * (σ 484 k) + (σ 483 k) = 82 * k + (42 + 4 * (σ 484 k) + (σ 483 k)) by omega]
    exact ck_y_H hf (by unfold ck_sOk at hO; omega) (by unfold ck_sOk at hO; omega) (by unfold ck_sOk at hO; omega) (by unfold ck_sOk at hO; omega)
  have bH := hB.2.2.2.2.2.2 (σ 484 k) (σ 483 k)
  have hi : 0 ≤ (σ 483 k) ∧ (σ 483 k) < 4 ∧ 0 ≤ (σ 484 k) ∧ (σ 484 k) < 10 := by unfold ck_sOk at hO; omega
  refine ck_go_run 10 (X1 := (if σ 481 k = 5 then 15 else 24, [some (.inr (480, 3, 6)), some (.inl k), some (.inl (82 * k)), none, none, none], [], σ)) (ps := [0 ≤ k ∧ k < ((64 : Nat) : Int), ck_rg (σ 481 k), ck_rg 5]) rfl ⟨⟨by omega, by omega⟩, (ck_rgo (by omega) (by omega)), (ck_rgo (by omega) (by omega)), trivial⟩ ?_
  refine ck_go_f (by omega) ?_
  refine ck_go_run 11 (X1 := (if σ 481 k = 5 then 41 else 50, [some (.inr (480, 3, 6)), some (.inl k), some (.inl (82 * k)), some (.inl (σ 483 k)), none, none], [], σ)) (ps := [0 ≤ k ∧ k < ((64 : Nat) : Int), 0 ≤ k ∧ k < ((64 : Nat) : Int), ck_rg (σ 481 k), ck_rg 5]) rfl ⟨⟨by omega, by omega⟩, ⟨by omega, by omega⟩, (ck_rgo (by omega) (by omega)), (ck_rgo (by omega) (by omega)), trivial⟩ ?_
  refine ck_go_f (by omega) ?_
  refine ck_go_run 11 (X1 := (if σ 481 k < 3 then 78 else 68, [some (.inr (480, 3, 6)), some (.inl k), some (.inl (82 * k)), some (.inl (σ 483 k)), some (.inl (σ 484 k)), none], [], σ)) (ps := [0 ≤ k ∧ k < ((64 : Nat) : Int), 0 ≤ k ∧ k < ((64 : Nat) : Int), ck_rg (σ 481 k), ck_rg 3]) rfl ⟨⟨by omega, by omega⟩, ⟨by omega, by omega⟩, (ck_rgo (by omega) (by omega)), (ck_rgo (by omega) (by omega)), trivial⟩ ?_
  refine ck_go_f (by omega) ?_
  refine ck_go_run 6 (X1 := (if 5 < σ 481 k then 78 else 80, [some (.inr (480, 3, 6)), some (.inl k), some (.inl (82 * k)), some (.inl (σ 483 k)), some (.inl (σ 484 k)), none], [], σ)) (ps := [0 ≤ k ∧ k < ((64 : Nat) : Int), ck_rg (σ 481 k), ck_rg 5]) rfl ⟨⟨by omega, by omega⟩, (ck_rgo (by omega) (by omega)), (ck_rgo (by omega) (by omega)), trivial⟩ ?_
  refine ck_go_f (by omega) ?_
  refine ck_go_run 15 (X1 := (if σ 481 k = 3 then 103 else 106, [some (.inr (480, 3, 6)), some (.inl k), some (.inl (82 * k)), some (.inl (σ 483 k)), some (.inl (σ 484 k)), some (.inl (σ 491 (((82 * k) + 34) + (σ 483 k))))], [], σ)) (ps := [0 ≤ ((82 * k) + 34) + (σ 483 k) ∧ ((82 * k) + 34) + (σ 483 k) < ((5248 : Nat) : Int), 0 ≤ k ∧ k < ((64 : Nat) : Int), ck_rg (σ 481 k), ck_rg 3]) rfl ⟨⟨by omega, by omega⟩, ⟨by omega, by omega⟩, (ck_rgo (by omega) (by omega)), (ck_rgo (by omega) (by omega)), trivial⟩ ?_
  refine ck_go_f (by omega) ?_
  refine ck_go_run 11 (X1 := (if σ 491 (((82 * k) + 20) + (σ 484 k)) = 1000000000 then 144 else 125, [some (.inr (480, 3, 6)), some (.inl k), some (.inl (82 * k)), some (.inl (σ 483 k)), some (.inl (σ 484 k)), some (.inl (σ 491 (((82 * k) + 34) + (σ 483 k))))], [.inl (σ 491 (((82 * k) + 34) + (σ 483 k)))], σ)) (ps := [0 ≤ ((82 * k) + 20) + (σ 484 k) ∧ ((82 * k) + 20) + (σ 484 k) < ((5248 : Nat) : Int), ck_rg (σ 491 (((82 * k) + 20) + (σ 484 k))), ck_rg 1000000000]) rfl ⟨⟨by omega, by omega⟩, (ck_rgo (by omega) (by omega)), (ck_rgo (by omega) (by omega)), trivial⟩ ?_
  refine ck_go_ite (fun h1 => ?_) (fun h1 => ?_)
  · refine ck_go_run 18 (X1 := (if σ 491 ((((82 * k) + 42) + (4 * (σ 484 k))) + (σ 483 k)) = 1000000000 then 195 else 171, [some (.inr (480, 3, 6)), some (.inl k), some (.inl (82 * k)), some (.inl (σ 483 k)), some (.inl (σ 484 k)), some (.inl ((σ 491 (((82 * k) + 34) + (σ 483 k))) + 0))], [.inl ((σ 491 (((82 * k) + 34) + (σ 483 k))) + 0)], σ)) (ps := [0 ≤ (((82 * k) + 42) + (4 * (σ 484 k))) + (σ 483 k) ∧ (((82 * k) + 42) + (4 * (σ 484 k))) + (σ 483 k) < ((5248 : Nat) : Int), ck_rg (σ 491 ((((82 * k) + 42) + (4 * (σ 484 k))) + (σ 483 k))), ck_rg 1000000000]) rfl ⟨⟨by omega, by omega⟩, (ck_rgo (by omega) (by omega)), (ck_rgo (by omega) (by omega)), trivial⟩ ?_
    refine ck_go_ite (fun h2 => ?_) (fun h2 => ?_)
    · refine ck_go_run 2 (X1 := (197, [some (.inr (480, 3, 6)), some (.inl k), some (.inl (82 * k)), some (.inl (σ 483 k)), some (.inl (σ 484 k)), some (.inl ((σ 491 (((82 * k) + 34) + (σ 483 k))) + 0))], [.inl (((σ 491 (((82 * k) + 34) + (σ 483 k))) + 0) + 0)], σ)) (ps := []) rfl trivial ?_
      refine ck_eI ⟨?_, rfl⟩ rfl rfl rfl
      unfold ck_spq
      rw [if_neg (by omega), if_neg (by omega), if_neg (by omega)]
      rw [← eT, ← eL, ← eH]
      first | done | rfl | (congr 1; (repeat' split) <;> omega)
    · refine ck_go_run 14 (X1 := (if (-1) < σ 491 ((((82 * k) + 42) + (4 * (σ 484 k))) + (σ 483 k)) then 195 else 191, [some (.inr (480, 3, 6)), some (.inl k), some (.inl (82 * k)), some (.inl (σ 483 k)), some (.inl (σ 484 k)), some (.inl ((σ 491 (((82 * k) + 34) + (σ 483 k))) + 0))], [.inl ((σ 491 (((82 * k) + 34) + (σ 483 k))) + 0)], σ)) (ps := [0 ≤ (((82 * k) + 42) + (4 * (σ 484 k))) + (σ 483 k) ∧ (((82 * k) + 42) + (4 * (σ 484 k))) + (σ 483 k) < ((5248 : Nat) : Int), ck_rg (σ 491 ((((82 * k) + 42) + (4 * (σ 484 k))) + (σ 483 k))), ck_rg ((-1))]) rfl ⟨⟨by omega, by omega⟩, (ck_rgo (by omega) (by omega)), (ck_rgo (by omega) (by omega)), trivial⟩ ?_
      refine ck_go_ite (fun h3 => ?_) (fun h3 => ?_)
      · refine ck_go_run 2 (X1 := (197, [some (.inr (480, 3, 6)), some (.inl k), some (.inl (82 * k)), some (.inl (σ 483 k)), some (.inl (σ 484 k)), some (.inl ((σ 491 (((82 * k) + 34) + (σ 483 k))) + 0))], [.inl (((σ 491 (((82 * k) + 34) + (σ 483 k))) + 0) + 0)], σ)) (ps := []) rfl trivial ?_
        refine ck_eI ⟨?_, rfl⟩ rfl rfl rfl
        unfold ck_spq
        rw [if_neg (by omega), if_neg (by omega), if_neg (by omega)]
        rw [← eT, ← eL, ← eH]
        first | done | rfl | (congr 1; (repeat' split) <;> omega)
      · refine ck_go_run 3 (X1 := (197, [some (.inr (480, 3, 6)), some (.inl k), some (.inl (82 * k)), some (.inl (σ 483 k)), some (.inl (σ 484 k)), some (.inl ((σ 491 (((82 * k) + 34) + (σ 483 k))) + 0))], [.inl (((σ 491 (((82 * k) + 34) + (σ 483 k))) + 0) + 4)], σ)) (ps := []) rfl trivial ?_
        refine ck_eI ⟨?_, rfl⟩ rfl rfl rfl
        unfold ck_spq
        rw [if_neg (by omega), if_neg (by omega), if_neg (by omega)]
        rw [← eT, ← eL, ← eH]
        first | done | rfl | (congr 1; (repeat' split) <;> omega)
  · refine ck_go_run 9 (X1 := (if σ 491 (((82 * k) + 20) + (σ 484 k)) < 0 then 144 else 140, [some (.inr (480, 3, 6)), some (.inl k), some (.inl (82 * k)), some (.inl (σ 483 k)), some (.inl (σ 484 k)), some (.inl (σ 491 (((82 * k) + 34) + (σ 483 k))))], [.inl (σ 491 (((82 * k) + 34) + (σ 483 k)))], σ)) (ps := [0 ≤ ((82 * k) + 20) + (σ 484 k) ∧ ((82 * k) + 20) + (σ 484 k) < ((5248 : Nat) : Int), ck_rg (σ 491 (((82 * k) + 20) + (σ 484 k)))]) rfl ⟨⟨by omega, by omega⟩, (ck_rgo (by omega) (by omega)), trivial⟩ ?_
    refine ck_go_ite (fun h4 => ?_) (fun h4 => ?_)
    · refine ck_go_run 18 (X1 := (if σ 491 ((((82 * k) + 42) + (4 * (σ 484 k))) + (σ 483 k)) = 1000000000 then 195 else 171, [some (.inr (480, 3, 6)), some (.inl k), some (.inl (82 * k)), some (.inl (σ 483 k)), some (.inl (σ 484 k)), some (.inl ((σ 491 (((82 * k) + 34) + (σ 483 k))) + 0))], [.inl ((σ 491 (((82 * k) + 34) + (σ 483 k))) + 0)], σ)) (ps := [0 ≤ (((82 * k) + 42) + (4 * (σ 484 k))) + (σ 483 k) ∧ (((82 * k) + 42) + (4 * (σ 484 k))) + (σ 483 k) < ((5248 : Nat) : Int), ck_rg (σ 491 ((((82 * k) + 42) + (4 * (σ 484 k))) + (σ 483 k))), ck_rg 1000000000]) rfl ⟨⟨by omega, by omega⟩, (ck_rgo (by omega) (by omega)), (ck_rgo (by omega) (by omega)), trivial⟩ ?_
      refine ck_go_ite (fun h5 => ?_) (fun h5 => ?_)
      · refine ck_go_run 2 (X1 := (197, [some (.inr (480, 3, 6)), some (.inl k), some (.inl (82 * k)), some (.inl (σ 483 k)), some (.inl (σ 484 k)), some (.inl ((σ 491 (((82 * k) + 34) + (σ 483 k))) + 0))], [.inl (((σ 491 (((82 * k) + 34) + (σ 483 k))) + 0) + 0)], σ)) (ps := []) rfl trivial ?_
        refine ck_eI ⟨?_, rfl⟩ rfl rfl rfl
        unfold ck_spq
        rw [if_neg (by omega), if_neg (by omega), if_neg (by omega)]
        rw [← eT, ← eL, ← eH]
        first | done | rfl | (congr 1; (repeat' split) <;> omega)
      · refine ck_go_run 14 (X1 := (if (-1) < σ 491 ((((82 * k) + 42) + (4 * (σ 484 k))) + (σ 483 k)) then 195 else 191, [some (.inr (480, 3, 6)), some (.inl k), some (.inl (82 * k)), some (.inl (σ 483 k)), some (.inl (σ 484 k)), some (.inl ((σ 491 (((82 * k) + 34) + (σ 483 k))) + 0))], [.inl ((σ 491 (((82 * k) + 34) + (σ 483 k))) + 0)], σ)) (ps := [0 ≤ (((82 * k) + 42) + (4 * (σ 484 k))) + (σ 483 k) ∧ (((82 * k) + 42) + (4 * (σ 484 k))) + (σ 483 k) < ((5248 : Nat) : Int), ck_rg (σ 491 ((((82 * k) + 42) + (4 * (σ 484 k))) + (σ 483 k))), ck_rg ((-1))]) rfl ⟨⟨by omega, by omega⟩, (ck_rgo (by omega) (by omega)), (ck_rgo (by omega) (by omega)), trivial⟩ ?_
        refine ck_go_ite (fun h6 => ?_) (fun h6 => ?_)
        · refine ck_go_run 2 (X1 := (197, [some (.inr (480, 3, 6)), some (.inl k), some (.inl (82 * k)), some (.inl (σ 483 k)), some (.inl (σ 484 k)), some (.inl ((σ 491 (((82 * k) + 34) + (σ 483 k))) + 0))], [.inl (((σ 491 (((82 * k) + 34) + (σ 483 k))) + 0) + 0)], σ)) (ps := []) rfl trivial ?_
          refine ck_eI ⟨?_, rfl⟩ rfl rfl rfl
          unfold ck_spq
          rw [if_neg (by omega), if_neg (by omega), if_neg (by omega)]
          rw [← eT, ← eL, ← eH]
          first | done | rfl | (congr 1; (repeat' split) <;> omega)
        · refine ck_go_run 3 (X1 := (197, [some (.inr (480, 3, 6)), some (.inl k), some (.inl (82 * k)), some (.inl (σ 483 k)), some (.inl (σ 484 k)), some (.inl ((σ 491 (((82 * k) + 34) + (σ 483 k))) + 0))], [.inl (((σ 491 (((82 * k) + 34) + (σ 483 k))) + 0) + 4)], σ)) (ps := []) rfl trivial ?_
          refine ck_eI ⟨?_, rfl⟩ rfl rfl rfl
          unfold ck_spq
          rw [if_neg (by omega), if_neg (by omega), if_neg (by omega)]
          rw [← eT, ← eL, ← eH]
          first | done | rfl | (congr 1; (repeat' split) <;> omega)
    · refine ck_go_run 19 (X1 := (if σ 491 ((((82 * k) + 42) + (4 * (σ 484 k))) + (σ 483 k)) = 1000000000 then 195 else 171, [some (.inr (480, 3, 6)), some (.inl k), some (.inl (82 * k)), some (.inl (σ 483 k)), some (.inl (σ 484 k)), some (.inl ((σ 491 (((82 * k) + 34) + (σ 483 k))) + 2))], [.inl ((σ 491 (((82 * k) + 34) + (σ 483 k))) + 2)], σ)) (ps := [0 ≤ (((82 * k) + 42) + (4 * (σ 484 k))) + (σ 483 k) ∧ (((82 * k) + 42) + (4 * (σ 484 k))) + (σ 483 k) < ((5248 : Nat) : Int), ck_rg (σ 491 ((((82 * k) + 42) + (4 * (σ 484 k))) + (σ 483 k))), ck_rg 1000000000]) rfl ⟨⟨by omega, by omega⟩, (ck_rgo (by omega) (by omega)), (ck_rgo (by omega) (by omega)), trivial⟩ ?_
      refine ck_go_ite (fun h7 => ?_) (fun h7 => ?_)
      · refine ck_go_run 2 (X1 := (197, [some (.inr (480, 3, 6)), some (.inl k), some (.inl (82 * k)), some (.inl (σ 483 k)), some (.inl (σ 484 k)), some (.inl ((σ 491 (((82 * k) + 34) + (σ 483 k))) + 2))], [.inl (((σ 491 (((82 * k) + 34) + (σ 483 k))) + 2) + 0)], σ)) (ps := []) rfl trivial ?_
        refine ck_eI ⟨?_, rfl⟩ rfl rfl rfl
        unfold ck_spq
        rw [if_neg (by omega), if_neg (by omega), if_neg (by omega)]
        rw [← eT, ← eL, ← eH]
        first | done | rfl | (congr 1; (repeat' split) <;> omega)
      · refine ck_go_run 14 (X1 := (if (-1) < σ 491 ((((82 * k) + 42) + (4 * (σ 484 k))) + (σ 483 k)) then 195 else 191, [some (.inr (480, 3, 6)), some (.inl k), some (.inl (82 * k)), some (.inl (σ 483 k)), some (.inl (σ 484 k)), some (.inl ((σ 491 (((82 * k) + 34) + (σ 483 k))) + 2))], [.inl ((σ 491 (((82 * k) + 34) + (σ 483 k))) + 2)], σ)) (ps := [0 ≤ (((82 * k) + 42) + (4 * (σ 484 k))) + (σ 483 k) ∧ (((82 * k) + 42) + (4 * (σ 484 k))) + (σ 483 k) < ((5248 : Nat) : Int), ck_rg (σ 491 ((((82 * k) + 42) + (4 * (σ 484 k))) + (σ 483 k))), ck_rg ((-1))]) rfl ⟨⟨by omega, by omega⟩, (ck_rgo (by omega) (by omega)), (ck_rgo (by omega) (by omega)), trivial⟩ ?_
        refine ck_go_ite (fun h8 => ?_) (fun h8 => ?_)
        · refine ck_go_run 2 (X1 := (197, [some (.inr (480, 3, 6)), some (.inl k), some (.inl (82 * k)), some (.inl (σ 483 k)), some (.inl (σ 484 k)), some (.inl ((σ 491 (((82 * k) + 34) + (σ 483 k))) + 2))], [.inl (((σ 491 (((82 * k) + 34) + (σ 483 k))) + 2) + 0)], σ)) (ps := []) rfl trivial ?_
          refine ck_eI ⟨?_, rfl⟩ rfl rfl rfl
          unfold ck_spq
          rw [if_neg (by omega), if_neg (by omega), if_neg (by omega)]
          rw [← eT, ← eL, ← eH]
          first | done | rfl | (congr 1; (repeat' split) <;> omega)
        · refine ck_go_run 3 (X1 := (197, [some (.inr (480, 3, 6)), some (.inl k), some (.inl (82 * k)), some (.inl (σ 483 k)), some (.inl (σ 484 k)), some (.inl ((σ 491 (((82 * k) + 34) + (σ 483 k))) + 2))], [.inl (((σ 491 (((82 * k) + 34) + (σ 483 k))) + 2) + 4)], σ)) (ps := []) rfl trivial ?_
          refine ck_eI ⟨?_, rfl⟩ rfl rfl rfl
          unfold ck_spq
          rw [if_neg (by omega), if_neg (by omega), if_neg (by omega)]
          rw [← eT, ← eL, ← eH]
          first | done | rfl | (congr 1; (repeat' split) <;> omega)
theorem cx_spared5 {k : Int} (hk : 0 ≤ k ∧ k < 64) {σ : ck_M} (hT : σ 481 k = 5) (hO : ck_sOk (σ 481 k) (σ 482 k) (σ 483 k) (σ 484 k)) {f : ck_Q} (hf : ck_rw σ 491 k = f) (hB : ck_qb f) : ck_cal 1 cm_Mo_spared [.inr (480, 3, 6), .inl k] σ (fun q σ' => q = some (ck_spq (σ 481 k) (σ 482 k) (σ 483 k) (σ 484 k) f) ∧ σ' = σ) := by
  refine ck_cal_of ?_
  have eT : σ 491 (82 * k + 34 + (σ 482 k)) = ck_T f (σ 482 k) := by
    rw [show 82 * k + 34 + (σ 482 k) = 82 * k + (34 + (σ 482 k)) by omega]
    exact ck_y_T hf (by unfold ck_sOk at hO; omega) (by unfold ck_sOk at hO; omega)
  have bT := hB.2.2.2.2.1 (σ 482 k)
  have eL : σ 491 (82 * k + 20 + (σ 483 k)) = ck_L f (σ 483 k) := by
    rw [show 82 * k + 20 + (σ 483 k) = 82 * k + (20 + (σ 483 k)) by omega]
    exact ck_y_L hf (by unfold ck_sOk at hO; omega) (by unfold ck_sOk at hO; omega)
  have bL := hB.2.2.1 (σ 483 k)
  have eH : σ 491 (82 * k + 42 + 4 * (σ 483 k) + (σ 482 k)) = ck_H f (σ 483 k) (σ 482 k) := by
    rw [show 82 * k + 42 + 4 * (σ 483 k) + (σ 482 k) = 82 * k + (42 + 4 * (σ 483 k) + (σ 482 k)) by omega]
    exact ck_y_H hf (by unfold ck_sOk at hO; omega) (by unfold ck_sOk at hO; omega) (by unfold ck_sOk at hO; omega) (by unfold ck_sOk at hO; omega)
  have bH := hB.2.2.2.2.2.2 (σ 483 k) (σ 482 k)
  have hi : 0 ≤ (σ 482 k) ∧ (σ 482 k) < 4 ∧ 0 ≤ (σ 483 k) ∧ (σ 483 k) < 10 := by unfold ck_sOk at hO; omega
  refine ck_go_run 10 (X1 := (if σ 481 k = 5 then 15 else 24, [some (.inr (480, 3, 6)), some (.inl k), some (.inl (82 * k)), none, none, none], [], σ)) (ps := [0 ≤ k ∧ k < ((64 : Nat) : Int), ck_rg (σ 481 k), ck_rg 5]) rfl ⟨⟨by omega, by omega⟩, (ck_rgo (by omega) (by omega)), (ck_rgo (by omega) (by omega)), trivial⟩ ?_
  refine ck_go_t (by omega) ?_
  refine ck_go_run 12 (X1 := (if σ 481 k = 5 then 41 else 50, [some (.inr (480, 3, 6)), some (.inl k), some (.inl (82 * k)), some (.inl (σ 482 k)), none, none], [], σ)) (ps := [0 ≤ k ∧ k < ((64 : Nat) : Int), 0 ≤ k ∧ k < ((64 : Nat) : Int), ck_rg (σ 481 k), ck_rg 5]) rfl ⟨⟨by omega, by omega⟩, ⟨by omega, by omega⟩, (ck_rgo (by omega) (by omega)), (ck_rgo (by omega) (by omega)), trivial⟩ ?_
  refine ck_go_t (by omega) ?_
  refine ck_go_run 12 (X1 := (if σ 481 k < 3 then 78 else 68, [some (.inr (480, 3, 6)), some (.inl k), some (.inl (82 * k)), some (.inl (σ 482 k)), some (.inl (σ 483 k)), none], [], σ)) (ps := [0 ≤ k ∧ k < ((64 : Nat) : Int), 0 ≤ k ∧ k < ((64 : Nat) : Int), ck_rg (σ 481 k), ck_rg 3]) rfl ⟨⟨by omega, by omega⟩, ⟨by omega, by omega⟩, (ck_rgo (by omega) (by omega)), (ck_rgo (by omega) (by omega)), trivial⟩ ?_
  refine ck_go_f (by omega) ?_
  refine ck_go_run 6 (X1 := (if 5 < σ 481 k then 78 else 80, [some (.inr (480, 3, 6)), some (.inl k), some (.inl (82 * k)), some (.inl (σ 482 k)), some (.inl (σ 483 k)), none], [], σ)) (ps := [0 ≤ k ∧ k < ((64 : Nat) : Int), ck_rg (σ 481 k), ck_rg 5]) rfl ⟨⟨by omega, by omega⟩, (ck_rgo (by omega) (by omega)), (ck_rgo (by omega) (by omega)), trivial⟩ ?_
  refine ck_go_f (by omega) ?_
  refine ck_go_run 15 (X1 := (if σ 481 k = 3 then 103 else 106, [some (.inr (480, 3, 6)), some (.inl k), some (.inl (82 * k)), some (.inl (σ 482 k)), some (.inl (σ 483 k)), some (.inl (σ 491 (((82 * k) + 34) + (σ 482 k))))], [], σ)) (ps := [0 ≤ ((82 * k) + 34) + (σ 482 k) ∧ ((82 * k) + 34) + (σ 482 k) < ((5248 : Nat) : Int), 0 ≤ k ∧ k < ((64 : Nat) : Int), ck_rg (σ 481 k), ck_rg 3]) rfl ⟨⟨by omega, by omega⟩, ⟨by omega, by omega⟩, (ck_rgo (by omega) (by omega)), (ck_rgo (by omega) (by omega)), trivial⟩ ?_
  refine ck_go_f (by omega) ?_
  refine ck_go_run 11 (X1 := (if σ 491 (((82 * k) + 20) + (σ 483 k)) = 1000000000 then 144 else 125, [some (.inr (480, 3, 6)), some (.inl k), some (.inl (82 * k)), some (.inl (σ 482 k)), some (.inl (σ 483 k)), some (.inl (σ 491 (((82 * k) + 34) + (σ 482 k))))], [.inl (σ 491 (((82 * k) + 34) + (σ 482 k)))], σ)) (ps := [0 ≤ ((82 * k) + 20) + (σ 483 k) ∧ ((82 * k) + 20) + (σ 483 k) < ((5248 : Nat) : Int), ck_rg (σ 491 (((82 * k) + 20) + (σ 483 k))), ck_rg 1000000000]) rfl ⟨⟨by omega, by omega⟩, (ck_rgo (by omega) (by omega)), (ck_rgo (by omega) (by omega)), trivial⟩ ?_
  refine ck_go_ite (fun h1 => ?_) (fun h1 => ?_)
  · refine ck_go_run 18 (X1 := (if σ 491 ((((82 * k) + 42) + (4 * (σ 483 k))) + (σ 482 k)) = 1000000000 then 195 else 171, [some (.inr (480, 3, 6)), some (.inl k), some (.inl (82 * k)), some (.inl (σ 482 k)), some (.inl (σ 483 k)), some (.inl ((σ 491 (((82 * k) + 34) + (σ 482 k))) + 0))], [.inl ((σ 491 (((82 * k) + 34) + (σ 482 k))) + 0)], σ)) (ps := [0 ≤ (((82 * k) + 42) + (4 * (σ 483 k))) + (σ 482 k) ∧ (((82 * k) + 42) + (4 * (σ 483 k))) + (σ 482 k) < ((5248 : Nat) : Int), ck_rg (σ 491 ((((82 * k) + 42) + (4 * (σ 483 k))) + (σ 482 k))), ck_rg 1000000000]) rfl ⟨⟨by omega, by omega⟩, (ck_rgo (by omega) (by omega)), (ck_rgo (by omega) (by omega)), trivial⟩ ?_
    refine ck_go_ite (fun h2 => ?_) (fun h2 => ?_)
    · refine ck_go_run 2 (X1 := (197, [some (.inr (480, 3, 6)), some (.inl k), some (.inl (82 * k)), some (.inl (σ 482 k)), some (.inl (σ 483 k)), some (.inl ((σ 491 (((82 * k) + 34) + (σ 482 k))) + 0))], [.inl (((σ 491 (((82 * k) + 34) + (σ 482 k))) + 0) + 0)], σ)) (ps := []) rfl trivial ?_
      refine ck_eI ⟨?_, rfl⟩ rfl rfl rfl
      unfold ck_spq
      rw [if_neg (by omega), if_neg (by omega), if_pos hT]
      rw [← eT, ← eL, ← eH]
      first | done | rfl | (congr 1; (repeat' split) <;> omega)
    · refine ck_go_run 14 (X1 := (if (-1) < σ 491 ((((82 * k) + 42) + (4 * (σ 483 k))) + (σ 482 k)) then 195 else 191, [some (.inr (480, 3, 6)), some (.inl k), some (.inl (82 * k)), some (.inl (σ 482 k)), some (.inl (σ 483 k)), some (.inl ((σ 491 (((82 * k) + 34) + (σ 482 k))) + 0))], [.inl ((σ 491 (((82 * k) + 34) + (σ 482 k))) + 0)], σ)) (ps := [0 ≤ (((82 * k) + 42) + (4 * (σ 483 k))) + (σ 482 k) ∧ (((82 * k) + 42) + (4 * (σ 483 k))) + (σ 482 k) < ((5248 : Nat) : Int), ck_rg (σ 491 ((((82 * k) + 42) + (4 * (σ 483 k))) + (σ 482 k))), ck_rg ((-1))]) rfl ⟨⟨by omega, by omega⟩, (ck_rgo (by omega) (by omega)), (ck_rgo (by omega) (by omega)), trivial⟩ ?_
      refine ck_go_ite (fun h3 => ?_) (fun h3 => ?_)
      · refine ck_go_run 2 (X1 := (197, [some (.inr (480, 3, 6)), some (.inl k), some (.inl (82 * k)), some (.inl (σ 482 k)), some (.inl (σ 483 k)), some (.inl ((σ 491 (((82 * k) + 34) + (σ 482 k))) + 0))], [.inl (((σ 491 (((82 * k) + 34) + (σ 482 k))) + 0) + 0)], σ)) (ps := []) rfl trivial ?_
        refine ck_eI ⟨?_, rfl⟩ rfl rfl rfl
        unfold ck_spq
        rw [if_neg (by omega), if_neg (by omega), if_pos hT]
        rw [← eT, ← eL, ← eH]
        first | done | rfl | (congr 1; (repeat' split) <;> omega)
      · refine ck_go_run 3 (X1 := (197, [some (.inr (480, 3, 6)), some (.inl k), some (.inl (82 * k)), some (.inl (σ 482 k)), some (.inl (σ 483 k)), some (.inl ((σ 491 (((82 * k) + 34) + (σ 482 k))) + 0))], [.inl (((σ 491 (((82 * k) + 34) + (σ 482 k))) + 0) + 4)], σ)) (ps := []) rfl trivial ?_
        refine ck_eI ⟨?_, rfl⟩ rfl rfl rfl
        unfold ck_spq
        rw [if_neg (by omega), if_neg (by omega), if_pos hT]
        rw [← eT, ← eL, ← eH]
        first | done | rfl | (congr 1; (repeat' split) <;> omega)
  · refine ck_go_run 9 (X1 := (if σ 491 (((82 * k) + 20) + (σ 483 k)) < 0 then 144 else 140, [some (.inr (480, 3, 6)), some (.inl k), some (.inl (82 * k)), some (.inl (σ 482 k)), some (.inl (σ 483 k)), some (.inl (σ 491 (((82 * k) + 34) + (σ 482 k))))], [.inl (σ 491 (((82 * k) + 34) + (σ 482 k)))], σ)) (ps := [0 ≤ ((82 * k) + 20) + (σ 483 k) ∧ ((82 * k) + 20) + (σ 483 k) < ((5248 : Nat) : Int), ck_rg (σ 491 (((82 * k) + 20) + (σ 483 k)))]) rfl ⟨⟨by omega, by omega⟩, (ck_rgo (by omega) (by omega)), trivial⟩ ?_
    refine ck_go_ite (fun h4 => ?_) (fun h4 => ?_)
    · refine ck_go_run 18 (X1 := (if σ 491 ((((82 * k) + 42) + (4 * (σ 483 k))) + (σ 482 k)) = 1000000000 then 195 else 171, [some (.inr (480, 3, 6)), some (.inl k), some (.inl (82 * k)), some (.inl (σ 482 k)), some (.inl (σ 483 k)), some (.inl ((σ 491 (((82 * k) + 34) + (σ 482 k))) + 0))], [.inl ((σ 491 (((82 * k) + 34) + (σ 482 k))) + 0)], σ)) (ps := [0 ≤ (((82 * k) + 42) + (4 * (σ 483 k))) + (σ 482 k) ∧ (((82 * k) + 42) + (4 * (σ 483 k))) + (σ 482 k) < ((5248 : Nat) : Int), ck_rg (σ 491 ((((82 * k) + 42) + (4 * (σ 483 k))) + (σ 482 k))), ck_rg 1000000000]) rfl ⟨⟨by omega, by omega⟩, (ck_rgo (by omega) (by omega)), (ck_rgo (by omega) (by omega)), trivial⟩ ?_
      refine ck_go_ite (fun h5 => ?_) (fun h5 => ?_)
      · refine ck_go_run 2 (X1 := (197, [some (.inr (480, 3, 6)), some (.inl k), some (.inl (82 * k)), some (.inl (σ 482 k)), some (.inl (σ 483 k)), some (.inl ((σ 491 (((82 * k) + 34) + (σ 482 k))) + 0))], [.inl (((σ 491 (((82 * k) + 34) + (σ 482 k))) + 0) + 0)], σ)) (ps := []) rfl trivial ?_
        refine ck_eI ⟨?_, rfl⟩ rfl rfl rfl
        unfold ck_spq
        rw [if_neg (by omega), if_neg (by omega), if_pos hT]
        rw [← eT, ← eL, ← eH]
        first | done | rfl | (congr 1; (repeat' split) <;> omega)
      · refine ck_go_run 14 (X1 := (if (-1) < σ 491 ((((82 * k) + 42) + (4 * (σ 483 k))) + (σ 482 k)) then 195 else 191, [some (.inr (480, 3, 6)), some (.inl k), some (.inl (82 * k)), some (.inl (σ 482 k)), some (.inl (σ 483 k)), some (.inl ((σ 491 (((82 * k) + 34) + (σ 482 k))) + 0))], [.inl ((σ 491 (((82 * k) + 34) + (σ 482 k))) + 0)], σ)) (ps := [0 ≤ (((82 * k) + 42) + (4 * (σ 483 k))) + (σ 482 k) ∧ (((82 * k) + 42) + (4 * (σ 483 k))) + (σ 482 k) < ((5248 : Nat) : Int), ck_rg (σ 491 ((((82 * k) + 42) + (4 * (σ 483 k))) + (σ 482 k))), ck_rg ((-1))]) rfl ⟨⟨by omega, by omega⟩, (ck_rgo (by omega) (by omega)), (ck_rgo (by omega) (by omega)), trivial⟩ ?_
        refine ck_go_ite (fun h6 => ?_) (fun h6 => ?_)
        · refine ck_go_run 2 (X1 := (197, [some (.inr (480, 3, 6)), some (.inl k), some (.inl (82 * k)), some (.inl (σ 482 k)), some (.inl (σ 483 k)), some (.inl ((σ 491 (((82 * k) + 34) + (σ 482 k))) + 0))], [.inl (((σ 491 (((82 * k) + 34) + (σ 482 k))) + 0) + 0)], σ)) (ps := []) rfl trivial ?_
          refine ck_eI ⟨?_, rfl⟩ rfl rfl rfl
          unfold ck_spq
          rw [if_neg (by omega), if_neg (by omega), if_pos hT]
          rw [← eT, ← eL, ← eH]
          first | done | rfl | (congr 1; (repeat' split) <;> omega)
        · refine ck_go_run 3 (X1 := (197, [some (.inr (480, 3, 6)), some (.inl k), some (.inl (82 * k)), some (.inl (σ 482 k)), some (.inl (σ 483 k)), some (.inl ((σ 491 (((82 * k) + 34) + (σ 482 k))) + 0))], [.inl (((σ 491 (((82 * k) + 34) + (σ 482 k))) + 0) + 4)], σ)) (ps := []) rfl trivial ?_
          refine ck_eI ⟨?_, rfl⟩ rfl rfl rfl
          unfold ck_spq
          rw [if_neg (by omega), if_neg (by omega), if_pos hT]
          rw [← eT, ← eL, ← eH]
          first | done | rfl | (congr 1; (repeat' split) <;> omega)
    · refine ck_go_run 19 (X1 := (if σ 491 ((((82 * k) + 42) + (4 * (σ 483 k))) + (σ 482 k)) = 1000000000 then 195 else 171, [some (.inr (480, 3, 6)), some (.inl k), some (.inl (82 * k)), some (.inl (σ 482 k)), some (.inl (σ 483 k)), some (.inl ((σ 491 (((82 * k) + 34) + (σ 482 k))) + 2))], [.inl ((σ 491 (((82 * k) + 34) + (σ 482 k))) + 2)], σ)) (ps := [0 ≤ (((82 * k) + 42) + (4 * (σ 483 k))) + (σ 482 k) ∧ (((82 * k) + 42) + (4 * (σ 483 k))) + (σ 482 k) < ((5248 : Nat) : Int), ck_rg (σ 491 ((((82 * k) + 42) + (4 * (σ 483 k))) + (σ 482 k))), ck_rg 1000000000]) rfl ⟨⟨by omega, by omega⟩, (ck_rgo (by omega) (by omega)), (ck_rgo (by omega) (by omega)), trivial⟩ ?_
      refine ck_go_ite (fun h7 => ?_) (fun h7 => ?_)
      · refine ck_go_run 2 (X1 := (197, [some (.inr (480, 3, 6)), some (.inl k), some (.inl (82 * k)), some (.inl (σ 482 k)), some (.inl (σ 483 k)), some (.inl ((σ 491 (((82 * k) + 34) + (σ 482 k))) + 2))], [.inl (((σ 491 (((82 * k) + 34) + (σ 482 k))) + 2) + 0)], σ)) (ps := []) rfl trivial ?_
        refine ck_eI ⟨?_, rfl⟩ rfl rfl rfl
        unfold ck_spq
        rw [if_neg (by omega), if_neg (by omega), if_pos hT]
        rw [← eT, ← eL, ← eH]
        first | done | rfl | (congr 1; (repeat' split) <;> omega)
      · refine ck_go_run 14 (X1 := (if (-1) < σ 491 ((((82 * k) + 42) + (4 * (σ 483 k))) + (σ 482 k)) then 195 else 191, [some (.inr (480, 3, 6)), some (.inl k), some (.inl (82 * k)), some (.inl (σ 482 k)), some (.inl (σ 483 k)), some (.inl ((σ 491 (((82 * k) + 34) + (σ 482 k))) + 2))], [.inl ((σ 491 (((82 * k) + 34) + (σ 482 k))) + 2)], σ)) (ps := [0 ≤ (((82 * k) + 42) + (4 * (σ 483 k))) + (σ 482 k) ∧ (((82 * k) + 42) + (4 * (σ 483 k))) + (σ 482 k) < ((5248 : Nat) : Int), ck_rg (σ 491 ((((82 * k) + 42) + (4 * (σ 483 k))) + (σ 482 k))), ck_rg ((-1))]) rfl ⟨⟨by omega, by omega⟩, (ck_rgo (by omega) (by omega)), (ck_rgo (by omega) (by omega)), trivial⟩ ?_
        refine ck_go_ite (fun h8 => ?_) (fun h8 => ?_)
        · refine ck_go_run 2 (X1 := (197, [some (.inr (480, 3, 6)), some (.inl k), some (.inl (82 * k)), some (.inl (σ 482 k)), some (.inl (σ 483 k)), some (.inl ((σ 491 (((82 * k) + 34) + (σ 482 k))) + 2))], [.inl (((σ 491 (((82 * k) + 34) + (σ 482 k))) + 2) + 0)], σ)) (ps := []) rfl trivial ?_
          refine ck_eI ⟨?_, rfl⟩ rfl rfl rfl
          unfold ck_spq
          rw [if_neg (by omega), if_neg (by omega), if_pos hT]
          rw [← eT, ← eL, ← eH]
          first | done | rfl | (congr 1; (repeat' split) <;> omega)
        · refine ck_go_run 3 (X1 := (197, [some (.inr (480, 3, 6)), some (.inl k), some (.inl (82 * k)), some (.inl (σ 482 k)), some (.inl (σ 483 k)), some (.inl ((σ 491 (((82 * k) + 34) + (σ 482 k))) + 2))], [.inl (((σ 491 (((82 * k) + 34) + (σ 482 k))) + 2) + 4)], σ)) (ps := []) rfl trivial ?_
          refine ck_eI ⟨?_, rfl⟩ rfl rfl rfl
          unfold ck_spq
          rw [if_neg (by omega), if_neg (by omega), if_pos hT]
          rw [← eT, ← eL, ← eH]
          first | done | rfl | (congr 1; (repeat' split) <;> omega)
theorem cx_spared0 {k : Int} (hk : 0 ≤ k ∧ k < 64) {σ : ck_M} (hT : σ 481 k < 3 ∨ 5 < σ 481 k) (hO : ck_rg (σ 481 k)) (f : ck_Q) : ck_cal 1 cm_Mo_spared [.inr (480, 3, 6), .inl k] σ (fun q σ' => q = some (ck_spq (σ 481 k) (σ 482 k) (σ 483 k) (σ 484 k) f) ∧ σ' = σ) := by
  refine ck_cal_of ?_
  obtain ⟨o1, o2⟩ := id hO
  refine ck_go_run 10 (X1 := (if σ 481 k = 5 then 15 else 24, [some (.inr (480, 3, 6)), some (.inl k), some (.inl (82 * k)), none, none, none], [], σ)) (ps := [0 ≤ k ∧ k < ((64 : Nat) : Int), ck_rg (σ 481 k), ck_rg 5]) rfl ⟨⟨by omega, by omega⟩, (ck_rgo (by omega) (by omega)), (ck_rgo (by omega) (by omega)), trivial⟩ ?_
  refine ck_go_f (by omega) ?_
  refine ck_go_run 11 (X1 := (if σ 481 k = 5 then 41 else 50, [some (.inr (480, 3, 6)), some (.inl k), some (.inl (82 * k)), some (.inl (σ 483 k)), none, none], [], σ)) (ps := [0 ≤ k ∧ k < ((64 : Nat) : Int), 0 ≤ k ∧ k < ((64 : Nat) : Int), ck_rg (σ 481 k), ck_rg 5]) rfl ⟨⟨by omega, by omega⟩, ⟨by omega, by omega⟩, (ck_rgo (by omega) (by omega)), (ck_rgo (by omega) (by omega)), trivial⟩ ?_
  refine ck_go_f (by omega) ?_
  refine ck_go_run 11 (X1 := (if σ 481 k < 3 then 78 else 68, [some (.inr (480, 3, 6)), some (.inl k), some (.inl (82 * k)), some (.inl (σ 483 k)), some (.inl (σ 484 k)), none], [], σ)) (ps := [0 ≤ k ∧ k < ((64 : Nat) : Int), 0 ≤ k ∧ k < ((64 : Nat) : Int), ck_rg (σ 481 k), ck_rg 3]) rfl ⟨⟨by omega, by omega⟩, ⟨by omega, by omega⟩, (ck_rgo (by omega) (by omega)), (ck_rgo (by omega) (by omega)), trivial⟩ ?_
  refine ck_go_ite (fun h1 => ?_) (fun h1 => ?_)
  · refine ck_go_run 1 (X1 := (79, [some (.inr (480, 3, 6)), some (.inl k), some (.inl (82 * k)), some (.inl (σ 483 k)), some (.inl (σ 484 k)), none], [.inl 0], σ)) (ps := []) rfl trivial ?_
    exact ck_eI ⟨by unfold ck_spq; rw [if_pos (by omega)], rfl⟩ rfl rfl rfl
  · refine ck_go_run 6 (X1 := (if 5 < σ 481 k then 78 else 80, [some (.inr (480, 3, 6)), some (.inl k), some (.inl (82 * k)), some (.inl (σ 483 k)), some (.inl (σ 484 k)), none], [], σ)) (ps := [0 ≤ k ∧ k < ((64 : Nat) : Int), ck_rg (σ 481 k), ck_rg 5]) rfl ⟨⟨by omega, by omega⟩, (ck_rgo (by omega) (by omega)), (ck_rgo (by omega) (by omega)), trivial⟩ ?_
    refine ck_go_t (by omega) ?_
    refine ck_go_run 1 (X1 := (79, [some (.inr (480, 3, 6)), some (.inl k), some (.inl (82 * k)), some (.inl (σ 483 k)), some (.inl (σ 484 k)), none], [.inl 0], σ)) (ps := []) rfl trivial ?_
    exact ck_eI ⟨by unfold ck_spq; rw [if_pos (by omega)], rfl⟩ rfl rfl rfl
theorem cx_spared {k : Int} (hk : 0 ≤ k ∧ k < 64) {σ : ck_M} (hO : ck_sOk (σ 481 k) (σ 482 k) (σ 483 k) (σ 484 k)) {f : ck_Q} (hf : ck_rw σ 491 k = f) (hB : ck_qb f) : ck_cal 1 cm_Mo_spared [.inr (480, 3, 6), .inl k] σ (fun q σ' => q = some (ck_spq (σ 481 k) (σ 482 k) (σ 483 k) (σ 484 k) f) ∧ σ' = σ) := by
  by_cases h3 : σ 481 k = 3
  · exact cx_spared3 hk h3 hO hf hB
  · by_cases h4 : σ 481 k = 4
    · exact cx_spared4 hk h4 hO hf hB
    · by_cases h5 : σ 481 k = 5
      · exact cx_spared5 hk h5 hO hf hB
      · exact cx_spared0 hk (by omega) (by unfold ck_sOk at hO; exact ck_rgo (by omega) (by omega)) f
