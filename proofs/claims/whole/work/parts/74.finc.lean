/-! ## The class's own methods, where they answer -/
theorem cx_clearC (σ : ck_M) : ck_cal 2 cm_Cs_clear [.inr (0, 3, 5)] σ (fun q σ' => q = some (σ 5 10) ∧ σ' = ck_up (ck_up (ck_up (ck_up (ck_up (ck_up σ 5 10 0) 5 11 0) 2 1 0) 2 2 0) 1 8 0) 4 6 0) := by
  refine ck_cal_of ?_
  refine ck_go_run 6 (X1 := (12, [some (.inr (0, 3, 5)), some (.inl (σ 5 10))], [.inr (5, 3, 4)], σ)) (ps := []) rfl trivial ?_
  refine ck_go_cal (rest := []) (ck_cal_le (by decide) (cx_emptyP _)) ⟨_, rfl, Or.inl ⟨_, rfl⟩, rfl, rfl, rfl, Nat.le_of_ble_eq_true rfl, fun _ => ⟨_, _, rfl⟩⟩ ?_
  rintro _ s1 ⟨rfl, e1⟩
  rw [e1]
  clear e1 s1
  refine ck_go_run 2 (X1 := (19, [some (.inr (0, 3, 5)), some (.inl (σ 5 10))], [.inr (2, 3, 2)], ck_up (ck_up σ 5 10 0) 5 11 0)) (ps := []) rfl trivial ?_
  refine ck_go_cal (rest := []) (ck_cal_le (by decide) (cx_emptyI _)) ⟨_, rfl, Or.inl ⟨_, rfl⟩, rfl, rfl, rfl, Nat.le_of_ble_eq_true rfl, fun _ => ⟨_, _, rfl⟩⟩ ?_
  rintro _ s2 ⟨rfl, e2⟩
  rw [e2]
  clear e2 s2
  refine ck_go_run 2 (X1 := (26, [some (.inr (0, 3, 5)), some (.inl (σ 5 10))], [.inr (1, 3, 3)], ck_up (ck_up (ck_up (ck_up σ 5 10 0) 5 11 0) 2 1 0) 2 2 0)) (ps := []) rfl trivial ?_
  refine ck_go_cal (rest := []) (ck_cal_le (by decide) (cx_leave _)) ⟨_, rfl, Or.inl ⟨_, rfl⟩, rfl, rfl, rfl, Nat.le_of_ble_eq_true rfl, fun _ => ⟨_, _, rfl⟩⟩ ?_
  rintro _ s3 ⟨rfl, e3⟩
  rw [e3]
  clear e3 s3
  refine ck_go_run 2 (X1 := (33, [some (.inr (0, 3, 5)), some (.inl (σ 5 10))], [.inr (4, 3, 1)], ck_up (ck_up (ck_up (ck_up (ck_up σ 5 10 0) 5 11 0) 2 1 0) 2 2 0) 1 8 0)) (ps := []) rfl trivial ?_
  refine ck_go_cal (rest := []) (ck_cal_le (by decide) (cx_forgetAll)) ⟨_, rfl, Or.inl ⟨_, rfl⟩, rfl, rfl, rfl, Nat.le_of_ble_eq_true rfl, fun _ => ⟨_, _, rfl⟩⟩ ?_
  rintro _ s4 ⟨rfl, e4⟩
  rw [e4]
  clear e4 s4
  refine ck_go_run 1 (X1 := (37, [some (.inr (0, 3, 5)), some (.inl (σ 5 10))], [.inl (σ 5 10)], ck_up (ck_up (ck_up (ck_up (ck_up (ck_up σ 5 10 0) 5 11 0) 2 1 0) 2 2 0) 1 8 0) 4 6 0)) (ps := []) rfl trivial ?_
  exact ck_eI ⟨rfl, rfl⟩ rfl rfl rfl
theorem cx_reqI {j b : Int} (h : 0 ≤ j ∧ j < b) (hb : b ≤ 64) (σ : ck_M) : ck_cal 1 cm_Cs_requireIndex [.inl j, .inl b] σ (fun q σ' => q = none ∧ σ' = σ) := by
  refine ck_cal_of ?_
  refine ck_go_run 2 (X1 := (if j < 0 then 9 else 4, [some (.inl j), some (.inl b)], [], σ)) (ps := [ck_rg j]) rfl ⟨(ck_rgo (by omega) (by omega)), trivial⟩ ?_
  refine ck_go_f (by omega) ?_
  refine ck_go_run 3 (X1 := (if j < b then 17 else 9, [some (.inl j), some (.inl b)], [], σ)) (ps := [ck_rg j, ck_rg b]) rfl ⟨(ck_rgo (by omega) (by omega)), (ck_rgo (by omega) (by omega)), trivial⟩ ?_
  refine ck_go_t (by omega) ?_
  exact ck_eV ⟨rfl, rfl⟩ rfl rfl rfl
theorem cx_reqS {k : Int} {σ : ck_M} (hb : σ 1 8 = 1) (hn : 0 ≤ σ 5 10 ∧ σ 5 10 ≤ 64) (hk : 0 ≤ k ∧ k < σ 5 10) : ck_cal 2 cm_Cs_requireStatement [.inr (0, 3, 5), .inl k] σ (fun q σ' => q = none ∧ σ' = σ) := by
  refine ck_cal_of ?_
  refine ck_go_run 4 (X1 := (if σ 1 8 = 0 then 10 else 18, [some (.inr (0, 3, 5)), some (.inl k)], [], σ)) (ps := [ck_rg (σ 1 8)]) rfl ⟨(ck_rgo (by omega) (by omega)), trivial⟩ ?_
  refine ck_go_f (by omega) ?_
  refine ck_go_run 4 (X1 := (26, [some (.inr (0, 3, 5)), some (.inl k)], [.inl (σ 5 10), .inl k], σ)) (ps := []) rfl trivial ?_
  refine ck_go_cal (rest := []) (ck_cal_le (by decide) (cx_reqI (by omega) (by omega) _)) ⟨_, rfl, Or.inr ⟨_, rfl⟩, rfl, rfl, rfl, Nat.le_of_ble_eq_true rfl, fun h => absurd h (by decide)⟩ ?_
  rintro _ s' ⟨rfl, e'⟩
  rw [e']
  clear e' s'
  exact ck_eV ⟨rfl, rfl⟩ rfl rfl rfl
theorem cx_needlessC {k : Int} {σ : ck_M} (hb : σ 1 8 = 1) (hn : 0 ≤ σ 5 10 ∧ σ 5 10 ≤ 64) (hk : 0 ≤ k ∧ k < σ 5 10) : ck_cal 3 cm_Cs_needless [.inr (0, 3, 5), .inl k] σ (fun q σ' => q = some (σ 17 k) ∧ σ' = σ) := by
  refine ck_cal_of ?_
  refine ck_go_run 2 (X1 := (2, [some (.inr (0, 3, 5)), some (.inl k)], [.inl k, .inr (0, 3, 5)], σ)) (ps := []) rfl trivial ?_
  refine ck_go_cal (rest := []) (ck_cal_le (by decide) (cx_reqS (σ := σ) hb hn hk)) ⟨_, rfl, Or.inl ⟨_, rfl⟩, rfl, rfl, rfl, Nat.le_of_ble_eq_true rfl, fun _ => ⟨_, _, rfl⟩⟩ ?_
  rintro _ s' ⟨rfl, e'⟩
  rw [e']
  clear e' s'
  refine ck_go_run 5 (X1 := (14, [some (.inr (0, 3, 5)), some (.inl k)], [.inl (σ 17 k)], σ)) (ps := [0 ≤ k ∧ k < ((64 : Nat) : Int)]) rfl ⟨⟨by omega, by omega⟩, trivial⟩ ?_
  exact ck_eI ⟨rfl, rfl⟩ rfl rfl rfl
theorem cx_leastC {k m : Int} {σ : ck_M} (hb : σ 1 8 = 1) (hn : 0 ≤ σ 5 10 ∧ σ 5 10 ≤ 64) (hk : 0 ≤ k ∧ k < σ 5 10) (hm : 0 ≤ m ∧ m < 10) (hr : ck_rg (σ (25 + 7 * k + 2) m)) : ck_cal 3 cm_Cs_least [.inr (0, 3, 5), .inl k, .inl m] σ (fun q σ' => q = some (if σ (25 + 7 * k + 2) m = -1000000000 then 1000000000 else σ (25 + 7 * k + 2) m) ∧ σ' = σ) := by
  refine ck_cal_of ?_
  unfold ck_rg at hr
  refine ck_go_run 2 (X1 := (2, [some (.inr (0, 3, 5)), some (.inl k), some (.inl m), none], [.inl k, .inr (0, 3, 5)], σ)) (ps := []) rfl trivial ?_
  refine ck_go_cal (rest := []) (ck_cal_le (by decide) (cx_reqS (σ := σ) hb hn hk)) ⟨_, rfl, Or.inl ⟨_, rfl⟩, rfl, rfl, rfl, Nat.le_of_ble_eq_true rfl, fun _ => ⟨_, _, rfl⟩⟩ ?_
  rintro _ s' ⟨rfl, e'⟩
  rw [e']
  clear e' s'
  refine ck_go_run 2 (X1 := (8, [some (.inr (0, 3, 5)), some (.inl k), some (.inl m), none], [.inl 10, .inl m], σ)) (ps := []) rfl trivial ?_
  refine ck_go_cal (rest := []) (ck_cal_le (by decide) (cx_reqI (by omega) (by omega) _)) ⟨_, rfl, Or.inr ⟨_, rfl⟩, rfl, rfl, rfl, Nat.le_of_ble_eq_true rfl, fun h => absurd h (by decide)⟩ ?_
  rintro _ s' ⟨rfl, e'⟩
  rw [e']
  clear e' s'
  refine ck_go_run 12 (X1 := (if σ (25 + 7 * k + 2) m = (-1000000000) then 32 else 37, [some (.inr (0, 3, 5)), some (.inl k), some (.inl m), some (.inl (σ (25 + 7 * k + 2) m))], [], σ)) (ps := [0 ≤ k ∧ k < ((64 : Nat) : Int), 0 ≤ m ∧ m < ((10 : Nat) : Int), ck_rg (σ (25 + 7 * k + 2) m), ck_rg ((-1000000000))]) rfl ⟨⟨by omega, by omega⟩, ⟨by omega, by omega⟩, (ck_rgo (by omega) (by omega)), (ck_rgo (by omega) (by omega)), trivial⟩ ?_
  refine ck_go_ite (fun h1 => ?_) (fun h1 => ?_)
  · refine ck_go_run 2 (X1 := (38, [some (.inr (0, 3, 5)), some (.inl k), some (.inl m), some (.inl (σ (25 + 7 * k + 2) m))], [.inl 1000000000], σ)) (ps := []) rfl trivial ?_
    refine ck_eI ⟨?_, rfl⟩ rfl rfl rfl
    first | rw [if_pos (by assumption)] | rw [if_neg (by assumption)]
  · refine ck_go_run 1 (X1 := (38, [some (.inr (0, 3, 5)), some (.inl k), some (.inl m), some (.inl (σ (25 + 7 * k + 2) m))], [.inl (σ (25 + 7 * k + 2) m)], σ)) (ps := []) rfl trivial ?_
    refine ck_eI ⟨?_, rfl⟩ rfl rfl rfl
    first | rw [if_pos (by assumption)] | rw [if_neg (by assumption)]
theorem cx_highestC {k m r : Int} {σ : ck_M} (hb : σ 1 8 = 1) (hn : 0 ≤ σ 5 10 ∧ σ 5 10 ≤ 64) (hk : 0 ≤ k ∧ k < σ 5 10) (hm : 0 ≤ m ∧ m < 10) (hr : 0 ≤ r ∧ r < 4) : ck_cal 3 cm_Cs_highest [.inr (0, 3, 5), .inl k, .inl m, .inl r] σ (fun q σ' => q = some (σ (25 + 7 * k + 3) (m * 4 + r)) ∧ σ' = σ) := by
  refine ck_cal_of ?_
  refine ck_go_run 2 (X1 := (2, [some (.inr (0, 3, 5)), some (.inl k), some (.inl m), some (.inl r)], [.inl k, .inr (0, 3, 5)], σ)) (ps := []) rfl trivial ?_
  refine ck_go_cal (rest := []) (ck_cal_le (by decide) (cx_reqS (σ := σ) hb hn hk)) ⟨_, rfl, Or.inl ⟨_, rfl⟩, rfl, rfl, rfl, Nat.le_of_ble_eq_true rfl, fun _ => ⟨_, _, rfl⟩⟩ ?_
  rintro _ s' ⟨rfl, e'⟩
  rw [e']
  clear e' s'
  refine ck_go_run 2 (X1 := (8, [some (.inr (0, 3, 5)), some (.inl k), some (.inl m), some (.inl r)], [.inl 10, .inl m], σ)) (ps := []) rfl trivial ?_
  refine ck_go_cal (rest := []) (ck_cal_le (by decide) (cx_reqI (by omega) (by omega) _)) ⟨_, rfl, Or.inr ⟨_, rfl⟩, rfl, rfl, rfl, Nat.le_of_ble_eq_true rfl, fun h => absurd h (by decide)⟩ ?_
  rintro _ s' ⟨rfl, e'⟩
  rw [e']
  clear e' s'
  refine ck_go_run 2 (X1 := (13, [some (.inr (0, 3, 5)), some (.inl k), some (.inl m), some (.inl r)], [.inl 4, .inl r], σ)) (ps := []) rfl trivial ?_
  refine ck_go_cal (rest := []) (ck_cal_le (by decide) (cx_reqI (by omega) (by omega) _)) ⟨_, rfl, Or.inr ⟨_, rfl⟩, rfl, rfl, rfl, Nat.le_of_ble_eq_true rfl, fun h => absurd h (by decide)⟩ ?_
  rintro _ s' ⟨rfl, e'⟩
  rw [e']
  clear e' s'
  refine ck_go_run 12 (X1 := (34, [some (.inr (0, 3, 5)), some (.inl k), some (.inl m), some (.inl r)], [.inl (σ (25 + 7 * k + 3) ((m * 4) + r))], σ)) (ps := [0 ≤ k ∧ k < ((64 : Nat) : Int), 0 ≤ (m * 4) + r ∧ (m * 4) + r < ((40 : Nat) : Int)]) rfl ⟨⟨by omega, by omega⟩, ⟨by omega, by omega⟩, trivial⟩ ?_
  exact ck_eI ⟨rfl, rfl⟩ rfl rfl rfl
theorem cx_outputC {k : Int} (hk : ck_rg k) {σ : ck_M} (hb : σ 1 8 = 0 ∨ σ 1 8 = 1) (h : σ 1 8 = 1 → 0 ≤ σ 1 14 ∧ σ 1 14 ≤ 1000000000) : ck_cal 3 cm_Cs_output [.inr (0, 3, 5), .inl k] σ (fun q σ' => q = some (if σ 1 8 = 1 then (if 0 ≤ k ∧ k < 16 ∧ k < σ 1 14 then σ 24 ((σ 1 14 - 1 - k) % 16) else 1000000000) else 1000000000) ∧ σ' = σ) := by
  refine ck_cal_of ?_
  refine ck_go_run 4 (X1 := (if σ 1 8 = 0 then 21 else 10, [some (.inr (0, 3, 5)), some (.inl k)], [], σ)) (ps := [ck_rg (σ 1 8)]) rfl ⟨(ck_rgo (by omega) (by omega)), trivial⟩ ?_
  refine ck_go_ite (fun h1 => ?_) (fun h1 => ?_)
  · refine ck_go_run 1 (X1 := (23, [some (.inr (0, 3, 5)), some (.inl k)], [.inl 1000000000], σ)) (ps := []) rfl trivial ?_
    refine ck_eI ⟨?_, rfl⟩ rfl rfl rfl
    rw [if_neg (by omega)]
  · refine ck_go_run 3 (X1 := (15, [some (.inr (0, 3, 5)), some (.inl k)], [.inl k, .inr (1, 3, 3)], σ)) (ps := []) rfl trivial ?_
    refine ck_go_cal (rest := []) (ck_cal_le (by decide) (cx_outputBack (σ := σ) hk (h (by omega)))) ⟨_, rfl, Or.inl ⟨_, rfl⟩, rfl, rfl, rfl, Nat.le_of_ble_eq_true rfl, fun _ => ⟨_, _, rfl⟩⟩ ?_
    rintro _ s' ⟨rfl, e'⟩
    rw [e']
    clear e' s'
    refine ck_go_run 1 (X1 := (23, [some (.inr (0, 3, 5)), some (.inl k)], [.inl ((if 0 ≤ k ∧ k < 16 ∧ k < σ 1 14 then σ 24 ((σ 1 14 - 1 - k) % 16) else 1000000000))], σ)) (ps := []) rfl trivial ?_
    refine ck_eI ⟨?_, rfl⟩ rfl rfl rfl
    rw [if_pos (show σ 1 8 = 1 by omega)]
theorem cx_stateC {w : Int} (hw : ck_rg w) {σ : ck_M} (hb : σ 1 8 = 0 ∨ σ 1 8 = 1) : ck_cal 2 cm_Cs_state [.inr (0, 3, 5), .inl w] σ (fun q σ' => q = some (if σ 1 8 = 1 then co_tl (fun j => σ 1 (if j = 0 then 10 else if j = 1 then 9 else j + 9)) w else -1) ∧ σ' = σ) := by
  refine ck_cal_of ?_
  refine ck_go_run 4 (X1 := (if σ 1 8 = 0 then 21 else 10, [some (.inr (0, 3, 5)), some (.inl w)], [], σ)) (ps := [ck_rg (σ 1 8)]) rfl ⟨(ck_rgo (by omega) (by omega)), trivial⟩ ?_
  refine ck_go_ite (fun h1 => ?_) (fun h1 => ?_)
  · refine ck_go_run 1 (X1 := (22, [some (.inr (0, 3, 5)), some (.inl w)], [.inl ((-1))], σ)) (ps := []) rfl trivial ?_
    refine ck_eI ⟨?_, rfl⟩ rfl rfl rfl
    rw [if_neg (by omega)]
  · refine ck_go_run 3 (X1 := (15, [some (.inr (0, 3, 5)), some (.inl w)], [.inl w, .inr (1, 3, 3)], σ)) (ps := []) rfl trivial ?_
    refine ck_go_cal (rest := []) (ck_cal_le (by decide) (cx_tellC hw σ)) ⟨_, rfl, Or.inl ⟨_, rfl⟩, rfl, rfl, rfl, Nat.le_of_ble_eq_true rfl, fun _ => ⟨_, _, rfl⟩⟩ ?_
    rintro _ s' ⟨rfl, e'⟩
    rw [e']
    clear e' s'
    refine ck_go_run 1 (X1 := (22, [some (.inr (0, 3, 5)), some (.inl w)], [.inl ((co_tl (fun j => σ 1 (if j = 0 then 10 else if j = 1 then 9 else j + 9)) w))], σ)) (ps := []) rfl trivial ?_
    refine ck_eI ⟨?_, rfl⟩ rfl rfl rfl
    rw [if_pos (show σ 1 8 = 1 by omega)]
theorem cx_numberC {m : Int} (hm : ck_rg m) {σ : ck_M} (hb : σ 1 8 = 0 ∨ σ 1 8 = 1) : ck_cal 2 cm_Cs_number [.inr (0, 3, 5), .inl m] σ (fun q σ' => q = some (if σ 1 8 = 1 ∧ 0 ≤ m ∧ m < 10 then σ 20 m else 1000000000) ∧ σ' = σ) := by
  refine ck_cal_of ?_
  refine ck_go_run 4 (X1 := (if σ 1 8 = 0 then 29 else 10, [some (.inr (0, 3, 5)), some (.inl m)], [], σ)) (ps := [ck_rg (σ 1 8)]) rfl ⟨(ck_rgo (by omega) (by omega)), trivial⟩ ?_
  refine ck_go_ite (fun h1 => ?_) (fun h1 => ?_)
  · refine ck_go_run 1 (X1 := (31, [some (.inr (0, 3, 5)), some (.inl m)], [.inl 1000000000], σ)) (ps := []) rfl trivial ?_
    refine ck_eI ⟨?_, rfl⟩ rfl rfl rfl
    try simp only [co_in0] at *
    rw [if_neg (by omega)]
  · refine ck_go_run 1 (X1 := (11, [some (.inr (0, 3, 5)), some (.inl m)], [.inl m], σ)) (ps := []) rfl trivial ?_
    refine ck_go_cal (rest := []) (ck_cal_le (by decide) (cx_isNumber (v := m) (by assumption) _)) ⟨_, rfl, Or.inr ⟨_, rfl⟩, rfl, rfl, rfl, Nat.le_of_ble_eq_true rfl, fun h => absurd h (by decide)⟩ ?_
    rintro _ s' ⟨rfl, e'⟩
    rw [e']
    clear e' s'
    refine ck_go_run 1 (X1 := (if ck_in m 0 9 = 0 then 29 else 17, [some (.inr (0, 3, 5)), some (.inl m)], [], σ)) (ps := [ck_rg (ck_in m 0 9)]) rfl ⟨(co_inrg _ _ _), trivial⟩ ?_
    refine ck_go_ite (fun h2 => ?_) (fun h2 => ?_)
    · refine ck_go_run 1 (X1 := (31, [some (.inr (0, 3, 5)), some (.inl m)], [.inl 1000000000], σ)) (ps := []) rfl trivial ?_
      refine ck_eI ⟨?_, rfl⟩ rfl rfl rfl
      try simp only [co_in0] at *
      rw [if_neg (by omega)]
    · simp only [co_in0] at *
      refine ck_go_run 6 (X1 := (31, [some (.inr (0, 3, 5)), some (.inl m)], [.inl (σ 20 m)], σ)) (ps := [0 ≤ m ∧ m < ((10 : Nat) : Int)]) rfl ⟨⟨by omega, by omega⟩, trivial⟩ ?_
      refine ck_eI ⟨?_, rfl⟩ rfl rfl rfl
      try simp only [co_in0] at *
      rw [if_pos (by omega)]
theorem cx_lengthC {r : Int} (hr : ck_rg r) {σ : ck_M} (hb : σ 1 8 = 0 ∨ σ 1 8 = 1) (hA : σ 1 8 = 1 → ∀ r, 0 ≤ r → r < 4 → σ 21 r = -1 ∨ (0 ≤ σ 21 r ∧ σ 21 r < 40)) : ck_cal 2 cm_Cs_length [.inr (0, 3, 5), .inl r] σ (fun q σ' => q = some (if σ 1 8 = 1 ∧ 0 ≤ r ∧ r < 4 then (if σ 21 r = -1 then -1 else σ 22 (σ 21 r)) else -1) ∧ σ' = σ) := by
  refine ck_cal_of ?_
  refine ck_go_run 4 (X1 := (if σ 1 8 = 0 then 28 else 10, [some (.inr (0, 3, 5)), some (.inl r)], [], σ)) (ps := [ck_rg (σ 1 8)]) rfl ⟨(ck_rgo (by omega) (by omega)), trivial⟩ ?_
  refine ck_go_ite (fun h1 => ?_) (fun h1 => ?_)
  · refine ck_go_run 1 (X1 := (29, [some (.inr (0, 3, 5)), some (.inl r)], [.inl ((-1))], σ)) (ps := []) rfl trivial ?_
    refine ck_eI ⟨?_, rfl⟩ rfl rfl rfl
    try simp only [co_in0] at *
    rw [if_neg (show ¬ (σ 1 8 = 1 ∧ 0 ≤ r ∧ r < 4) by omega)]
  · refine ck_go_run 1 (X1 := (11, [some (.inr (0, 3, 5)), some (.inl r)], [.inl r], σ)) (ps := []) rfl trivial ?_
    refine ck_go_cal (rest := []) (ck_cal_le (by decide) (cx_isArray (v := r) (by assumption) _)) ⟨_, rfl, Or.inr ⟨_, rfl⟩, rfl, rfl, rfl, Nat.le_of_ble_eq_true rfl, fun h => absurd h (by decide)⟩ ?_
    rintro _ s' ⟨rfl, e'⟩
    rw [e']
    clear e' s'
    refine ck_go_run 1 (X1 := (if ck_in r 0 3 = 0 then 28 else 17, [some (.inr (0, 3, 5)), some (.inl r)], [], σ)) (ps := [ck_rg (ck_in r 0 3)]) rfl ⟨(co_inrg _ _ _), trivial⟩ ?_
    refine ck_go_ite (fun h2 => ?_) (fun h2 => ?_)
    · refine ck_go_run 1 (X1 := (29, [some (.inr (0, 3, 5)), some (.inl r)], [.inl ((-1))], σ)) (ps := []) rfl trivial ?_
      refine ck_eI ⟨?_, rfl⟩ rfl rfl rfl
      try simp only [co_in0] at *
      rw [if_neg (show ¬ (σ 1 8 = 1 ∧ 0 ≤ r ∧ r < 4) by omega)]
    · refine ck_go_run 3 (X1 := (22, [some (.inr (0, 3, 5)), some (.inl r)], [.inl r, .inr (1, 3, 3)], σ)) (ps := []) rfl trivial ?_
      refine ck_go_cal (rest := []) (ck_cal_le (by decide) (cx_lengthOf (σ := σ) (r := r) (L := (if σ 21 r = -1 then -1 else σ 22 (σ 21 r))) (by simp only [co_in0] at *; omega) (by simp only [co_in0] at *; exact hA (by omega) r (by omega) (by omega)) rfl)) ⟨_, rfl, Or.inl ⟨_, rfl⟩, rfl, rfl, rfl, Nat.le_of_ble_eq_true rfl, fun _ => ⟨_, _, rfl⟩⟩ ?_
      rintro _ s' ⟨rfl, e'⟩
      rw [e']
      clear e' s'
      refine ck_go_run 1 (X1 := (29, [some (.inr (0, 3, 5)), some (.inl r)], [.inl ((if σ 21 r = -1 then -1 else σ 22 (σ 21 r)))], σ)) (ps := []) rfl trivial ?_
      refine ck_eI ⟨?_, rfl⟩ rfl rfl rfl
      try simp only [co_in0] at *
      rw [if_pos (show σ 1 8 = 1 ∧ 0 ≤ r ∧ r < 4 by omega)]
theorem cx_placeC {r j : Int} (hr : ck_rg r) (hj : ck_rg j) {σ : ck_M} (hb : σ 1 8 = 0 ∨ σ 1 8 = 1) (hA : σ 1 8 = 1 → ∀ r, 0 ≤ r → r < 4 → σ 21 r = -1 ∨ (0 ≤ σ 21 r ∧ σ 21 r < 40)) (hL : σ 1 8 = 1 → ∀ r, 0 ≤ r → r < 4 → -1 ≤ (if σ 21 r = -1 then -1 else σ 22 (σ 21 r)) ∧ (if σ 21 r = -1 then -1 else σ 22 (σ 21 r)) ≤ 40) : ck_cal 4 cm_Cs_place [.inr (0, 3, 5), .inl r, .inl j] σ (fun q σ' => q = some (if σ 1 8 = 1 ∧ 0 ≤ r ∧ r < 4 then (if 0 ≤ j ∧ j < (if σ 21 r = -1 then -1 else σ 22 (σ 21 r)) then σ 23 (40 * σ 21 r + j) else 1000000000) else 1000000000) ∧ σ' = σ) := by
  refine ck_cal_of ?_
  refine ck_go_run 4 (X1 := (if σ 1 8 = 0 then 29 else 10, [some (.inr (0, 3, 5)), some (.inl r), some (.inl j)], [], σ)) (ps := [ck_rg (σ 1 8)]) rfl ⟨(ck_rgo (by omega) (by omega)), trivial⟩ ?_
  refine ck_go_ite (fun h1 => ?_) (fun h1 => ?_)
  · refine ck_go_run 1 (X1 := (31, [some (.inr (0, 3, 5)), some (.inl r), some (.inl j)], [.inl 1000000000], σ)) (ps := []) rfl trivial ?_
    refine ck_eI ⟨?_, rfl⟩ rfl rfl rfl
    try simp only [co_in0] at *
    rw [if_neg (show ¬ (σ 1 8 = 1 ∧ 0 ≤ r ∧ r < 4) by omega)]
  · refine ck_go_run 1 (X1 := (11, [some (.inr (0, 3, 5)), some (.inl r), some (.inl j)], [.inl r], σ)) (ps := []) rfl trivial ?_
    refine ck_go_cal (rest := []) (ck_cal_le (by decide) (cx_isArray (v := r) (by assumption) _)) ⟨_, rfl, Or.inr ⟨_, rfl⟩, rfl, rfl, rfl, Nat.le_of_ble_eq_true rfl, fun h => absurd h (by decide)⟩ ?_
    rintro _ s' ⟨rfl, e'⟩
    rw [e']
    clear e' s'
    refine ck_go_run 1 (X1 := (if ck_in r 0 3 = 0 then 29 else 17, [some (.inr (0, 3, 5)), some (.inl r), some (.inl j)], [], σ)) (ps := [ck_rg (ck_in r 0 3)]) rfl ⟨(co_inrg _ _ _), trivial⟩ ?_
    refine ck_go_ite (fun h2 => ?_) (fun h2 => ?_)
    · refine ck_go_run 1 (X1 := (31, [some (.inr (0, 3, 5)), some (.inl r), some (.inl j)], [.inl 1000000000], σ)) (ps := []) rfl trivial ?_
      refine ck_eI ⟨?_, rfl⟩ rfl rfl rfl
      try simp only [co_in0] at *
      rw [if_neg (show ¬ (σ 1 8 = 1 ∧ 0 ≤ r ∧ r < 4) by omega)]
    · refine ck_go_run 4 (X1 := (23, [some (.inr (0, 3, 5)), some (.inl r), some (.inl j)], [.inl j, .inl r, .inr (1, 3, 3)], σ)) (ps := []) rfl trivial ?_
      refine ck_go_cal (rest := []) (ck_cal_le (by decide) (cx_placeOf (σ := σ) (r := r) (i := j) (L := (if σ 21 r = -1 then -1 else σ 22 (σ 21 r))) (by simp only [co_in0] at *; omega) (by simp only [co_in0] at *; exact hA (by omega) r (by omega) (by omega)) rfl (by simp only [co_in0] at *; exact hL (by omega) r (by omega) (by omega)) hj)) ⟨_, rfl, Or.inl ⟨_, rfl⟩, rfl, rfl, rfl, Nat.le_of_ble_eq_true rfl, fun _ => ⟨_, _, rfl⟩⟩ ?_
      rintro _ s' ⟨rfl, e'⟩
      rw [e']
      clear e' s'
      refine ck_go_run 1 (X1 := (31, [some (.inr (0, 3, 5)), some (.inl r), some (.inl j)], [.inl ((if 0 ≤ j ∧ j < (if σ 21 r = -1 then -1 else σ 22 (σ 21 r)) then σ 23 (40 * σ 21 r + j) else 1000000000))], σ)) (ps := []) rfl trivial ?_
      refine ck_eI ⟨?_, rfl⟩ rfl rfl rfl
      try simp only [co_in0] at *
      rw [if_pos (show σ 1 8 = 1 ∧ 0 ≤ r ∧ r < 4 by omega)]
theorem cx_giveC {v : Int} (hv : -1000000 ≤ v ∧ v ≤ 1000000) {σ : ck_M} (h1 : 0 ≤ σ 2 1 ∧ σ 2 1 < 64) (h2 : 0 ≤ σ 2 2 ∧ σ 2 2 ≤ 64) : ck_cal 2 cm_Cs_give [.inr (0, 3, 5), .inl v] σ (fun q σ' => (σ 2 2 = 64 ∧ q = some (-1) ∧ σ' = σ) ∨ (σ 2 2 ≠ 64 ∧ q = some (σ 2 2 + 1) ∧ σ' = ck_up (ck_up σ 3 ((σ 2 1 + σ 2 2) % 64) v) 2 2 (σ 2 2 + 1))) := by
  refine ck_cal_of ?_
  refine ck_go_run 3 (X1 := (if v < (-1000000) then 12 else 6, [some (.inr (0, 3, 5)), some (.inl v)], [], σ)) (ps := [ck_rg v, ck_rg ((-1000000))]) rfl ⟨(ck_rgo (by omega) (by omega)), (ck_rgo (by omega) (by omega)), trivial⟩ ?_
  refine ck_go_f (by omega) ?_
  refine ck_go_run 3 (X1 := (if 1000000 < v then 12 else 20, [some (.inr (0, 3, 5)), some (.inl v)], [], σ)) (ps := [ck_rg v, ck_rg 1000000]) rfl ⟨(ck_rgo (by omega) (by omega)), (ck_rgo (by omega) (by omega)), trivial⟩ ?_
  refine ck_go_f (by omega) ?_
  refine ck_go_run 3 (X1 := (25, [some (.inr (0, 3, 5)), some (.inl v)], [.inl v, .inr (2, 3, 2)], σ)) (ps := []) rfl trivial ?_
  refine ck_go_cal (rest := []) (ck_cal_le (by decide) (cx_appendI (σ := σ) h1 h2)) ⟨_, rfl, Or.inl ⟨_, rfl⟩, rfl, rfl, rfl, Nat.le_of_ble_eq_true rfl, fun _ => ⟨_, _, rfl⟩⟩ ?_
  rintro q s1 hq
  obtain ⟨w, eq⟩ : ∃ w, q = some w := by
    rcases hq with z | z
    · exact ⟨_, z.2.1⟩
    · exact ⟨_, z.2.1⟩
  subst eq
  exact ck_eI hq rfl rfl rfl
theorem cx_runC' {N : Int} (hN : 1 ≤ N ∧ N ≤ 2000) {σ : ck_M} (hb : σ 1 8 = 1) (h9 : σ 1 9 = 0) {Po : Option Int → ck_M → Prop} (hAd : ck_cal 6 cm_Ma_advance [.inr (1, 3, 3), .inl N] σ (fun q σ' => ∃ w, q = some w ∧ Po q σ')) : ck_cal 7 cm_Cs_run [.inr (0, 3, 5), .inl N] σ Po := by
  refine ck_cal_of ?_
  refine ck_go_run 4 (X1 := (if σ 1 8 = 0 then 20 else 10, [some (.inr (0, 3, 5)), some (.inl N)], [], σ)) (ps := [ck_rg (σ 1 8)]) rfl ⟨(ck_rgo (by omega) (by omega)), trivial⟩ ?_
  refine ck_go_f (by omega) ?_
  refine ck_go_run 4 (X1 := (if σ 1 9 = 0 then 28 else 20, [some (.inr (0, 3, 5)), some (.inl N)], [], σ)) (ps := [ck_rg (σ 1 9)]) rfl ⟨(ck_rgo (by omega) (by omega)), trivial⟩ ?_
  refine ck_go_t (by omega) ?_
  refine ck_go_run 3 (X1 := (if N < 1 then 40 else 33, [some (.inr (0, 3, 5)), some (.inl N)], [], σ)) (ps := [ck_rg N, ck_rg 1]) rfl ⟨(ck_rgo (by omega) (by omega)), (ck_rgo (by omega) (by omega)), trivial⟩ ?_
  refine ck_go_f (by omega) ?_
  refine ck_go_run 3 (X1 := (if 2000 < N then 40 else 48, [some (.inr (0, 3, 5)), some (.inl N)], [], σ)) (ps := [ck_rg N, ck_rg 2000]) rfl ⟨(ck_rgo (by omega) (by omega)), (ck_rgo (by omega) (by omega)), trivial⟩ ?_
  refine ck_go_f (by omega) ?_
  refine ck_go_run 3 (X1 := (53, [some (.inr (0, 3, 5)), some (.inl N)], [.inl N, .inr (1, 3, 3)], σ)) (ps := []) rfl trivial ?_
  refine ck_go_cal (rest := []) (ck_cal_le (by decide) (hAd)) ⟨_, rfl, Or.inl ⟨_, rfl⟩, rfl, rfl, rfl, Nat.le_of_ble_eq_true rfl, fun _ => ⟨_, _, rfl⟩⟩ ?_
  rintro q s1 ⟨w, eq, hq⟩
  subst eq
  exact ck_eI hq rfl rfl rfl
theorem cx_startC {σ : ck_M} (hn : 0 ≤ σ 5 10 ∧ σ 5 10 ≤ 64) (hd : σ 5 11 = 0) {I : ck_M → Prop} (hW : ck_cal 7 cm_Fi_work [.inr (4, 3, 1)] σ (fun q s => q = none ∧ s 5 10 = σ 5 10 ∧ (∀ k, 0 ≤ k → k < σ 5 10 → 0 ≤ s 17 k ∧ s 17 k ≤ 7) ∧ I s)) : ck_cal 8 cm_Cs_start [.inr (0, 3, 5)] σ (fun q σ' => ∃ s1, I s1 ∧ s1 5 10 = σ 5 10 ∧ q = some (ck_sum0 (fun k => ck_bc (s1 17 k)) (σ 5 10).toNat) ∧ (∀ b j, b ≠ 20 → b ≠ 21 → (b ≠ 1 ∨ j < 8) → σ' b j = s1 b j) ∧ (σ' 1 8 = 1 ∧ σ' 1 9 = (if s1 5 10 = 0 then 1 else 0) ∧ σ' 1 10 = 0 ∧ σ' 1 11 = 0) ∧ (σ' 1 12 = 0 ∧ σ' 1 13 = 0 ∧ σ' 1 14 = 0 ∧ σ' 1 15 = 0) ∧ (∀ j, 0 ≤ j → j < 10 → σ' 20 j = 0) ∧ ∀ j, 0 ≤ j → j < 4 → σ' 21 j = -1) := by
  refine ck_cal_of ?_
  refine ck_go_run 4 (X1 := (if 0 < σ 5 11 then 10 else 18, [some (.inr (0, 3, 5))], [], σ)) (ps := [ck_rg (σ 5 11)]) rfl ⟨(ck_rgo (by omega) (by omega)), trivial⟩ ?_
  refine ck_go_f (by omega) ?_
  refine ck_go_run 2 (X1 := (22, [some (.inr (0, 3, 5))], [.inr (4, 3, 1)], σ)) (ps := []) rfl trivial ?_
  refine ck_go_cal (rest := []) (ck_cal_le (by decide) (hW)) ⟨_, rfl, Or.inl ⟨_, rfl⟩, rfl, rfl, rfl, Nat.le_of_ble_eq_true rfl, fun _ => ⟨_, _, rfl⟩⟩ ?_
  rintro _ s1 ⟨rfl, hw1⟩
  have hn1 := hw1.1
  refine ck_go_run 2 (X1 := (29, [some (.inr (0, 3, 5))], [.inr (1, 3, 3)], s1)) (ps := []) rfl trivial ?_
  refine ck_go_cal (rest := []) (ck_cal_le (by decide) (cx_begin (σ := s1) (by omega))) ⟨_, rfl, Or.inl ⟨_, rfl⟩, rfl, rfl, rfl, Nat.le_of_ble_eq_true rfl, fun _ => ⟨_, _, rfl⟩⟩ ?_
  rintro _ s2 ⟨rfl, hB⟩
  have e17 : ∀ k, s2 17 k = s1 17 k := fun k => hB.1 17 k (by decide) (by decide) (Or.inl (by decide))
  have e5 : s2 5 10 = σ 5 10 := (hB.1 5 10 (by decide) (by decide) (Or.inl (by decide))).trans hn1
  refine ck_go_run 2 (X1 := (36, [some (.inr (0, 3, 5))], [.inr (4, 3, 1)], s2)) (ps := []) rfl trivial ?_
  refine ck_go_cal (rest := []) (ck_cal_le (by decide) (cx_countNeedless (n := σ 5 10) (σ := s2) hn e5 (fun k a b => by rw [e17]; exact hw1.2.1 k a b))) ⟨_, rfl, Or.inl ⟨_, rfl⟩, rfl, rfl, rfl, Nat.le_of_ble_eq_true rfl, fun _ => ⟨_, _, rfl⟩⟩ ?_
  rintro _ s' ⟨rfl, e'⟩
  rw [e']
  clear e' s'
  refine ck_eI ⟨s1, hw1.2.2, hn1, ?_, hB⟩ rfl rfl rfl
  simp only [e17]
theorem cx_putC {t x y z : Int} (ht : ck_rg t) (hx : ck_rg x) (hy : ck_rg y) (hz : ck_rg z) {σ : ck_M} (hd : 0 ≤ σ 5 11 ∧ σ 5 11 ≤ 8) (ho : 0 < σ 5 11 → 0 ≤ σ 15 (σ 5 11 - 1) ∧ σ 15 (σ 5 11 - 1) < 64) (hs : 0 < σ 5 11 → ck_rg (σ 6 (σ 15 (σ 5 11 - 1))) ∧ ck_rg (σ 11 (σ 15 (σ 5 11 - 1)))) (hf : co_fit t x y z) (hw : co_own t (σ 5 11) (σ 6 (σ 15 (σ 5 11 - 1))) (σ 11 (σ 15 (σ 5 11 - 1)))) {Po : Option Int → ck_M → Prop} (hA : ck_cal 2 cm_Pr_append [.inr (5, 3, 4), .inl t, .inl x, .inl y, .inl z] (ck_up (ck_up σ 1 8 0) 4 6 0) (fun q σ' => ∃ w, q = some w ∧ Po q σ')) : ck_cal 3 cm_Cs_put [.inr (0, 3, 5), .inl t, .inl x, .inl y, .inl z] σ Po := by
  refine ck_cal_of ?_
  refine ck_go_run 4 (X1 := (5, [some (.inr (0, 3, 5)), some (.inl t), some (.inl x), some (.inl y), some (.inl z)], [.inl z, .inl y, .inl x, .inl t], σ)) (ps := []) rfl trivial ?_
  refine ck_go_cal (rest := []) (ck_cal_le (by decide) (cx_fits ht hx hy hz _)) ⟨_, rfl, Or.inr ⟨_, rfl⟩, rfl, rfl, rfl, Nat.le_of_ble_eq_true rfl, fun h => absurd h (by decide)⟩ ?_
  rintro _ s' ⟨⟨r, rfl, hr⟩, e'⟩
  rw [e']
  clear e' s'
  have hr1 : r = 1 := by
    rcases hr with ⟨z1, z2⟩ | ⟨z1, z2⟩
    · exact z1
    · exact absurd hf z2
  refine ck_go_run 1 (X1 := (if r = 0 then 22 else 11, [some (.inr (0, 3, 5)), some (.inl t), some (.inl x), some (.inl y), some (.inl z)], [], σ)) (ps := [ck_rg r]) rfl ⟨(ck_rgo (by omega) (by omega)), trivial⟩ ?_
  refine ck_go_f (by omega) ?_
  refine ck_go_run 3 (X1 := (16, [some (.inr (0, 3, 5)), some (.inl t), some (.inl x), some (.inl y), some (.inl z)], [.inl t, .inr (5, 3, 4)], σ)) (ps := []) rfl trivial ?_
  refine ck_go_cal (rest := []) (ck_cal_le (by decide) (cx_hasOwner (σ := σ) ht hd ho hs)) ⟨_, rfl, Or.inl ⟨_, rfl⟩, rfl, rfl, rfl, Nat.le_of_ble_eq_true rfl, fun _ => ⟨_, _, rfl⟩⟩ ?_
  rintro _ s' ⟨⟨r2, rfl, hr2⟩, e'⟩
  rw [e']
  clear e' s'
  have hr3 : r2 = 1 := by
    rcases hr2 with ⟨z1, z2⟩ | ⟨z1, z2⟩
    · exact z1
    · exact absurd hw z2
  refine ck_go_run 1 (X1 := (if r2 = 0 then 22 else 30, [some (.inr (0, 3, 5)), some (.inl t), some (.inl x), some (.inl y), some (.inl z)], [], σ)) (ps := [ck_rg r2]) rfl ⟨(ck_rgo (by omega) (by omega)), trivial⟩ ?_
  refine ck_go_f (by omega) ?_
  refine ck_go_run 2 (X1 := (34, [some (.inr (0, 3, 5)), some (.inl t), some (.inl x), some (.inl y), some (.inl z)], [.inr (1, 3, 3)], σ)) (ps := []) rfl trivial ?_
  refine ck_go_cal (rest := []) (ck_cal_le (by decide) (cx_leave _)) ⟨_, rfl, Or.inl ⟨_, rfl⟩, rfl, rfl, rfl, Nat.le_of_ble_eq_true rfl, fun _ => ⟨_, _, rfl⟩⟩ ?_
  rintro _ s1 ⟨rfl, e1⟩
  rw [e1]
  clear e1 s1
  refine ck_go_run 2 (X1 := (41, [some (.inr (0, 3, 5)), some (.inl t), some (.inl x), some (.inl y), some (.inl z)], [.inr (4, 3, 1)], ck_up σ 1 8 0)) (ps := []) rfl trivial ?_
  refine ck_go_cal (rest := []) (ck_cal_le (by decide) (cx_forgetAll)) ⟨_, rfl, Or.inl ⟨_, rfl⟩, rfl, rfl, rfl, Nat.le_of_ble_eq_true rfl, fun _ => ⟨_, _, rfl⟩⟩ ?_
  rintro _ s2 ⟨rfl, e2⟩
  rw [e2]
  clear e2 s2
  refine ck_go_run 6 (X1 := (53, [some (.inr (0, 3, 5)), some (.inl t), some (.inl x), some (.inl y), some (.inl z)], [.inl z, .inl y, .inl x, .inl t, .inr (5, 3, 4)], ck_up (ck_up σ 1 8 0) 4 6 0)) (ps := []) rfl trivial ?_
  refine ck_go_cal (rest := []) (ck_cal_le (by decide) (hA)) ⟨_, rfl, Or.inl ⟨_, rfl⟩, rfl, rfl, rfl, Nat.le_of_ble_eq_true rfl, fun _ => ⟨_, _, rfl⟩⟩ ?_
  rintro q s3 ⟨w, eq, hq⟩
  subst eq
  exact ck_eI hq rfl rfl rfl
