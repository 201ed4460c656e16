def ck_qLen (x a : Int) (f : ck_Q) : ck_Q := ck_P (fun n => if n = x then 0 else ck_K f n) (ck_I f) (fun n => if n = x then 0 else ck_L f n) (ck_V f) (fun q => if ck_V f q = ck_V f a ∧ 0 < ck_V f q then 1 else ck_T f q) (ck_G f) (fun n q => if n = x then (if ck_V f q = ck_V f a ∧ 0 < ck_V f q then 0 else 1000000000) else ck_H f n q)
theorem cx_measured {x a : Int} (hx : 0 ≤ x ∧ x < 10) (ha : 0 ≤ a ∧ a < 4) {σ : ck_M} {f : ck_Q} (hf : ck_mv (σ 490) = f) (hB : ck_qb f) : ck_cal 2 cm_Mo_measured [.inr (480, 3, 6), .inl x, .inl a] σ (fun q σ' => q = none ∧ ck_f1 σ σ' 490 ∧ ck_mv (σ' 490) = ck_qLen x a f) := by
  refine ck_cal_of ?_
  refine ck_go_run 2 (X1 := (2, [some (.inr (480, 3, 6)), some (.inl x), some (.inl a), none], [.inl a, .inr (480, 3, 6)], σ)) (ps := []) rfl trivial ?_
  refine ck_go_cal (rest := []) (ck_cal_le (by decide) (cx_found (a := a) ha hf hB)) ⟨_, rfl, Or.inl ⟨_, rfl⟩, rfl, rfl, rfl, Nat.le_of_ble_eq_true rfl, fun _ => ⟨_, _, rfl⟩⟩ ?_
  rintro _ s1 ⟨rfl, g1, r1⟩
  try dsimp only at g1 r1
  refine ck_go_run 16 (X1 := (26, [some (.inr (480, 3, 6)), some (.inl x), some (.inl a), some (.inl 0)], [], ck_up (ck_up s1 490 (0 + x) 0) 490 (20 + x) 0)) (ps := [0 ≤ 0 + x ∧ 0 + x < ((82 : Nat) : Int), 0 ≤ 20 + x ∧ 20 + x < ((82 : Nat) : Int)]) rfl ⟨⟨by omega, by omega⟩, ⟨by omega, by omega⟩, trivial⟩ ?_
  refine ck_for 26 (fun v => [some (.inr (480, 3, 6)), some (.inl x), some (.inl a), some (.inl v)]) 4 (fun v s => 0 ≤ v ∧ v ≤ 4 ∧ (∀ b j, (b ≠ 490 ∨ j < 42 + 4 * x ∨ 42 + 4 * x + v ≤ j) → s b j = (ck_up (ck_up s1 490 (0 + x) 0) 490 (20 + x) 0) b j) ∧ ∀ q, 0 ≤ q → q < v → s 490 (42 + 4 * x + q) = (if ck_V f q = ck_V f a ∧ 0 < ck_V f q then 0 else 1000000000)) (fun v s hv hI kk => ?_) (fun v s hv hI => ?_) 0 _ ⟨by omega, by omega, fun _ _ _ => rfl, fun _ _ _ => by omega⟩
  · obtain ⟨h0, h4, hI1, hI2⟩ := hI
    have e1 : s 490 (30 + v) = ck_V f v := by
      rw [hI1 _ _ (by omega)]
      simp only [ck_up, true_and]
      rw [if_neg (by omega), if_neg (by omega), ck_y_V r1 h0 hv]
      simp only [ck_qMark, ck_P_V h0 hv]
    have e1a : s 490 (30 + a) = ck_V f a := by
      rw [hI1 _ _ (by omega)]
      simp only [ck_up, true_and]
      rw [if_neg (by omega), if_neg (by omega), ck_y_V r1 ha.1 ha.2]
      simp only [ck_qMark, ck_P_V ha.1 ha.2]
    have b1 := hB.2.2.2.1 v
    have b1a := hB.2.2.2.1 a
    refine ck_go_run 3 (X1 := (if v < 4 then 31 else 89, [some (.inr (480, 3, 6)), some (.inl x), some (.inl a), some (.inl v)], [], s)) (ps := [ck_rg v, ck_rg 4]) rfl ⟨(ck_rgo (by omega) (by omega)), (ck_rgo (by omega) (by omega)), trivial⟩ ?_
    refine ck_go_t hv ?_
    refine ck_go_run 22 (X1 := (if s 490 (30 + v) = s 490 (30 + a) then 64 else 80, [some (.inr (480, 3, 6)), some (.inl x), some (.inl a), some (.inl v)], [.inl ((42 + (4 * x)) + v), .inr (490, 0, 82)], s)) (ps := [0 ≤ 30 + v ∧ 30 + v < ((82 : Nat) : Int), 0 ≤ 30 + a ∧ 30 + a < ((82 : Nat) : Int), ck_rg (s 490 (30 + v)), ck_rg (s 490 (30 + a))]) rfl ⟨⟨by omega, by omega⟩, ⟨by omega, by omega⟩, (ck_rgo (by omega) (by omega)), (ck_rgo (by omega) (by omega)), trivial⟩ ?_
    refine ck_go_ite (fun h1 => ?_) (fun h1 => ?_)
    · refine ck_go_run 7 (X1 := (if 0 < s 490 (30 + v) then 76 else 80, [some (.inr (480, 3, 6)), some (.inl x), some (.inl a), some (.inl v)], [.inl ((42 + (4 * x)) + v), .inr (490, 0, 82)], s)) (ps := [0 ≤ 30 + v ∧ 30 + v < ((82 : Nat) : Int), ck_rg (s 490 (30 + v))]) rfl ⟨⟨by omega, by omega⟩, (ck_rgo (by omega) (by omega)), trivial⟩ ?_
      refine ck_go_ite (fun h2 => ?_) (fun h2 => ?_)
      · refine ck_go_run 5 (X1 := (26, [some (.inr (480, 3, 6)), some (.inl x), some (.inl a), some (.inl (v + 1))], [], ck_up s 490 ((42 + (4 * x)) + v) 0)) (ps := [0 ≤ (42 + (4 * x)) + v ∧ (42 + (4 * x)) + v < ((82 : Nat) : Int)]) rfl ⟨⟨by omega, by omega⟩, trivial⟩ ?_
        exact kk _ ⟨by omega, by omega, ck_st1 (base := 42 + 4 * x) (g := fun q => (if ck_V f q = ck_V f a ∧ 0 < ck_V f q then 0 else 1000000000)) hI1 hI2 (by rw [if_pos (by omega)]) h0⟩
      · refine ck_go_run 4 (X1 := (26, [some (.inr (480, 3, 6)), some (.inl x), some (.inl a), some (.inl (v + 1))], [], ck_up s 490 ((42 + (4 * x)) + v) 1000000000)) (ps := [0 ≤ (42 + (4 * x)) + v ∧ (42 + (4 * x)) + v < ((82 : Nat) : Int)]) rfl ⟨⟨by omega, by omega⟩, trivial⟩ ?_
        exact kk _ ⟨by omega, by omega, ck_st1 (base := 42 + 4 * x) (g := fun q => (if ck_V f q = ck_V f a ∧ 0 < ck_V f q then 0 else 1000000000)) hI1 hI2 (by rw [if_neg (by omega)]) h0⟩
    · refine ck_go_run 4 (X1 := (26, [some (.inr (480, 3, 6)), some (.inl x), some (.inl a), some (.inl (v + 1))], [], ck_up s 490 ((42 + (4 * x)) + v) 1000000000)) (ps := [0 ≤ (42 + (4 * x)) + v ∧ (42 + (4 * x)) + v < ((82 : Nat) : Int)]) rfl ⟨⟨by omega, by omega⟩, trivial⟩ ?_
      exact kk _ ⟨by omega, by omega, ck_st1 (base := 42 + 4 * x) (g := fun q => (if ck_V f q = ck_V f a ∧ 0 < ck_V f q then 0 else 1000000000)) hI1 hI2 (by rw [if_neg (by omega)]) h0⟩
  · obtain ⟨h0, h4, hI1, hI2⟩ := hI
    refine ck_go_run 3 (X1 := (if v < 4 then 31 else 89, [some (.inr (480, 3, 6)), some (.inl x), some (.inl a), some (.inl v)], [], s)) (ps := [ck_rg v, ck_rg 4]) rfl ⟨(ck_rgo (by omega) (by omega)), (ck_rgo (by omega) (by omega)), trivial⟩ ?_
    refine ck_go_f (by omega) ?_
    refine ck_eV ⟨rfl, ?_, ?_⟩ rfl rfl rfl
    · intro b j hb
      rw [hI1 b j (by omega)]
      simp only [ck_up]
      rw [if_neg (by omega), if_neg (by omega), g1 b j hb]
    · unfold ck_qLen
      refine ck_P_ext (fun n a0 a1 => ?_) (fun n a0 a1 => ?_) (fun n a0 a1 => ?_) (fun q b0 b1 => ?_) (fun q b0 b1 => ?_) (fun q b0 b1 => ?_) (fun n q a0 a1 b0 b1 => ?_)
      · rw [hI1 490 (0 + n) (by omega)]
        simp only [ck_up, true_and]
        by_cases hn : n = x
        · rw [if_neg (by omega), if_pos (by omega), if_pos hn]
        · rw [if_neg (by omega), if_neg (by omega), if_neg hn, ck_y_K r1 a0 a1]
          simp only [ck_qMark, ck_P_K a0 a1]
      · rw [hI1 490 (10 + n) (by omega)]
        simp only [ck_up, true_and]
        rw [ck_y_I r1 a0 a1]
        simp only [ck_qMark, ck_P_I a0 a1]
        try ((repeat' split) <;> first | rfl | omega)
      · rw [hI1 490 (20 + n) (by omega)]
        simp only [ck_up, true_and]
        by_cases hn : n = x
        · rw [if_pos (by omega), if_pos hn]
        · rw [if_neg (by omega), if_neg (by omega), if_neg hn, ck_y_L r1 a0 a1]
          simp only [ck_qMark, ck_P_L a0 a1]
      · rw [hI1 490 (30 + q) (by omega)]
        simp only [ck_up, true_and]
        rw [ck_y_V r1 b0 b1]
        simp only [ck_qMark, ck_P_V b0 b1]
        try ((repeat' split) <;> first | rfl | omega)
      · rw [hI1 490 (34 + q) (by omega)]
        simp only [ck_up, true_and]
        rw [ck_y_T r1 b0 b1]
        simp only [ck_qMark, ck_P_T b0 b1]
        try ((repeat' split) <;> first | rfl | omega)
      · rw [hI1 490 (38 + q) (by omega)]
        simp only [ck_up, true_and]
        rw [ck_y_G r1 b0 b1]
        simp only [ck_qMark, ck_P_G b0 b1]
        try ((repeat' split) <;> first | rfl | omega)
      · by_cases hn : n = x
        · subst hn
          rw [if_pos rfl, hI2 q b0 (by omega)]
        · rw [if_neg hn, hI1 490 (42 + 4 * n + q) (by omega)]
          simp only [ck_up, true_and]
          rw [if_neg (by omega), if_neg (by omega), ck_y_H r1 a0 a1 b0 b1]
          simp only [ck_qMark, ck_P_H a0 a1 b0 b1]
def ck_qLet (a e : Int) (f : ck_Q) : ck_Q := ck_P (ck_K f) (ck_I f) (ck_L f) (fun q => if q = a then ck_V f e else ck_V f q) (fun q => if q = a then ck_T f e else ck_T f q) (fun q => if q = a then ck_G f e else ck_G f q) (fun n q => if q = a then ck_H f n e else ck_H f n q)
theorem cx_let {a e : Int} (ha : 0 ≤ a ∧ a < 4) (he : 0 ≤ e ∧ e < 4) {σ : ck_M} {f : ck_Q} (hf : ck_mv (σ 490) = f) : ck_cal 1 cm_Mo_let [.inr (480, 3, 6), .inl a, .inl e] σ (fun q σ' => q = none ∧ ck_f1 σ σ' 490 ∧ ck_mv (σ' 490) = ck_qLet a e f) := by
  refine ck_cal_of ?_
  refine ck_go_run 38 (X1 := (56, [some (.inr (480, 3, 6)), some (.inl a), some (.inl e), some (.inl 0)], [], ck_up (ck_up (ck_up σ 490 (30 + a) (σ 490 (30 + e))) 490 (34 + a) ((ck_up σ 490 (30 + a) (σ 490 (30 + e))) 490 (34 + e))) 490 (38 + a) ((ck_up (ck_up σ 490 (30 + a) (σ 490 (30 + e))) 490 (34 + a) ((ck_up σ 490 (30 + a) (σ 490 (30 + e))) 490 (34 + e))) 490 (38 + e)))) (ps := [0 ≤ 30 + e ∧ 30 + e < ((82 : Nat) : Int), 0 ≤ 30 + a ∧ 30 + a < ((82 : Nat) : Int), 0 ≤ 34 + e ∧ 34 + e < ((82 : Nat) : Int), 0 ≤ 34 + a ∧ 34 + a < ((82 : Nat) : Int), 0 ≤ 38 + e ∧ 38 + e < ((82 : Nat) : Int), 0 ≤ 38 + a ∧ 38 + a < ((82 : Nat) : Int)]) rfl ⟨⟨by omega, by omega⟩, ⟨by omega, by omega⟩, ⟨by omega, by omega⟩, ⟨by omega, by omega⟩, ⟨by omega, by omega⟩, ⟨by omega, by omega⟩, trivial⟩ ?_
  refine ck_for 56 (fun v => [some (.inr (480, 3, 6)), some (.inl a), some (.inl e), some (.inl v)]) 10 (fun v s => 0 ≤ v ∧ v ≤ 10 ∧ (∀ b j, (b ≠ 490 ∨ j < 42 + a ∨ 42 + 4 * v + a ≤ j ∨ (j - 42 - a) % 4 ≠ 0) → s b j = (ck_up (ck_up (ck_up σ 490 (30 + a) (σ 490 (30 + e))) 490 (34 + a) ((ck_up σ 490 (30 + a) (σ 490 (30 + e))) 490 (34 + e))) 490 (38 + a) ((ck_up (ck_up σ 490 (30 + a) (σ 490 (30 + e))) 490 (34 + a) ((ck_up σ 490 (30 + a) (σ 490 (30 + e))) 490 (34 + e))) 490 (38 + e))) b j) ∧ ∀ q, 0 ≤ q → q < v → s 490 (42 + 4 * q + a) = ck_H f q e) (fun v s hv hI kk => ?_) (fun v s hv hI => ?_) 0 _ ⟨by omega, by omega, fun _ _ _ => rfl, fun _ _ _ => by omega⟩
  · obtain ⟨h0, h4, hI1, hI2⟩ := hI
    have e3 : s 490 (42 + 4 * v + e) = ck_H f v e := by
      rw [← ck_y_H hf h0 hv he.1 he.2, hI1 _ _ (by omega)]
      simp only [ck_up, true_and]
      (repeat' split) <;> first | rfl | omega
    refine ck_go_run 3 (X1 := (if v < 10 then 62 else 94, [some (.inr (480, 3, 6)), some (.inl a), some (.inl e), some (.inl v)], [], s)) (ps := [ck_rg v, ck_rg 10]) rfl ⟨(ck_rgo (by omega) (by omega)), (ck_rgo (by omega) (by omega)), trivial⟩ ?_
    refine ck_go_t hv ?_
    refine ck_go_run 22 (X1 := (56, [some (.inr (480, 3, 6)), some (.inl a), some (.inl e), some (.inl (v + 1))], [], ck_up s 490 ((42 + (4 * v)) + a) (s 490 ((42 + (4 * v)) + e)))) (ps := [0 ≤ (42 + (4 * v)) + e ∧ (42 + (4 * v)) + e < ((82 : Nat) : Int), 0 ≤ (42 + (4 * v)) + a ∧ (42 + (4 * v)) + a < ((82 : Nat) : Int)]) rfl ⟨⟨by omega, by omega⟩, ⟨by omega, by omega⟩, trivial⟩ ?_
    exact kk _ ⟨by omega, by omega, ck_su4 (g := fun q => ck_H f q e) hI1 hI2 e3 h0⟩
  · obtain ⟨h0, h4, hI1, hI2⟩ := hI
    refine ck_go_run 3 (X1 := (if v < 10 then 62 else 94, [some (.inr (480, 3, 6)), some (.inl a), some (.inl e), some (.inl v)], [], s)) (ps := [ck_rg v, ck_rg 10]) rfl ⟨(ck_rgo (by omega) (by omega)), (ck_rgo (by omega) (by omega)), trivial⟩ ?_
    refine ck_go_f (by omega) ?_
    refine ck_eV ⟨rfl, ?_, ?_⟩ rfl rfl rfl
    · intro b j hb
      rw [hI1 b j (by omega)]
      simp only [ck_up]
      (repeat' split) <;> first | rfl | omega
    · unfold ck_qLet
      refine ck_P_ext (fun n a0 a1 => ?_) (fun n a0 a1 => ?_) (fun n a0 a1 => ?_) (fun q b0 b1 => ?_) (fun q b0 b1 => ?_) (fun q b0 b1 => ?_) (fun n q a0 a1 b0 b1 => ?_)
      · rw [← ck_y_K hf a0 a1, hI1 490 (0 + n) (by omega)]
        simp only [ck_up, true_and]
        (repeat' split) <;> first | rfl | omega
      · rw [← ck_y_I hf a0 a1, hI1 490 (10 + n) (by omega)]
        simp only [ck_up, true_and]
        (repeat' split) <;> first | rfl | omega
      · rw [← ck_y_L hf a0 a1, hI1 490 (20 + n) (by omega)]
        simp only [ck_up, true_and]
        (repeat' split) <;> first | rfl | omega
      · rw [← ck_y_V hf he.1 he.2, ← ck_y_V hf b0 b1, hI1 490 (30 + q) (by omega)]
        simp only [ck_up, true_and]
        (repeat' split) <;> first | rfl | omega
      · rw [← ck_y_T hf he.1 he.2, ← ck_y_T hf b0 b1, hI1 490 (34 + q) (by omega)]
        simp only [ck_up, true_and]
        (repeat' split) <;> first | rfl | omega
      · rw [← ck_y_G hf he.1 he.2, ← ck_y_G hf b0 b1, hI1 490 (38 + q) (by omega)]
        simp only [ck_up, true_and]
        (repeat' split) <;> first | rfl | omega
      · by_cases hq : q = a
        · subst hq
          rw [if_pos rfl, hI2 n a0 (by omega)]
        · rw [if_neg hq, ← ck_y_H hf a0 a1 b0 b1, hI1 490 (42 + 4 * n + q) (by omega)]
          simp only [ck_up]
          (repeat' split) <;> first | rfl | omega
def ck_qNew (k a y : Int) (f : ck_Q) : ck_Q := ck_P (ck_K f) (ck_I f) (fun n => if n = y then ck_gr (ck_L f y) 0 else ck_L f n) (fun q => if q = a then 1 + k else ck_V f q) (fun q => if q = a then 1 else ck_T f q) (fun q => if q = a then (if ck_K f y = 1 then ck_I f y else 1000000000) else ck_G f q) (fun n q => if q = a then (if n = y then 0 else if ck_K f n = 1 then ck_ag (1 + k) (if ck_K f y = 1 then ck_I f y else 1000000000) (ck_I f n) else 1000000000) else ck_H f n q)
theorem cx_make {k a y : Int} (hk : 0 ≤ k ∧ k < 64) (ha : 0 ≤ a ∧ a < 4) (hy : 0 ≤ y ∧ y < 10) {σ : ck_M} {f : ck_Q} (hf : ck_mv (σ 490) = f) (hB : ck_qb f) : ck_cal 3 cm_Mo_make [.inr (480, 3, 6), .inl k, .inl a, .inl y] σ (fun q σ' => q = none ∧ ck_f1 σ σ' 490 ∧ ck_mv (σ' 490) = ck_qNew k a y f) := by
  refine ck_cal_of ?_
  have bl := hB.2.2.1 y
  have bK := hB.1 y
  refine ck_go_run 12 (X1 := (18, [some (.inr (480, 3, 6)), some (.inl k), some (.inl a), some (.inl y), none], [.inl 0, .inl (σ 490 (20 + y)), .inl (20 + y), .inr (490, 0, 82)], σ)) (ps := [0 ≤ 20 + y ∧ 20 + y < ((82 : Nat) : Int)]) rfl ⟨⟨by omega, by omega⟩, trivial⟩ ?_
  refine ck_go_cal (rest := [.inl (20 + y), .inr (490, 0, 82)]) (ck_cal_le (by decide) (cx_gr (A := ck_L f y) (B := 0) (ck_y_L hf hy.1 hy.2) rfl (by omega) (by omega) _)) ⟨_, rfl, Or.inr ⟨_, rfl⟩, rfl, rfl, rfl, Nat.le_of_ble_eq_true rfl, fun h => absurd h (by decide)⟩ ?_
  rintro _ s' ⟨rfl, e'⟩
  rw [e']
  clear e' s'
  refine ck_go_run 17 (X1 := (44, [some (.inr (480, 3, 6)), some (.inl k), some (.inl a), some (.inl y), none], [], ck_up (ck_up (ck_up σ 490 (20 + y) (ck_gr (ck_L f y) 0)) 490 (30 + a) (1 + k)) 490 (34 + a) 1)) (ps := [0 ≤ 20 + y ∧ 20 + y < ((82 : Nat) : Int), 0 ≤ 30 + a ∧ 30 + a < ((82 : Nat) : Int), 0 ≤ 34 + a ∧ 34 + a < ((82 : Nat) : Int)]) rfl ⟨⟨by omega, by omega⟩, ⟨by omega, by omega⟩, ⟨by omega, by omega⟩, trivial⟩ ?_
  obtain ⟨t0, ht0⟩ : ∃ z, z = ck_up (ck_up (ck_up σ 490 (20 + y) (ck_gr (ck_L f y) 0)) 490 (30 + a) (1 + k)) 490 (34 + a) 1 := ⟨_, rfl⟩
  rw [← ht0]
  have eK : t0 490 (0 + y) = ck_K f y := by
    rw [ht0, ← ck_y_K hf hy.1 hy.2]
    simp only [ck_up, true_and]
    (repeat' split) <;> first | rfl | omega
  have eI : t0 490 (10 + y) = ck_I f y := by
    rw [ht0, ← ck_y_I hf hy.1 hy.2]
    simp only [ck_up, true_and]
    (repeat' split) <;> first | rfl | omega
  refine ck_go_run 13 (X1 := (if t0 490 (0 + y) = 1 then 64 else 76, [some (.inr (480, 3, 6)), some (.inl k), some (.inl a), some (.inl y), none], [.inl (38 + a), .inr (490, 0, 82)], t0)) (ps := [0 ≤ 0 + y ∧ 0 + y < ((82 : Nat) : Int), ck_rg (t0 490 (0 + y)), ck_rg 1]) rfl ⟨⟨by omega, by omega⟩, (ck_rgo (by omega) (by omega)), (ck_rgo (by omega) (by omega)), trivial⟩ ?_
  refine ck_go_ite (fun h1 => ?_) (fun h1 => ?_)
  · refine ck_go_run 8 (X1 := (79, [some (.inr (480, 3, 6)), some (.inl k), some (.inl a), some (.inl y), none], [], ck_up t0 490 (38 + a) (t0 490 (10 + y)))) (ps := [0 ≤ 10 + y ∧ 10 + y < ((82 : Nat) : Int), 0 ≤ 38 + a ∧ 38 + a < ((82 : Nat) : Int)]) rfl ⟨⟨by omega, by omega⟩, ⟨by omega, by omega⟩, trivial⟩ ?_
    obtain ⟨t1, ht1⟩ : ∃ z, z = ck_up t0 490 (38 + a) (t0 490 (10 + y)) := ⟨_, rfl⟩
    rw [← ht1]
    have ht1 : ∀ b j, t1 b j = if b = 490 ∧ j = 38 + a then (if ck_K f y = 1 then ck_I f y else 1000000000) else t0 b j := by
      intro b j
      rw [ht1]
      simp only [ck_up]
      rw [← eK, ← eI]
      (repeat' split) <;> first | rfl | omega
    refine ck_go_run 2 (X1 := (82, [some (.inr (480, 3, 6)), some (.inl k), some (.inl a), some (.inl y), some (.inl 0)], [], t1)) (ps := []) rfl trivial ?_
    refine ck_for 82 (fun v => [some (.inr (480, 3, 6)), some (.inl k), some (.inl a), some (.inl y), some (.inl v)]) 10 (fun v s => 0 ≤ v ∧ v ≤ 10 ∧ (∀ b j, (b ≠ 490 ∨ j < 42 + a ∨ 42 + 4 * v + a ≤ j ∨ (j - 42 - a) % 4 ≠ 0) → s b j = (t1) b j) ∧ ∀ q, 0 ≤ q → q < v → s 490 (42 + 4 * q + a) = (if q = y then 0 else if ck_K f q = 1 then ck_ag (1 + k) (if ck_K f y = 1 then ck_I f y else 1000000000) (ck_I f q) else 1000000000)) (fun v s hv hI kk => ?_) (fun v s hv hI => ?_) 0 _ ⟨by omega, by omega, fun _ _ _ => rfl, fun _ _ _ => by omega⟩
    · obtain ⟨h0, h4, hI1, hI2⟩ := hI
      have e1 : s 490 (0 + v) = ck_K f v := by
        rw [hI1 _ _ (by omega), ht1, if_neg (by omega), ht0, ← ck_y_K hf h0 hv]
        simp only [ck_up, true_and]
        (repeat' split) <;> first | rfl | omega
      have e2 : s 490 (10 + v) = ck_I f v := by
        rw [hI1 _ _ (by omega), ht1, if_neg (by omega), ht0, ← ck_y_I hf h0 hv]
        simp only [ck_up, true_and]
        (repeat' split) <;> first | rfl | omega
      have e4 : s 490 (30 + a) = 1 + k := by
        rw [hI1 _ _ (by omega), ht1, if_neg (by omega), ht0]
        simp only [ck_up, true_and]
        rw [if_neg (by omega)]
        simp only [and_self, if_true]
      have e5 : s 490 (38 + a) = (if ck_K f y = 1 then ck_I f y else 1000000000) := by
        rw [hI1 _ _ (by omega), ht1, if_pos ⟨rfl, rfl⟩]
      have b1 := hB.1 v
      have b2 := hB.2.1 v
      have b2y := hB.2.1 y
      have b5 : -1000000000 ≤ (if ck_K f y = 1 then ck_I f y else 1000000000) ∧ (if ck_K f y = 1 then ck_I f y else 1000000000) ≤ 1000000000 := by split <;> omega
      refine ck_go_run 3 (X1 := (if v < 10 then 89 else 152, [some (.inr (480, 3, 6)), some (.inl k), some (.inl a), some (.inl y), some (.inl v)], [], s)) (ps := [ck_rg v, ck_rg 10]) rfl ⟨(ck_rgo (by omega) (by omega)), (ck_rgo (by omega) (by omega)), trivial⟩ ?_
      refine ck_go_t hv ?_
      refine ck_go_run 12 (X1 := (if v = y then 108 else 112, [some (.inr (480, 3, 6)), some (.inl k), some (.inl a), some (.inl y), some (.inl v)], [.inl ((42 + (4 * v)) + a), .inr (490, 0, 82)], s)) (ps := [ck_rg v, ck_rg y]) rfl ⟨(ck_rgo (by omega) (by omega)), (ck_rgo (by omega) (by omega)), trivial⟩ ?_
      refine ck_go_ite (fun h2 => ?_) (fun h2 => ?_)
      · refine ck_go_run 5 (X1 := (82, [some (.inr (480, 3, 6)), some (.inl k), some (.inl a), some (.inl y), some (.inl (v + 1))], [], ck_up s 490 ((42 + (4 * v)) + a) 0)) (ps := [0 ≤ (42 + (4 * v)) + a ∧ (42 + (4 * v)) + a < ((82 : Nat) : Int)]) rfl ⟨⟨by omega, by omega⟩, trivial⟩ ?_
        exact kk _ ⟨by omega, by omega, ck_su4 (g := fun q => (if q = y then 0 else if ck_K f q = 1 then ck_ag (1 + k) (if ck_K f y = 1 then ck_I f y else 1000000000) (ck_I f q) else 1000000000)) hI1 hI2 (by rw [if_pos (show v = y by omega)]) h0⟩
      · refine ck_go_run 8 (X1 := (if s 490 (0 + v) = 1 then 125 else 143, [some (.inr (480, 3, 6)), some (.inl k), some (.inl a), some (.inl y), some (.inl v)], [.inl ((42 + (4 * v)) + a), .inr (490, 0, 82)], s)) (ps := [0 ≤ 0 + v ∧ 0 + v < ((82 : Nat) : Int), ck_rg (s 490 (0 + v)), ck_rg 1]) rfl ⟨⟨by omega, by omega⟩, (ck_rgo (by omega) (by omega)), (ck_rgo (by omega) (by omega)), trivial⟩ ?_
        refine ck_go_ite (fun h3 => ?_) (fun h3 => ?_)
        · refine ck_go_run 8 (X1 := (137, [some (.inr (480, 3, 6)), some (.inl k), some (.inl a), some (.inl y), some (.inl v)], [.inl a, .inl (s 490 (10 + v)), .inr (480, 3, 6), .inl ((42 + (4 * v)) + a), .inr (490, 0, 82)], s)) (ps := [0 ≤ 10 + v ∧ 10 + v < ((82 : Nat) : Int)]) rfl ⟨⟨by omega, by omega⟩, trivial⟩ ?_
          refine ck_go_cal (rest := [.inl ((42 + (4 * v)) + a), .inr (490, 0, 82)]) (ck_cal_le (by decide) (cx_ag (k := s 490 (10 + v)) (r := a) ha (by omega) e4 e5 (by omega) b5)) ⟨_, rfl, Or.inl ⟨_, rfl⟩, rfl, rfl, rfl, Nat.le_of_ble_eq_true rfl, fun _ => ⟨_, _, rfl⟩⟩ ?_
          rintro _ s' ⟨rfl, e'⟩
          rw [e']
          clear e' s'
          refine ck_go_run 4 (X1 := (82, [some (.inr (480, 3, 6)), some (.inl k), some (.inl a), some (.inl y), some (.inl (v + 1))], [], ck_up s 490 ((42 + (4 * v)) + a) (ck_ag (1 + k) (if ck_K f y = 1 then ck_I f y else 1000000000) (s 490 (10 + v))))) (ps := [0 ≤ (42 + (4 * v)) + a ∧ (42 + (4 * v)) + a < ((82 : Nat) : Int)]) rfl ⟨⟨by omega, by omega⟩, trivial⟩ ?_
          exact kk _ ⟨by omega, by omega, ck_su4 (g := fun q => (if q = y then 0 else if ck_K f q = 1 then ck_ag (1 + k) (if ck_K f y = 1 then ck_I f y else 1000000000) (ck_I f q) else 1000000000)) hI1 hI2 (by rw [if_neg (show ¬ v = y by omega), if_pos (show ck_K f v = 1 by omega), e2]) h0⟩
        · refine ck_go_run 4 (X1 := (82, [some (.inr (480, 3, 6)), some (.inl k), some (.inl a), some (.inl y), some (.inl (v + 1))], [], ck_up s 490 ((42 + (4 * v)) + a) 1000000000)) (ps := [0 ≤ (42 + (4 * v)) + a ∧ (42 + (4 * v)) + a < ((82 : Nat) : Int)]) rfl ⟨⟨by omega, by omega⟩, trivial⟩ ?_
          exact kk _ ⟨by omega, by omega, ck_su4 (g := fun q => (if q = y then 0 else if ck_K f q = 1 then ck_ag (1 + k) (if ck_K f y = 1 then ck_I f y else 1000000000) (ck_I f q) else 1000000000)) hI1 hI2 (by rw [if_neg (show ¬ v = y by omega), if_neg (show ¬ ck_K f v = 1 by omega)]) h0⟩
    · obtain ⟨h0, h4, hI1, hI2⟩ := hI
      refine ck_go_run 3 (X1 := (if v < 10 then 89 else 152, [some (.inr (480, 3, 6)), some (.inl k), some (.inl a), some (.inl y), some (.inl v)], [], s)) (ps := [ck_rg v, ck_rg 10]) rfl ⟨(ck_rgo (by omega) (by omega)), (ck_rgo (by omega) (by omega)), trivial⟩ ?_
      refine ck_go_f (by omega) ?_
      refine ck_eV ⟨rfl, ?_, ?_⟩ rfl rfl rfl
      · intro b j hb
        rw [hI1 b j (by omega), ht1, if_neg (by omega), ht0]
        simp only [ck_up]
        (repeat' split) <;> first | rfl | omega
      · unfold ck_qNew
        refine ck_P_ext (fun n a0 a1 => ?_) (fun n a0 a1 => ?_) (fun n a0 a1 => ?_) (fun q b0 b1 => ?_) (fun q b0 b1 => ?_) (fun q b0 b1 => ?_) (fun n q a0 a1 b0 b1 => ?_)
        · rw [← ck_y_K hf a0 a1, hI1 490 (0 + n) (by omega), ht1, if_neg (by omega), ht0]
          simp only [ck_up, true_and]
          (repeat' split) <;> first | rfl | omega
        · rw [← ck_y_I hf a0 a1, hI1 490 (10 + n) (by omega), ht1, if_neg (by omega), ht0]
          simp only [ck_up, true_and]
          (repeat' split) <;> first | rfl | omega
        · rw [← ck_y_L hf a0 a1, hI1 490 (20 + n) (by omega), ht1, if_neg (by omega), ht0]
          simp only [ck_up, true_and]
          (repeat' split) <;> first | rfl | omega
        · rw [← ck_y_V hf b0 b1, hI1 490 (30 + q) (by omega), ht1, if_neg (by omega), ht0]
          simp only [ck_up, true_and]
          (repeat' split) <;> first | rfl | omega
        · rw [← ck_y_T hf b0 b1, hI1 490 (34 + q) (by omega), ht1, if_neg (by omega), ht0]
          simp only [ck_up, true_and]
          (repeat' split) <;> first | rfl | omega
        · rw [hI1 490 (38 + q) (by omega), ht1]
          by_cases hq : q = a
          · rw [if_pos (by omega), if_pos hq]
          · rw [if_neg (by omega), if_neg hq, ht0, ← ck_y_G hf b0 b1]
            simp only [ck_up, true_and]
            (repeat' split) <;> first | rfl | omega
        · by_cases hq : q = a
          · subst hq
            rw [if_pos rfl, hI2 n a0 (by omega)]
          · rw [if_neg hq, ← ck_y_H hf a0 a1 b0 b1, hI1 490 (42 + 4 * n + q) (by omega), ht1, if_neg (by omega), ht0]
            simp only [ck_up, true_and]
            (repeat' split) <;> first | rfl | omega
  · refine ck_go_run 2 (X1 := (79, [some (.inr (480, 3, 6)), some (.inl k), some (.inl a), some (.inl y), none], [], ck_up t0 490 (38 + a) 1000000000)) (ps := [0 ≤ 38 + a ∧ 38 + a < ((82 : Nat) : Int)]) rfl ⟨⟨by omega, by omega⟩, trivial⟩ ?_
    obtain ⟨t1, ht1⟩ : ∃ z, z = ck_up t0 490 (38 + a) 1000000000 := ⟨_, rfl⟩
    rw [← ht1]
    have ht1 : ∀ b j, t1 b j = if b = 490 ∧ j = 38 + a then (if ck_K f y = 1 then ck_I f y else 1000000000) else t0 b j := by
      intro b j
      rw [ht1]
      simp only [ck_up]
      rw [← eK, ← eI]
      (repeat' split) <;> first | rfl | omega
    refine ck_go_run 2 (X1 := (82, [some (.inr (480, 3, 6)), some (.inl k), some (.inl a), some (.inl y), some (.inl 0)], [], t1)) (ps := []) rfl trivial ?_
    refine ck_for 82 (fun v => [some (.inr (480, 3, 6)), some (.inl k), some (.inl a), some (.inl y), some (.inl v)]) 10 (fun v s => 0 ≤ v ∧ v ≤ 10 ∧ (∀ b j, (b ≠ 490 ∨ j < 42 + a ∨ 42 + 4 * v + a ≤ j ∨ (j - 42 - a) % 4 ≠ 0) → s b j = (t1) b j) ∧ ∀ q, 0 ≤ q → q < v → s 490 (42 + 4 * q + a) = (if q = y then 0 else if ck_K f q = 1 then ck_ag (1 + k) (if ck_K f y = 1 then ck_I f y else 1000000000) (ck_I f q) else 1000000000)) (fun v s hv hI kk => ?_) (fun v s hv hI => ?_) 0 _ ⟨by omega, by omega, fun _ _ _ => rfl, fun _ _ _ => by omega⟩
    · obtain ⟨h0, h4, hI1, hI2⟩ := hI
      have e1 : s 490 (0 + v) = ck_K f v := by
        rw [hI1 _ _ (by omega), ht1, if_neg (by omega), ht0, ← ck_y_K hf h0 hv]
        simp only [ck_up, true_and]
        (repeat' split) <;> first | rfl | omega
      have e2 : s 490 (10 + v) = ck_I f v := by
        rw [hI1 _ _ (by omega), ht1, if_neg (by omega), ht0, ← ck_y_I hf h0 hv]
        simp only [ck_up, true_and]
        (repeat' split) <;> first | rfl | omega
      have e4 : s 490 (30 + a) = 1 + k := by
        rw [hI1 _ _ (by omega), ht1, if_neg (by omega), ht0]
        simp only [ck_up, true_and]
        rw [if_neg (by omega)]
        simp only [and_self, if_true]
      have e5 : s 490 (38 + a) = (if ck_K f y = 1 then ck_I f y else 1000000000) := by
        rw [hI1 _ _ (by omega), ht1, if_pos ⟨rfl, rfl⟩]
      have b1 := hB.1 v
      have b2 := hB.2.1 v
      have b2y := hB.2.1 y
      have b5 : -1000000000 ≤ (if ck_K f y = 1 then ck_I f y else 1000000000) ∧ (if ck_K f y = 1 then ck_I f y else 1000000000) ≤ 1000000000 := by split <;> omega
      refine ck_go_run 3 (X1 := (if v < 10 then 89 else 152, [some (.inr (480, 3, 6)), some (.inl k), some (.inl a), some (.inl y), some (.inl v)], [], s)) (ps := [ck_rg v, ck_rg 10]) rfl ⟨(ck_rgo (by omega) (by omega)), (ck_rgo (by omega) (by omega)), trivial⟩ ?_
      refine ck_go_t hv ?_
      refine ck_go_run 12 (X1 := (if v = y then 108 else 112, [some (.inr (480, 3, 6)), some (.inl k), some (.inl a), some (.inl y), some (.inl v)], [.inl ((42 + (4 * v)) + a), .inr (490, 0, 82)], s)) (ps := [ck_rg v, ck_rg y]) rfl ⟨(ck_rgo (by omega) (by omega)), (ck_rgo (by omega) (by omega)), trivial⟩ ?_
      refine ck_go_ite (fun h4 => ?_) (fun h4 => ?_)
      · refine ck_go_run 5 (X1 := (82, [some (.inr (480, 3, 6)), some (.inl k), some (.inl a), some (.inl y), some (.inl (v + 1))], [], ck_up s 490 ((42 + (4 * v)) + a) 0)) (ps := [0 ≤ (42 + (4 * v)) + a ∧ (42 + (4 * v)) + a < ((82 : Nat) : Int)]) rfl ⟨⟨by omega, by omega⟩, trivial⟩ ?_
        exact kk _ ⟨by omega, by omega, ck_su4 (g := fun q => (if q = y then 0 else if ck_K f q = 1 then ck_ag (1 + k) (if ck_K f y = 1 then ck_I f y else 1000000000) (ck_I f q) else 1000000000)) hI1 hI2 (by rw [if_pos (show v = y by omega)]) h0⟩
      · refine ck_go_run 8 (X1 := (if s 490 (0 + v) = 1 then 125 else 143, [some (.inr (480, 3, 6)), some (.inl k), some (.inl a), some (.inl y), some (.inl v)], [.inl ((42 + (4 * v)) + a), .inr (490, 0, 82)], s)) (ps := [0 ≤ 0 + v ∧ 0 + v < ((82 : Nat) : Int), ck_rg (s 490 (0 + v)), ck_rg 1]) rfl ⟨⟨by omega, by omega⟩, (ck_rgo (by omega) (by omega)), (ck_rgo (by omega) (by omega)), trivial⟩ ?_
        refine ck_go_ite (fun h5 => ?_) (fun h5 => ?_)
        · refine ck_go_run 8 (X1 := (137, [some (.inr (480, 3, 6)), some (.inl k), some (.inl a), some (.inl y), some (.inl v)], [.inl a, .inl (s 490 (10 + v)), .inr (480, 3, 6), .inl ((42 + (4 * v)) + a), .inr (490, 0, 82)], s)) (ps := [0 ≤ 10 + v ∧ 10 + v < ((82 : Nat) : Int)]) rfl ⟨⟨by omega, by omega⟩, trivial⟩ ?_
          refine ck_go_cal (rest := [.inl ((42 + (4 * v)) + a), .inr (490, 0, 82)]) (ck_cal_le (by decide) (cx_ag (k := s 490 (10 + v)) (r := a) ha (by omega) e4 e5 (by omega) b5)) ⟨_, rfl, Or.inl ⟨_, rfl⟩, rfl, rfl, rfl, Nat.le_of_ble_eq_true rfl, fun _ => ⟨_, _, rfl⟩⟩ ?_
          rintro _ s' ⟨rfl, e'⟩
          rw [e']
          clear e' s'
          refine ck_go_run 4 (X1 := (82, [some (.inr (480, 3, 6)), some (.inl k), some (.inl a), some (.inl y), some (.inl (v + 1))], [], ck_up s 490 ((42 + (4 * v)) + a) (ck_ag (1 + k) (if ck_K f y = 1 then ck_I f y else 1000000000) (s 490 (10 + v))))) (ps := [0 ≤ (42 + (4 * v)) + a ∧ (42 + (4 * v)) + a < ((82 : Nat) : Int)]) rfl ⟨⟨by omega, by omega⟩, trivial⟩ ?_
          exact kk _ ⟨by omega, by omega, ck_su4 (g := fun q => (if q = y then 0 else if ck_K f q = 1 then ck_ag (1 + k) (if ck_K f y = 1 then ck_I f y else 1000000000) (ck_I f q) else 1000000000)) hI1 hI2 (by rw [if_neg (show ¬ v = y by omega), if_pos (show ck_K f v = 1 by omega), e2]) h0⟩
        · refine ck_go_run 4 (X1 := (82, [some (.inr (480, 3, 6)), some (.inl k), some (.inl a), some (.inl y), some (.inl (v + 1))], [], ck_up s 490 ((42 + (4 * v)) + a) 1000000000)) (ps := [0 ≤ (42 + (4 * v)) + a ∧ (42 + (4 * v)) + a < ((82 : Nat) : Int)]) rfl ⟨⟨by omega, by omega⟩, trivial⟩ ?_
          exact kk _ ⟨by omega, by omega, ck_su4 (g := fun q => (if q = y then 0 else if ck_K f q = 1 then ck_ag (1 + k) (if ck_K f y = 1 then ck_I f y else 1000000000) (ck_I f q) else 1000000000)) hI1 hI2 (by rw [if_neg (show ¬ v = y by omega), if_neg (show ¬ ck_K f v = 1 by omega)]) h0⟩
    · obtain ⟨h0, h4, hI1, hI2⟩ := hI
      refine ck_go_run 3 (X1 := (if v < 10 then 89 else 152, [some (.inr (480, 3, 6)), some (.inl k), some (.inl a), some (.inl y), some (.inl v)], [], s)) (ps := [ck_rg v, ck_rg 10]) rfl ⟨(ck_rgo (by omega) (by omega)), (ck_rgo (by omega) (by omega)), trivial⟩ ?_
      refine ck_go_f (by omega) ?_
      refine ck_eV ⟨rfl, ?_, ?_⟩ rfl rfl rfl
      · intro b j hb
        rw [hI1 b j (by omega), ht1, if_neg (by omega), ht0]
        simp only [ck_up]
        (repeat' split) <;> first | rfl | omega
      · unfold ck_qNew
        refine ck_P_ext (fun n a0 a1 => ?_) (fun n a0 a1 => ?_) (fun n a0 a1 => ?_) (fun q b0 b1 => ?_) (fun q b0 b1 => ?_) (fun q b0 b1 => ?_) (fun n q a0 a1 b0 b1 => ?_)
        · rw [← ck_y_K hf a0 a1, hI1 490 (0 + n) (by omega), ht1, if_neg (by omega), ht0]
          simp only [ck_up, true_and]
          (repeat' split) <;> first | rfl | omega
        · rw [← ck_y_I hf a0 a1, hI1 490 (10 + n) (by omega), ht1, if_neg (by omega), ht0]
          simp only [ck_up, true_and]
          (repeat' split) <;> first | rfl | omega
        · rw [← ck_y_L hf a0 a1, hI1 490 (20 + n) (by omega), ht1, if_neg (by omega), ht0]
          simp only [ck_up, true_and]
          (repeat' split) <;> first | rfl | omega
        · rw [← ck_y_V hf b0 b1, hI1 490 (30 + q) (by omega), ht1, if_neg (by omega), ht0]
          simp only [ck_up, true_and]
          (repeat' split) <;> first | rfl | omega
        · rw [← ck_y_T hf b0 b1, hI1 490 (34 + q) (by omega), ht1, if_neg (by omega), ht0]
          simp only [ck_up, true_and]
          (repeat' split) <;> first | rfl | omega
        · rw [hI1 490 (38 + q) (by omega), ht1]
          by_cases hq : q = a
          · rw [if_pos (by omega), if_pos hq]
          · rw [if_neg (by omega), if_neg hq, ht0, ← ck_y_G hf b0 b1]
            simp only [ck_up, true_and]
            (repeat' split) <;> first | rfl | omega
        · by_cases hq : q = a
          · subst hq
            rw [if_pos rfl, hI2 n a0 (by omega)]
          · rw [if_neg hq, ← ck_y_H hf a0 a1 b0 b1, hI1 490 (42 + 4 * n + q) (by omega), ht1, if_neg (by omega), ht0]
            simp only [ck_up, true_and]
            (repeat' split) <;> first | rfl | omega
