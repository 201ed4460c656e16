theorem cx_lm {v b V B : Int} (e : v = V) (e2 : b = B) (hv : -1000000000 ≤ V ∧ V ≤ 1000000000) (hb : -1000 ≤ B ∧ B ≤ 1000) (σ : ck_M) : ck_cal 2 cm_Mo_leastMore [.inl v, .inl b] σ (fun r σ' => r = some (ck_mlm V B) ∧ σ' = σ) := by subst e e2; exact cx_leastMore hv hb σ
theorem cx_hm {v b V B : Int} (e : v = V) (e2 : b = B) (hv : -1000000000 ≤ V ∧ V ≤ 1000000000) (hb : -1000 ≤ B ∧ B ≤ 1000) (σ : ck_M) : ck_cal 2 cm_Mo_highMore [.inl v, .inl b] σ (fun r σ' => r = some (ck_mhm V B) ∧ σ' = σ) := by subst e e2; exact cx_highMore hv hb σ
theorem cx_gr {a b A B : Int} (e : a = A) (e2 : b = B) (ha : -2000000000 ≤ A ∧ A ≤ 2000000000) (hb : -2000000000 ≤ B ∧ B ≤ 2000000000) (σ : ck_M) : ck_cal 1 cm_Mo_greater [.inl a, .inl b] σ (fun r σ' => r = some (ck_gr A B) ∧ σ' = σ) := by subst e e2; exact cx_greater ha hb σ
theorem cx_lw {a b A B : Int} (e : a = A) (e2 : b = B) (ha : -2000000000 ≤ A ∧ A ≤ 2000000000) (hb : -2000000000 ≤ B ∧ B ≤ 2000000000) (σ : ck_M) : ck_cal 1 cm_Mo_lower [.inl a, .inl b] σ (fun r σ' => r = some (ck_lw A B) ∧ σ' = σ) := by subst e e2; exact cx_lower ha hb σ
def ck_qMark (a : Int) (f : ck_Q) : ck_Q := ck_P (ck_K f) (ck_I f) (ck_L f) (ck_V f) (fun q => if ck_V f q = ck_V f a ∧ 0 < ck_V f q then 1 else ck_T f q) (ck_G f) (ck_H f)
theorem cx_found {a : Int} (ha : 0 ≤ a ∧ a < 4) {σ : ck_M} {f : ck_Q} (hf : ck_mv (σ 490) = f) (hB : ck_qb f) : ck_cal 1 cm_Mo_found [.inr (480, 3, 6), .inl a] σ (fun q σ' => q = none ∧ ck_f1 σ σ' 490 ∧ ck_mv (σ' 490) = ck_qMark a f) := by
  refine ck_cal_of ?_
  refine ck_go_run 2 (X1 := (2, [some (.inr (480, 3, 6)), some (.inl a), some (.inl 0)], [], σ)) (ps := []) rfl trivial ?_
  refine ck_for 2 (fun v => [some (.inr (480, 3, 6)), some (.inl a), some (.inl v)]) 4 (fun v s => 0 ≤ v ∧ v ≤ 4 ∧ (∀ b j, (b ≠ 490 ∨ j < 34 ∨ 34 + v ≤ j) → s b j = σ b j) ∧ ∀ q, 0 ≤ q → q < v → s 490 (34 + q) = (if ck_V f q = ck_V f a ∧ 0 < ck_V f q then 1 else ck_T f q)) (fun v s hv hI kk => ?_) (fun v s hv hI => ?_) 0 _ ⟨by omega, by omega, fun _ _ _ => rfl, fun _ _ _ => by omega⟩
  · obtain ⟨h0, h4, hI1, hI2⟩ := hI
    have e1 : s 490 (30 + v) = ck_V f v := by rw [hI1 _ _ (by omega), ck_y_V hf h0 hv]
    have e1a : s 490 (30 + a) = ck_V f a := by rw [hI1 _ _ (by omega), ck_y_V hf ha.1 ha.2]
    have b1 := hB.2.2.2.1 v
    have b1a := hB.2.2.2.1 a
    refine ck_go_run 3 (X1 := (if v < 4 then 7 else 56, [some (.inr (480, 3, 6)), some (.inl a), some (.inl v)], [], s)) (ps := [ck_rg v, ck_rg 4]) rfl ⟨(ck_rgo (by omega) (by omega)), (ck_rgo (by omega) (by omega)), trivial⟩ ?_
    refine ck_go_t hv ?_
    refine ck_go_run 13 (X1 := (if s 490 (30 + v) = s 490 (30 + a) then 28 else 50, [some (.inr (480, 3, 6)), some (.inl a), some (.inl v)], [], s)) (ps := [0 ≤ 30 + v ∧ 30 + v < ((82 : Nat) : Int), 0 ≤ 30 + a ∧ 30 + a < ((82 : Nat) : Int), ck_rg (s 490 (30 + v)), ck_rg (s 490 (30 + a))]) rfl ⟨⟨by omega, by omega⟩, ⟨by omega, by omega⟩, (ck_rgo (by omega) (by omega)), (ck_rgo (by omega) (by omega)), trivial⟩ ?_
    refine ck_go_ite (fun h1 => ?_) (fun h1 => ?_)
    · refine ck_go_run 7 (X1 := (if 0 < s 490 (30 + v) then 40 else 50, [some (.inr (480, 3, 6)), some (.inl a), some (.inl v)], [], s)) (ps := [0 ≤ 30 + v ∧ 30 + v < ((82 : Nat) : Int), ck_rg (s 490 (30 + v))]) rfl ⟨⟨by omega, by omega⟩, (ck_rgo (by omega) (by omega)), trivial⟩ ?_
      refine ck_go_ite (fun h2 => ?_) (fun h2 => ?_)
      · refine ck_go_run 9 (X1 := (2, [some (.inr (480, 3, 6)), some (.inl a), some (.inl (v + 1))], [], ck_up s 490 (34 + v) 1)) (ps := [0 ≤ 34 + v ∧ 34 + v < ((82 : Nat) : Int)]) rfl ⟨⟨by omega, by omega⟩, trivial⟩ ?_
        exact kk _ ⟨by omega, by omega, ck_st1 (base := 34) (g := fun q => (if ck_V f q = ck_V f a ∧ 0 < ck_V f q then 1 else ck_T f q)) hI1 hI2 (by rw [if_pos (by omega)]) h0⟩
      · refine ck_go_run 2 (X1 := (2, [some (.inr (480, 3, 6)), some (.inl a), some (.inl (v + 1))], [], s)) (ps := []) rfl trivial ?_
        exact kk _ ⟨by omega, by omega, ck_st1n (base := 34) (g := fun q => (if ck_V f q = ck_V f a ∧ 0 < ck_V f q then 1 else ck_T f q)) hI1 hI2 (by rw [if_neg (by omega), ck_y_T hf h0 hv]) h0⟩
    · refine ck_go_run 2 (X1 := (2, [some (.inr (480, 3, 6)), some (.inl a), some (.inl (v + 1))], [], s)) (ps := []) rfl trivial ?_
      exact kk _ ⟨by omega, by omega, ck_st1n (base := 34) (g := fun q => (if ck_V f q = ck_V f a ∧ 0 < ck_V f q then 1 else ck_T f q)) hI1 hI2 (by rw [if_neg (by omega), ck_y_T hf h0 hv]) h0⟩
  · obtain ⟨h0, h4, hI1, hI2⟩ := hI
    refine ck_go_run 3 (X1 := (if v < 4 then 7 else 56, [some (.inr (480, 3, 6)), some (.inl a), some (.inl v)], [], s)) (ps := [ck_rg v, ck_rg 4]) rfl ⟨(ck_rgo (by omega) (by omega)), (ck_rgo (by omega) (by omega)), trivial⟩ ?_
    refine ck_go_f (by omega) ?_
    refine ck_eV ⟨rfl, ?_, ?_⟩ rfl rfl rfl
    · intro b j hb
      rw [hI1 b j (by omega)]
    · unfold ck_qMark
      refine ck_P_ext (fun n a0 a1 => ?_) (fun n a0 a1 => ?_) (fun n a0 a1 => ?_) (fun q b0 b1 => ?_) (fun q b0 b1 => ?_) (fun q b0 b1 => ?_) (fun n q a0 a1 b0 b1 => ?_)
      · rw [hI1 490 (0 + n) (by omega), ck_y_K hf a0 a1]
      · rw [hI1 490 (10 + n) (by omega), ck_y_I hf a0 a1]
      · rw [hI1 490 (20 + n) (by omega), ck_y_L hf a0 a1]
      · rw [hI1 490 (30 + q) (by omega), ck_y_V hf b0 b1]
      · rw [hI2 q b0 (by omega)]
      · rw [hI1 490 (38 + q) (by omega), ck_y_G hf b0 b1]
      · rw [hI1 490 (42 + 4 * n + q) (by omega), ck_y_H hf a0 a1 b0 b1]
def ck_qUse (a m : Int) (f : ck_Q) : ck_Q := ck_P (ck_K f) (ck_I f) (fun n => if n = m then ck_gr (ck_L f m) 0 else ck_L f n) (ck_V f) (fun q => if ck_V f q = ck_V f a ∧ 0 < ck_V f q then 1 else ck_T f q) (ck_G f) (fun n q => if n = m then (if ck_V f q = ck_V f a ∧ 0 < ck_V f q then ck_lw (ck_H f m q) (-1) else ck_H f m q) else ck_H f n q)
theorem cx_indexed {a m : Int} (ha : 0 ≤ a ∧ a < 4) (hm : 0 ≤ m ∧ m < 10) {σ : ck_M} {f : ck_Q} (hf : ck_mv (σ 490) = f) (hB : ck_qb f) : ck_cal 2 cm_Mo_indexed [.inr (480, 3, 6), .inl a, .inl m] σ (fun q σ' => q = none ∧ ck_f1 σ σ' 490 ∧ ck_mv (σ' 490) = ck_qUse a m f) := by
  refine ck_cal_of ?_
  have bl := hB.2.2.1 m
  refine ck_go_run 2 (X1 := (2, [some (.inr (480, 3, 6)), some (.inl a), some (.inl m), none], [.inl a, .inr (480, 3, 6)], σ)) (ps := []) rfl trivial ?_
  refine ck_go_cal (rest := []) (ck_cal_le (by decide) (cx_found (a := a) ha hf hB)) ⟨_, rfl, Or.inl ⟨_, rfl⟩, rfl, rfl, rfl, Nat.le_of_ble_eq_true rfl, fun _ => ⟨_, _, rfl⟩⟩ ?_
  rintro _ s1 ⟨rfl, g1, r1⟩
  try dsimp only at g1 r1
  refine ck_go_run 12 (X1 := (23, [some (.inr (480, 3, 6)), some (.inl a), some (.inl m), none], [.inl 0, .inl (s1 490 (20 + m)), .inl (20 + m), .inr (490, 0, 82)], s1)) (ps := [0 ≤ 20 + m ∧ 20 + m < ((82 : Nat) : Int)]) rfl ⟨⟨by omega, by omega⟩, trivial⟩ ?_
  refine ck_go_cal (rest := [.inl (20 + m), .inr (490, 0, 82)]) (ck_cal_le (by decide) (cx_gr (A := ck_L f m) (B := 0) (by rw [ck_y_L r1 hm.1 hm.2]; simp only [ck_qMark, ck_P_L hm.1 hm.2]) rfl (by omega) (by omega) _)) ⟨_, rfl, Or.inr ⟨_, rfl⟩, rfl, rfl, rfl, Nat.le_of_ble_eq_true rfl, fun h => absurd h (by decide)⟩ ?_
  rintro _ s' ⟨rfl, e'⟩
  rw [e']
  clear e' s'
  refine ck_go_run 3 (X1 := (29, [some (.inr (480, 3, 6)), some (.inl a), some (.inl m), some (.inl 0)], [], ck_up s1 490 (20 + m) (ck_gr (ck_L f m) 0))) (ps := [0 ≤ 20 + m ∧ 20 + m < ((82 : Nat) : Int)]) rfl ⟨⟨by omega, by omega⟩, trivial⟩ ?_
  refine ck_for 29 (fun v => [some (.inr (480, 3, 6)), some (.inl a), some (.inl m), some (.inl v)]) 4 (fun v s => 0 ≤ v ∧ v ≤ 4 ∧ (∀ b j, (b ≠ 490 ∨ j < 42 + 4 * m ∨ 42 + 4 * m + v ≤ j) → s b j = (ck_up s1 490 (20 + m) (ck_gr (ck_L f m) 0)) b j) ∧ ∀ q, 0 ≤ q → q < v → s 490 (42 + 4 * m + q) = (if ck_V f q = ck_V f a ∧ 0 < ck_V f q then ck_lw (ck_H f m q) (-1) else ck_H f m q)) (fun v s hv hI kk => ?_) (fun v s hv hI => ?_) 0 _ ⟨by omega, by omega, fun _ _ _ => rfl, fun _ _ _ => by omega⟩
  · obtain ⟨h0, h4, hI1, hI2⟩ := hI
    have e1 : s 490 (30 + v) = ck_V f v := by
      rw [hI1 _ _ (by omega)]
      simp only [ck_up, true_and]
      rw [if_neg (by omega), ck_y_V r1 h0 hv]
      simp only [ck_qMark, ck_P_V h0 hv]
    have e1a : s 490 (30 + a) = ck_V f a := by
      rw [hI1 _ _ (by omega)]
      simp only [ck_up, true_and]
      rw [if_neg (by omega), ck_y_V r1 ha.1 ha.2]
      simp only [ck_qMark, ck_P_V ha.1 ha.2]
    have e3 : s 490 (42 + 4 * m + v) = ck_H f m v := by
      rw [hI1 _ _ (by omega)]
      simp only [ck_up, true_and]
      rw [if_neg (by omega), ck_y_H r1 hm.1 hm.2 h0 hv]
      simp only [ck_qMark, ck_P_H hm.1 hm.2 h0 hv]
    have b1 := hB.2.2.2.1 v
    have b1a := hB.2.2.2.1 a
    have b3 := hB.2.2.2.2.2.2 m v
    refine ck_go_run 3 (X1 := (if v < 4 then 34 else 103, [some (.inr (480, 3, 6)), some (.inl a), some (.inl m), some (.inl v)], [], s)) (ps := [ck_rg v, ck_rg 4]) rfl ⟨(ck_rgo (by omega) (by omega)), (ck_rgo (by omega) (by omega)), trivial⟩ ?_
    refine ck_go_t hv ?_
    refine ck_go_run 13 (X1 := (if s 490 (30 + v) = s 490 (30 + a) then 55 else 97, [some (.inr (480, 3, 6)), some (.inl a), some (.inl m), some (.inl v)], [], s)) (ps := [0 ≤ 30 + v ∧ 30 + v < ((82 : Nat) : Int), 0 ≤ 30 + a ∧ 30 + a < ((82 : Nat) : Int), ck_rg (s 490 (30 + v)), ck_rg (s 490 (30 + a))]) rfl ⟨⟨by omega, by omega⟩, ⟨by omega, by omega⟩, (ck_rgo (by omega) (by omega)), (ck_rgo (by omega) (by omega)), trivial⟩ ?_
    refine ck_go_ite (fun h1 => ?_) (fun h1 => ?_)
    · refine ck_go_run 7 (X1 := (if 0 < s 490 (30 + v) then 67 else 97, [some (.inr (480, 3, 6)), some (.inl a), some (.inl m), some (.inl v)], [], s)) (ps := [0 ≤ 30 + v ∧ 30 + v < ((82 : Nat) : Int), ck_rg (s 490 (30 + v))]) rfl ⟨⟨by omega, by omega⟩, (ck_rgo (by omega) (by omega)), trivial⟩ ?_
      refine ck_go_ite (fun h2 => ?_) (fun h2 => ?_)
      · refine ck_go_run 20 (X1 := (93, [some (.inr (480, 3, 6)), some (.inl a), some (.inl m), some (.inl v)], [.inl ((-1)), .inl (s 490 ((42 + (4 * m)) + v)), .inl ((42 + (4 * m)) + v), .inr (490, 0, 82)], s)) (ps := [0 ≤ (42 + (4 * m)) + v ∧ (42 + (4 * m)) + v < ((82 : Nat) : Int)]) rfl ⟨⟨by omega, by omega⟩, trivial⟩ ?_
        refine ck_go_cal (rest := [.inl ((42 + (4 * m)) + v), .inr (490, 0, 82)]) (ck_cal_le (by decide) (cx_lw (A := ck_H f m v) (B := -1) e3 rfl (by omega) (by omega) _)) ⟨_, rfl, Or.inr ⟨_, rfl⟩, rfl, rfl, rfl, Nat.le_of_ble_eq_true rfl, fun h => absurd h (by decide)⟩ ?_
        rintro _ s' ⟨rfl, e'⟩
        rw [e']
        clear e' s'
        refine ck_go_run 3 (X1 := (29, [some (.inr (480, 3, 6)), some (.inl a), some (.inl m), some (.inl (v + 1))], [], ck_up s 490 ((42 + (4 * m)) + v) (ck_lw (ck_H f m v) (-1)))) (ps := [0 ≤ (42 + (4 * m)) + v ∧ (42 + (4 * m)) + v < ((82 : Nat) : Int)]) rfl ⟨⟨by omega, by omega⟩, trivial⟩ ?_
        exact kk _ ⟨by omega, by omega, ck_st1 (base := 42 + 4 * m) (g := fun q => (if ck_V f q = ck_V f a ∧ 0 < ck_V f q then ck_lw (ck_H f m q) (-1) else ck_H f m q)) hI1 hI2 (by rw [if_pos (by omega)]) h0⟩
      · refine ck_go_run 2 (X1 := (29, [some (.inr (480, 3, 6)), some (.inl a), some (.inl m), some (.inl (v + 1))], [], s)) (ps := []) rfl trivial ?_
        exact kk _ ⟨by omega, by omega, ck_st1n (base := 42 + 4 * m) (g := fun q => (if ck_V f q = ck_V f a ∧ 0 < ck_V f q then ck_lw (ck_H f m q) (-1) else ck_H f m q)) hI1 hI2 (by rw [if_neg (by omega), ← e3, hI1 _ _ (by omega)]) h0⟩
    · refine ck_go_run 2 (X1 := (29, [some (.inr (480, 3, 6)), some (.inl a), some (.inl m), some (.inl (v + 1))], [], s)) (ps := []) rfl trivial ?_
      exact kk _ ⟨by omega, by omega, ck_st1n (base := 42 + 4 * m) (g := fun q => (if ck_V f q = ck_V f a ∧ 0 < ck_V f q then ck_lw (ck_H f m q) (-1) else ck_H f m q)) hI1 hI2 (by rw [if_neg (by omega), ← e3, hI1 _ _ (by omega)]) h0⟩
  · obtain ⟨h0, h4, hI1, hI2⟩ := hI
    refine ck_go_run 3 (X1 := (if v < 4 then 34 else 103, [some (.inr (480, 3, 6)), some (.inl a), some (.inl m), some (.inl v)], [], s)) (ps := [ck_rg v, ck_rg 4]) rfl ⟨(ck_rgo (by omega) (by omega)), (ck_rgo (by omega) (by omega)), trivial⟩ ?_
    refine ck_go_f (by omega) ?_
    refine ck_eV ⟨rfl, ?_, ?_⟩ rfl rfl rfl
    · intro b j hb
      rw [hI1 b j (by omega)]
      simp only [ck_up]
      rw [if_neg (by omega), g1 b j hb]
    · unfold ck_qUse
      refine ck_P_ext (fun n a0 a1 => ?_) (fun n a0 a1 => ?_) (fun n a0 a1 => ?_) (fun q b0 b1 => ?_) (fun q b0 b1 => ?_) (fun q b0 b1 => ?_) (fun n q a0 a1 b0 b1 => ?_)
      · rw [hI1 490 (0 + n) (by omega)]
        simp only [ck_up, true_and]
        rw [ck_y_K r1 a0 a1]
        simp only [ck_qMark, ck_P_K a0 a1]
        try ((repeat' split) <;> first | rfl | omega)
      · rw [hI1 490 (10 + n) (by omega)]
        simp only [ck_up, true_and]
        rw [ck_y_I r1 a0 a1]
        simp only [ck_qMark, ck_P_I a0 a1]
        try ((repeat' split) <;> first | rfl | omega)
      · rw [hI1 490 (20 + n) (by omega)]
        simp only [ck_up, true_and]
        by_cases hn : n = m
        · rw [if_pos (by omega), if_pos hn]
        · rw [if_neg (by omega), if_neg hn, ck_y_L r1 a0 a1]
          simp only [ck_qMark, ck_P_L a0 a1]
      · rw [hI1 490 (30 + q) (by omega)]
        simp only [ck_up, true_and]
        rw [ck_y_V r1 b0 b1]
        simp only [ck_qMark, ck_P_V b0 b1]
        try ((repeat' split) <;> first | rfl | omega)
      · rw [hI1 490 (34 + q) (by omega)]
        simp only [ck_up, true_and]
        rw [ck_y_T r1 b0 b1]
        simp only [ck_qMark, ck_P_T b0 b1]
        try ((repeat' split) <;> first | rfl | omega)
      · rw [hI1 490 (38 + q) (by omega)]
        simp only [ck_up, true_and]
        rw [ck_y_G r1 b0 b1]
        simp only [ck_qMark, ck_P_G b0 b1]
        try ((repeat' split) <;> first | rfl | omega)
      · by_cases hn : n = m
        · subst hn
          rw [if_pos rfl, hI2 q b0 (by omega)]
        · rw [if_neg hn, hI1 490 (42 + 4 * n + q) (by omega)]
          simp only [ck_up, true_and]
          rw [if_neg (by omega), ck_y_H r1 a0 a1 b0 b1]
          simp only [ck_qMark, ck_P_H a0 a1 b0 b1]
def ck_qSet (x k : Int) (f : ck_Q) : ck_Q := ck_P (fun n => if n = x then 1 else ck_K f n) (fun n => if n = x then k else ck_I f n) (fun n => if n = x then ck_ml k else ck_L f n) (ck_V f) (ck_T f) (ck_G f) (fun n q => if n = x then ck_ag (ck_V f q) (ck_G f q) k else ck_H f n q)
theorem cx_set {x k : Int} (hx : 0 ≤ x ∧ x < 10) (hk : -1000000 ≤ k ∧ k ≤ 1000000) {σ : ck_M} {f : ck_Q} (hf : ck_mv (σ 490) = f) (hB : ck_qb f) : ck_cal 3 cm_Mo_set [.inr (480, 3, 6), .inl x, .inl k] σ (fun q σ' => q = none ∧ ck_f1 σ σ' 490 ∧ ck_mv (σ' 490) = ck_qSet x k f) := by
  refine ck_cal_of ?_
  refine ck_go_run 20 (X1 := (28, [some (.inr (480, 3, 6)), some (.inl x), some (.inl k), none], [.inl k, .inl (20 + x), .inr (490, 0, 82)], ck_up (ck_up σ 490 (0 + x) 1) 490 (10 + x) k)) (ps := [0 ≤ 0 + x ∧ 0 + x < ((82 : Nat) : Int), 0 ≤ 10 + x ∧ 10 + x < ((82 : Nat) : Int)]) rfl ⟨⟨by omega, by omega⟩, ⟨by omega, by omega⟩, trivial⟩ ?_
  refine ck_go_cal (rest := [.inl (20 + x), .inr (490, 0, 82)]) (ck_cal_le (by decide) (cx_leastOf (v := k) (by omega) _)) ⟨_, rfl, Or.inr ⟨_, rfl⟩, rfl, rfl, rfl, Nat.le_of_ble_eq_true rfl, fun h => absurd h (by decide)⟩ ?_
  rintro _ s' ⟨rfl, e'⟩
  rw [e']
  clear e' s'
  refine ck_go_run 3 (X1 := (34, [some (.inr (480, 3, 6)), some (.inl x), some (.inl k), some (.inl 0)], [], ck_up (ck_up (ck_up σ 490 (0 + x) 1) 490 (10 + x) k) 490 (20 + x) (ck_ml k))) (ps := [0 ≤ 20 + x ∧ 20 + x < ((82 : Nat) : Int)]) rfl ⟨⟨by omega, by omega⟩, trivial⟩ ?_
  refine ck_for 34 (fun v => [some (.inr (480, 3, 6)), some (.inl x), some (.inl k), some (.inl v)]) 4 (fun v s => 0 ≤ v ∧ v ≤ 4 ∧ (∀ b j, (b ≠ 490 ∨ j < 42 + 4 * x ∨ 42 + 4 * x + v ≤ j) → s b j = (ck_up (ck_up (ck_up σ 490 (0 + x) 1) 490 (10 + x) k) 490 (20 + x) (ck_ml k)) b j) ∧ ∀ q, 0 ≤ q → q < v → s 490 (42 + 4 * x + q) = ck_ag (ck_V f q) (ck_G f q) k) (fun v s hv hI kk => ?_) (fun v s hv hI => ?_) 0 _ ⟨by omega, by omega, fun _ _ _ => rfl, fun _ _ _ => by omega⟩
  · obtain ⟨h0, h4, hI1, hI2⟩ := hI
    have e4 : s 490 (30 + v) = ck_V f v := by
      rw [hI1 _ _ (by omega)]
      simp only [ck_up, true_and]
      rw [← ck_y_V hf h0 hv]
      (repeat' split) <;> first | rfl | omega
    have e5 : s 490 (38 + v) = ck_G f v := by
      rw [hI1 _ _ (by omega)]
      simp only [ck_up, true_and]
      rw [← ck_y_G hf h0 hv]
      (repeat' split) <;> first | rfl | omega
    have b4 := hB.2.2.2.1 v
    have b5 := hB.2.2.2.2.2.1 v
    refine ck_go_run 3 (X1 := (if v < 4 then 39 else 64, [some (.inr (480, 3, 6)), some (.inl x), some (.inl k), some (.inl v)], [], s)) (ps := [ck_rg v, ck_rg 4]) rfl ⟨(ck_rgo (by omega) (by omega)), (ck_rgo (by omega) (by omega)), trivial⟩ ?_
    refine ck_go_t hv ?_
    refine ck_go_run 12 (X1 := (54, [some (.inr (480, 3, 6)), some (.inl x), some (.inl k), some (.inl v)], [.inl v, .inl k, .inr (480, 3, 6), .inl ((42 + (4 * x)) + v), .inr (490, 0, 82)], s)) (ps := []) rfl trivial ?_
    refine ck_go_cal (rest := [.inl ((42 + (4 * x)) + v), .inr (490, 0, 82)]) (ck_cal_le (by decide) (cx_ag (k := k) (r := v) (by omega) (by omega) e4 e5 b4 b5)) ⟨_, rfl, Or.inl ⟨_, rfl⟩, rfl, rfl, rfl, Nat.le_of_ble_eq_true rfl, fun _ => ⟨_, _, rfl⟩⟩ ?_
    rintro _ s' ⟨rfl, e'⟩
    rw [e']
    clear e' s'
    refine ck_go_run 3 (X1 := (34, [some (.inr (480, 3, 6)), some (.inl x), some (.inl k), some (.inl (v + 1))], [], ck_up s 490 ((42 + (4 * x)) + v) (ck_ag (ck_V f v) (ck_G f v) k))) (ps := [0 ≤ (42 + (4 * x)) + v ∧ (42 + (4 * x)) + v < ((82 : Nat) : Int)]) rfl ⟨⟨by omega, by omega⟩, trivial⟩ ?_
    exact kk _ ⟨by omega, by omega, ck_st1 (base := 42 + 4 * x) (g := fun q => ck_ag (ck_V f q) (ck_G f q) k) hI1 hI2 rfl h0⟩
  · obtain ⟨h0, h4, hI1, hI2⟩ := hI
    refine ck_go_run 3 (X1 := (if v < 4 then 39 else 64, [some (.inr (480, 3, 6)), some (.inl x), some (.inl k), some (.inl v)], [], s)) (ps := [ck_rg v, ck_rg 4]) rfl ⟨(ck_rgo (by omega) (by omega)), (ck_rgo (by omega) (by omega)), trivial⟩ ?_
    refine ck_go_f (by omega) ?_
    refine ck_eV ⟨rfl, ?_, ?_⟩ rfl rfl rfl
    · intro b j hb
      rw [hI1 b j (by omega)]
      simp only [ck_up]
      (repeat' split) <;> first | rfl | omega
    · unfold ck_qSet
      refine ck_P_ext (fun n a0 a1 => ?_) (fun n a0 a1 => ?_) (fun n a0 a1 => ?_) (fun q b0 b1 => ?_) (fun q b0 b1 => ?_) (fun q b0 b1 => ?_) (fun n q a0 a1 b0 b1 => ?_)
      · rw [← ck_y_K hf a0 a1, hI1 490 (0 + n) (by omega)]
        simp only [ck_up, true_and]
        (repeat' split) <;> first | rfl | omega
      · rw [← ck_y_I hf a0 a1, hI1 490 (10 + n) (by omega)]
        simp only [ck_up, true_and]
        (repeat' split) <;> first | rfl | omega
      · rw [← ck_y_L hf a0 a1, hI1 490 (20 + n) (by omega)]
        simp only [ck_up, true_and]
        (repeat' split) <;> first | rfl | omega
      · rw [← ck_y_V hf b0 b1, hI1 490 (30 + q) (by omega)]
        simp only [ck_up, true_and]
        (repeat' split) <;> first | rfl | omega
      · rw [← ck_y_T hf b0 b1, hI1 490 (34 + q) (by omega)]
        simp only [ck_up, true_and]
        (repeat' split) <;> first | rfl | omega
      · rw [← ck_y_G hf b0 b1, hI1 490 (38 + q) (by omega)]
        simp only [ck_up, true_and]
        (repeat' split) <;> first | rfl | omega
      · by_cases hn : n = x
        · subst hn
          rw [if_pos rfl, hI2 q b0 (by omega)]
        · rw [if_neg hn, ← ck_y_H hf a0 a1 b0 b1, hI1 490 (42 + 4 * n + q) (by omega)]
          simp only [ck_up]
          (repeat' split) <;> first | rfl | omega
def ck_qSum (x y z : Int) (f : ck_Q) : ck_Q := ck_P (fun n => if n = x then ck_K f y else ck_K f n) (fun n => if n = x then ck_I f y + z else ck_I f n) (fun n => if n = x then ck_mlm (ck_L f y) z else ck_L f n) (ck_V f) (ck_T f) (ck_G f) (fun n q => if n = x then ck_mhm (ck_H f y q) z else ck_H f n q)
theorem cx_add {x y z : Int} (hx : 0 ≤ x ∧ x < 10) (hy : 0 ≤ y ∧ y < 10) (hz : -1000 ≤ z ∧ z ≤ 1000) {σ : ck_M} {f : ck_Q} (hf : ck_mv (σ 490) = f) (hB : ck_qb f) : ck_cal 3 cm_Mo_add [.inr (480, 3, 6), .inl x, .inl y, .inl z] σ (fun q σ' => q = none ∧ ck_f1 σ σ' 490 ∧ ck_mv (σ' 490) = ck_qSum x y z f) := by
  refine ck_cal_of ?_
  have bl := hB.2.2.1 y
  refine ck_go_run 38 (X1 := (54, [some (.inr (480, 3, 6)), some (.inl x), some (.inl y), some (.inl z), none], [.inl z, .inl ((ck_up (ck_up σ 490 (0 + x) (σ 490 (0 + y))) 490 (10 + x) (((ck_up σ 490 (0 + x) (σ 490 (0 + y))) 490 (10 + y)) + z)) 490 (20 + y)), .inl (20 + x), .inr (490, 0, 82)], ck_up (ck_up σ 490 (0 + x) (σ 490 (0 + y))) 490 (10 + x) (((ck_up σ 490 (0 + x) (σ 490 (0 + y))) 490 (10 + y)) + z))) (ps := [0 ≤ 0 + y ∧ 0 + y < ((82 : Nat) : Int), 0 ≤ 0 + x ∧ 0 + x < ((82 : Nat) : Int), 0 ≤ 10 + y ∧ 10 + y < ((82 : Nat) : Int), 0 ≤ 10 + x ∧ 10 + x < ((82 : Nat) : Int), 0 ≤ 20 + y ∧ 20 + y < ((82 : Nat) : Int)]) rfl ⟨⟨by omega, by omega⟩, ⟨by omega, by omega⟩, ⟨by omega, by omega⟩, ⟨by omega, by omega⟩, ⟨by omega, by omega⟩, trivial⟩ ?_
  refine ck_go_cal (rest := [.inl (20 + x), .inr (490, 0, 82)]) (ck_cal_le (by decide) (cx_lm (V := ck_L f y) (B := z) (by
      rw [← ck_y_L hf hy.1 hy.2]
      simp only [ck_up, true_and]
      (repeat' split) <;> first | rfl | omega) rfl (by omega) (by omega) _)) ⟨_, rfl, Or.inr ⟨_, rfl⟩, rfl, rfl, rfl, Nat.le_of_ble_eq_true rfl, fun h => absurd h (by decide)⟩ ?_
  rintro _ s' ⟨rfl, e'⟩
  rw [e']
  clear e' s'
  refine ck_go_run 3 (X1 := (61, [some (.inr (480, 3, 6)), some (.inl x), some (.inl y), some (.inl z), some (.inl 0)], [], ck_up (ck_up (ck_up σ 490 (0 + x) (σ 490 (0 + y))) 490 (10 + x) (((ck_up σ 490 (0 + x) (σ 490 (0 + y))) 490 (10 + y)) + z)) 490 (20 + x) (ck_mlm (ck_L f y) z))) (ps := [0 ≤ 20 + x ∧ 20 + x < ((82 : Nat) : Int)]) rfl ⟨⟨by omega, by omega⟩, trivial⟩ ?_
  refine ck_for 61 (fun v => [some (.inr (480, 3, 6)), some (.inl x), some (.inl y), some (.inl z), some (.inl v)]) 4 (fun v s => 0 ≤ v ∧ v ≤ 4 ∧ (∀ b j, (b ≠ 490 ∨ j < 42 + 4 * x ∨ 42 + 4 * x + v ≤ j) → s b j = (ck_up (ck_up (ck_up σ 490 (0 + x) (σ 490 (0 + y))) 490 (10 + x) (((ck_up σ 490 (0 + x) (σ 490 (0 + y))) 490 (10 + y)) + z)) 490 (20 + x) (ck_mlm (ck_L f y) z)) b j) ∧ ∀ q, 0 ≤ q → q < v → s 490 (42 + 4 * x + q) = ck_mhm (ck_H f y q) z) (fun v s hv hI kk => ?_) (fun v s hv hI => ?_) 0 _ ⟨by omega, by omega, fun _ _ _ => rfl, fun _ _ _ => by omega⟩
  · obtain ⟨h0, h4, hI1, hI2⟩ := hI
    have e3 : s 490 (42 + 4 * y + v) = ck_H f y v := by
      rw [hI1 _ _ (by omega)]
      simp only [ck_up, true_and]
      rw [← ck_y_H hf hy.1 hy.2 h0 hv]
      (repeat' split) <;> first | rfl | omega
    have b3 := hB.2.2.2.2.2.2 y v
    refine ck_go_run 3 (X1 := (if v < 4 then 67 else 105, [some (.inr (480, 3, 6)), some (.inl x), some (.inl y), some (.inl z), some (.inl v)], [], s)) (ps := [ck_rg v, ck_rg 4]) rfl ⟨(ck_rgo (by omega) (by omega)), (ck_rgo (by omega) (by omega)), trivial⟩ ?_
    refine ck_go_t hv ?_
    refine ck_go_run 20 (X1 := (95, [some (.inr (480, 3, 6)), some (.inl x), some (.inl y), some (.inl z), some (.inl v)], [.inl z, .inl (s 490 ((42 + (4 * y)) + v)), .inl ((42 + (4 * x)) + v), .inr (490, 0, 82)], s)) (ps := [0 ≤ (42 + (4 * y)) + v ∧ (42 + (4 * y)) + v < ((82 : Nat) : Int)]) rfl ⟨⟨by omega, by omega⟩, trivial⟩ ?_
    refine ck_go_cal (rest := [.inl ((42 + (4 * x)) + v), .inr (490, 0, 82)]) (ck_cal_le (by decide) (cx_hm (V := ck_H f y v) (B := z) e3 rfl (by omega) (by omega) _)) ⟨_, rfl, Or.inr ⟨_, rfl⟩, rfl, rfl, rfl, Nat.le_of_ble_eq_true rfl, fun h => absurd h (by decide)⟩ ?_
    rintro _ s' ⟨rfl, e'⟩
    rw [e']
    clear e' s'
    refine ck_go_run 3 (X1 := (61, [some (.inr (480, 3, 6)), some (.inl x), some (.inl y), some (.inl z), some (.inl (v + 1))], [], ck_up s 490 ((42 + (4 * x)) + v) (ck_mhm (ck_H f y v) z))) (ps := [0 ≤ (42 + (4 * x)) + v ∧ (42 + (4 * x)) + v < ((82 : Nat) : Int)]) rfl ⟨⟨by omega, by omega⟩, trivial⟩ ?_
    exact kk _ ⟨by omega, by omega, ck_st1 (base := 42 + 4 * x) (g := fun q => ck_mhm (ck_H f y q) z) hI1 hI2 rfl h0⟩
  · obtain ⟨h0, h4, hI1, hI2⟩ := hI
    refine ck_go_run 3 (X1 := (if v < 4 then 67 else 105, [some (.inr (480, 3, 6)), some (.inl x), some (.inl y), some (.inl z), some (.inl v)], [], s)) (ps := [ck_rg v, ck_rg 4]) rfl ⟨(ck_rgo (by omega) (by omega)), (ck_rgo (by omega) (by omega)), trivial⟩ ?_
    refine ck_go_f (by omega) ?_
    refine ck_eV ⟨rfl, ?_, ?_⟩ rfl rfl rfl
    · intro b j hb
      rw [hI1 b j (by omega)]
      simp only [ck_up]
      (repeat' split) <;> first | rfl | omega
    · unfold ck_qSum
      refine ck_P_ext (fun n a0 a1 => ?_) (fun n a0 a1 => ?_) (fun n a0 a1 => ?_) (fun q b0 b1 => ?_) (fun q b0 b1 => ?_) (fun q b0 b1 => ?_) (fun n q a0 a1 b0 b1 => ?_)
      · rw [← ck_y_K hf hy.1 hy.2, ← ck_y_K hf a0 a1, hI1 490 (0 + n) (by omega)]
        simp only [ck_up, true_and]
        (repeat' split) <;> first | rfl | omega
      · rw [← ck_y_I hf hy.1 hy.2, ← ck_y_I hf a0 a1, hI1 490 (10 + n) (by omega)]
        simp only [ck_up, true_and]
        (repeat' split) <;> first | rfl | omega
      · rw [← ck_y_L hf a0 a1, hI1 490 (20 + n) (by omega)]
        simp only [ck_up, true_and]
        (repeat' split) <;> first | rfl | omega
      · rw [← ck_y_V hf b0 b1, hI1 490 (30 + q) (by omega)]
        simp only [ck_up, true_and]
        (repeat' split) <;> first | rfl | omega
      · rw [← ck_y_T hf b0 b1, hI1 490 (34 + q) (by omega)]
        simp only [ck_up, true_and]
        (repeat' split) <;> first | rfl | omega
      · rw [← ck_y_G hf b0 b1, hI1 490 (38 + q) (by omega)]
        simp only [ck_up, true_and]
        (repeat' split) <;> first | rfl | omega
      · by_cases hn : n = x
        · subst hn
          rw [if_pos rfl, hI2 q b0 (by omega)]
        · rw [if_neg hn, ← ck_y_H hf a0 a1 b0 b1, hI1 490 (42 + 4 * n + q) (by omega)]
          simp only [ck_up]
          (repeat' split) <;> first | rfl | omega
