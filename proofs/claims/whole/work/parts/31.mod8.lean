def ck_qBel (x y z : Int) (f : ck_Q) : ck_Q := ck_P (ck_K f) (ck_I f) (fun n => if n = y then ck_gr (ck_L f y) (ck_mlm (ck_L f x) (1 - z)) else ck_L f n) (ck_V f) (ck_T f) (ck_G f) (fun n q => if n = x then ck_lw (ck_H f x q) (ck_mhm (if y = 10 then ck_ag (ck_V f q) (ck_G f q) 0 else ck_H f y q) (z - 1)) else ck_H f n q)
def ck_qNot (x y z : Int) (f : ck_Q) : ck_Q := ck_P (ck_K f) (ck_I f) (fun n => if n = x then ck_gr (ck_L f x) (ck_mlm (if y = 10 then 0 else ck_L f y) z) else ck_L f n) (ck_V f) (ck_T f) (ck_G f) (fun n q => if n = y then ck_lw (ck_H f y q) (ck_mhm (ck_H f x q) (-z)) else ck_H f n q)
theorem ck_agb {A B v : Int} (hv : -1000000000 ≤ v ∧ v ≤ 1000000000) (hB : -1000000000 ≤ B ∧ B ≤ 1000000000) : -2000000000 ≤ ck_ag A B v ∧ ck_ag A B v ≤ 1000000000 := by
  unfold ck_ag ck_mh
  (repeat' split) <;> omega
theorem ck_agb0 {A B : Int} (hB : -1000000000 ≤ B ∧ B ≤ 1000000000) : -1000000000 ≤ ck_ag A B 0 ∧ ck_ag A B 0 ≤ 1000000000 := by
  unfold ck_ag ck_mh
  (repeat' split) <;> omega
theorem ck_mlmb {v b : Int} (hv : -1000000000 ≤ v ∧ v ≤ 1000000000) (hb : -1000 ≤ b ∧ b ≤ 1000) : -2000000000 ≤ ck_mlm v b ∧ ck_mlm v b ≤ 2000000000 := by
  unfold ck_mlm ck_ml
  (repeat' split) <;> omega
theorem ck_mhmb {v b : Int} (hv : -1000000000 ≤ v ∧ v ≤ 1000000000) (hb : -1000 ≤ b ∧ b ≤ 1000) : -2000000000 ≤ ck_mhm v b ∧ ck_mhm v b ≤ 2000000000 := by
  unfold ck_mhm ck_mh
  (repeat' split) <;> omega
set_option maxHeartbeats 20000000 in
set_option maxRecDepth 4000 in
theorem cx_branch1 {k x y z : Int} (hk : 0 ≤ k ∧ k < 64) (hx : 0 ≤ x ∧ x < 10) (hy : 0 ≤ y ∧ y ≤ 10) (hz : -100 ≤ z ∧ z ≤ 100) {σ : ck_M} (hX : σ 482 k = x) (hY : σ 483 k = y) (hZ : σ 484 k = z) {f : ck_Q} (hf : ck_mv (σ 490) = f) (hB : ck_qb f) : ck_cal 3 cm_Mo_branch [.inr (480, 3, 6), .inl k, .inl 1] σ (fun q σ' => q = none ∧ ck_f1 σ σ' 490 ∧ ck_mv (σ' 490) = ck_qBel x y z f) := by
  refine ck_cal_of ?_
  have bl := hB.2.2.1 x
  have bly := hB.2.2.1 y
  refine ck_go_run 15 (X1 := (23, [some (.inr (480, 3, 6)), some (.inl k), some (.inl 1), some (.inl (σ 482 k)), some (.inl (σ 483 k)), some (.inl (σ 484 k)), none, none, none, none, none], [], σ)) (ps := [0 ≤ k ∧ k < ((64 : Nat) : Int), 0 ≤ k ∧ k < ((64 : Nat) : Int), 0 ≤ k ∧ k < ((64 : Nat) : Int)]) rfl ⟨⟨by omega, by omega⟩, ⟨by omega, by omega⟩, ⟨by omega, by omega⟩, trivial⟩ ?_
  rw [hX, hY, hZ]
  refine ck_go_run 10 (X1 := (if y = 10 then 41 else 45, [some (.inr (480, 3, 6)), some (.inl k), some (.inl 1), some (.inl x), some (.inl y), some (.inl z), some (.inl (σ 490 (20 + x))), none, none, none, none], [], σ)) (ps := [0 ≤ 20 + x ∧ 20 + x < ((82 : Nat) : Int), ck_rg y, ck_rg 10]) rfl ⟨⟨by omega, by omega⟩, (ck_rgo (by omega) (by omega)), (ck_rgo (by omega) (by omega)), trivial⟩ ?_
  refine ck_go_ite (fun h1 => ?_) (fun h1 => ?_)
  · refine ck_go_run 5 (X1 := (if 1 = 0 then 92 else 61, [some (.inr (480, 3, 6)), some (.inl k), some (.inl 1), some (.inl x), some (.inl y), some (.inl z), some (.inl (σ 490 (20 + x))), some (.inl 0), none, none, none], [], σ)) (ps := [ck_rg 1]) rfl ⟨(ck_rgo (by omega) (by omega)), trivial⟩ ?_
    refine ck_go_f (by decide) ?_
    refine ck_go_run 3 (X1 := (if y < 10 then 68 else 92, [some (.inr (480, 3, 6)), some (.inl k), some (.inl 1), some (.inl x), some (.inl y), some (.inl z), some (.inl (σ 490 (20 + x))), some (.inl 0), none, none, none], [], σ)) (ps := [ck_rg y, ck_rg 10]) rfl ⟨(ck_rgo (by omega) (by omega)), (ck_rgo (by omega) (by omega)), trivial⟩ ?_
    refine ck_go_f (by omega) ?_
    refine ck_go_run 2 (X1 := (if 1 = 0 then 96 else 117, [some (.inr (480, 3, 6)), some (.inl k), some (.inl 1), some (.inl x), some (.inl y), some (.inl z), some (.inl (σ 490 (20 + x))), some (.inl 0), none, none, none], [], σ)) (ps := [ck_rg 1]) rfl ⟨(ck_rgo (by omega) (by omega)), trivial⟩ ?_
    refine ck_go_f (by decide) ?_
    refine ck_go_run 2 (X1 := (120, [some (.inr (480, 3, 6)), some (.inl k), some (.inl 1), some (.inl x), some (.inl y), some (.inl z), some (.inl (σ 490 (20 + x))), some (.inl 0), some (.inl 0), none, none], [], σ)) (ps := []) rfl trivial ?_
    refine ck_forU 120 (fun v u => [some (.inr (480, 3, 6)), some (.inl k), some (.inl 1), some (.inl x), some (.inl y), some (.inl z), some (.inl (σ 490 (20 + x))), some (.inl 0), some (.inl v), u.1, u.2.1]) 4 (fun v s => 0 ≤ v ∧ v ≤ 4 ∧ (∀ b j, (b ≠ 490 ∨ (j < 42 + 4 * x ∨ 42 + 4 * x + v ≤ j)) → s b j = (σ) b j) ∧ ∀ q, 0 ≤ q → q < v → s 490 (42 + 4 * x + q) = ck_lw (ck_H f x q) (ck_mhm (if y = 10 then ck_ag (ck_V f q) (ck_G f q) 0 else ck_H f y q) (z - 1))) (fun v u s hv hI kk => ?_) (fun v u s hv hI => ?_) 0 (none, none, none) _ ⟨by omega, by omega, fun _ _ _ => rfl, fun _ _ _ => by omega⟩
    · obtain ⟨h0, h4, hI1, hI2⟩ := hI
      have e1 : s 490 (42 + 4 * x + v) = ck_H f x v := by
        rw [hI1 _ _ (by omega), ← ck_y_H hf hx.1 hx.2 h0 hv]
        try (simp only [ck_up, true_and]
             (repeat' split) <;> first | rfl | omega)
      have e4 : s 490 (30 + v) = ck_V f v := by
        rw [hI1 _ _ (by omega), ← ck_y_V hf h0 hv]
        try (simp only [ck_up, true_and]
             (repeat' split) <;> first | rfl | omega)
      have e5 : s 490 (38 + v) = ck_G f v := by
        rw [hI1 _ _ (by omega), ← ck_y_G hf h0 hv]
        try (simp only [ck_up, true_and]
             (repeat' split) <;> first | rfl | omega)
      have b1 := hB.2.2.2.2.2.2 x v
      have b1y := hB.2.2.2.2.2.2 y v
      have b4 := hB.2.2.2.1 v
      have b5 := hB.2.2.2.2.2.1 v
      have bg := ck_agb0 (A := ck_V f v) b5
      refine ck_go_run 3 (X1 := (if v < 4 then 126 else 252, [some (.inr (480, 3, 6)), some (.inl k), some (.inl 1), some (.inl x), some (.inl y), some (.inl z), some (.inl (σ 490 (20 + x))), some (.inl 0), some (.inl v), u.1, u.2.1], [], s)) (ps := [ck_rg v, ck_rg 4]) rfl ⟨(ck_rgo (by omega) (by omega)), (ck_rgo (by omega) (by omega)), trivial⟩ ?_
      refine ck_go_t hv ?_
      refine ck_go_run 14 (X1 := (if y = 10 then 149 else 159, [some (.inr (480, 3, 6)), some (.inl k), some (.inl 1), some (.inl x), some (.inl y), some (.inl z), some (.inl (σ 490 (20 + x))), some (.inl 0), some (.inl v), some (.inl (s 490 ((42 + (4 * x)) + v))), u.2.1], [], s)) (ps := [0 ≤ (42 + (4 * x)) + v ∧ (42 + (4 * x)) + v < ((82 : Nat) : Int), ck_rg y, ck_rg 10]) rfl ⟨⟨by omega, by omega⟩, (ck_rgo (by omega) (by omega)), (ck_rgo (by omega) (by omega)), trivial⟩ ?_
      refine ck_go_t h1 ?_
      refine ck_go_run 3 (X1 := (153, [some (.inr (480, 3, 6)), some (.inl k), some (.inl 1), some (.inl x), some (.inl y), some (.inl z), some (.inl (σ 490 (20 + x))), some (.inl 0), some (.inl v), some (.inl (s 490 ((42 + (4 * x)) + v))), u.2.1], [.inl v, .inl 0, .inr (480, 3, 6)], s)) (ps := []) rfl trivial ?_
      refine ck_go_cal (rest := []) (ck_cal_le (by decide) (cx_ag (k := 0) (r := v) (by omega) (by omega) e4 e5 b4 b5)) ⟨_, rfl, Or.inl ⟨_, rfl⟩, rfl, rfl, rfl, Nat.le_of_ble_eq_true rfl, fun _ => ⟨_, _, rfl⟩⟩ ?_
      rintro _ s' ⟨rfl, e'⟩
      rw [e']
      clear e' s'
      refine ck_go_run 4 (X1 := (if 1 = 0 then 211 else 180, [some (.inr (480, 3, 6)), some (.inl k), some (.inl 1), some (.inl x), some (.inl y), some (.inl z), some (.inl (σ 490 (20 + x))), some (.inl 0), some (.inl v), some (.inl (s 490 ((42 + (4 * x)) + v))), some (.inl (ck_ag (ck_V f v) (ck_G f v) 0))], [], s)) (ps := [ck_rg 1]) rfl ⟨(ck_rgo (by omega) (by omega)), trivial⟩ ?_
      refine ck_go_f (by decide) ?_
      refine ck_go_run 14 (X1 := (201, [some (.inr (480, 3, 6)), some (.inl k), some (.inl 1), some (.inl x), some (.inl y), some (.inl z), some (.inl (σ 490 (20 + x))), some (.inl 0), some (.inl v), some (.inl (s 490 ((42 + (4 * x)) + v))), some (.inl (ck_ag (ck_V f v) (ck_G f v) 0))], [.inl (z - 1), .inl (ck_ag (ck_V f v) (ck_G f v) 0), .inl (s 490 ((42 + (4 * x)) + v)), .inl ((42 + (4 * x)) + v), .inr (490, 0, 82)], s)) (ps := []) rfl trivial ?_
      refine ck_go_cal (rest := [.inl (s 490 ((42 + (4 * x)) + v)), .inl ((42 + (4 * x)) + v), .inr (490, 0, 82)]) (ck_cal_le (by decide) (cx_hm (V := ck_ag (ck_V f v) (ck_G f v) 0) (B := z - 1) rfl rfl bg (by omega) _)) ⟨_, rfl, Or.inr ⟨_, rfl⟩, rfl, rfl, rfl, Nat.le_of_ble_eq_true rfl, fun h => absurd h (by decide)⟩ ?_
      rintro _ s' ⟨rfl, e'⟩
      rw [e']
      clear e' s'
      refine ck_go_cal (rest := [.inl ((42 + (4 * x)) + v), .inr (490, 0, 82)]) (ck_cal_le (by decide) (cx_lw (A := ck_H f x v) (B := ck_mhm (ck_ag (ck_V f v) (ck_G f v) 0) (z - 1)) e1 rfl (by omega) (ck_mhmb bg (by omega)) _)) ⟨_, rfl, Or.inr ⟨_, rfl⟩, rfl, rfl, rfl, Nat.le_of_ble_eq_true rfl, fun h => absurd h (by decide)⟩ ?_
      rintro _ s' ⟨rfl, e'⟩
      rw [e']
      clear e' s'
      refine ck_go_run 4 (X1 := (120, [some (.inr (480, 3, 6)), some (.inl k), some (.inl 1), some (.inl x), some (.inl y), some (.inl z), some (.inl (σ 490 (20 + x))), some (.inl 0), some (.inl (v + 1)), some (.inl (s 490 ((42 + (4 * x)) + v))), some (.inl (ck_ag (ck_V f v) (ck_G f v) 0))], [], ck_up s 490 ((42 + (4 * x)) + v) (ck_lw (ck_H f x v) (ck_mhm (ck_ag (ck_V f v) (ck_G f v) 0) (z - 1))))) (ps := [0 ≤ (42 + (4 * x)) + v ∧ (42 + (4 * x)) + v < ((82 : Nat) : Int)]) rfl ⟨⟨by omega, by omega⟩, trivial⟩ ?_
      exact kk (some (.inl (s 490 ((42 + (4 * x)) + v))), some (.inl (ck_ag (ck_V f v) (ck_G f v) 0)), none) _ ⟨by omega, by omega, ck_st1 (base := 42 + 4 * x) (g := fun q => ck_lw (ck_H f x q) (ck_mhm (if y = 10 then ck_ag (ck_V f q) (ck_G f q) 0 else ck_H f y q) (z - 1))) hI1 hI2 (by rw [if_pos h1]) h0⟩
    · obtain ⟨h0, h4, hI1, hI2⟩ := hI
      refine ck_go_run 3 (X1 := (if v < 4 then 126 else 252, [some (.inr (480, 3, 6)), some (.inl k), some (.inl 1), some (.inl x), some (.inl y), some (.inl z), some (.inl (σ 490 (20 + x))), some (.inl 0), some (.inl v), u.1, u.2.1], [], s)) (ps := [ck_rg v, ck_rg 4]) rfl ⟨(ck_rgo (by omega) (by omega)), (ck_rgo (by omega) (by omega)), trivial⟩ ?_
      refine ck_go_f (by omega) ?_
      refine ck_eV ⟨rfl, ?_, ?_⟩ rfl rfl rfl
      · intro b j hb
        rw [hI1 b j (by omega)]
        try (simp only [ck_up]
             (repeat' split) <;> first | rfl | omega)
      · unfold ck_qBel
        refine ck_P_ext (fun n a0 a1 => ?_) (fun n a0 a1 => ?_) (fun n a0 a1 => ?_) (fun q b0 b1 => ?_) (fun q b0 b1 => ?_) (fun q b0 b1 => ?_) (fun n q a0 a1 b0 b1 => ?_)
        · rw [← ck_y_K hf a0 a1, hI1 490 (0 + n) (by omega)]
          try (simp only [ck_up, true_and]
               (repeat' split) <;> first | rfl | omega)
        · rw [← ck_y_I hf a0 a1, hI1 490 (10 + n) (by omega)]
          try (simp only [ck_up, true_and]
               (repeat' split) <;> first | rfl | omega)
        · rw [← ck_y_L hf a0 a1, hI1 490 (20 + n) (by omega)]
          try (simp only [ck_up, true_and])
          by_cases hn : n = y
          · subst hn
            first | rw [if_pos rfl, if_pos rfl] | omega
          · first | rw [if_neg (by omega), if_neg hn] | rw [if_neg hn]
        · rw [← ck_y_V hf b0 b1, hI1 490 (30 + q) (by omega)]
          try (simp only [ck_up, true_and]
               (repeat' split) <;> first | rfl | omega)
        · rw [← ck_y_T hf b0 b1, hI1 490 (34 + q) (by omega)]
          try (simp only [ck_up, true_and]
               (repeat' split) <;> first | rfl | omega)
        · rw [← ck_y_G hf b0 b1, hI1 490 (38 + q) (by omega)]
          try (simp only [ck_up, true_and]
               (repeat' split) <;> first | rfl | omega)
        · by_cases hn : n = x
          · subst hn
            rw [if_pos rfl, hI2 q b0 (by omega)]
          · rw [if_neg hn, ← ck_y_H hf a0 a1 b0 b1, hI1 490 (42 + 4 * n + q) (by omega)]
            try (simp only [ck_up, true_and]
                 (repeat' split) <;> first | rfl | omega)
  · refine ck_go_run 9 (X1 := (if 1 = 0 then 92 else 61, [some (.inr (480, 3, 6)), some (.inl k), some (.inl 1), some (.inl x), some (.inl y), some (.inl z), some (.inl (σ 490 (20 + x))), some (.inl (σ 490 (20 + y))), none, none, none], [], σ)) (ps := [0 ≤ 20 + y ∧ 20 + y < ((82 : Nat) : Int), ck_rg 1]) rfl ⟨⟨by omega, by omega⟩, (ck_rgo (by omega) (by omega)), trivial⟩ ?_
    refine ck_go_f (by decide) ?_
    refine ck_go_run 3 (X1 := (if y < 10 then 68 else 92, [some (.inr (480, 3, 6)), some (.inl k), some (.inl 1), some (.inl x), some (.inl y), some (.inl z), some (.inl (σ 490 (20 + x))), some (.inl (σ 490 (20 + y))), none, none, none], [], σ)) (ps := [ck_rg y, ck_rg 10]) rfl ⟨(ck_rgo (by omega) (by omega)), (ck_rgo (by omega) (by omega)), trivial⟩ ?_
    refine ck_go_t (by omega) ?_
    refine ck_go_run 10 (X1 := (85, [some (.inr (480, 3, 6)), some (.inl k), some (.inl 1), some (.inl x), some (.inl y), some (.inl z), some (.inl (σ 490 (20 + x))), some (.inl (σ 490 (20 + y))), none, none, none], [.inl (1 - z), .inl (σ 490 (20 + x)), .inl (σ 490 (20 + y)), .inl (20 + y), .inr (490, 0, 82)], σ)) (ps := []) rfl trivial ?_
    refine ck_go_cal (rest := [.inl (σ 490 (20 + y)), .inl (20 + y), .inr (490, 0, 82)]) (ck_cal_le (by decide) (cx_lm (V := ck_L f x) (B := 1 - z) (ck_y_L hf (by omega) (by omega)) rfl (by omega) (by omega) _)) ⟨_, rfl, Or.inr ⟨_, rfl⟩, rfl, rfl, rfl, Nat.le_of_ble_eq_true rfl, fun h => absurd h (by decide)⟩ ?_
    rintro _ s' ⟨rfl, e'⟩
    rw [e']
    clear e' s'
    refine ck_go_cal (rest := [.inl (20 + y), .inr (490, 0, 82)]) (ck_cal_le (by decide) (cx_gr (A := ck_L f y) (B := ck_mlm (ck_L f x) (1 - z)) (ck_y_L hf (by omega) (by omega)) rfl (by omega) (ck_mlmb (by omega) (by omega)) _)) ⟨_, rfl, Or.inr ⟨_, rfl⟩, rfl, rfl, rfl, Nat.le_of_ble_eq_true rfl, fun h => absurd h (by decide)⟩ ?_
    rintro _ s' ⟨rfl, e'⟩
    rw [e']
    clear e' s'
    refine ck_go_run 3 (X1 := (if 1 = 0 then 96 else 117, [some (.inr (480, 3, 6)), some (.inl k), some (.inl 1), some (.inl x), some (.inl y), some (.inl z), some (.inl (σ 490 (20 + x))), some (.inl (σ 490 (20 + y))), none, none, none], [], ck_up σ 490 (20 + y) (ck_gr (ck_L f y) (ck_mlm (ck_L f x) (1 - z))))) (ps := [0 ≤ 20 + y ∧ 20 + y < ((82 : Nat) : Int), ck_rg 1]) rfl ⟨⟨by omega, by omega⟩, (ck_rgo (by omega) (by omega)), trivial⟩ ?_
    refine ck_go_f (by decide) ?_
    refine ck_go_run 2 (X1 := (120, [some (.inr (480, 3, 6)), some (.inl k), some (.inl 1), some (.inl x), some (.inl y), some (.inl z), some (.inl (σ 490 (20 + x))), some (.inl (σ 490 (20 + y))), some (.inl 0), none, none], [], ck_up σ 490 (20 + y) (ck_gr (ck_L f y) (ck_mlm (ck_L f x) (1 - z))))) (ps := []) rfl trivial ?_
    refine ck_forU 120 (fun v u => [some (.inr (480, 3, 6)), some (.inl k), some (.inl 1), some (.inl x), some (.inl y), some (.inl z), some (.inl (σ 490 (20 + x))), some (.inl (σ 490 (20 + y))), some (.inl v), u.1, u.2.1]) 4 (fun v s => 0 ≤ v ∧ v ≤ 4 ∧ (∀ b j, (b ≠ 490 ∨ (j < 42 + 4 * x ∨ 42 + 4 * x + v ≤ j)) → s b j = (ck_up σ 490 (20 + y) (ck_gr (ck_L f y) (ck_mlm (ck_L f x) (1 - z)))) b j) ∧ ∀ q, 0 ≤ q → q < v → s 490 (42 + 4 * x + q) = ck_lw (ck_H f x q) (ck_mhm (if y = 10 then ck_ag (ck_V f q) (ck_G f q) 0 else ck_H f y q) (z - 1))) (fun v u s hv hI kk => ?_) (fun v u s hv hI => ?_) 0 (none, none, none) _ ⟨by omega, by omega, fun _ _ _ => rfl, fun _ _ _ => by omega⟩
    · obtain ⟨h0, h4, hI1, hI2⟩ := hI
      have e1 : s 490 (42 + 4 * x + v) = ck_H f x v := by
        rw [hI1 _ _ (by omega), ← ck_y_H hf hx.1 hx.2 h0 hv]
        try (simp only [ck_up, true_and]
             (repeat' split) <;> first | rfl | omega)
      have e4 : s 490 (30 + v) = ck_V f v := by
        rw [hI1 _ _ (by omega), ← ck_y_V hf h0 hv]
        try (simp only [ck_up, true_and]
             (repeat' split) <;> first | rfl | omega)
      have e5 : s 490 (38 + v) = ck_G f v := by
        rw [hI1 _ _ (by omega), ← ck_y_G hf h0 hv]
        try (simp only [ck_up, true_and]
             (repeat' split) <;> first | rfl | omega)
      have b1 := hB.2.2.2.2.2.2 x v
      have b1y := hB.2.2.2.2.2.2 y v
      have b4 := hB.2.2.2.1 v
      have b5 := hB.2.2.2.2.2.1 v
      have bg := ck_agb0 (A := ck_V f v) b5
      refine ck_go_run 3 (X1 := (if v < 4 then 126 else 252, [some (.inr (480, 3, 6)), some (.inl k), some (.inl 1), some (.inl x), some (.inl y), some (.inl z), some (.inl (σ 490 (20 + x))), some (.inl (σ 490 (20 + y))), some (.inl v), u.1, u.2.1], [], s)) (ps := [ck_rg v, ck_rg 4]) rfl ⟨(ck_rgo (by omega) (by omega)), (ck_rgo (by omega) (by omega)), trivial⟩ ?_
      refine ck_go_t hv ?_
      refine ck_go_run 14 (X1 := (if y = 10 then 149 else 159, [some (.inr (480, 3, 6)), some (.inl k), some (.inl 1), some (.inl x), some (.inl y), some (.inl z), some (.inl (σ 490 (20 + x))), some (.inl (σ 490 (20 + y))), some (.inl v), some (.inl (s 490 ((42 + (4 * x)) + v))), u.2.1], [], s)) (ps := [0 ≤ (42 + (4 * x)) + v ∧ (42 + (4 * x)) + v < ((82 : Nat) : Int), ck_rg y, ck_rg 10]) rfl ⟨⟨by omega, by omega⟩, (ck_rgo (by omega) (by omega)), (ck_rgo (by omega) (by omega)), trivial⟩ ?_
      refine ck_go_f h1 ?_
      refine ck_go_run 13 (X1 := (if 1 = 0 then 211 else 180, [some (.inr (480, 3, 6)), some (.inl k), some (.inl 1), some (.inl x), some (.inl y), some (.inl z), some (.inl (σ 490 (20 + x))), some (.inl (σ 490 (20 + y))), some (.inl v), some (.inl (s 490 ((42 + (4 * x)) + v))), some (.inl (s 490 ((42 + (4 * y)) + v)))], [], s)) (ps := [0 ≤ (42 + (4 * y)) + v ∧ (42 + (4 * y)) + v < ((82 : Nat) : Int), ck_rg 1]) rfl ⟨⟨by omega, by omega⟩, (ck_rgo (by omega) (by omega)), trivial⟩ ?_
      refine ck_go_f (by decide) ?_
      refine ck_go_run 14 (X1 := (201, [some (.inr (480, 3, 6)), some (.inl k), some (.inl 1), some (.inl x), some (.inl y), some (.inl z), some (.inl (σ 490 (20 + x))), some (.inl (σ 490 (20 + y))), some (.inl v), some (.inl (s 490 ((42 + (4 * x)) + v))), some (.inl (s 490 ((42 + (4 * y)) + v)))], [.inl (z - 1), .inl (s 490 ((42 + (4 * y)) + v)), .inl (s 490 ((42 + (4 * x)) + v)), .inl ((42 + (4 * x)) + v), .inr (490, 0, 82)], s)) (ps := []) rfl trivial ?_
      refine ck_go_cal (rest := [.inl (s 490 ((42 + (4 * x)) + v)), .inl ((42 + (4 * x)) + v), .inr (490, 0, 82)]) (ck_cal_le (by decide) (cx_hm (V := ck_H f y v) (B := z - 1) (by rw [← ck_y_H hf (by omega) (by omega) h0 hv, hI1 _ _ (by omega)]; try (simp only [ck_up, true_and]; (repeat' split) <;> first | rfl | omega)) rfl b1y (by omega) _)) ⟨_, rfl, Or.inr ⟨_, rfl⟩, rfl, rfl, rfl, Nat.le_of_ble_eq_true rfl, fun h => absurd h (by decide)⟩ ?_
      rintro _ s' ⟨rfl, e'⟩
      rw [e']
      clear e' s'
      refine ck_go_cal (rest := [.inl ((42 + (4 * x)) + v), .inr (490, 0, 82)]) (ck_cal_le (by decide) (cx_lw (A := ck_H f x v) (B := ck_mhm (ck_H f y v) (z - 1)) e1 rfl (by omega) (ck_mhmb b1y (by omega)) _)) ⟨_, rfl, Or.inr ⟨_, rfl⟩, rfl, rfl, rfl, Nat.le_of_ble_eq_true rfl, fun h => absurd h (by decide)⟩ ?_
      rintro _ s' ⟨rfl, e'⟩
      rw [e']
      clear e' s'
      refine ck_go_run 4 (X1 := (120, [some (.inr (480, 3, 6)), some (.inl k), some (.inl 1), some (.inl x), some (.inl y), some (.inl z), some (.inl (σ 490 (20 + x))), some (.inl (σ 490 (20 + y))), some (.inl (v + 1)), some (.inl (s 490 ((42 + (4 * x)) + v))), some (.inl (s 490 ((42 + (4 * y)) + v)))], [], ck_up s 490 ((42 + (4 * x)) + v) (ck_lw (ck_H f x v) (ck_mhm (ck_H f y v) (z - 1))))) (ps := [0 ≤ (42 + (4 * x)) + v ∧ (42 + (4 * x)) + v < ((82 : Nat) : Int)]) rfl ⟨⟨by omega, by omega⟩, trivial⟩ ?_
      exact kk (some (.inl (s 490 ((42 + (4 * x)) + v))), some (.inl (s 490 ((42 + (4 * y)) + v))), none) _ ⟨by omega, by omega, ck_st1 (base := 42 + 4 * x) (g := fun q => ck_lw (ck_H f x q) (ck_mhm (if y = 10 then ck_ag (ck_V f q) (ck_G f q) 0 else ck_H f y q) (z - 1))) hI1 hI2 (by rw [if_neg h1]) h0⟩
    · obtain ⟨h0, h4, hI1, hI2⟩ := hI
      refine ck_go_run 3 (X1 := (if v < 4 then 126 else 252, [some (.inr (480, 3, 6)), some (.inl k), some (.inl 1), some (.inl x), some (.inl y), some (.inl z), some (.inl (σ 490 (20 + x))), some (.inl (σ 490 (20 + y))), some (.inl v), u.1, u.2.1], [], s)) (ps := [ck_rg v, ck_rg 4]) rfl ⟨(ck_rgo (by omega) (by omega)), (ck_rgo (by omega) (by omega)), trivial⟩ ?_
      refine ck_go_f (by omega) ?_
      refine ck_eV ⟨rfl, ?_, ?_⟩ rfl rfl rfl
      · intro b j hb
        rw [hI1 b j (by omega)]
        try (simp only [ck_up]
             (repeat' split) <;> first | rfl | omega)
      · unfold ck_qBel
        refine ck_P_ext (fun n a0 a1 => ?_) (fun n a0 a1 => ?_) (fun n a0 a1 => ?_) (fun q b0 b1 => ?_) (fun q b0 b1 => ?_) (fun q b0 b1 => ?_) (fun n q a0 a1 b0 b1 => ?_)
        · rw [← ck_y_K hf a0 a1, hI1 490 (0 + n) (by omega)]
          try (simp only [ck_up, true_and]
               (repeat' split) <;> first | rfl | omega)
        · rw [← ck_y_I hf a0 a1, hI1 490 (10 + n) (by omega)]
          try (simp only [ck_up, true_and]
               (repeat' split) <;> first | rfl | omega)
        · rw [← ck_y_L hf a0 a1, hI1 490 (20 + n) (by omega)]
          try (simp only [ck_up, true_and])
          by_cases hn : n = y
          · subst hn
            first | rw [if_pos rfl, if_pos rfl] | omega
          · first | rw [if_neg (by omega), if_neg hn] | rw [if_neg hn]
        · rw [← ck_y_V hf b0 b1, hI1 490 (30 + q) (by omega)]
          try (simp only [ck_up, true_and]
               (repeat' split) <;> first | rfl | omega)
        · rw [← ck_y_T hf b0 b1, hI1 490 (34 + q) (by omega)]
          try (simp only [ck_up, true_and]
               (repeat' split) <;> first | rfl | omega)
        · rw [← ck_y_G hf b0 b1, hI1 490 (38 + q) (by omega)]
          try (simp only [ck_up, true_and]
               (repeat' split) <;> first | rfl | omega)
        · by_cases hn : n = x
          · subst hn
            rw [if_pos rfl, hI2 q b0 (by omega)]
          · rw [if_neg hn, ← ck_y_H hf a0 a1 b0 b1, hI1 490 (42 + 4 * n + q) (by omega)]
            try (simp only [ck_up, true_and]
                 (repeat' split) <;> first | rfl | omega)
set_option maxHeartbeats 20000000 in
set_option maxRecDepth 4000 in
theorem cx_branch0 {k x y z : Int} (hk : 0 ≤ k ∧ k < 64) (hx : 0 ≤ x ∧ x < 10) (hy : 0 ≤ y ∧ y ≤ 10) (hz : -100 ≤ z ∧ z ≤ 100) {σ : ck_M} (hX : σ 482 k = x) (hY : σ 483 k = y) (hZ : σ 484 k = z) {f : ck_Q} (hf : ck_mv (σ 490) = f) (hB : ck_qb f) : ck_cal 3 cm_Mo_branch [.inr (480, 3, 6), .inl k, .inl 0] σ (fun q σ' => q = none ∧ ck_f1 σ σ' 490 ∧ ck_mv (σ' 490) = ck_qNot x y z f) := by
  refine ck_cal_of ?_
  have bl := hB.2.2.1 x
  have bly := hB.2.2.1 y
  refine ck_go_run 15 (X1 := (23, [some (.inr (480, 3, 6)), some (.inl k), some (.inl 0), some (.inl (σ 482 k)), some (.inl (σ 483 k)), some (.inl (σ 484 k)), none, none, none, none, none], [], σ)) (ps := [0 ≤ k ∧ k < ((64 : Nat) : Int), 0 ≤ k ∧ k < ((64 : Nat) : Int), 0 ≤ k ∧ k < ((64 : Nat) : Int)]) rfl ⟨⟨by omega, by omega⟩, ⟨by omega, by omega⟩, ⟨by omega, by omega⟩, trivial⟩ ?_
  rw [hX, hY, hZ]
  refine ck_go_run 10 (X1 := (if y = 10 then 41 else 45, [some (.inr (480, 3, 6)), some (.inl k), some (.inl 0), some (.inl x), some (.inl y), some (.inl z), some (.inl (σ 490 (20 + x))), none, none, none, none], [], σ)) (ps := [0 ≤ 20 + x ∧ 20 + x < ((82 : Nat) : Int), ck_rg y, ck_rg 10]) rfl ⟨⟨by omega, by omega⟩, (ck_rgo (by omega) (by omega)), (ck_rgo (by omega) (by omega)), trivial⟩ ?_
  refine ck_go_ite (fun h1 => ?_) (fun h1 => ?_)
  · refine ck_go_run 5 (X1 := (if 0 = 0 then 92 else 61, [some (.inr (480, 3, 6)), some (.inl k), some (.inl 0), some (.inl x), some (.inl y), some (.inl z), some (.inl (σ 490 (20 + x))), some (.inl 0), none, none, none], [], σ)) (ps := [ck_rg 0]) rfl ⟨(ck_rgo (by omega) (by omega)), trivial⟩ ?_
    refine ck_go_t (by decide) ?_
    refine ck_go_run 2 (X1 := (if 0 = 0 then 96 else 117, [some (.inr (480, 3, 6)), some (.inl k), some (.inl 0), some (.inl x), some (.inl y), some (.inl z), some (.inl (σ 490 (20 + x))), some (.inl 0), none, none, none], [], σ)) (ps := [ck_rg 0]) rfl ⟨(ck_rgo (by omega) (by omega)), trivial⟩ ?_
    refine ck_go_t (by decide) ?_
    refine ck_go_run 8 (X1 := (110, [some (.inr (480, 3, 6)), some (.inl k), some (.inl 0), some (.inl x), some (.inl y), some (.inl z), some (.inl (σ 490 (20 + x))), some (.inl 0), none, none, none], [.inl z, .inl 0, .inl (σ 490 (20 + x)), .inl (20 + x), .inr (490, 0, 82)], σ)) (ps := []) rfl trivial ?_
    refine ck_go_cal (rest := [.inl (σ 490 (20 + x)), .inl (20 + x), .inr (490, 0, 82)]) (ck_cal_le (by decide) (cx_lm (V := 0) (B := z) rfl rfl (by omega) (by omega) _)) ⟨_, rfl, Or.inr ⟨_, rfl⟩, rfl, rfl, rfl, Nat.le_of_ble_eq_true rfl, fun h => absurd h (by decide)⟩ ?_
    rintro _ s' ⟨rfl, e'⟩
    rw [e']
    clear e' s'
    refine ck_go_cal (rest := [.inl (20 + x), .inr (490, 0, 82)]) (ck_cal_le (by decide) (cx_gr (A := ck_L f x) (B := ck_mlm (0) (z)) (ck_y_L hf (by omega) (by omega)) rfl (by omega) (ck_mlmb (by omega) (by omega)) _)) ⟨_, rfl, Or.inr ⟨_, rfl⟩, rfl, rfl, rfl, Nat.le_of_ble_eq_true rfl, fun h => absurd h (by decide)⟩ ?_
    rintro _ s' ⟨rfl, e'⟩
    rw [e']
    clear e' s'
    refine ck_go_run 3 (X1 := (120, [some (.inr (480, 3, 6)), some (.inl k), some (.inl 0), some (.inl x), some (.inl y), some (.inl z), some (.inl (σ 490 (20 + x))), some (.inl 0), some (.inl 0), none, none], [], ck_up σ 490 (20 + x) (ck_gr (ck_L f x) (ck_mlm (0) (z))))) (ps := [0 ≤ 20 + x ∧ 20 + x < ((82 : Nat) : Int)]) rfl ⟨⟨by omega, by omega⟩, trivial⟩ ?_
    refine ck_forU 120 (fun v u => [some (.inr (480, 3, 6)), some (.inl k), some (.inl 0), some (.inl x), some (.inl y), some (.inl z), some (.inl (σ 490 (20 + x))), some (.inl 0), some (.inl v), u.1, u.2.1]) 4 (fun v s => 0 ≤ v ∧ v ≤ 4 ∧ (∀ b j, (b ≠ 490 ∨ j < 42 + 4 * y ∨ 42 + 4 * y + v ≤ j ∨ y = 10) → s b j = (ck_up σ 490 (20 + x) (ck_gr (ck_L f x) (ck_mlm (0) (z)))) b j) ∧ (y ≠ 10 → ∀ q, 0 ≤ q → q < v → s 490 (42 + 4 * y + q) = ck_lw (ck_H f y q) (ck_mhm (ck_H f x q) (-z)))) (fun v u s hv hI kk => ?_) (fun v u s hv hI => ?_) 0 (none, none, none) _ ⟨by omega, by omega, fun _ _ _ => rfl, fun _ _ _ _ => by omega⟩
    · obtain ⟨h0, h4, hI1, hI2⟩ := hI
      have e1 : s 490 (42 + 4 * x + v) = ck_H f x v := by
        rw [hI1 _ _ (by omega), ← ck_y_H hf hx.1 hx.2 h0 hv]
        try (simp only [ck_up, true_and]
             (repeat' split) <;> first | rfl | omega)
      have e4 : s 490 (30 + v) = ck_V f v := by
        rw [hI1 _ _ (by omega), ← ck_y_V hf h0 hv]
        try (simp only [ck_up, true_and]
             (repeat' split) <;> first | rfl | omega)
      have e5 : s 490 (38 + v) = ck_G f v := by
        rw [hI1 _ _ (by omega), ← ck_y_G hf h0 hv]
        try (simp only [ck_up, true_and]
             (repeat' split) <;> first | rfl | omega)
      have b1 := hB.2.2.2.2.2.2 x v
      have b1y := hB.2.2.2.2.2.2 y v
      have b4 := hB.2.2.2.1 v
      have b5 := hB.2.2.2.2.2.1 v
      have bg := ck_agb0 (A := ck_V f v) b5
      refine ck_go_run 3 (X1 := (if v < 4 then 126 else 252, [some (.inr (480, 3, 6)), some (.inl k), some (.inl 0), some (.inl x), some (.inl y), some (.inl z), some (.inl (σ 490 (20 + x))), some (.inl 0), some (.inl v), u.1, u.2.1], [], s)) (ps := [ck_rg v, ck_rg 4]) rfl ⟨(ck_rgo (by omega) (by omega)), (ck_rgo (by omega) (by omega)), trivial⟩ ?_
      refine ck_go_t hv ?_
      refine ck_go_run 14 (X1 := (if y = 10 then 149 else 159, [some (.inr (480, 3, 6)), some (.inl k), some (.inl 0), some (.inl x), some (.inl y), some (.inl z), some (.inl (σ 490 (20 + x))), some (.inl 0), some (.inl v), some (.inl (s 490 ((42 + (4 * x)) + v))), u.2.1], [], s)) (ps := [0 ≤ (42 + (4 * x)) + v ∧ (42 + (4 * x)) + v < ((82 : Nat) : Int), ck_rg y, ck_rg 10]) rfl ⟨⟨by omega, by omega⟩, (ck_rgo (by omega) (by omega)), (ck_rgo (by omega) (by omega)), trivial⟩ ?_
      refine ck_go_t h1 ?_
      refine ck_go_run 3 (X1 := (153, [some (.inr (480, 3, 6)), some (.inl k), some (.inl 0), some (.inl x), some (.inl y), some (.inl z), some (.inl (σ 490 (20 + x))), some (.inl 0), some (.inl v), some (.inl (s 490 ((42 + (4 * x)) + v))), u.2.1], [.inl v, .inl 0, .inr (480, 3, 6)], s)) (ps := []) rfl trivial ?_
      refine ck_go_cal (rest := []) (ck_cal_le (by decide) (cx_ag (k := 0) (r := v) (by omega) (by omega) e4 e5 b4 b5)) ⟨_, rfl, Or.inl ⟨_, rfl⟩, rfl, rfl, rfl, Nat.le_of_ble_eq_true rfl, fun _ => ⟨_, _, rfl⟩⟩ ?_
      rintro _ s' ⟨rfl, e'⟩
      rw [e']
      clear e' s'
      refine ck_go_run 4 (X1 := (if 0 = 0 then 211 else 180, [some (.inr (480, 3, 6)), some (.inl k), some (.inl 0), some (.inl x), some (.inl y), some (.inl z), some (.inl (σ 490 (20 + x))), some (.inl 0), some (.inl v), some (.inl (s 490 ((42 + (4 * x)) + v))), some (.inl (ck_ag (ck_V f v) (ck_G f v) 0))], [], s)) (ps := [ck_rg 0]) rfl ⟨(ck_rgo (by omega) (by omega)), trivial⟩ ?_
      refine ck_go_t (by decide) ?_
      refine ck_go_run 3 (X1 := (if y < 10 then 218 else 246, [some (.inr (480, 3, 6)), some (.inl k), some (.inl 0), some (.inl x), some (.inl y), some (.inl z), some (.inl (σ 490 (20 + x))), some (.inl 0), some (.inl v), some (.inl (s 490 ((42 + (4 * x)) + v))), some (.inl (ck_ag (ck_V f v) (ck_G f v) 0))], [], s)) (ps := [ck_rg y, ck_rg 10]) rfl ⟨(ck_rgo (by omega) (by omega)), (ck_rgo (by omega) (by omega)), trivial⟩ ?_
      refine ck_go_f (by omega) ?_
      refine ck_go_run 2 (X1 := (120, [some (.inr (480, 3, 6)), some (.inl k), some (.inl 0), some (.inl x), some (.inl y), some (.inl z), some (.inl (σ 490 (20 + x))), some (.inl 0), some (.inl (v + 1)), some (.inl (s 490 ((42 + (4 * x)) + v))), some (.inl (ck_ag (ck_V f v) (ck_G f v) 0))], [], s)) (ps := []) rfl trivial ?_
      exact kk (some (.inl (s 490 ((42 + (4 * x)) + v))), some (.inl (ck_ag (ck_V f v) (ck_G f v) 0)), none) _ ⟨by omega, by omega, fun b j hb => hI1 b j (by omega), fun hne => absurd h1 hne⟩
    · obtain ⟨h0, h4, hI1, hI2⟩ := hI
      refine ck_go_run 3 (X1 := (if v < 4 then 126 else 252, [some (.inr (480, 3, 6)), some (.inl k), some (.inl 0), some (.inl x), some (.inl y), some (.inl z), some (.inl (σ 490 (20 + x))), some (.inl 0), some (.inl v), u.1, u.2.1], [], s)) (ps := [ck_rg v, ck_rg 4]) rfl ⟨(ck_rgo (by omega) (by omega)), (ck_rgo (by omega) (by omega)), trivial⟩ ?_
      refine ck_go_f (by omega) ?_
      refine ck_eV ⟨rfl, ?_, ?_⟩ rfl rfl rfl
      · intro b j hb
        rw [hI1 b j (by omega)]
        try (simp only [ck_up]
             (repeat' split) <;> first | rfl | omega)
      · unfold ck_qNot
        refine ck_P_ext (fun n a0 a1 => ?_) (fun n a0 a1 => ?_) (fun n a0 a1 => ?_) (fun q b0 b1 => ?_) (fun q b0 b1 => ?_) (fun q b0 b1 => ?_) (fun n q a0 a1 b0 b1 => ?_)
        · rw [← ck_y_K hf a0 a1, hI1 490 (0 + n) (by omega)]
          try (simp only [ck_up, true_and]
               (repeat' split) <;> first | rfl | omega)
        · rw [← ck_y_I hf a0 a1, hI1 490 (10 + n) (by omega)]
          try (simp only [ck_up, true_and]
               (repeat' split) <;> first | rfl | omega)
        · rw [hI1 490 (20 + n) (by omega)]
          simp only [ck_up, true_and]
          by_cases hn : n = x
          · subst hn
            rw [if_pos rfl, if_pos rfl]
            first | rw [if_pos h1] | rw [if_neg h1]
          · rw [if_neg (by omega), if_neg hn, ck_y_L hf a0 a1]
        · rw [← ck_y_V hf b0 b1, hI1 490 (30 + q) (by omega)]
          try (simp only [ck_up, true_and]
               (repeat' split) <;> first | rfl | omega)
        · rw [← ck_y_T hf b0 b1, hI1 490 (34 + q) (by omega)]
          try (simp only [ck_up, true_and]
               (repeat' split) <;> first | rfl | omega)
        · rw [← ck_y_G hf b0 b1, hI1 490 (38 + q) (by omega)]
          try (simp only [ck_up, true_and]
               (repeat' split) <;> first | rfl | omega)
        · by_cases hn : n = y
          · subst hn
            rw [if_pos rfl, hI2 (by omega) q b0 (by omega)]
          · rw [if_neg hn, ← ck_y_H hf a0 a1 b0 b1, hI1 490 (42 + 4 * n + q) (by omega)]
            try (simp only [ck_up, true_and]
                 (repeat' split) <;> first | rfl | omega)
  · refine ck_go_run 9 (X1 := (if 0 = 0 then 92 else 61, [some (.inr (480, 3, 6)), some (.inl k), some (.inl 0), some (.inl x), some (.inl y), some (.inl z), some (.inl (σ 490 (20 + x))), some (.inl (σ 490 (20 + y))), none, none, none], [], σ)) (ps := [0 ≤ 20 + y ∧ 20 + y < ((82 : Nat) : Int), ck_rg 0]) rfl ⟨⟨by omega, by omega⟩, (ck_rgo (by omega) (by omega)), trivial⟩ ?_
    refine ck_go_t (by decide) ?_
    refine ck_go_run 2 (X1 := (if 0 = 0 then 96 else 117, [some (.inr (480, 3, 6)), some (.inl k), some (.inl 0), some (.inl x), some (.inl y), some (.inl z), some (.inl (σ 490 (20 + x))), some (.inl (σ 490 (20 + y))), none, none, none], [], σ)) (ps := [ck_rg 0]) rfl ⟨(ck_rgo (by omega) (by omega)), trivial⟩ ?_
    refine ck_go_t (by decide) ?_
    refine ck_go_run 8 (X1 := (110, [some (.inr (480, 3, 6)), some (.inl k), some (.inl 0), some (.inl x), some (.inl y), some (.inl z), some (.inl (σ 490 (20 + x))), some (.inl (σ 490 (20 + y))), none, none, none], [.inl z, .inl (σ 490 (20 + y)), .inl (σ 490 (20 + x)), .inl (20 + x), .inr (490, 0, 82)], σ)) (ps := []) rfl trivial ?_
    refine ck_go_cal (rest := [.inl (σ 490 (20 + x)), .inl (20 + x), .inr (490, 0, 82)]) (ck_cal_le (by decide) (cx_lm (V := ck_L f y) (B := z) (ck_y_L hf (by omega) (by omega)) rfl (by omega) (by omega) _)) ⟨_, rfl, Or.inr ⟨_, rfl⟩, rfl, rfl, rfl, Nat.le_of_ble_eq_true rfl, fun h => absurd h (by decide)⟩ ?_
    rintro _ s' ⟨rfl, e'⟩
    rw [e']
    clear e' s'
    refine ck_go_cal (rest := [.inl (20 + x), .inr (490, 0, 82)]) (ck_cal_le (by decide) (cx_gr (A := ck_L f x) (B := ck_mlm (ck_L f y) (z)) (ck_y_L hf (by omega) (by omega)) rfl (by omega) (ck_mlmb (by omega) (by omega)) _)) ⟨_, rfl, Or.inr ⟨_, rfl⟩, rfl, rfl, rfl, Nat.le_of_ble_eq_true rfl, fun h => absurd h (by decide)⟩ ?_
    rintro _ s' ⟨rfl, e'⟩
    rw [e']
    clear e' s'
    refine ck_go_run 3 (X1 := (120, [some (.inr (480, 3, 6)), some (.inl k), some (.inl 0), some (.inl x), some (.inl y), some (.inl z), some (.inl (σ 490 (20 + x))), some (.inl (σ 490 (20 + y))), some (.inl 0), none, none], [], ck_up σ 490 (20 + x) (ck_gr (ck_L f x) (ck_mlm (ck_L f y) (z))))) (ps := [0 ≤ 20 + x ∧ 20 + x < ((82 : Nat) : Int)]) rfl ⟨⟨by omega, by omega⟩, trivial⟩ ?_
    refine ck_forU 120 (fun v u => [some (.inr (480, 3, 6)), some (.inl k), some (.inl 0), some (.inl x), some (.inl y), some (.inl z), some (.inl (σ 490 (20 + x))), some (.inl (σ 490 (20 + y))), some (.inl v), u.1, u.2.1]) 4 (fun v s => 0 ≤ v ∧ v ≤ 4 ∧ (∀ b j, (b ≠ 490 ∨ j < 42 + 4 * y ∨ 42 + 4 * y + v ≤ j ∨ y = 10) → s b j = (ck_up σ 490 (20 + x) (ck_gr (ck_L f x) (ck_mlm (ck_L f y) (z)))) b j) ∧ (y ≠ 10 → ∀ q, 0 ≤ q → q < v → s 490 (42 + 4 * y + q) = ck_lw (ck_H f y q) (ck_mhm (ck_H f x q) (-z)))) (fun v u s hv hI kk => ?_) (fun v u s hv hI => ?_) 0 (none, none, none) _ ⟨by omega, by omega, fun _ _ _ => rfl, fun _ _ _ _ => by omega⟩
    · obtain ⟨h0, h4, hI1, hI2⟩ := hI
      have e1 : s 490 (42 + 4 * x + v) = ck_H f x v := by
        rw [hI1 _ _ (by omega), ← ck_y_H hf hx.1 hx.2 h0 hv]
        try (simp only [ck_up, true_and]
             (repeat' split) <;> first | rfl | omega)
      have e4 : s 490 (30 + v) = ck_V f v := by
        rw [hI1 _ _ (by omega), ← ck_y_V hf h0 hv]
        try (simp only [ck_up, true_and]
             (repeat' split) <;> first | rfl | omega)
      have e5 : s 490 (38 + v) = ck_G f v := by
        rw [hI1 _ _ (by omega), ← ck_y_G hf h0 hv]
        try (simp only [ck_up, true_and]
             (repeat' split) <;> first | rfl | omega)
      have b1 := hB.2.2.2.2.2.2 x v
      have b1y := hB.2.2.2.2.2.2 y v
      have b4 := hB.2.2.2.1 v
      have b5 := hB.2.2.2.2.2.1 v
      have bg := ck_agb0 (A := ck_V f v) b5
      refine ck_go_run 3 (X1 := (if v < 4 then 126 else 252, [some (.inr (480, 3, 6)), some (.inl k), some (.inl 0), some (.inl x), some (.inl y), some (.inl z), some (.inl (σ 490 (20 + x))), some (.inl (σ 490 (20 + y))), some (.inl v), u.1, u.2.1], [], s)) (ps := [ck_rg v, ck_rg 4]) rfl ⟨(ck_rgo (by omega) (by omega)), (ck_rgo (by omega) (by omega)), trivial⟩ ?_
      refine ck_go_t hv ?_
      refine ck_go_run 14 (X1 := (if y = 10 then 149 else 159, [some (.inr (480, 3, 6)), some (.inl k), some (.inl 0), some (.inl x), some (.inl y), some (.inl z), some (.inl (σ 490 (20 + x))), some (.inl (σ 490 (20 + y))), some (.inl v), some (.inl (s 490 ((42 + (4 * x)) + v))), u.2.1], [], s)) (ps := [0 ≤ (42 + (4 * x)) + v ∧ (42 + (4 * x)) + v < ((82 : Nat) : Int), ck_rg y, ck_rg 10]) rfl ⟨⟨by omega, by omega⟩, (ck_rgo (by omega) (by omega)), (ck_rgo (by omega) (by omega)), trivial⟩ ?_
      refine ck_go_f h1 ?_
      refine ck_go_run 13 (X1 := (if 0 = 0 then 211 else 180, [some (.inr (480, 3, 6)), some (.inl k), some (.inl 0), some (.inl x), some (.inl y), some (.inl z), some (.inl (σ 490 (20 + x))), some (.inl (σ 490 (20 + y))), some (.inl v), some (.inl (s 490 ((42 + (4 * x)) + v))), some (.inl (s 490 ((42 + (4 * y)) + v)))], [], s)) (ps := [0 ≤ (42 + (4 * y)) + v ∧ (42 + (4 * y)) + v < ((82 : Nat) : Int), ck_rg 0]) rfl ⟨⟨by omega, by omega⟩, (ck_rgo (by omega) (by omega)), trivial⟩ ?_
      refine ck_go_t (by decide) ?_
      refine ck_go_run 3 (X1 := (if y < 10 then 218 else 246, [some (.inr (480, 3, 6)), some (.inl k), some (.inl 0), some (.inl x), some (.inl y), some (.inl z), some (.inl (σ 490 (20 + x))), some (.inl (σ 490 (20 + y))), some (.inl v), some (.inl (s 490 ((42 + (4 * x)) + v))), some (.inl (s 490 ((42 + (4 * y)) + v)))], [], s)) (ps := [ck_rg y, ck_rg 10]) rfl ⟨(ck_rgo (by omega) (by omega)), (ck_rgo (by omega) (by omega)), trivial⟩ ?_
      refine ck_go_t (by omega) ?_
      refine ck_go_run 13 (X1 := (239, [some (.inr (480, 3, 6)), some (.inl k), some (.inl 0), some (.inl x), some (.inl y), some (.inl z), some (.inl (σ 490 (20 + x))), some (.inl (σ 490 (20 + y))), some (.inl v), some (.inl (s 490 ((42 + (4 * x)) + v))), some (.inl (s 490 ((42 + (4 * y)) + v)))], [.inl (-z), .inl (s 490 ((42 + (4 * x)) + v)), .inl (s 490 ((42 + (4 * y)) + v)), .inl ((42 + (4 * y)) + v), .inr (490, 0, 82)], s)) (ps := []) rfl trivial ?_
      refine ck_go_cal (rest := [.inl (s 490 ((42 + (4 * y)) + v)), .inl ((42 + (4 * y)) + v), .inr (490, 0, 82)]) (ck_cal_le (by decide) (cx_hm (V := ck_H f x v) (B := -z) e1 rfl b1 (by omega) _)) ⟨_, rfl, Or.inr ⟨_, rfl⟩, rfl, rfl, rfl, Nat.le_of_ble_eq_true rfl, fun h => absurd h (by decide)⟩ ?_
      rintro _ s' ⟨rfl, e'⟩
      rw [e']
      clear e' s'
      refine ck_go_cal (rest := [.inl ((42 + (4 * y)) + v), .inr (490, 0, 82)]) (ck_cal_le (by decide) (cx_lw (A := ck_H f y v) (B := ck_mhm (ck_H f x v) (-z)) (by rw [← ck_y_H hf (by omega) (by omega) h0 hv, hI1 _ _ (by omega)]; try (simp only [ck_up, true_and]; (repeat' split) <;> first | rfl | omega)) rfl (by omega) (ck_mhmb b1 (by omega)) _)) ⟨_, rfl, Or.inr ⟨_, rfl⟩, rfl, rfl, rfl, Nat.le_of_ble_eq_true rfl, fun h => absurd h (by decide)⟩ ?_
      rintro _ s' ⟨rfl, e'⟩
      rw [e']
      clear e' s'
      refine ck_go_run 3 (X1 := (120, [some (.inr (480, 3, 6)), some (.inl k), some (.inl 0), some (.inl x), some (.inl y), some (.inl z), some (.inl (σ 490 (20 + x))), some (.inl (σ 490 (20 + y))), some (.inl (v + 1)), some (.inl (s 490 ((42 + (4 * x)) + v))), some (.inl (s 490 ((42 + (4 * y)) + v)))], [], ck_up s 490 ((42 + (4 * y)) + v) (ck_lw (ck_H f y v) (ck_mhm (ck_H f x v) (-z))))) (ps := [0 ≤ (42 + (4 * y)) + v ∧ (42 + (4 * y)) + v < ((82 : Nat) : Int)]) rfl ⟨⟨by omega, by omega⟩, trivial⟩ ?_
      exact kk (some (.inl (s 490 ((42 + (4 * x)) + v))), some (.inl (s 490 ((42 + (4 * y)) + v))), none) _ ⟨by omega, by omega, (by
        have z := ck_st1 (base := 42 + 4 * y) (g := fun q => ck_lw (ck_H f y q) (ck_mhm (ck_H f x q) (-z))) (M := _) (fun b j hb => hI1 b j (by omega)) (hI2 h1) rfl h0
        exact ⟨fun b j hb => z.1 b j (by omega), fun _ => z.2⟩)⟩
    · obtain ⟨h0, h4, hI1, hI2⟩ := hI
      refine ck_go_run 3 (X1 := (if v < 4 then 126 else 252, [some (.inr (480, 3, 6)), some (.inl k), some (.inl 0), some (.inl x), some (.inl y), some (.inl z), some (.inl (σ 490 (20 + x))), some (.inl (σ 490 (20 + y))), some (.inl v), u.1, u.2.1], [], s)) (ps := [ck_rg v, ck_rg 4]) rfl ⟨(ck_rgo (by omega) (by omega)), (ck_rgo (by omega) (by omega)), trivial⟩ ?_
      refine ck_go_f (by omega) ?_
      refine ck_eV ⟨rfl, ?_, ?_⟩ rfl rfl rfl
      · intro b j hb
        rw [hI1 b j (by omega)]
        try (simp only [ck_up]
             (repeat' split) <;> first | rfl | omega)
      · unfold ck_qNot
        refine ck_P_ext (fun n a0 a1 => ?_) (fun n a0 a1 => ?_) (fun n a0 a1 => ?_) (fun q b0 b1 => ?_) (fun q b0 b1 => ?_) (fun q b0 b1 => ?_) (fun n q a0 a1 b0 b1 => ?_)
        · rw [← ck_y_K hf a0 a1, hI1 490 (0 + n) (by omega)]
          try (simp only [ck_up, true_and]
               (repeat' split) <;> first | rfl | omega)
        · rw [← ck_y_I hf a0 a1, hI1 490 (10 + n) (by omega)]
          try (simp only [ck_up, true_and]
               (repeat' split) <;> first | rfl | omega)
        · rw [hI1 490 (20 + n) (by omega)]
          simp only [ck_up, true_and]
          by_cases hn : n = x
          · subst hn
            rw [if_pos rfl, if_pos rfl]
            first | rw [if_pos h1] | rw [if_neg h1]
          · rw [if_neg (by omega), if_neg hn, ck_y_L hf a0 a1]
        · rw [← ck_y_V hf b0 b1, hI1 490 (30 + q) (by omega)]
          try (simp only [ck_up, true_and]
               (repeat' split) <;> first | rfl | omega)
        · rw [← ck_y_T hf b0 b1, hI1 490 (34 + q) (by omega)]
          try (simp only [ck_up, true_and]
               (repeat' split) <;> first | rfl | omega)
        · rw [← ck_y_G hf b0 b1, hI1 490 (38 + q) (by omega)]
          try (simp only [ck_up, true_and]
               (repeat' split) <;> first | rfl | omega)
        · by_cases hn : n = y
          · subst hn
            rw [if_pos rfl, hI2 (by omega) q b0 (by omega)]
          · rw [if_neg hn, ← ck_y_H hf a0 a1 b0 b1, hI1 490 (42 + 4 * n + q) (by omega)]
            try (simp only [ck_up, true_and]
                 (repeat' split) <;> first | rfl | omega)
