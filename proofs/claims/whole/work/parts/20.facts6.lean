def ck_dBel (x y z : Int) (f : ck_D) : ck_D := ck_N (ck_kn f) (fun n => if n = y then ck_mx (ck_lo f y) (ck_bL (ck_lo f x + 1 - z)) else ck_lo f n) (fun n q => if n = x then ck_mn (ck_hi f x q) (ck_bH ((if y = 10 then ck_hoc f 0 q else ck_hi f y q) + z - 1)) else ck_hi f n q) (ck_va f) (ck_sz f) (ck_th f)
theorem cx_assumeBelow {c x y z : Int} (hx : 0 ≤ x ∧ x < 10) (hy : 0 ≤ y ∧ y ≤ 10) (hz : -1000 ≤ z ∧ z ≤ 1000) {σ : ck_M} {f : ck_D} (hf : ck_rd σ c = f) (hB : ck_fb f) : ck_cal 3 cm_Fa_assumeBelow [.inr (c, 3, 0), .inl x, .inl y, .inl z] σ (fun q σ' => q = none ∧ ck_f6 σ σ' c ∧ ck_rd σ' c = ck_dBel x y z f) := by
  refine ck_cal_of ?_
  have bl := hB.2.1 x
  have bly := hB.2.1 y
  refine ck_go_run 2 (X1 := (3, [some (.inr (c, 3, 0)), some (.inl x), some (.inl y), some (.inl z), some (.inl 0), none, none], [], σ)) (ps := []) rfl trivial ?_
  refine ck_forU 3 (fun v u => [some (.inr (c, 3, 0)), some (.inl x), some (.inl y), some (.inl z), some (.inl v), u.1, u.2.1]) 4 (fun v s => 0 ≤ v ∧ v ≤ 4 ∧ (∀ b j, (b ≠ c + 3 ∨ j < x * 4 ∨ x * 4 + v ≤ j) → s b j = σ b j) ∧ ∀ q, 0 ≤ q → q < v → s (c + 3) (x * 4 + q) = ck_mn (ck_hi f x q) (ck_bH ((if y = 10 then ck_hc (ck_va f q) (ck_sz f q) 0 else ck_hi f y q) + z - 1))) (fun v u s hv hI kk => ?_) (fun v u s hv hI => ?_) 0 (none, none, none) _ ⟨by omega, by omega, fun _ _ _ => rfl, fun _ _ _ => by omega⟩
  · obtain ⟨h0, h4, hI1, hI2⟩ := hI
    have e4 : s (c + 4) v = ck_va f v := by rw [hI1 (c + 4) v (by omega), ck_x_va hf h0 hv]
    have e5 : s (c + 5) v = ck_sz f v := by rw [hI1 (c + 5) v (by omega), ck_x_sz hf h0 hv]
    have e3 : s (c + 3) (x * 4 + v) = ck_hi f x v := by rw [hI1 _ _ (by omega), ck_x_hi hf hx.1 hx.2 h0 hv]
    have b4 := hB.2.2.2.1 v
    have b5 := hB.2.2.2.2.1 v
    have b3 := hB.2.2.1 x v
    have b3y := hB.2.2.1 y v
    have bc := ck_hcb (A := ck_va f v) (B := ck_sz f v) (v := 0) (by omega) b5
    refine ck_go_run 3 (X1 := (if v < 4 then 9 else 78, [some (.inr (c, 3, 0)), some (.inl x), some (.inl y), some (.inl z), some (.inl v), u.1, u.2.1], [], s)) (ps := [ck_rg v, ck_rg 4]) rfl ⟨(ck_rgo (by omega) (by omega)), (ck_rgo (by omega) (by omega)), trivial⟩ ?_
    refine ck_go_t hv ?_
    refine ck_go_run 9 (X1 := (if y = 10 then 23 else 33, [some (.inr (c, 3, 0)), some (.inl x), some (.inl y), some (.inl z), some (.inl v), some (.inl ((x * 4) + v)), u.2.1], [], s)) (ps := [ck_rg y, ck_rg 10]) rfl ⟨(ck_rgo (by omega) (by omega)), (ck_rgo (by omega) (by omega)), trivial⟩ ?_
    refine ck_go_ite (fun h1 => ?_) (fun h1 => ?_)
    · refine ck_go_run 3 (X1 := (27, [some (.inr (c, 3, 0)), some (.inl x), some (.inl y), some (.inl z), some (.inl v), some (.inl ((x * 4) + v)), u.2.1], [.inl v, .inl 0, .inr (c, 3, 0)], s)) (ps := []) rfl trivial ?_
      refine ck_go_cal (rest := []) (ck_cal_le (by decide) (cx_hoc (c := c) (v := 0) (r := v) (by omega) e4 e5 (by omega) b4 b5)) ⟨_, rfl, Or.inl ⟨_, rfl⟩, rfl, rfl, rfl, Nat.le_of_ble_eq_true rfl, fun _ => ⟨_, _, rfl⟩⟩ ?_
      rintro _ s' ⟨rfl, e'⟩
      rw [e']
      clear e' s'
      refine ck_go_run 14 (X1 := (65, [some (.inr (c, 3, 0)), some (.inl x), some (.inl y), some (.inl z), some (.inl v), some (.inl ((x * 4) + v)), some (.inl (ck_hc (ck_va f v) (ck_sz f v) 0))], [.inl (((ck_hc (ck_va f v) (ck_sz f v) 0) + z) - 1), .inl (s (c + 3) ((x * 4) + v)), .inl ((x * 4) + v), .inr (c + 3, 0, 40)], s)) (ps := [0 ≤ (x * 4) + v ∧ (x * 4) + v < ((40 : Nat) : Int)]) rfl ⟨⟨by omega, by omega⟩, trivial⟩ ?_
      refine ck_go_cal (rest := [.inl (s (c + 3) ((x * 4) + v)), .inl ((x * 4) + v), .inr (c + 3, 0, 40)]) (ck_cal_le (by decide) (cx_bH (A := ck_hc (ck_va f v) (ck_sz f v) 0 + z - 1) rfl (ck_rgo (by omega) (by omega)) _)) ⟨_, rfl, Or.inr ⟨_, rfl⟩, rfl, rfl, rfl, Nat.le_of_ble_eq_true rfl, fun h => absurd h (by decide)⟩ ?_
      rintro _ s' ⟨rfl, e'⟩
      rw [e']
      clear e' s'
      refine ck_go_cal (rest := [.inl ((x * 4) + v), .inr (c + 3, 0, 40)]) (ck_cal_le (by decide) (cx_mn (A := ck_hi f x v) (B := ck_bH (ck_hc (ck_va f v) (ck_sz f v) 0 + z - 1)) e3 rfl (ck_rgo (by omega) (by omega)) (ck_rg_bH (ck_rgo (by omega) (by omega))) _)) ⟨_, rfl, Or.inr ⟨_, rfl⟩, rfl, rfl, rfl, Nat.le_of_ble_eq_true rfl, fun h => absurd h (by decide)⟩ ?_
      rintro _ s' ⟨rfl, e'⟩
      rw [e']
      clear e' s'
      refine ck_go_run 3 (X1 := (3, [some (.inr (c, 3, 0)), some (.inl x), some (.inl y), some (.inl z), some (.inl (v + 1)), some (.inl ((x * 4) + v)), some (.inl (ck_hc (ck_va f v) (ck_sz f v) 0))], [], ck_up s (c + 3) ((x * 4) + v) (ck_mn (ck_hi f x v) (ck_bH (ck_hc (ck_va f v) (ck_sz f v) 0 + z - 1))))) (ps := [0 ≤ (x * 4) + v ∧ (x * 4) + v < ((40 : Nat) : Int)]) rfl ⟨⟨by omega, by omega⟩, trivial⟩ ?_
      exact kk (some (.inl ((x * 4) + v)), some (.inl (ck_hc (ck_va f v) (ck_sz f v) 0)), none) _ ⟨by omega, by omega, ck_st1 (g := fun q => ck_mn (ck_hi f x q) (ck_bH ((if y = 10 then ck_hc (ck_va f q) (ck_sz f q) 0 else ck_hi f y q) + z - 1))) hI1 hI2 (by rw [if_pos h1]) h0⟩
    · refine ck_go_run 21 (X1 := (65, [some (.inr (c, 3, 0)), some (.inl x), some (.inl y), some (.inl z), some (.inl v), some (.inl ((x * 4) + v)), some (.inl (s (c + 3) ((y * 4) + v)))], [.inl (((s (c + 3) ((y * 4) + v)) + z) - 1), .inl (s (c + 3) ((x * 4) + v)), .inl ((x * 4) + v), .inr (c + 3, 0, 40)], s)) (ps := [0 ≤ (y * 4) + v ∧ (y * 4) + v < ((40 : Nat) : Int), 0 ≤ (x * 4) + v ∧ (x * 4) + v < ((40 : Nat) : Int)]) rfl ⟨⟨by omega, by omega⟩, ⟨by omega, by omega⟩, trivial⟩ ?_
      refine ck_go_cal (rest := [.inl (s (c + 3) ((x * 4) + v)), .inl ((x * 4) + v), .inr (c + 3, 0, 40)]) (ck_cal_le (by decide) (cx_bH (A := ck_hi f y v + z - 1) (by rw [hI1 _ _ (by omega), ck_x_hi hf (by omega) (by omega) h0 hv]) (ck_rgo (by omega) (by omega)) _)) ⟨_, rfl, Or.inr ⟨_, rfl⟩, rfl, rfl, rfl, Nat.le_of_ble_eq_true rfl, fun h => absurd h (by decide)⟩ ?_
      rintro _ s' ⟨rfl, e'⟩
      rw [e']
      clear e' s'
      refine ck_go_cal (rest := [.inl ((x * 4) + v), .inr (c + 3, 0, 40)]) (ck_cal_le (by decide) (cx_mn (A := ck_hi f x v) (B := ck_bH (ck_hi f y v + z - 1)) e3 rfl (ck_rgo (by omega) (by omega)) (ck_rg_bH (ck_rgo (by omega) (by omega))) _)) ⟨_, rfl, Or.inr ⟨_, rfl⟩, rfl, rfl, rfl, Nat.le_of_ble_eq_true rfl, fun h => absurd h (by decide)⟩ ?_
      rintro _ s' ⟨rfl, e'⟩
      rw [e']
      clear e' s'
      refine ck_go_run 3 (X1 := (3, [some (.inr (c, 3, 0)), some (.inl x), some (.inl y), some (.inl z), some (.inl (v + 1)), some (.inl ((x * 4) + v)), some (.inl (s (c + 3) ((y * 4) + v)))], [], ck_up s (c + 3) ((x * 4) + v) (ck_mn (ck_hi f x v) (ck_bH (ck_hi f y v + z - 1))))) (ps := [0 ≤ (x * 4) + v ∧ (x * 4) + v < ((40 : Nat) : Int)]) rfl ⟨⟨by omega, by omega⟩, trivial⟩ ?_
      exact kk (some (.inl ((x * 4) + v)), some (.inl (s (c + 3) ((y * 4) + v))), none) _ ⟨by omega, by omega, ck_st1 (g := fun q => ck_mn (ck_hi f x q) (ck_bH ((if y = 10 then ck_hc (ck_va f q) (ck_sz f q) 0 else ck_hi f y q) + z - 1))) hI1 hI2 (by rw [if_neg h1]) h0⟩
  · obtain ⟨h0, h4, hI1, hI2⟩ := hI
    refine ck_go_run 3 (X1 := (if v < 4 then 9 else 78, [some (.inr (c, 3, 0)), some (.inl x), some (.inl y), some (.inl z), some (.inl v), u.1, u.2.1], [], s)) (ps := [ck_rg v, ck_rg 4]) rfl ⟨(ck_rgo (by omega) (by omega)), (ck_rgo (by omega) (by omega)), trivial⟩ ?_
    refine ck_go_f (by omega) ?_
    refine ck_go_run 3 (X1 := (if y = 10 then 112 else 84, [some (.inr (c, 3, 0)), some (.inl x), some (.inl y), some (.inl z), some (.inl v), u.1, u.2.1], [], s)) (ps := [ck_rg y, ck_rg 10]) rfl ⟨(ck_rgo (by omega) (by omega)), (ck_rgo (by omega) (by omega)), trivial⟩ ?_
    refine ck_go_ite (fun h2 => ?_) (fun h2 => ?_)
    · refine ck_eV ⟨rfl, ?_, ?_⟩ rfl rfl rfl
      · intro b j hb
        exact hI1 b j (by omega)
      · unfold ck_dBel
        refine ck_N_ext (fun n a0 a1 => ?_) (fun n a0 a1 => ?_) (fun n q a0 a1 b0 b1 => ?_) (fun q b0 b1 => ?_) (fun q b0 b1 => ?_) (fun q b0 b1 => ?_)
        · rw [← ck_x_kn hf a0 a1, hI1 (c + 1) n (by omega)]
        · rw [if_neg (by omega), ← ck_x_lo hf a0 a1, hI1 (c + 2) n (by omega)]
        · by_cases hn : n = x
          · subst hn
            rw [if_pos rfl, hI2 q b0 (by omega)]
            rfl
          · rw [if_neg hn, ← ck_x_hi hf a0 a1 b0 b1, hI1 (c + 3) (n * 4 + q) (by omega)]
        · rw [← ck_x_va hf b0 b1, hI1 (c + 4) q (by omega)]
        · rw [← ck_x_sz hf b0 b1, hI1 (c + 5) q (by omega)]
        · rw [← ck_x_th hf b0 b1, hI1 (c + 6) q (by omega)]
    · refine ck_go_run 15 (X1 := (105, [some (.inr (c, 3, 0)), some (.inl x), some (.inl y), some (.inl z), some (.inl v), u.1, u.2.1], [.inl (((s (c + 2) x) + 1) - z), .inl (s (c + 2) y), .inl y, .inr (c + 2, 0, 10)], s)) (ps := [0 ≤ y ∧ y < ((10 : Nat) : Int), 0 ≤ x ∧ x < ((10 : Nat) : Int)]) rfl ⟨⟨by omega, by omega⟩, ⟨by omega, by omega⟩, trivial⟩ ?_
      refine ck_go_cal (rest := [.inl (s (c + 2) y), .inl y, .inr (c + 2, 0, 10)]) (ck_cal_le (by decide) (cx_bL (A := ck_lo f x + 1 - z) (by rw [hI1 _ _ (by omega), ck_x_lo hf hx.1 hx.2]) (ck_rgo (by omega) (by omega)) _)) ⟨_, rfl, Or.inr ⟨_, rfl⟩, rfl, rfl, rfl, Nat.le_of_ble_eq_true rfl, fun h => absurd h (by decide)⟩ ?_
      rintro _ s' ⟨rfl, e'⟩
      rw [e']
      clear e' s'
      refine ck_go_cal (rest := [.inl y, .inr (c + 2, 0, 10)]) (ck_cal_le (by decide) (cx_mx (A := ck_lo f y) (B := ck_bL (ck_lo f x + 1 - z)) (by rw [hI1 _ _ (by omega), ck_x_lo hf (by omega) (by omega)]) rfl (ck_rgo (by omega) (by omega)) (ck_rg_bL (ck_rgo (by omega) (by omega))) _)) ⟨_, rfl, Or.inr ⟨_, rfl⟩, rfl, rfl, rfl, Nat.le_of_ble_eq_true rfl, fun h => absurd h (by decide)⟩ ?_
      rintro _ s' ⟨rfl, e'⟩
      rw [e']
      clear e' s'
      refine ck_go_run 1 (X1 := (112, [some (.inr (c, 3, 0)), some (.inl x), some (.inl y), some (.inl z), some (.inl v), u.1, u.2.1], [], ck_up s (c + 2) y (ck_mx (ck_lo f y) (ck_bL (ck_lo f x + 1 - z))))) (ps := [0 ≤ y ∧ y < ((10 : Nat) : Int)]) rfl ⟨⟨by omega, by omega⟩, trivial⟩ ?_
      refine ck_eV ⟨rfl, ?_, ?_⟩ rfl rfl rfl
      · intro b j hb
        simp only [ck_up, true_and]
        rw [if_neg (by omega)]
        exact hI1 b j (by omega)
      · unfold ck_dBel
        refine ck_N_ext (fun n a0 a1 => ?_) (fun n a0 a1 => ?_) (fun n q a0 a1 b0 b1 => ?_) (fun q b0 b1 => ?_) (fun q b0 b1 => ?_) (fun q b0 b1 => ?_)
        · simp only [ck_up, true_and]
          rw [if_neg (by omega)]
          rw [← ck_x_kn hf a0 a1, hI1 (c + 1) n (by omega)]
        · simp only [ck_up, true_and]
          by_cases hn : n = y
          · rw [if_pos hn, if_pos hn]
          · rw [if_neg hn, if_neg hn, ← ck_x_lo hf a0 a1, hI1 (c + 2) n (by omega)]
        · simp only [ck_up, true_and]
          rw [if_neg (by omega)]
          by_cases hn : n = x
          · subst hn
            rw [if_pos rfl, hI2 q b0 (by omega)]
            rfl
          · rw [if_neg hn, ← ck_x_hi hf a0 a1 b0 b1, hI1 (c + 3) (n * 4 + q) (by omega)]
        · simp only [ck_up, true_and]
          rw [if_neg (by omega)]
          rw [← ck_x_va hf b0 b1, hI1 (c + 4) q (by omega)]
        · simp only [ck_up, true_and]
          rw [if_neg (by omega)]
          rw [← ck_x_sz hf b0 b1, hI1 (c + 5) q (by omega)]
        · simp only [ck_up, true_and]
          rw [if_neg (by omega)]
          rw [← ck_x_th hf b0 b1, hI1 (c + 6) q (by omega)]
def ck_dNot (x y z : Int) (f : ck_D) : ck_D := ck_N (ck_kn f) (fun n => if n = x then ck_mx (ck_lo f x) (ck_bL ((if y = 10 then 0 else ck_lo f y) + z)) else ck_lo f n) (fun n q => if n = y then ck_mn (ck_hi f y q) (ck_bH (ck_hi f x q - z)) else ck_hi f n q) (ck_va f) (ck_sz f) (ck_th f)
theorem cx_assumeNotBelow {c x y z : Int} (hx : 0 ≤ x ∧ x < 10) (hy : 0 ≤ y ∧ y ≤ 10) (hz : -1000 ≤ z ∧ z ≤ 1000) {σ : ck_M} {f : ck_D} (hf : ck_rd σ c = f) (hB : ck_fb f) : ck_cal 2 cm_Fa_assumeNotBelow [.inr (c, 3, 0), .inl x, .inl y, .inl z] σ (fun q σ' => q = none ∧ ck_f6 σ σ' c ∧ ck_rd σ' c = ck_dNot x y z f) := by
  refine ck_cal_of ?_
  have bl := hB.2.1 x
  have bly := hB.2.1 y
  refine ck_go_run 10 (X1 := (if y = 10 then 17 else 21, [some (.inr (c, 3, 0)), some (.inl x), some (.inl y), some (.inl z), none, none], [.inl (σ (c + 2) x), .inl x, .inr (c + 2, 0, 10)], σ)) (ps := [0 ≤ x ∧ x < ((10 : Nat) : Int), ck_rg y, ck_rg 10]) rfl ⟨⟨by omega, by omega⟩, (ck_rgo (by omega) (by omega)), (ck_rgo (by omega) (by omega)), trivial⟩ ?_
  refine ck_go_ite (fun h1 => ?_) (fun h1 => ?_)
  · refine ck_go_run 4 (X1 := (29, [some (.inr (c, 3, 0)), some (.inl x), some (.inl y), some (.inl z), none, none], [.inl (0 + z), .inl (σ (c + 2) x), .inl x, .inr (c + 2, 0, 10)], σ)) (ps := []) rfl trivial ?_
    refine ck_go_cal (rest := [.inl (σ (c + 2) x), .inl x, .inr (c + 2, 0, 10)]) (ck_cal_le (by decide) (cx_bL (A := 0 + z) rfl (ck_rgo (by omega) (by omega)) _)) ⟨_, rfl, Or.inr ⟨_, rfl⟩, rfl, rfl, rfl, Nat.le_of_ble_eq_true rfl, fun h => absurd h (by decide)⟩ ?_
    rintro _ s' ⟨rfl, e'⟩
    rw [e']
    clear e' s'
    refine ck_go_cal (rest := [.inl x, .inr (c + 2, 0, 10)]) (ck_cal_le (by decide) (cx_mx (A := ck_lo f x) (B := ck_bL (0 + z)) (ck_x_lo hf hx.1 hx.2) rfl (ck_rgo (by omega) (by omega)) (ck_rg_bL (ck_rgo (by omega) (by omega))) _)) ⟨_, rfl, Or.inr ⟨_, rfl⟩, rfl, rfl, rfl, Nat.le_of_ble_eq_true rfl, fun h => absurd h (by decide)⟩ ?_
    rintro _ s' ⟨rfl, e'⟩
    rw [e']
    clear e' s'
    refine ck_go_run 4 (X1 := (if y = 10 then 98 else 42, [some (.inr (c, 3, 0)), some (.inl x), some (.inl y), some (.inl z), none, none], [], ck_up σ (c + 2) x (ck_mx (ck_lo f x) (ck_bL (0 + z))))) (ps := [0 ≤ x ∧ x < ((10 : Nat) : Int), ck_rg y, ck_rg 10]) rfl ⟨⟨by omega, by omega⟩, (ck_rgo (by omega) (by omega)), (ck_rgo (by omega) (by omega)), trivial⟩ ?_
    refine ck_go_ite (fun h2 => ?_) (fun h2 => ?_)
    · refine ck_eV ⟨rfl, ?_, ?_⟩ rfl rfl rfl
      · intro b j hb
        simp only [ck_up]
        (repeat' split) <;> first | rfl | omega
      · unfold ck_dNot
        refine ck_N_ext (fun n a0 a1 => ?_) (fun n a0 a1 => ?_) (fun n q a0 a1 b0 b1 => ?_) (fun q b0 b1 => ?_) (fun q b0 b1 => ?_) (fun q b0 b1 => ?_)
        · rw [← ck_x_kn hf a0 a1]
          simp only [ck_up, true_and]
          (repeat' split) <;> first | rfl | omega
        · simp only [ck_up, true_and]
          by_cases hn : n = x
          · rw [if_pos hn, if_pos hn]
            rw [if_pos (by omega)] <;> omega
          · rw [if_neg hn, if_neg hn, ← ck_x_lo hf a0 a1]
        · rw [if_neg (by omega), ← ck_x_hi hf a0 a1 b0 b1]
          simp only [ck_up]
          (repeat' split) <;> first | rfl | omega
        · rw [← ck_x_va hf b0 b1]
          simp only [ck_up, true_and]
          (repeat' split) <;> first | rfl | omega
        · rw [← ck_x_sz hf b0 b1]
          simp only [ck_up, true_and]
          (repeat' split) <;> first | rfl | omega
        · rw [← ck_x_th hf b0 b1]
          simp only [ck_up, true_and]
          (repeat' split) <;> first | rfl | omega
    · refine ck_go_run 2 (X1 := (45, [some (.inr (c, 3, 0)), some (.inl x), some (.inl y), some (.inl z), some (.inl 0), none], [], ck_up σ (c + 2) x (ck_mx (ck_lo f x) (ck_bL (0 + z))))) (ps := []) rfl trivial ?_
      refine ck_forU 45 (fun v u => [some (.inr (c, 3, 0)), some (.inl x), some (.inl y), some (.inl z), some (.inl v), u.1]) 4 (fun v s => 0 ≤ v ∧ v ≤ 4 ∧ (∀ b j, (b ≠ c + 3 ∨ j < y * 4 ∨ y * 4 + v ≤ j) → s b j = (ck_up σ (c + 2) x (ck_mx (ck_lo f x) (ck_bL (0 + z)))) b j) ∧ ∀ q, 0 ≤ q → q < v → s (c + 3) (y * 4 + q) = ck_mn (ck_hi f y q) (ck_bH (ck_hi f x q - z))) (fun v u s hv hI kk => ?_) (fun v u s hv hI => ?_) 0 (none, none, none) _ ⟨by omega, by omega, fun _ _ _ => rfl, fun _ _ _ => by omega⟩
      · obtain ⟨h0, h4, hI1, hI2⟩ := hI
        have e3 : s (c + 3) (y * 4 + v) = ck_hi f y v := by
          rw [← ck_x_hi hf (by omega) (by omega) h0 hv, hI1 _ _ (by omega)]
          simp only [ck_up]
          rw [if_neg (by omega)]
        have e3x : s (c + 3) (x * 4 + v) = ck_hi f x v := by
          rw [← ck_x_hi hf hx.1 hx.2 h0 hv, hI1 _ _ (by omega)]
          simp only [ck_up]
          rw [if_neg (by omega)]
        have b3 := hB.2.2.1 x v
        have b3y := hB.2.2.1 y v
        refine ck_go_run 3 (X1 := (if v < 4 then 51 else 98, [some (.inr (c, 3, 0)), some (.inl x), some (.inl y), some (.inl z), some (.inl v), u.1], [], s)) (ps := [ck_rg v, ck_rg 4]) rfl ⟨(ck_rgo (by omega) (by omega)), (ck_rgo (by omega) (by omega)), trivial⟩ ?_
        refine ck_go_t hv ?_
        refine ck_go_run 23 (X1 := (85, [some (.inr (c, 3, 0)), some (.inl x), some (.inl y), some (.inl z), some (.inl v), some (.inl ((y * 4) + v))], [.inl ((s (c + 3) ((x * 4) + v)) - z), .inl (s (c + 3) ((y * 4) + v)), .inl ((y * 4) + v), .inr (c + 3, 0, 40)], s)) (ps := [0 ≤ (y * 4) + v ∧ (y * 4) + v < ((40 : Nat) : Int), 0 ≤ (x * 4) + v ∧ (x * 4) + v < ((40 : Nat) : Int)]) rfl ⟨⟨by omega, by omega⟩, ⟨by omega, by omega⟩, trivial⟩ ?_
        refine ck_go_cal (rest := [.inl (s (c + 3) ((y * 4) + v)), .inl ((y * 4) + v), .inr (c + 3, 0, 40)]) (ck_cal_le (by decide) (cx_bH (A := ck_hi f x v - z) (by rw [e3x]) (ck_rgo (by omega) (by omega)) _)) ⟨_, rfl, Or.inr ⟨_, rfl⟩, rfl, rfl, rfl, Nat.le_of_ble_eq_true rfl, fun h => absurd h (by decide)⟩ ?_
        rintro _ s' ⟨rfl, e'⟩
        rw [e']
        clear e' s'
        refine ck_go_cal (rest := [.inl ((y * 4) + v), .inr (c + 3, 0, 40)]) (ck_cal_le (by decide) (cx_mn (A := ck_hi f y v) (B := ck_bH (ck_hi f x v - z)) e3 rfl (ck_rgo (by omega) (by omega)) (ck_rg_bH (ck_rgo (by omega) (by omega))) _)) ⟨_, rfl, Or.inr ⟨_, rfl⟩, rfl, rfl, rfl, Nat.le_of_ble_eq_true rfl, fun h => absurd h (by decide)⟩ ?_
        rintro _ s' ⟨rfl, e'⟩
        rw [e']
        clear e' s'
        refine ck_go_run 3 (X1 := (45, [some (.inr (c, 3, 0)), some (.inl x), some (.inl y), some (.inl z), some (.inl (v + 1)), some (.inl ((y * 4) + v))], [], ck_up s (c + 3) ((y * 4) + v) (ck_mn (ck_hi f y v) (ck_bH (ck_hi f x v - z))))) (ps := [0 ≤ (y * 4) + v ∧ (y * 4) + v < ((40 : Nat) : Int)]) rfl ⟨⟨by omega, by omega⟩, trivial⟩ ?_
        exact kk (some (.inl ((y * 4) + v)), none, none) _ ⟨by omega, by omega, ck_st1 (g := fun q => ck_mn (ck_hi f y q) (ck_bH (ck_hi f x q - z))) hI1 hI2 rfl h0⟩
      · obtain ⟨h0, h4, hI1, hI2⟩ := hI
        refine ck_go_run 3 (X1 := (if v < 4 then 51 else 98, [some (.inr (c, 3, 0)), some (.inl x), some (.inl y), some (.inl z), some (.inl v), u.1], [], s)) (ps := [ck_rg v, ck_rg 4]) rfl ⟨(ck_rgo (by omega) (by omega)), (ck_rgo (by omega) (by omega)), trivial⟩ ?_
        refine ck_go_f (by omega) ?_
        refine ck_eV ⟨rfl, ?_, ?_⟩ rfl rfl rfl
        · intro b j hb
          rw [hI1 b j (by omega)]
          simp only [ck_up]
          (repeat' split) <;> first | rfl | omega
        · unfold ck_dNot
          refine ck_N_ext (fun n a0 a1 => ?_) (fun n a0 a1 => ?_) (fun n q a0 a1 b0 b1 => ?_) (fun q b0 b1 => ?_) (fun q b0 b1 => ?_) (fun q b0 b1 => ?_)
          · rw [← ck_x_kn hf a0 a1, hI1 (c + 1) n (by omega)]
            simp only [ck_up, true_and]
            (repeat' split) <;> first | rfl | omega
          · rw [hI1 (c + 2) n (by omega)]
            simp only [ck_up, true_and]
            by_cases hn : n = x
            · rw [if_pos hn, if_pos hn]
              rw [if_neg (by omega)] <;> omega
            · rw [if_neg hn, if_neg hn, ← ck_x_lo hf a0 a1]
          · by_cases hn : n = y
            · subst hn
              rw [if_pos rfl, hI2 q b0 (by omega)]
            · rw [if_neg hn, ← ck_x_hi hf a0 a1 b0 b1, hI1 (c + 3) (n * 4 + q) (by omega)]
              simp only [ck_up]
              (repeat' split) <;> first | rfl | omega
          · rw [← ck_x_va hf b0 b1, hI1 (c + 4) q (by omega)]
            simp only [ck_up, true_and]
            (repeat' split) <;> first | rfl | omega
          · rw [← ck_x_sz hf b0 b1, hI1 (c + 5) q (by omega)]
            simp only [ck_up, true_and]
            (repeat' split) <;> first | rfl | omega
          · rw [← ck_x_th hf b0 b1, hI1 (c + 6) q (by omega)]
            simp only [ck_up, true_and]
            (repeat' split) <;> first | rfl | omega
  · refine ck_go_run 6 (X1 := (29, [some (.inr (c, 3, 0)), some (.inl x), some (.inl y), some (.inl z), none, none], [.inl ((σ (c + 2) y) + z), .inl (σ (c + 2) x), .inl x, .inr (c + 2, 0, 10)], σ)) (ps := [0 ≤ y ∧ y < ((10 : Nat) : Int)]) rfl ⟨⟨by omega, by omega⟩, trivial⟩ ?_
    refine ck_go_cal (rest := [.inl (σ (c + 2) x), .inl x, .inr (c + 2, 0, 10)]) (ck_cal_le (by decide) (cx_bL (A := ck_lo f y + z) (by rw [ck_x_lo hf (by omega) (by omega)]) (ck_rgo (by omega) (by omega)) _)) ⟨_, rfl, Or.inr ⟨_, rfl⟩, rfl, rfl, rfl, Nat.le_of_ble_eq_true rfl, fun h => absurd h (by decide)⟩ ?_
    rintro _ s' ⟨rfl, e'⟩
    rw [e']
    clear e' s'
    refine ck_go_cal (rest := [.inl x, .inr (c + 2, 0, 10)]) (ck_cal_le (by decide) (cx_mx (A := ck_lo f x) (B := ck_bL (ck_lo f y + z)) (ck_x_lo hf hx.1 hx.2) rfl (ck_rgo (by omega) (by omega)) (ck_rg_bL (ck_rgo (by omega) (by omega))) _)) ⟨_, rfl, Or.inr ⟨_, rfl⟩, rfl, rfl, rfl, Nat.le_of_ble_eq_true rfl, fun h => absurd h (by decide)⟩ ?_
    rintro _ s' ⟨rfl, e'⟩
    rw [e']
    clear e' s'
    refine ck_go_run 4 (X1 := (if y = 10 then 98 else 42, [some (.inr (c, 3, 0)), some (.inl x), some (.inl y), some (.inl z), none, none], [], ck_up σ (c + 2) x (ck_mx (ck_lo f x) (ck_bL (ck_lo f y + z))))) (ps := [0 ≤ x ∧ x < ((10 : Nat) : Int), ck_rg y, ck_rg 10]) rfl ⟨⟨by omega, by omega⟩, (ck_rgo (by omega) (by omega)), (ck_rgo (by omega) (by omega)), trivial⟩ ?_
    refine ck_go_ite (fun h3 => ?_) (fun h3 => ?_)
    · refine ck_eV ⟨rfl, ?_, ?_⟩ rfl rfl rfl
      · intro b j hb
        simp only [ck_up]
        (repeat' split) <;> first | rfl | omega
      · unfold ck_dNot
        refine ck_N_ext (fun n a0 a1 => ?_) (fun n a0 a1 => ?_) (fun n q a0 a1 b0 b1 => ?_) (fun q b0 b1 => ?_) (fun q b0 b1 => ?_) (fun q b0 b1 => ?_)
        · rw [← ck_x_kn hf a0 a1]
          simp only [ck_up, true_and]
          (repeat' split) <;> first | rfl | omega
        · simp only [ck_up, true_and]
          by_cases hn : n = x
          · rw [if_pos hn, if_pos hn]
            rw [if_pos (by omega)] <;> omega
          · rw [if_neg hn, if_neg hn, ← ck_x_lo hf a0 a1]
        · rw [if_neg (by omega), ← ck_x_hi hf a0 a1 b0 b1]
          simp only [ck_up]
          (repeat' split) <;> first | rfl | omega
        · rw [← ck_x_va hf b0 b1]
          simp only [ck_up, true_and]
          (repeat' split) <;> first | rfl | omega
        · rw [← ck_x_sz hf b0 b1]
          simp only [ck_up, true_and]
          (repeat' split) <;> first | rfl | omega
        · rw [← ck_x_th hf b0 b1]
          simp only [ck_up, true_and]
          (repeat' split) <;> first | rfl | omega
    · refine ck_go_run 2 (X1 := (45, [some (.inr (c, 3, 0)), some (.inl x), some (.inl y), some (.inl z), some (.inl 0), none], [], ck_up σ (c + 2) x (ck_mx (ck_lo f x) (ck_bL (ck_lo f y + z))))) (ps := []) rfl trivial ?_
      refine ck_forU 45 (fun v u => [some (.inr (c, 3, 0)), some (.inl x), some (.inl y), some (.inl z), some (.inl v), u.1]) 4 (fun v s => 0 ≤ v ∧ v ≤ 4 ∧ (∀ b j, (b ≠ c + 3 ∨ j < y * 4 ∨ y * 4 + v ≤ j) → s b j = (ck_up σ (c + 2) x (ck_mx (ck_lo f x) (ck_bL (ck_lo f y + z)))) b j) ∧ ∀ q, 0 ≤ q → q < v → s (c + 3) (y * 4 + q) = ck_mn (ck_hi f y q) (ck_bH (ck_hi f x q - z))) (fun v u s hv hI kk => ?_) (fun v u s hv hI => ?_) 0 (none, none, none) _ ⟨by omega, by omega, fun _ _ _ => rfl, fun _ _ _ => by omega⟩
      · obtain ⟨h0, h4, hI1, hI2⟩ := hI
        have e3 : s (c + 3) (y * 4 + v) = ck_hi f y v := by
          rw [← ck_x_hi hf (by omega) (by omega) h0 hv, hI1 _ _ (by omega)]
          simp only [ck_up]
          rw [if_neg (by omega)]
        have e3x : s (c + 3) (x * 4 + v) = ck_hi f x v := by
          rw [← ck_x_hi hf hx.1 hx.2 h0 hv, hI1 _ _ (by omega)]
          simp only [ck_up]
          rw [if_neg (by omega)]
        have b3 := hB.2.2.1 x v
        have b3y := hB.2.2.1 y v
        refine ck_go_run 3 (X1 := (if v < 4 then 51 else 98, [some (.inr (c, 3, 0)), some (.inl x), some (.inl y), some (.inl z), some (.inl v), u.1], [], s)) (ps := [ck_rg v, ck_rg 4]) rfl ⟨(ck_rgo (by omega) (by omega)), (ck_rgo (by omega) (by omega)), trivial⟩ ?_
        refine ck_go_t hv ?_
        refine ck_go_run 23 (X1 := (85, [some (.inr (c, 3, 0)), some (.inl x), some (.inl y), some (.inl z), some (.inl v), some (.inl ((y * 4) + v))], [.inl ((s (c + 3) ((x * 4) + v)) - z), .inl (s (c + 3) ((y * 4) + v)), .inl ((y * 4) + v), .inr (c + 3, 0, 40)], s)) (ps := [0 ≤ (y * 4) + v ∧ (y * 4) + v < ((40 : Nat) : Int), 0 ≤ (x * 4) + v ∧ (x * 4) + v < ((40 : Nat) : Int)]) rfl ⟨⟨by omega, by omega⟩, ⟨by omega, by omega⟩, trivial⟩ ?_
        refine ck_go_cal (rest := [.inl (s (c + 3) ((y * 4) + v)), .inl ((y * 4) + v), .inr (c + 3, 0, 40)]) (ck_cal_le (by decide) (cx_bH (A := ck_hi f x v - z) (by rw [e3x]) (ck_rgo (by omega) (by omega)) _)) ⟨_, rfl, Or.inr ⟨_, rfl⟩, rfl, rfl, rfl, Nat.le_of_ble_eq_true rfl, fun h => absurd h (by decide)⟩ ?_
        rintro _ s' ⟨rfl, e'⟩
        rw [e']
        clear e' s'
        refine ck_go_cal (rest := [.inl ((y * 4) + v), .inr (c + 3, 0, 40)]) (ck_cal_le (by decide) (cx_mn (A := ck_hi f y v) (B := ck_bH (ck_hi f x v - z)) e3 rfl (ck_rgo (by omega) (by omega)) (ck_rg_bH (ck_rgo (by omega) (by omega))) _)) ⟨_, rfl, Or.inr ⟨_, rfl⟩, rfl, rfl, rfl, Nat.le_of_ble_eq_true rfl, fun h => absurd h (by decide)⟩ ?_
        rintro _ s' ⟨rfl, e'⟩
        rw [e']
        clear e' s'
        refine ck_go_run 3 (X1 := (45, [some (.inr (c, 3, 0)), some (.inl x), some (.inl y), some (.inl z), some (.inl (v + 1)), some (.inl ((y * 4) + v))], [], ck_up s (c + 3) ((y * 4) + v) (ck_mn (ck_hi f y v) (ck_bH (ck_hi f x v - z))))) (ps := [0 ≤ (y * 4) + v ∧ (y * 4) + v < ((40 : Nat) : Int)]) rfl ⟨⟨by omega, by omega⟩, trivial⟩ ?_
        exact kk (some (.inl ((y * 4) + v)), none, none) _ ⟨by omega, by omega, ck_st1 (g := fun q => ck_mn (ck_hi f y q) (ck_bH (ck_hi f x q - z))) hI1 hI2 rfl h0⟩
      · obtain ⟨h0, h4, hI1, hI2⟩ := hI
        refine ck_go_run 3 (X1 := (if v < 4 then 51 else 98, [some (.inr (c, 3, 0)), some (.inl x), some (.inl y), some (.inl z), some (.inl v), u.1], [], s)) (ps := [ck_rg v, ck_rg 4]) rfl ⟨(ck_rgo (by omega) (by omega)), (ck_rgo (by omega) (by omega)), trivial⟩ ?_
        refine ck_go_f (by omega) ?_
        refine ck_eV ⟨rfl, ?_, ?_⟩ rfl rfl rfl
        · intro b j hb
          rw [hI1 b j (by omega)]
          simp only [ck_up]
          (repeat' split) <;> first | rfl | omega
        · unfold ck_dNot
          refine ck_N_ext (fun n a0 a1 => ?_) (fun n a0 a1 => ?_) (fun n q a0 a1 b0 b1 => ?_) (fun q b0 b1 => ?_) (fun q b0 b1 => ?_) (fun q b0 b1 => ?_)
          · rw [← ck_x_kn hf a0 a1, hI1 (c + 1) n (by omega)]
            simp only [ck_up, true_and]
            (repeat' split) <;> first | rfl | omega
          · rw [hI1 (c + 2) n (by omega)]
            simp only [ck_up, true_and]
            by_cases hn : n = x
            · rw [if_pos hn, if_pos hn]
              rw [if_neg (by omega)] <;> omega
            · rw [if_neg hn, if_neg hn, ← ck_x_lo hf a0 a1]
          · by_cases hn : n = y
            · subst hn
              rw [if_pos rfl, hI2 q b0 (by omega)]
            · rw [if_neg hn, ← ck_x_hi hf a0 a1 b0 b1, hI1 (c + 3) (n * 4 + q) (by omega)]
              simp only [ck_up]
              (repeat' split) <;> first | rfl | omega
          · rw [← ck_x_va hf b0 b1, hI1 (c + 4) q (by omega)]
            simp only [ck_up, true_and]
            (repeat' split) <;> first | rfl | omega
          · rw [← ck_x_sz hf b0 b1, hI1 (c + 5) q (by omega)]
            simp only [ck_up, true_and]
            (repeat' split) <;> first | rfl | omega
          · rw [← ck_x_th hf b0 b1, hI1 (c + 6) q (by omega)]
            simp only [ck_up, true_and]
            (repeat' split) <;> first | rfl | omega
