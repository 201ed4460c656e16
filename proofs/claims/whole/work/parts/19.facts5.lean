def ck_dNew (a y k : Int) (f : ck_D) : ck_D := ck_N (ck_kn f) (fun n => if n = y then ck_mx (ck_lo f y) 0 else ck_lo f n) (fun n q => if q = a then (if n = y then 0 else if ck_kn f n = 1000000000 then 1000000000 else ck_bH (if ck_kn f y = 1000000000 then ck_kn f n else ck_kn f n - ck_kn f y)) else ck_hi f n q) (fun q => if q = a then 1 + k else ck_va f q) (fun q => if q = a then ck_kn f y else ck_sz f q) (fun q => if q = a then 1 else ck_th f q)
theorem cx_setNew {c a y k : Int} (ha : 0 ≤ a ∧ a < 4) (hy : 0 ≤ y ∧ y < 10) (hk : 0 ≤ k ∧ k < 64) {σ : ck_M} {f : ck_D} (hf : ck_rd σ c = f) (hB : ck_fb f) : ck_cal 3 cm_Fa_setNew [.inr (c, 3, 0), .inl a, .inl y, .inl k] σ (fun q σ' => q = none ∧ ck_f6 σ σ' c ∧ ck_rd σ' c = ck_dNew a y k f) := by
  refine ck_cal_of ?_
  have bl := hB.2.1 y
  refine ck_go_run 8 (X1 := (12, [some (.inr (c, 3, 0)), some (.inl a), some (.inl y), some (.inl k), none], [.inl 0, .inl (σ (c + 2) y), .inl y, .inr (c + 2, 0, 10)], σ)) (ps := [0 ≤ y ∧ y < ((10 : Nat) : Int)]) rfl ⟨⟨by omega, by omega⟩, trivial⟩ ?_
  refine ck_go_cal (rest := [.inl y, .inr (c + 2, 0, 10)]) (ck_cal_le (by decide) (cx_mx (A := ck_lo f y) (B := 0) (ck_x_lo hf hy.1 hy.2) rfl (ck_rgo (by omega) (by omega)) (ck_rgo (by omega) (by omega)) _)) ⟨_, rfl, Or.inr ⟨_, rfl⟩, rfl, rfl, rfl, Nat.le_of_ble_eq_true rfl, fun h => absurd h (by decide)⟩ ?_
  rintro _ s' ⟨rfl, e'⟩
  rw [e']
  clear e' s'
  refine ck_go_run 23 (X1 := (47, [some (.inr (c, 3, 0)), some (.inl a), some (.inl y), some (.inl k), some (.inl 0)], [], ck_up (ck_up (ck_up (ck_up σ (c + 2) y (ck_mx (ck_lo f y) 0)) (c + 4) a (1 + k)) (c + 5) a ((ck_up (ck_up σ (c + 2) y (ck_mx (ck_lo f y) 0)) (c + 4) a (1 + k)) (c + 1) y)) (c + 6) a 1)) (ps := [0 ≤ y ∧ y < ((10 : Nat) : Int), 0 ≤ a ∧ a < ((4 : Nat) : Int), 0 ≤ y ∧ y < ((10 : Nat) : Int), 0 ≤ a ∧ a < ((4 : Nat) : Int), 0 ≤ a ∧ a < ((4 : Nat) : Int), 1 = 0 ∨ 1 = 1]) rfl ⟨⟨by omega, by omega⟩, ⟨by omega, by omega⟩, ⟨by omega, by omega⟩, ⟨by omega, by omega⟩, ⟨by omega, by omega⟩, Or.inr rfl, trivial⟩ ?_
  refine ck_for 47 (fun v => [some (.inr (c, 3, 0)), some (.inl a), some (.inl y), some (.inl k), some (.inl v)]) 10 (fun v s => 0 ≤ v ∧ v ≤ 10 ∧ (∀ b j, (b ≠ c + 3 ∨ j < a ∨ v * 4 + a ≤ j ∨ (j - a) % 4 ≠ 0) → s b j = (ck_up (ck_up (ck_up (ck_up σ (c + 2) y (ck_mx (ck_lo f y) 0)) (c + 4) a (1 + k)) (c + 5) a ((ck_up (ck_up σ (c + 2) y (ck_mx (ck_lo f y) 0)) (c + 4) a (1 + k)) (c + 1) y)) (c + 6) a 1) b j) ∧ ∀ q, 0 ≤ q → q < v → s (c + 3) (q * 4 + a) = (if ck_kn f q = 1000000000 then 1000000000 else ck_hc (1 + k) (ck_kn f y) (ck_kn f q))) (fun v s hv hI kk => ?_) (fun v s hv hI => ?_) 0 _ ⟨by omega, by omega, fun _ _ _ => rfl, fun _ _ _ => by omega⟩
  · obtain ⟨h0, h4, hI1, hI2⟩ := hI
    have e1 : s (c + 1) (v) = ck_kn f v := by
      rw [hI1 (c + 1) (v) (by omega)]
      simp only [ck_up, true_and, if_true]
      rw [if_neg (by omega), if_neg (by omega), if_neg (by omega), if_neg (by omega), ck_x_kn hf h0 hv]
    have e4 : s (c + 4) (a) = 1 + k := by
      rw [hI1 (c + 4) (a) (by omega)]
      simp only [ck_up, true_and, if_true]
      rw [if_neg (by omega), if_neg (by omega)]
    have e5 : s (c + 5) a = ck_kn f y := by
      rw [hI1 (c + 5) a (by omega)]
      simp only [ck_up, true_and, if_true]
      rw [if_neg (by omega), if_neg (by omega), if_neg (by omega), ck_x_kn hf hy.1 hy.2]
    have b1 := hB.1 v
    have b1y := hB.1 y
    refine ck_go_run 3 (X1 := (if v < 10 then 54 else 100, [some (.inr (c, 3, 0)), some (.inl a), some (.inl y), some (.inl k), some (.inl v)], [], s)) (ps := [ck_rg v, ck_rg 10]) rfl ⟨(ck_rgo (by omega) (by omega)), (ck_rgo (by omega) (by omega)), trivial⟩ ?_
    refine ck_go_t hv ?_
    refine ck_go_run 13 (X1 := (if s (c + 1) v = 1000000000 then 76 else 81, [some (.inr (c, 3, 0)), some (.inl a), some (.inl y), some (.inl k), some (.inl v)], [.inl ((v * 4) + a), .inr (c + 3, 0, 40)], s)) (ps := [0 ≤ v ∧ v < ((10 : Nat) : Int), ck_rg (s (c + 1) v), ck_rg 1000000000]) rfl ⟨⟨by omega, by omega⟩, (ck_rgo (by omega) (by omega)), (ck_rgo (by omega) (by omega)), trivial⟩ ?_
    refine ck_go_ite (fun h1 => ?_) (fun h1 => ?_)
    · refine ck_go_run 5 (X1 := (47, [some (.inr (c, 3, 0)), some (.inl a), some (.inl y), some (.inl k), some (.inl (v + 1))], [], ck_up s (c + 3) ((v * 4) + a) 1000000000)) (ps := [0 ≤ (v * 4) + a ∧ (v * 4) + a < ((40 : Nat) : Int)]) rfl ⟨⟨by omega, by omega⟩, trivial⟩ ?_
      exact kk _ ⟨by omega, by omega, ck_st4 (g := fun q => (if ck_kn f q = 1000000000 then 1000000000 else ck_hc (1 + k) (ck_kn f y) (ck_kn f q))) hI1 hI2 (by rw [if_pos (e1 ▸ h1)]) h0⟩
    · refine ck_go_run 6 (X1 := (90, [some (.inr (c, 3, 0)), some (.inl a), some (.inl y), some (.inl k), some (.inl v)], [.inl a, .inl (s (c + 1) v), .inr (c, 3, 0), .inl ((v * 4) + a), .inr (c + 3, 0, 40)], s)) (ps := [0 ≤ v ∧ v < ((10 : Nat) : Int)]) rfl ⟨⟨by omega, by omega⟩, trivial⟩ ?_
      refine ck_go_cal (rest := [.inl ((v * 4) + a), .inr (c + 3, 0, 40)]) (ck_cal_le (by decide) (cx_hoc (c := c) (v := s (c + 1) v) (r := a) ha e4 e5 (by omega) (by omega) b1y)) ⟨_, rfl, Or.inl ⟨_, rfl⟩, rfl, rfl, rfl, Nat.le_of_ble_eq_true rfl, fun _ => ⟨_, _, rfl⟩⟩ ?_
      rintro _ s' ⟨rfl, e'⟩
      rw [e']
      clear e' s'
      refine ck_go_run 3 (X1 := (47, [some (.inr (c, 3, 0)), some (.inl a), some (.inl y), some (.inl k), some (.inl (v + 1))], [], ck_up s (c + 3) ((v * 4) + a) (ck_hc (1 + k) (ck_kn f y) (s (c + 1) v)))) (ps := [0 ≤ (v * 4) + a ∧ (v * 4) + a < ((40 : Nat) : Int)]) rfl ⟨⟨by omega, by omega⟩, trivial⟩ ?_
      exact kk _ ⟨by omega, by omega, ck_st4 (g := fun q => (if ck_kn f q = 1000000000 then 1000000000 else ck_hc (1 + k) (ck_kn f y) (ck_kn f q))) hI1 hI2 (by rw [if_neg (e1 ▸ h1), e1]) h0⟩
  · obtain ⟨h0, h4, hI1, hI2⟩ := hI
    refine ck_go_run 3 (X1 := (if v < 10 then 54 else 100, [some (.inr (c, 3, 0)), some (.inl a), some (.inl y), some (.inl k), some (.inl v)], [], s)) (ps := [ck_rg v, ck_rg 10]) rfl ⟨(ck_rgo (by omega) (by omega)), (ck_rgo (by omega) (by omega)), trivial⟩ ?_
    refine ck_go_f (by omega) ?_
    refine ck_go_run 9 (X1 := (111, [some (.inr (c, 3, 0)), some (.inl a), some (.inl y), some (.inl k), some (.inl v)], [], ck_up s (c + 3) ((y * 4) + a) 0)) (ps := [0 ≤ (y * 4) + a ∧ (y * 4) + a < ((40 : Nat) : Int)]) rfl ⟨⟨by omega, by omega⟩, trivial⟩ ?_
    refine ck_eV ⟨rfl, ?_, ?_⟩ rfl rfl rfl
    · intro b j hb
      simp only [ck_up]
      rw [if_neg (by omega), hI1 b j (by omega)]
      simp only [ck_up]
      (repeat' split) <;> first | rfl | omega
    · unfold ck_dNew
      refine ck_N_ext (fun n a0 a1 => ?_) (fun n a0 a1 => ?_) (fun n q a0 a1 b0 b1 => ?_) (fun q b0 b1 => ?_) (fun q b0 b1 => ?_) (fun q b0 b1 => ?_)
      · simp only [ck_up]
        rw [if_neg (by omega), ← ck_x_kn hf a0 a1, hI1 (c + 1) n (by omega)]
        simp only [ck_up, true_and]
        (repeat' split) <;> first | rfl | omega
      · simp only [ck_up]
        rw [if_neg (by omega), ← ck_x_lo hf a0 a1, hI1 (c + 2) n (by omega)]
        simp only [ck_up, true_and]
        (repeat' split) <;> first | rfl | omega
      · simp only [ck_up, true_and]
        by_cases hq : q = a
        · subst hq
          rw [if_pos rfl]
          by_cases hn : n = y
          · subst hn
            rw [if_pos rfl, if_pos rfl]
          · rw [if_neg (by omega), if_neg hn, hI2 n a0 (by omega)]
            simp only [ck_hc]
            rw [if_neg (by omega : ¬ (1 + k = 0))]
        · rw [if_neg (by omega), if_neg hq, ← ck_x_hi hf a0 a1 b0 b1, hI1 (c + 3) (n * 4 + q) (by omega)]
          simp only [ck_up]
          (repeat' split) <;> first | rfl | omega
      · simp only [ck_up]
        rw [if_neg (by omega), ← ck_x_va hf b0 b1, hI1 (c + 4) q (by omega)]
        simp only [ck_up, true_and]
        (repeat' split) <;> first | rfl | omega
      · simp only [ck_up]
        rw [if_neg (by omega), ← ck_x_sz hf b0 b1, ← ck_x_kn hf hy.1 hy.2, hI1 (c + 5) q (by omega)]
        simp only [ck_up, true_and]
        (repeat' split) <;> first | rfl | omega
      · simp only [ck_up]
        rw [if_neg (by omega), ← ck_x_th hf b0 b1, hI1 (c + 6) q (by omega)]
        simp only [ck_up, true_and]
        (repeat' split) <;> first | rfl | omega
def ck_dLet (a e : Int) (f : ck_D) : ck_D := ck_N (ck_kn f) (ck_lo f) (fun n q => if q = a then ck_hi f n e else ck_hi f n q) (fun q => if q = a then ck_va f e else ck_va f q) (fun q => if q = a then ck_sz f e else ck_sz f q) (fun q => if q = a then ck_th f e else ck_th f q)
theorem cx_setArray {c a e : Int} (ha : 0 ≤ a ∧ a < 4) (he : 0 ≤ e ∧ e < 4) {σ : ck_M} {f : ck_D} (hf : ck_rd σ c = f) (hB : ck_fb f) : ck_cal 1 cm_Fa_setArray [.inr (c, 3, 0), .inl a, .inl e] σ (fun q σ' => q = none ∧ ck_f6 σ σ' c ∧ ck_rd σ' c = ck_dLet a e f) := by
  refine ck_cal_of ?_
  refine ck_go_run 26 (X1 := (38, [some (.inr (c, 3, 0)), some (.inl a), some (.inl e), some (.inl 0)], [], ck_up (ck_up (ck_up σ (c + 4) a (σ (c + 4) e)) (c + 5) a ((ck_up σ (c + 4) a (σ (c + 4) e)) (c + 5) e)) (c + 6) a ((ck_up (ck_up σ (c + 4) a (σ (c + 4) e)) (c + 5) a ((ck_up σ (c + 4) a (σ (c + 4) e)) (c + 5) e)) (c + 6) e))) (ps := [0 ≤ e ∧ e < ((4 : Nat) : Int), 0 ≤ a ∧ a < ((4 : Nat) : Int), 0 ≤ e ∧ e < ((4 : Nat) : Int), 0 ≤ a ∧ a < ((4 : Nat) : Int), 0 ≤ e ∧ e < ((4 : Nat) : Int), 0 ≤ a ∧ a < ((4 : Nat) : Int), (ck_up (ck_up σ (c + 4) a (σ (c + 4) e)) (c + 5) a ((ck_up σ (c + 4) a (σ (c + 4) e)) (c + 5) e)) (c + 6) e = 0 ∨ (ck_up (ck_up σ (c + 4) a (σ (c + 4) e)) (c + 5) a ((ck_up σ (c + 4) a (σ (c + 4) e)) (c + 5) e)) (c + 6) e = 1]) rfl ⟨⟨by omega, by omega⟩, ⟨by omega, by omega⟩, ⟨by omega, by omega⟩, ⟨by omega, by omega⟩, ⟨by omega, by omega⟩, ⟨by omega, by omega⟩, (by
      have h6 := hB.2.2.2.2.2 e
      rw [← ck_x_th hf he.1 he.2] at h6
      simp only [ck_up]
      (repeat' split) <;> omega), trivial⟩ ?_
  refine ck_for 38 (fun v => [some (.inr (c, 3, 0)), some (.inl a), some (.inl e), some (.inl v)]) 10 (fun v s => 0 ≤ v ∧ v ≤ 10 ∧ (∀ b j, (b ≠ c + 3 ∨ j < a ∨ v * 4 + a ≤ j ∨ (j - a) % 4 ≠ 0) → s b j = (ck_up (ck_up (ck_up σ (c + 4) a (σ (c + 4) e)) (c + 5) a ((ck_up σ (c + 4) a (σ (c + 4) e)) (c + 5) e)) (c + 6) a ((ck_up (ck_up σ (c + 4) a (σ (c + 4) e)) (c + 5) a ((ck_up σ (c + 4) a (σ (c + 4) e)) (c + 5) e)) (c + 6) e)) b j) ∧ ∀ q, 0 ≤ q → q < v → s (c + 3) (q * 4 + a) = ck_hi f q e) (fun v s hv hI kk => ?_) (fun v s hv hI => ?_) 0 _ ⟨by omega, by omega, fun _ _ _ => rfl, fun _ _ _ => by omega⟩
  · obtain ⟨h0, h4, hI1, hI2⟩ := hI
    have e3 : s (c + 3) (v * 4 + e) = ck_hi f v e := by
      rw [← ck_x_hi hf h0 hv he.1 he.2, hI1 _ _ (by omega)]
      simp only [ck_up]
      (repeat' split) <;> first | rfl | omega
    refine ck_go_run 3 (X1 := (if v < 10 then 44 else 70, [some (.inr (c, 3, 0)), some (.inl a), some (.inl e), some (.inl v)], [], s)) (ps := [ck_rg v, ck_rg 10]) rfl ⟨(ck_rgo (by omega) (by omega)), (ck_rgo (by omega) (by omega)), trivial⟩ ?_
    refine ck_go_t hv ?_
    refine ck_go_run 18 (X1 := (38, [some (.inr (c, 3, 0)), some (.inl a), some (.inl e), some (.inl (v + 1))], [], ck_up s (c + 3) ((v * 4) + a) (s (c + 3) ((v * 4) + e)))) (ps := [0 ≤ (v * 4) + e ∧ (v * 4) + e < ((40 : Nat) : Int), 0 ≤ (v * 4) + a ∧ (v * 4) + a < ((40 : Nat) : Int)]) rfl ⟨⟨by omega, by omega⟩, ⟨by omega, by omega⟩, trivial⟩ ?_
    exact kk _ ⟨by omega, by omega, ck_st4 (g := fun q => ck_hi f q e) hI1 hI2 e3 h0⟩
  · obtain ⟨h0, h4, hI1, hI2⟩ := hI
    refine ck_go_run 3 (X1 := (if v < 10 then 44 else 70, [some (.inr (c, 3, 0)), some (.inl a), some (.inl e), some (.inl v)], [], s)) (ps := [ck_rg v, ck_rg 10]) rfl ⟨(ck_rgo (by omega) (by omega)), (ck_rgo (by omega) (by omega)), trivial⟩ ?_
    refine ck_go_f (by omega) ?_
    refine ck_eV ⟨rfl, ?_, ?_⟩ rfl rfl rfl
    · intro b j hb
      rw [hI1 b j (by omega)]
      simp only [ck_up]
      (repeat' split) <;> first | rfl | omega
    · unfold ck_dLet
      refine ck_N_ext (fun n a0 a1 => ?_) (fun n a0 a1 => ?_) (fun n q a0 a1 b0 b1 => ?_) (fun q b0 b1 => ?_) (fun q b0 b1 => ?_) (fun q b0 b1 => ?_)
      · rw [← ck_x_kn hf a0 a1, hI1 (c + 1) n (by omega)]
        simp only [ck_up, true_and]
        (repeat' split) <;> first | rfl | omega
      · rw [← ck_x_lo hf a0 a1, hI1 (c + 2) n (by omega)]
        simp only [ck_up, true_and]
        (repeat' split) <;> first | rfl | omega
      · by_cases hq : q = a
        · subst hq
          rw [if_pos rfl, hI2 n a0 (by omega)]
        · rw [if_neg hq, ← ck_x_hi hf a0 a1 b0 b1, hI1 (c + 3) (n * 4 + q) (by omega)]
          simp only [ck_up]
          (repeat' split) <;> first | rfl | omega
      · rw [← ck_x_va hf he.1 he.2, ← ck_x_va hf b0 b1, hI1 (c + 4) q (by omega)]
        simp only [ck_up, true_and]
        (repeat' split) <;> first | rfl | omega
      · rw [← ck_x_sz hf he.1 he.2, ← ck_x_sz hf b0 b1, hI1 (c + 5) q (by omega)]
        simp only [ck_up, true_and]
        (repeat' split) <;> first | rfl | omega
      · rw [← ck_x_th hf he.1 he.2, ← ck_x_th hf b0 b1, hI1 (c + 6) q (by omega)]
        simp only [ck_up, true_and]
        (repeat' split) <;> first | rfl | omega
def ck_dJv (r k : Int) (f : ck_D) : ck_D := ck_N (ck_kn f) (ck_lo f) (ck_hi f) (fun q => if q = r then 65 + k * 4 + r else ck_va f q) (fun q => if q = r then 1000000000 else ck_sz f q) (ck_th f)
theorem cx_setJoinedValue {c r k : Int} (hr : 0 ≤ r ∧ r < 4) {σ : ck_M} {f : ck_D} (hf : ck_rd σ c = f) : ck_cal 1 cm_Fa_setJoinedValue [.inr (c, 3, 0), .inl r, .inl k] σ (fun q σ' => q = none ∧ ck_f6 σ σ' c ∧ ck_rd σ' c = ck_dJv r k f) := by
  refine ck_cal_of ?_
  refine ck_go_run 16 (X1 := (22, [some (.inr (c, 3, 0)), some (.inl r), some (.inl k)], [], ck_up (ck_up σ (c + 4) r ((65 + (k * 4)) + r)) (c + 5) r 1000000000)) (ps := [0 ≤ r ∧ r < ((4 : Nat) : Int), 0 ≤ r ∧ r < ((4 : Nat) : Int)]) rfl ⟨⟨by omega, by omega⟩, ⟨by omega, by omega⟩, trivial⟩ ?_
  refine ck_eV ⟨rfl, ?_, ?_⟩ rfl rfl rfl
  · intro b j hb
    simp only [ck_up]
    (repeat' split) <;> first | rfl | omega
  · unfold ck_dJv
    refine ck_N_ext (fun n a0 a1 => ?_) (fun n a0 a1 => ?_) (fun n q a0 a1 b0 b1 => ?_) (fun q b0 b1 => ?_) (fun q b0 b1 => ?_) (fun q b0 b1 => ?_)
    · rw [← ck_x_kn hf a0 a1]
      simp only [ck_up, true_and]
      (repeat' split) <;> first | rfl | omega
    · rw [← ck_x_lo hf a0 a1]
      simp only [ck_up, true_and]
      (repeat' split) <;> first | rfl | omega
    · rw [← ck_x_hi hf a0 a1 b0 b1]
      simp only [ck_up, true_and]
      (repeat' split) <;> first | rfl | omega
    · rw [← ck_x_va hf b0 b1]
      simp only [ck_up, true_and]
      (repeat' split) <;> first | rfl | omega
    · rw [← ck_x_sz hf b0 b1]
      simp only [ck_up, true_and]
      (repeat' split) <;> first | rfl | omega
    · rw [← ck_x_th hf b0 b1]
      simp only [ck_up, true_and]
      (repeat' split) <;> first | rfl | omega
