/-! ## The class's run -/
theorem co_cl_adv1 {s m : ck_M} {n e : Int} (h : co_cl s m) (h0 : m 480 21 = 0) (he : e < n) : co_cl (ck_up (ck_up s 1 11 (s 1 11 + 1)) 1 10 e) (co_adv n m e) := by
  obtain ⟨h1, h2, h3, h4, h5, ⟨g1, g2, g3, g4⟩, h7⟩ := h
  refine ⟨h1, h2, h3, h4, h5, ⟨?_, rfl, ?_, g4⟩, h7⟩
  · show s 1 9 = if e = n then 1 else 0
    rw [if_neg (by omega), g1, h0]
  · show s 1 11 + 1 = m 480 22 + 1
    rw [g3]
theorem co_cl_adv2 {s m : ck_M} {n e : Int} (h : co_cl s m) (he : e = n) : co_cl (ck_up (ck_up (ck_up s 1 11 (s 1 11 + 1)) 1 10 e) 1 9 1) (co_adv n m e) := by
  obtain ⟨h1, h2, h3, h4, h5, ⟨g1, g2, g3, g4⟩, h7⟩ := h
  refine ⟨h1, h2, h3, h4, h5, ⟨?_, rfl, ?_, g4⟩, h7⟩
  · show 1 = if e = n then 1 else 0
    rw [if_pos he]
  · show s 1 11 + 1 = m 480 22 + 1
    rw [g3]
theorem cx_perf_if {σ m p : ck_M} {n c k : Int} {X : Int → ck_D} {nd : Int → Int} (hp : co_pg p n) (hX : co_sol p n X) (hpr : ∀ b j, 6 ≤ b → b ≤ 14 → σ b j = p b j) (hi : co_mi p n X c m) (h0 : m 480 21 = 0) (hk : k = m 480 20) (hcl : co_cl σ m) (hc : c ≤ 1000000000) (hn : σ 17 k = nd k) (hn7 : 0 ≤ nd k ∧ nd k ≤ 7) (hnd : nd k = ck_ndl (p 6 k) (p 7 k) (p 8 k) (p 9 k) (X k)) (ht : σ 6 k = 9) : ck_cal 5 cm_Ma_perform [.inr (1, 3, 3), .inl k] σ (fun q σ' => ∃ e m1, q = some e ∧ co_cl σ' m1 ∧ co_cf σ σ' ∧ ((m1 480 21 ≠ 0 ∧ co_one p n nd m = (0, m1)) ∨ (m1 480 21 = 0 ∧ co_one p n nd m = (1, co_adv n m1 e) ∧ 0 ≤ e ∧ e ≤ n))) := by
  refine ck_cal_of ?_
  obtain ⟨hmd, ⟨k0, -⟩, hw, hsd⟩ := hi
  obtain ⟨k1, hs⟩ := hsd h0
  rw [← hk] at k0 k1 hs
  have hnn := hp.1
  have hk64 : 0 ≤ k ∧ k < 64 := ⟨k0, by omega⟩
  have e6 := hpr 6 k (by decide) (by decide)
  have e7 := hpr 7 k (by decide) (by decide)
  have e8 := hpr 8 k (by decide) (by decide)
  have e9 := hpr 9 k (by decide) (by decide)
  have e10 := hpr 10 k (by decide) (by decide)
  have e11 := hpr 11 k (by decide) (by decide)
  have e12 := hpr 12 k (by decide) (by decide)
  have hO := hp.2.1 k k0 k1
  have hQ := hO
  unfold ck_sOk at hQ
  have hst : σ 1 9 = 0 := hcl.2.2.2.2.2.1.1.trans h0
  have hT : p 6 k = 9 ∨ p 6 k = 12 := by omega
  have q := hp.2.2.1 k k0 k1 hT
  have hN : ∀ j, 0 ≤ j → j < 10 → co_nb (σ 20 j) := fun j a b => by
    rw [hcl.1 j a b]
    exact hmd.1 j a b
  have hS : (if σ 8 k = 10 then 0 else σ 20 (σ 8 k)) + σ 9 k = co_sm p m k := by
    rw [e8, e9]
    unfold co_sm
    by_cases z : p 8 k = 10
    · rw [if_pos z, if_pos z]
    · rw [if_neg z, if_neg z, hcl.1 _ (by omega) (by omega)]
  have ex : σ 20 (σ 7 k) = m 496 (p 7 k) := by
    rw [e7]
    exact hcl.1 _ (by omega) (by omega)
  have eo : co_one p n nd m = (if co_nb (co_sm p m k) then (1, co_adv n m (if m 496 (p 7 k) < co_sm p m k then k + 1 else (if p 11 k = -1 then p 12 k else p 11 k) + 1)) else (0, co_stp m 4)) := by
    unfold co_one
    rw [← hk]
    unfold co_onk
    rw [if_pos hT]
  refine ck_go_run 24 (X1 := (ck_sw 9 (σ 6 k) 179 [72, 124, 144, 95], [some (.inr (1, 3, 3)), some (.inl k), some (.inl (σ 7 k)), some (.inl (σ 8 k)), some (.inl (σ 9 k)), none], [], σ)) (ps := [0 ≤ k ∧ k < ((64 : Nat) : Int), 0 ≤ k ∧ k < ((64 : Nat) : Int), 0 ≤ k ∧ k < ((64 : Nat) : Int), 0 ≤ k ∧ k < ((64 : Nat) : Int), ck_rg (σ 6 k)]) rfl ⟨⟨by omega, by omega⟩, ⟨by omega, by omega⟩, ⟨by omega, by omega⟩, ⟨by omega, by omega⟩, (ck_rgo (by omega) (by omega)), trivial⟩ ?_
  have hsw := ht
  · rw [hsw]
    refine ck_go_pc (q := 72) rfl ?_
    refine ck_go_run 4 (X1 := (77, [some (.inr (1, 3, 3)), some (.inl k), some (.inl (σ 7 k)), some (.inl (σ 8 k)), some (.inl (σ 9 k)), none], [.inl (σ 9 k), .inl (σ 8 k), .inl (σ 7 k), .inr (1, 3, 3)], σ)) (ps := []) rfl trivial ?_
    refine ck_go_cal (rest := []) (ck_cal_le (by decide) (cx_isBelow (σ := σ) (v := co_sm p m k) (by omega) (by omega) (by omega) hN hS)) ⟨_, rfl, Or.inl ⟨_, rfl⟩, rfl, rfl, rfl, Nat.le_of_ble_eq_true rfl, fun _ => ⟨_, _, rfl⟩⟩ ?_
    rintro _ s1 ⟨w, rfl, hw1, e1⟩
    have f1 : s1 11 k = σ 11 k ∧ s1 12 k = σ 12 k := by
      rw [e1]
      split
      · exact ⟨rfl, rfl⟩
      · exact ⟨if_neg (by omega), if_neg (by omega)⟩
    have hc1 : (co_nb (co_sm p m k) ∧ co_cl s1 m) ∨ (¬ co_nb (co_sm p m k) ∧ co_cl s1 (co_stp m 4)) := by
      rw [e1]
      by_cases z : co_nb (co_sm p m k)
      · rw [if_pos z]
        exact Or.inl ⟨z, hcl⟩
      · rw [if_neg z]
        exact Or.inr ⟨z, co_cl_how hcl _⟩
    have hf1 : co_cf σ s1 := by
      rw [e1]
      split
      · exact co_cf_r σ
      · exact fun b j z1 z2 z3 => if_neg (by omega)
    refine ck_go_run 1 (X1 := (if w = 0 then 89 else 83, [some (.inr (1, 3, 3)), some (.inl k), some (.inl (σ 7 k)), some (.inl (σ 8 k)), some (.inl (σ 9 k)), none], [], s1)) (ps := [ck_rg w]) rfl ⟨(ck_rgo (by omega) (by omega)), trivial⟩ ?_
    refine ck_go_ite (fun h1 => ?_) (fun h1 => ?_)
    · refine ck_go_run 2 (X1 := (91, [some (.inr (1, 3, 3)), some (.inl k), some (.inl (σ 7 k)), some (.inl (σ 8 k)), some (.inl (σ 9 k)), none], [.inl k, .inr (1, 3, 3)], s1)) (ps := []) rfl trivial ?_
      refine ck_go_cal (rest := []) (ck_cal_le (by decide) (cx_behind (σ := s1) (v := (if p 11 k = -1 then p 12 k else p 11 k) + 1) hk64 (by rw [f1.1, e11]; exact ck_rgo (by omega) (by omega)) (by rw [f1.1, f1.2, e11, e12]))) ⟨_, rfl, Or.inl ⟨_, rfl⟩, rfl, rfl, rfl, Nat.le_of_ble_eq_true rfl, fun _ => ⟨_, _, rfl⟩⟩ ?_
      rintro _ s' ⟨rfl, e'⟩
      rw [e']
      clear e' s'
      rcases hc1 with ⟨z1, z2⟩ | ⟨z1, z2⟩
      · refine ck_eI ⟨_, m, rfl, z2, hf1, Or.inr ⟨h0, ?_, by have := f1; (repeat' split) <;> omega, by have := f1; (repeat' split) <;> omega⟩⟩ rfl rfl rfl
        rw [eo, if_pos z1, if_neg (by omega)]
      · refine ck_eI ⟨_, co_stp m 4, rfl, z2, hf1, Or.inl ⟨(by decide : ¬ (1 : Int) + 4 = 0), ?_⟩⟩ rfl rfl rfl
        rw [eo, if_neg z1]
    · refine ck_go_run 4 (X1 := (94, [some (.inr (1, 3, 3)), some (.inl k), some (.inl (σ 7 k)), some (.inl (σ 8 k)), some (.inl (σ 9 k)), none], [.inl (k + 1)], s1)) (ps := []) rfl trivial ?_
      rcases hc1 with ⟨z1, z2⟩ | ⟨z1, z2⟩
      · refine ck_eI ⟨_, m, rfl, z2, hf1, Or.inr ⟨h0, ?_, by have := f1; (repeat' split) <;> omega, by have := f1; (repeat' split) <;> omega⟩⟩ rfl rfl rfl
        rw [eo, if_pos z1, if_pos (by omega)]
      · refine ck_eI ⟨_, co_stp m 4, rfl, z2, hf1, Or.inl ⟨(by decide : ¬ (1 : Int) + 4 = 0), ?_⟩⟩ rfl rfl rfl
        rw [eo, if_neg z1]
theorem cx_perf_while {σ m p : ck_M} {n c k : Int} {X : Int → ck_D} {nd : Int → Int} (hp : co_pg p n) (hX : co_sol p n X) (hpr : ∀ b j, 6 ≤ b → b ≤ 14 → σ b j = p b j) (hi : co_mi p n X c m) (h0 : m 480 21 = 0) (hk : k = m 480 20) (hcl : co_cl σ m) (hc : c ≤ 1000000000) (hn : σ 17 k = nd k) (hn7 : 0 ≤ nd k ∧ nd k ≤ 7) (hnd : nd k = ck_ndl (p 6 k) (p 7 k) (p 8 k) (p 9 k) (X k)) (ht : σ 6 k = 12) : ck_cal 5 cm_Ma_perform [.inr (1, 3, 3), .inl k] σ (fun q σ' => ∃ e m1, q = some e ∧ co_cl σ' m1 ∧ co_cf σ σ' ∧ ((m1 480 21 ≠ 0 ∧ co_one p n nd m = (0, m1)) ∨ (m1 480 21 = 0 ∧ co_one p n nd m = (1, co_adv n m1 e) ∧ 0 ≤ e ∧ e ≤ n))) := by
  refine ck_cal_of ?_
  obtain ⟨hmd, ⟨k0, -⟩, hw, hsd⟩ := hi
  obtain ⟨k1, hs⟩ := hsd h0
  rw [← hk] at k0 k1 hs
  have hnn := hp.1
  have hk64 : 0 ≤ k ∧ k < 64 := ⟨k0, by omega⟩
  have e6 := hpr 6 k (by decide) (by decide)
  have e7 := hpr 7 k (by decide) (by decide)
  have e8 := hpr 8 k (by decide) (by decide)
  have e9 := hpr 9 k (by decide) (by decide)
  have e10 := hpr 10 k (by decide) (by decide)
  have e11 := hpr 11 k (by decide) (by decide)
  have e12 := hpr 12 k (by decide) (by decide)
  have hO := hp.2.1 k k0 k1
  have hQ := hO
  unfold ck_sOk at hQ
  have hst : σ 1 9 = 0 := hcl.2.2.2.2.2.1.1.trans h0
  have hT : p 6 k = 9 ∨ p 6 k = 12 := by omega
  have q := hp.2.2.1 k k0 k1 hT
  have hN : ∀ j, 0 ≤ j → j < 10 → co_nb (σ 20 j) := fun j a b => by
    rw [hcl.1 j a b]
    exact hmd.1 j a b
  have hS : (if σ 8 k = 10 then 0 else σ 20 (σ 8 k)) + σ 9 k = co_sm p m k := by
    rw [e8, e9]
    unfold co_sm
    by_cases z : p 8 k = 10
    · rw [if_pos z, if_pos z]
    · rw [if_neg z, if_neg z, hcl.1 _ (by omega) (by omega)]
  have ex : σ 20 (σ 7 k) = m 496 (p 7 k) := by
    rw [e7]
    exact hcl.1 _ (by omega) (by omega)
  have eo : co_one p n nd m = (if co_nb (co_sm p m k) then (1, co_adv n m (if m 496 (p 7 k) < co_sm p m k then k + 1 else (if p 11 k = -1 then p 12 k else p 11 k) + 1)) else (0, co_stp m 4)) := by
    unfold co_one
    rw [← hk]
    unfold co_onk
    rw [if_pos hT]
  refine ck_go_run 24 (X1 := (ck_sw 9 (σ 6 k) 179 [72, 124, 144, 95], [some (.inr (1, 3, 3)), some (.inl k), some (.inl (σ 7 k)), some (.inl (σ 8 k)), some (.inl (σ 9 k)), none], [], σ)) (ps := [0 ≤ k ∧ k < ((64 : Nat) : Int), 0 ≤ k ∧ k < ((64 : Nat) : Int), 0 ≤ k ∧ k < ((64 : Nat) : Int), 0 ≤ k ∧ k < ((64 : Nat) : Int), ck_rg (σ 6 k)]) rfl ⟨⟨by omega, by omega⟩, ⟨by omega, by omega⟩, ⟨by omega, by omega⟩, ⟨by omega, by omega⟩, (ck_rgo (by omega) (by omega)), trivial⟩ ?_
  have hsw := ht
  · rw [hsw]
    refine ck_go_pc (q := 95) rfl ?_
    refine ck_go_run 4 (X1 := (100, [some (.inr (1, 3, 3)), some (.inl k), some (.inl (σ 7 k)), some (.inl (σ 8 k)), some (.inl (σ 9 k)), none], [.inl (σ 9 k), .inl (σ 8 k), .inl (σ 7 k), .inr (1, 3, 3)], σ)) (ps := []) rfl trivial ?_
    refine ck_go_cal (rest := []) (ck_cal_le (by decide) (cx_isBelow (σ := σ) (v := co_sm p m k) (by omega) (by omega) (by omega) hN hS)) ⟨_, rfl, Or.inl ⟨_, rfl⟩, rfl, rfl, rfl, Nat.le_of_ble_eq_true rfl, fun _ => ⟨_, _, rfl⟩⟩ ?_
    rintro _ s1 ⟨w, rfl, hw1, e1⟩
    have f1 : s1 11 k = σ 11 k ∧ s1 12 k = σ 12 k := by
      rw [e1]
      split
      · exact ⟨rfl, rfl⟩
      · exact ⟨if_neg (by omega), if_neg (by omega)⟩
    have hc1 : (co_nb (co_sm p m k) ∧ co_cl s1 m) ∨ (¬ co_nb (co_sm p m k) ∧ co_cl s1 (co_stp m 4)) := by
      rw [e1]
      by_cases z : co_nb (co_sm p m k)
      · rw [if_pos z]
        exact Or.inl ⟨z, hcl⟩
      · rw [if_neg z]
        exact Or.inr ⟨z, co_cl_how hcl _⟩
    have hf1 : co_cf σ s1 := by
      rw [e1]
      split
      · exact co_cf_r σ
      · exact fun b j z1 z2 z3 => if_neg (by omega)
    refine ck_go_run 1 (X1 := (if w = 0 then 112 else 106, [some (.inr (1, 3, 3)), some (.inl k), some (.inl (σ 7 k)), some (.inl (σ 8 k)), some (.inl (σ 9 k)), none], [], s1)) (ps := [ck_rg w]) rfl ⟨(ck_rgo (by omega) (by omega)), trivial⟩ ?_
    refine ck_go_ite (fun h1 => ?_) (fun h1 => ?_)
    · refine ck_go_run 7 (X1 := (123, [some (.inr (1, 3, 3)), some (.inl k), some (.inl (σ 7 k)), some (.inl (σ 8 k)), some (.inl (σ 9 k)), none], [.inl ((s1 12 k) + 1)], s1)) (ps := [0 ≤ k ∧ k < ((64 : Nat) : Int)]) rfl ⟨⟨by omega, by omega⟩, trivial⟩ ?_
      rcases hc1 with ⟨z1, z2⟩ | ⟨z1, z2⟩
      · refine ck_eI ⟨_, m, rfl, z2, hf1, Or.inr ⟨h0, ?_, by have := f1; (repeat' split) <;> omega, by have := f1; (repeat' split) <;> omega⟩⟩ rfl rfl rfl
        rw [eo, if_pos z1, if_neg (by omega)]
        have ez : p 11 k = -1 := by
          rcases q.2.2.2 with z | z
          · exact z
          · exact absurd z.1 (by omega)
        rw [if_pos ez, f1.2, e12]
      · refine ck_eI ⟨_, co_stp m 4, rfl, z2, hf1, Or.inl ⟨(by decide : ¬ (1 : Int) + 4 = 0), ?_⟩⟩ rfl rfl rfl
        rw [eo, if_neg z1]
    · refine ck_go_run 4 (X1 := (123, [some (.inr (1, 3, 3)), some (.inl k), some (.inl (σ 7 k)), some (.inl (σ 8 k)), some (.inl (σ 9 k)), none], [.inl (k + 1)], s1)) (ps := []) rfl trivial ?_
      rcases hc1 with ⟨z1, z2⟩ | ⟨z1, z2⟩
      · refine ck_eI ⟨_, m, rfl, z2, hf1, Or.inr ⟨h0, ?_, by have := f1; (repeat' split) <;> omega, by have := f1; (repeat' split) <;> omega⟩⟩ rfl rfl rfl
        rw [eo, if_pos z1, if_pos (by omega)]
      · refine ck_eI ⟨_, co_stp m 4, rfl, z2, hf1, Or.inl ⟨(by decide : ¬ (1 : Int) + 4 = 0), ?_⟩⟩ rfl rfl rfl
        rw [eo, if_neg z1]
theorem cx_perf_else {σ m p : ck_M} {n c k : Int} {X : Int → ck_D} {nd : Int → Int} (hp : co_pg p n) (hX : co_sol p n X) (hpr : ∀ b j, 6 ≤ b → b ≤ 14 → σ b j = p b j) (hi : co_mi p n X c m) (h0 : m 480 21 = 0) (hk : k = m 480 20) (hcl : co_cl σ m) (hc : c ≤ 1000000000) (hn : σ 17 k = nd k) (hn7 : 0 ≤ nd k ∧ nd k ≤ 7) (hnd : nd k = ck_ndl (p 6 k) (p 7 k) (p 8 k) (p 9 k) (X k)) (ht : σ 6 k = 10) : ck_cal 5 cm_Ma_perform [.inr (1, 3, 3), .inl k] σ (fun q σ' => ∃ e m1, q = some e ∧ co_cl σ' m1 ∧ co_cf σ σ' ∧ ((m1 480 21 ≠ 0 ∧ co_one p n nd m = (0, m1)) ∨ (m1 480 21 = 0 ∧ co_one p n nd m = (1, co_adv n m1 e) ∧ 0 ≤ e ∧ e ≤ n))) := by
  refine ck_cal_of ?_
  obtain ⟨hmd, ⟨k0, -⟩, hw, hsd⟩ := hi
  obtain ⟨k1, hs⟩ := hsd h0
  rw [← hk] at k0 k1 hs
  have hnn := hp.1
  have hk64 : 0 ≤ k ∧ k < 64 := ⟨k0, by omega⟩
  have e6 := hpr 6 k (by decide) (by decide)
  have e7 := hpr 7 k (by decide) (by decide)
  have e8 := hpr 8 k (by decide) (by decide)
  have e9 := hpr 9 k (by decide) (by decide)
  have e10 := hpr 10 k (by decide) (by decide)
  have e11 := hpr 11 k (by decide) (by decide)
  have e12 := hpr 12 k (by decide) (by decide)
  have hO := hp.2.1 k k0 k1
  have hQ := hO
  unfold ck_sOk at hQ
  have hst : σ 1 9 = 0 := hcl.2.2.2.2.2.1.1.trans h0
  have hT : p 6 k = 10 := by omega
  obtain ⟨⟨b1, b2⟩, b3, -⟩ := hp.2.2.2.1 k k0 k1 (Or.inl hT)
  obtain ⟨c1, c2⟩ := b3 hT
  have q := hp.2.2.1 _ b1 (by omega) (Or.inl c1)
  have eG : σ 12 (σ 10 k) = p 12 (p 10 k) := by rw [e10, hpr 12 _ (by decide) (by decide)]
  have eo : co_one p n nd m = (1, co_adv n m (p 12 (p 10 k) + 1)) := by
    unfold co_one
    rw [← hk]
    unfold co_onk
    rw [if_neg (by omega), if_pos hT]
  refine ck_go_run 24 (X1 := (ck_sw 9 (σ 6 k) 179 [72, 124, 144, 95], [some (.inr (1, 3, 3)), some (.inl k), some (.inl (σ 7 k)), some (.inl (σ 8 k)), some (.inl (σ 9 k)), none], [], σ)) (ps := [0 ≤ k ∧ k < ((64 : Nat) : Int), 0 ≤ k ∧ k < ((64 : Nat) : Int), 0 ≤ k ∧ k < ((64 : Nat) : Int), 0 ≤ k ∧ k < ((64 : Nat) : Int), ck_rg (σ 6 k)]) rfl ⟨⟨by omega, by omega⟩, ⟨by omega, by omega⟩, ⟨by omega, by omega⟩, ⟨by omega, by omega⟩, (ck_rgo (by omega) (by omega)), trivial⟩ ?_
  have hsw := ht
  · rw [hsw]
    refine ck_go_pc (q := 124) rfl ?_
    refine ck_go_run 11 (X1 := (143, [some (.inr (1, 3, 3)), some (.inl k), some (.inl (σ 7 k)), some (.inl (σ 8 k)), some (.inl (σ 9 k)), none], [.inl ((σ 12 (σ 10 k)) + 1)], σ)) (ps := [0 ≤ k ∧ k < ((64 : Nat) : Int), 0 ≤ σ 10 k ∧ σ 10 k < ((64 : Nat) : Int)]) rfl ⟨⟨by omega, by omega⟩, ⟨by omega, by omega⟩, trivial⟩ ?_
    refine ck_eI ⟨_, m, rfl, hcl, co_cf_r σ, Or.inr ⟨h0, ?_, by omega, by omega⟩⟩ rfl rfl rfl
    rw [eo, eG]
theorem cx_perf_end {σ m p : ck_M} {n c k : Int} {X : Int → ck_D} {nd : Int → Int} (hp : co_pg p n) (hX : co_sol p n X) (hpr : ∀ b j, 6 ≤ b → b ≤ 14 → σ b j = p b j) (hi : co_mi p n X c m) (h0 : m 480 21 = 0) (hk : k = m 480 20) (hcl : co_cl σ m) (hc : c ≤ 1000000000) (hn : σ 17 k = nd k) (hn7 : 0 ≤ nd k ∧ nd k ≤ 7) (hnd : nd k = ck_ndl (p 6 k) (p 7 k) (p 8 k) (p 9 k) (X k)) (ht : σ 6 k = 11) : ck_cal 5 cm_Ma_perform [.inr (1, 3, 3), .inl k] σ (fun q σ' => ∃ e m1, q = some e ∧ co_cl σ' m1 ∧ co_cf σ σ' ∧ ((m1 480 21 ≠ 0 ∧ co_one p n nd m = (0, m1)) ∨ (m1 480 21 = 0 ∧ co_one p n nd m = (1, co_adv n m1 e) ∧ 0 ≤ e ∧ e ≤ n))) := by
  refine ck_cal_of ?_
  obtain ⟨hmd, ⟨k0, -⟩, hw, hsd⟩ := hi
  obtain ⟨k1, hs⟩ := hsd h0
  rw [← hk] at k0 k1 hs
  have hnn := hp.1
  have hk64 : 0 ≤ k ∧ k < 64 := ⟨k0, by omega⟩
  have e6 := hpr 6 k (by decide) (by decide)
  have e7 := hpr 7 k (by decide) (by decide)
  have e8 := hpr 8 k (by decide) (by decide)
  have e9 := hpr 9 k (by decide) (by decide)
  have e10 := hpr 10 k (by decide) (by decide)
  have e11 := hpr 11 k (by decide) (by decide)
  have e12 := hpr 12 k (by decide) (by decide)
  have hO := hp.2.1 k k0 k1
  have hQ := hO
  unfold ck_sOk at hQ
  have hst : σ 1 9 = 0 := hcl.2.2.2.2.2.1.1.trans h0
  have hT : p 6 k = 11 := by omega
  obtain ⟨⟨b1, b2⟩, -, b3⟩ := hp.2.2.2.1 k k0 k1 (Or.inr hT)
  obtain ⟨c1, c2⟩ := b3 hT
  have eG : σ 6 (σ 10 k) = p 6 (p 10 k) := by rw [e10, hpr 6 _ (by decide) (by decide)]
  have eo : co_one p n nd m = (1, co_adv n m (if p 6 (p 10 k) = 12 then p 10 k else k + 1)) := by
    unfold co_one
    rw [← hk]
    unfold co_onk
    rw [if_neg (by omega), if_neg (by omega), if_pos hT]
  refine ck_go_run 24 (X1 := (ck_sw 9 (σ 6 k) 179 [72, 124, 144, 95], [some (.inr (1, 3, 3)), some (.inl k), some (.inl (σ 7 k)), some (.inl (σ 8 k)), some (.inl (σ 9 k)), none], [], σ)) (ps := [0 ≤ k ∧ k < ((64 : Nat) : Int), 0 ≤ k ∧ k < ((64 : Nat) : Int), 0 ≤ k ∧ k < ((64 : Nat) : Int), 0 ≤ k ∧ k < ((64 : Nat) : Int), ck_rg (σ 6 k)]) rfl ⟨⟨by omega, by omega⟩, ⟨by omega, by omega⟩, ⟨by omega, by omega⟩, ⟨by omega, by omega⟩, (ck_rgo (by omega) (by omega)), trivial⟩ ?_
  have hsw := ht
  · rw [hsw]
    refine ck_go_pc (q := 144) rfl ?_
    refine ck_go_run 13 (X1 := (if σ 6 (σ 10 k) = 12 then 170 else 175, [some (.inr (1, 3, 3)), some (.inl k), some (.inl (σ 7 k)), some (.inl (σ 8 k)), some (.inl (σ 9 k)), some (.inl (σ 10 k))], [], σ)) (ps := [0 ≤ k ∧ k < ((64 : Nat) : Int), 0 ≤ σ 10 k ∧ σ 10 k < ((64 : Nat) : Int), ck_rg (σ 6 (σ 10 k)), ck_rg 12]) rfl ⟨⟨by omega, by omega⟩, ⟨by omega, by omega⟩, (ck_rgo (by omega) (by omega)), (ck_rgo (by omega) (by omega)), trivial⟩ ?_
    refine ck_go_ite (fun h1 => ?_) (fun h1 => ?_)
    · refine ck_go_run 2 (X1 := (178, [some (.inr (1, 3, 3)), some (.inl k), some (.inl (σ 7 k)), some (.inl (σ 8 k)), some (.inl (σ 9 k)), some (.inl (σ 10 k))], [.inl (σ 10 k)], σ)) (ps := []) rfl trivial ?_
      refine ck_eI ⟨_, m, rfl, hcl, co_cf_r σ, Or.inr ⟨h0, ?_, by omega, by omega⟩⟩ rfl rfl rfl
      rw [eo, if_pos (by omega), e10]
    · refine ck_go_run 3 (X1 := (178, [some (.inr (1, 3, 3)), some (.inl k), some (.inl (σ 7 k)), some (.inl (σ 8 k)), some (.inl (σ 9 k)), some (.inl (σ 10 k))], [.inl (k + 1)], σ)) (ps := []) rfl trivial ?_
      refine ck_eI ⟨_, m, rfl, hcl, co_cf_r σ, Or.inr ⟨h0, ?_, by omega, by omega⟩⟩ rfl rfl rfl
      rw [eo, if_neg (by omega)]
theorem cx_perf_act {σ m p : ck_M} {n c k : Int} {X : Int → ck_D} {nd : Int → Int} (hp : co_pg p n) (hX : co_sol p n X) (hpr : ∀ b j, 6 ≤ b → b ≤ 14 → σ b j = p b j) (hi : co_mi p n X c m) (h0 : m 480 21 = 0) (hk : k = m 480 20) (hcl : co_cl σ m) (hc : c ≤ 1000000000) (hn : σ 17 k = nd k) (hn7 : 0 ≤ nd k ∧ nd k ≤ 7) (hnd : nd k = ck_ndl (p 6 k) (p 7 k) (p 8 k) (p 9 k) (X k)) (ht : σ 6 k < 9 ∨ 12 < σ 6 k) : ck_cal 5 cm_Ma_perform [.inr (1, 3, 3), .inl k] σ (fun q σ' => ∃ e m1, q = some e ∧ co_cl σ' m1 ∧ co_cf σ σ' ∧ ((m1 480 21 ≠ 0 ∧ co_one p n nd m = (0, m1)) ∨ (m1 480 21 = 0 ∧ co_one p n nd m = (1, co_adv n m1 e) ∧ 0 ≤ e ∧ e ≤ n))) := by
  refine ck_cal_of ?_
  obtain ⟨hmd, ⟨k0, -⟩, hw, hsd⟩ := hi
  obtain ⟨k1, hs⟩ := hsd h0
  rw [← hk] at k0 k1 hs
  have hnn := hp.1
  have hk64 : 0 ≤ k ∧ k < 64 := ⟨k0, by omega⟩
  have e6 := hpr 6 k (by decide) (by decide)
  have e7 := hpr 7 k (by decide) (by decide)
  have e8 := hpr 8 k (by decide) (by decide)
  have e9 := hpr 9 k (by decide) (by decide)
  have e10 := hpr 10 k (by decide) (by decide)
  have e11 := hpr 11 k (by decide) (by decide)
  have e12 := hpr 12 k (by decide) (by decide)
  have hO := hp.2.1 k k0 k1
  have hQ := hO
  unfold ck_sOk at hQ
  have hst : σ 1 9 = 0 := hcl.2.2.2.2.2.1.1.trans h0
  have hlo := co_lo_of hs hO
  rw [← hnd] at hlo
  have hv : ∀ r, 0 ≤ r → r < 4 → ck_va (X k) r ≠ 1 + k := fun r a b => by
    have := co_vb_fam hp hX k k0 k1 r a b
    omega
  obtain ⟨d1, d2, d3, d4, d5⟩ := co_act_ok (nd := nd k) hmd hs hO k0 hv (by omega)
  have eo : co_one p n nd m = (if (co_act (p 6 k) (p 7 k) (p 8 k) (p 9 k) (nd k) m).1 = 0 then co_act (p 6 k) (p 7 k) (p 8 k) (p 9 k) (nd k) m else (1, co_adv n (co_act (p 6 k) (p 7 k) (p 8 k) (p 9 k) (nd k) m).2 (k + 1))) := by
    unfold co_one
    rw [← hk]
    unfold co_onk
    rw [if_neg (by omega), if_neg (by omega), if_neg (by omega)]
  refine ck_go_run 24 (X1 := (ck_sw 9 (σ 6 k) 179 [72, 124, 144, 95], [some (.inr (1, 3, 3)), some (.inl k), some (.inl (σ 7 k)), some (.inl (σ 8 k)), some (.inl (σ 9 k)), none], [], σ)) (ps := [0 ≤ k ∧ k < ((64 : Nat) : Int), 0 ≤ k ∧ k < ((64 : Nat) : Int), 0 ≤ k ∧ k < ((64 : Nat) : Int), 0 ≤ k ∧ k < ((64 : Nat) : Int), ck_rg (σ 6 k)]) rfl ⟨⟨by omega, by omega⟩, ⟨by omega, by omega⟩, ⟨by omega, by omega⟩, ⟨by omega, by omega⟩, (ck_rgo (by omega) (by omega)), trivial⟩ ?_
  · refine ck_go_pc (q := 179) (by
      unfold ck_sw
      rcases ht with h | h
      · rw [if_pos h]
      · rw [if_neg (by omega), List.getElem?_eq_none (by show 4 ≤ _; omega)]
        rfl) ?_
    refine ck_go_run 5 (X1 := (185, [some (.inr (1, 3, 3)), some (.inl k), some (.inl (σ 7 k)), some (.inl (σ 8 k)), some (.inl (σ 9 k)), none], [.inl (σ 9 k), .inl (σ 8 k), .inl (σ 7 k), .inl k, .inr (1, 3, 3)], σ)) (ps := []) rfl trivial ?_
    refine ck_go_cal (rest := []) (ck_cal_le (by decide) (cx_pp (σ := σ) hk64 hcl hmd hc rfl (by rw [e6, e7, e8, e9]; exact hO) (by omega) hst hn hn7 (by rw [e6, e7, e8, e9]; exact hlo))) ⟨_, rfl, Or.inl ⟨_, rfl⟩, rfl, rfl, rfl, Nat.le_of_ble_eq_true rfl, fun _ => ⟨_, _, rfl⟩⟩ ?_
    rintro _ s1 ⟨rfl, c1, g1⟩
    rw [e6, e7, e8, e9] at c1
    refine ck_go_run 3 (X1 := (191, [some (.inr (1, 3, 3)), some (.inl k), some (.inl (σ 7 k)), some (.inl (σ 8 k)), some (.inl (σ 9 k)), none], [.inl (k + 1)], s1)) (ps := []) rfl trivial ?_
    rcases d5 with ⟨z1, z2, z3⟩ | ⟨z1, z2, z3⟩
    · refine ck_eI ⟨_, _, rfl, c1, g1, Or.inr ⟨z2.trans h0, ?_, by omega, by omega⟩⟩ rfl rfl rfl
      rw [eo, if_neg (by omega)]
    · refine ck_eI ⟨_, _, rfl, c1, g1, Or.inl ⟨by omega, ?_⟩⟩ rfl rfl rfl
      rw [eo, if_pos z1]
      exact Prod.ext z1 rfl
theorem cx_perform {σ m p : ck_M} {n c k : Int} {X : Int → ck_D} {nd : Int → Int} (hp : co_pg p n) (hX : co_sol p n X) (hpr : ∀ b j, 6 ≤ b → b ≤ 14 → σ b j = p b j) (hi : co_mi p n X c m) (h0 : m 480 21 = 0) (hk : k = m 480 20) (hcl : co_cl σ m) (hc : c ≤ 1000000000) (hn : σ 17 k = nd k) (hn7 : 0 ≤ nd k ∧ nd k ≤ 7) (hnd : nd k = ck_ndl (p 6 k) (p 7 k) (p 8 k) (p 9 k) (X k)) : ck_cal 5 cm_Ma_perform [.inr (1, 3, 3), .inl k] σ (fun q σ' => ∃ e m1, q = some e ∧ co_cl σ' m1 ∧ co_cf σ σ' ∧ ((m1 480 21 ≠ 0 ∧ co_one p n nd m = (0, m1)) ∨ (m1 480 21 = 0 ∧ co_one p n nd m = (1, co_adv n m1 e) ∧ 0 ≤ e ∧ e ≤ n))) := by
  by_cases h1 : σ 6 k = 9
  · exact cx_perf_if hp hX hpr hi h0 hk hcl hc hn hn7 hnd h1
  · by_cases h2 : σ 6 k = 12
    · exact cx_perf_while hp hX hpr hi h0 hk hcl hc hn hn7 hnd h2
    · by_cases h3 : σ 6 k = 10
      · exact cx_perf_else hp hX hpr hi h0 hk hcl hc hn hn7 hnd h3
      · by_cases h4 : σ 6 k = 11
        · exact cx_perf_end hp hX hpr hi h0 hk hcl hc hn hn7 hnd h4
        · exact cx_perf_act hp hX hpr hi h0 hk hcl hc hn hn7 hnd (by omega)
theorem cx_advance {σ m0 p : ck_M} {N n c : Int} {X : Int → ck_D} {nd : Int → Int} (h : 1 ≤ N ∧ N ≤ 2000) (hp : co_pg p n) (hX : co_sol p n X) (hpr : ∀ b j, 6 ≤ b → b ≤ 14 → σ b j = p b j) (hn5 : σ 5 10 = n) (hi : co_mi p n X c m0) (hcl : co_cl σ m0) (hc : c ≤ 100000000) (hn : ∀ k, 0 ≤ k → k < n → σ 17 k = nd k) (hn7 : ∀ k, 0 ≤ k → k < n → 0 ≤ nd k ∧ nd k ≤ 7) (hnd : ∀ k, 0 ≤ k → k < n → nd k = ck_ndl (p 6 k) (p 7 k) (p 8 k) (p 9 k) (X k)) : ck_cal 6 cm_Ma_advance [.inr (1, 3, 3), .inl N] σ (fun q σ' => q = some (co_rn p n nd N.toNat m0).1 ∧ co_cl σ' (co_rn p n nd N.toNat m0).2 ∧ co_cf σ σ') := by
  refine ck_cal_of ?_
  refine ck_go_run 2 (X1 := (2, [some (.inr (1, 3, 3)), some (.inl N), some (.inl 0), none], [], σ)) (ps := []) rfl trivial ?_
  refine ck_forU 2 (fun v u => [some (.inr (1, 3, 3)), some (.inl N), some (.inl v), u.1]) N (fun v s => ∃ m, co_rI p n nd N m0 v m ∧ co_mi p n X (c + 4 * v) m ∧ co_cl s m ∧ co_cf σ s) (fun v u s hv hI kk => ?_) (fun v u s hv hI => ?_) 0 (none, none, none) _ ⟨m0, co_rI_0 (by omega), by rw [Int.mul_zero, Int.add_zero]; exact hi, hcl, co_cf_r σ⟩
  · obtain ⟨m, hR, hM, hC, hF⟩ := hI
    have hv0 := hR.1
    have hw := hM.2.2.1
    have g9 : s 1 9 = m 480 21 := hC.2.2.2.2.2.1.1
    have g10 : s 1 10 = m 480 20 := hC.2.2.2.2.2.1.2.1
    have gN : s 5 10 = n := (hF 5 10 (by decide) (by decide) (by decide)).trans hn5
    have hnn := hp.1
    refine ck_go_run 3 (X1 := (if v < N then 7 else 74, [some (.inr (1, 3, 3)), some (.inl N), some (.inl v), u.1], [], s)) (ps := [ck_rg v, ck_rg N]) rfl ⟨(ck_rgo (by omega) (by omega)), (ck_rgo (by omega) (by omega)), trivial⟩ ?_
    refine ck_go_t hv ?_
    refine ck_go_run 3 (X1 := (if s 1 9 = 0 then 16 else 14, [some (.inr (1, 3, 3)), some (.inl N), some (.inl v), u.1], [], s)) (ps := [ck_rg (s 1 9)]) rfl ⟨(ck_rgo (by omega) (by omega)), trivial⟩ ?_
    refine ck_go_ite (fun h1 => ?_) (fun h1 => ?_)
    · have h0 : m 480 21 = 0 := by omega
      refine ck_go_run 3 (X1 := (21, [some (.inr (1, 3, 3)), some (.inl N), some (.inl v), u.1], [.inl (s 1 10), .inr (1, 3, 3)], s)) (ps := []) rfl trivial ?_
      refine ck_go_cal (rest := []) (ck_cal_le (by decide) (cx_perform (σ := s) (k := s 1 10) (nd := nd) hp hX (fun b j z1 z2 => (hF b j (by omega) (by omega) (by omega)).trans (hpr b j z1 z2)) hM h0 g10 hC (by omega) (by rw [hF 17 _ (by decide) (by decide) (Or.inl (by decide)), g10]; exact hn _ hM.2.1.1 (hM.2.2.2 h0).1) (by rw [g10]; exact hn7 _ hM.2.1.1 (hM.2.2.2 h0).1) (by rw [g10]; exact hnd _ hM.2.1.1 (hM.2.2.2 h0).1))) ⟨_, rfl, Or.inl ⟨_, rfl⟩, rfl, rfl, rfl, Nat.le_of_ble_eq_true rfl, fun _ => ⟨_, _, rfl⟩⟩ ?_
      obtain ⟨o1, o2, o3⟩ := co_one_ok (nd := nd) hp hX hM h0
      rintro _ s1 ⟨e, m1, rfl, c1, g1, hd⟩
      have t9 : s1 1 9 = m1 480 21 := c1.2.2.2.2.2.1.1
      have tN : s1 5 10 = n := (g1 5 10 (by decide) (by decide) (by decide)).trans gN
      have hb9 : 0 ≤ m1 480 21 ∧ m1 480 21 ≤ 6 := by
        rcases hd with ⟨z1, z2⟩ | ⟨z1, z2, z3⟩
        · rw [z2] at o1
          exact o1.2.2.1
        · omega
      refine ck_go_run 4 (X1 := (if s1 1 9 = 0 then 34 else 32, [some (.inr (1, 3, 3)), some (.inl N), some (.inl v), some (.inl e)], [], s1)) (ps := [ck_rg (s1 1 9)]) rfl ⟨(ck_rgo (by omega) (by omega)), trivial⟩ ?_
      refine ck_go_ite (fun h2 => ?_) (fun h2 => ?_)
      · have hd := hd.resolve_left (fun z => absurd z.1 (by omega))
        refine ck_go_run 15 (X1 := (if e < s1 5 10 then 68 else 63, [some (.inr (1, 3, 3)), some (.inl N), some (.inl v), some (.inl e)], [], ck_up (ck_up s1 1 11 ((s1 1 11) + 1)) 1 10 e)) (ps := [ck_rg e, ck_rg (s1 5 10)]) rfl ⟨(ck_rgo (by omega) (by omega)), (ck_rgo (by omega) (by omega)), trivial⟩ ?_
        refine ck_go_ite (fun h3 => ?_) (fun h3 => ?_)
        · refine ck_go_run 2 (X1 := (2, [some (.inr (1, 3, 3)), some (.inl N), some (.inl (v + 1)), some (.inl e)], [], ck_up (ck_up s1 1 11 ((s1 1 11) + 1)) 1 10 e)) (ps := []) rfl trivial ?_
          exact kk (some (.inl e), none, none) _ ⟨(co_one p n nd m).2, co_rI_go hR hv h0 (by rw [hd.2.1]), ⟨co_md_up o1.1 (by omega), o1.2⟩, by
            rw [hd.2.1]
            exact co_cl_adv1 c1 hd.1 (by omega), co_cf_tr (co_cf_tr hF g1) (fun b j z1 z2 z3 => (if_neg (by omega)).trans (if_neg (by omega)))⟩
        · refine ck_go_run 5 (X1 := (2, [some (.inr (1, 3, 3)), some (.inl N), some (.inl (v + 1)), some (.inl e)], [], ck_up (ck_up (ck_up s1 1 11 ((s1 1 11) + 1)) 1 10 e) 1 9 1)) (ps := []) rfl trivial ?_
          exact kk (some (.inl e), none, none) _ ⟨(co_one p n nd m).2, co_rI_go hR hv h0 (by rw [hd.2.1]), ⟨co_md_up o1.1 (by omega), o1.2⟩, by
            rw [hd.2.1]
            exact co_cl_adv2 c1 (by omega), co_cf_tr (co_cf_tr hF g1) (fun b j z1 z2 z3 => (if_neg (by omega)).trans ((if_neg (by omega)).trans (if_neg (by omega))))⟩
      · refine ck_go_run 1 (X1 := (33, [some (.inr (1, 3, 3)), some (.inl N), some (.inl v), some (.inl e)], [.inl v], s1)) (ps := []) rfl trivial ?_
        have hd1 := hd.resolve_right (fun z => absurd z.1 (by omega))
        have hE := co_rI_fail hR hv h0 (by rw [hd1.2])
        rw [hd1.2] at hE
        exact ck_eI ⟨by rw [hE], by rw [hE]; exact c1, co_cf_tr hF g1⟩ rfl rfl rfl
    · refine ck_go_run 1 (X1 := (15, [some (.inr (1, 3, 3)), some (.inl N), some (.inl v), u.1], [.inl v], s)) (ps := []) rfl trivial ?_
      have hE : co_rn p n nd N.toNat m0 = (v, m) := by
        first | exact co_rI_end hR hv | exact co_rI_stop hR (by omega)
      have ev : v = v := by omega
      exact ck_eI ⟨by rw [hE, ev], by rw [hE]; exact hC, hF⟩ rfl rfl rfl
  · obtain ⟨m, hR, hM, hC, hF⟩ := hI
    have hv0 := hR.1
    have hw := hM.2.2.1
    have g9 : s 1 9 = m 480 21 := hC.2.2.2.2.2.1.1
    have g10 : s 1 10 = m 480 20 := hC.2.2.2.2.2.1.2.1
    have gN : s 5 10 = n := (hF 5 10 (by decide) (by decide) (by decide)).trans hn5
    have hnn := hp.1
    refine ck_go_run 3 (X1 := (if v < N then 7 else 74, [some (.inr (1, 3, 3)), some (.inl N), some (.inl v), u.1], [], s)) (ps := [ck_rg v, ck_rg N]) rfl ⟨(ck_rgo (by omega) (by omega)), (ck_rgo (by omega) (by omega)), trivial⟩ ?_
    refine ck_go_f (by omega) ?_
    refine ck_go_run 1 (X1 := (75, [some (.inr (1, 3, 3)), some (.inl N), some (.inl v), u.1], [.inl N], s)) (ps := []) rfl trivial ?_
    have hE : co_rn p n nd N.toNat m0 = (v, m) := by
      first | exact co_rI_end hR hv | exact co_rI_stop hR (by omega)
    have ev : N = v := by omega
    exact ck_eI ⟨by rw [hE, ev], by rw [hE]; exact hC, hF⟩ rfl rfl rfl
