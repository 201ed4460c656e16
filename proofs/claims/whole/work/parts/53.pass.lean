theorem co_pm_fr {σ s p : ck_M} {n : Int} (h : ∀ b j, (b < 490 ∨ 495 < b) → s b j = σ b j) (hm : co_pm σ p n) : co_pm s p n := by
  refine ⟨(h _ _ (by decide)).trans hm.1, fun k a b => ?_⟩
  rw [h 481 k (by decide), h 482 k (by decide), h 483 k (by decide), h 484 k (by decide), h 485 k (by decide), h 486 k (by decide), h 487 k (by decide)]
  exact hm.2 k a b
theorem co_pJ_init {σ s p : ck_M} {n : Int} {i : Nat} (hp : co_pg p n) (hP : co_pP σ p n i) (h : ∀ b j, b ≠ 490 → s b j = σ b j) (hr : ck_mv (s 490) = co_W p i 0) : co_pJ σ p n i 0 0 0 0 (co_W p i 0) s := by
  obtain ⟨h1, h2, h3, h4⟩ := hP
  have hf : ck_f1 σ s 490 := h
  have hE := h
  refine ⟨fun b j q => h b j (by omega), hr, fun j a b => ⟨fun c => by omega, fun _ => co_rw_f1 hf (by decide)⟩, fun h a b c => by omega, fun e a b c => by omega, fun j a b => ?_, fun j a b c => ⟨fun d => ?_, fun _ => co_ol_eq (hf _ _ (by decide)) (co_rw_f1 hf (by decide)) (h4 j a b c)⟩, Or.inl rfl, ⟨fun _ j a b => by omega, fun _ => rfl⟩⟩
  · rw [co_rw_f1 hf (by decide)]; exact h2 j a b
  · have := (hp.2.2.1 j a b (Or.inr c)).1
    omega
theorem co_fc_qb {p : ck_M} {n : Int} {i : Nat} {k : Int} (hp : co_pg p n) (h0 : 0 ≤ k) (h1 : k < n) : ck_qb (ck_qFc (p 13 k) (p 14 k) k (co_W p i k)) := by
  rw [co_L_fc hp h0 h1]
  exact co_e_qb ⟨h0, by have := hp.1; omega⟩ (co_wb_dFc h0 (co_A0_wbi hp h0 h1)) (co_J_b9 hp h0 h1)
set_option maxHeartbeats 8000000 in
theorem cx_pass {σ p : ck_M} {n : Int} {i : Nat} (hp : co_pg p n) (hP : co_pP σ p n i) : ck_cal 5 cm_Mo_pass [.inr (480, 3, 6)] σ (fun q σ' => (∀ b j, (b < 490 ∨ 495 < b) → σ' b j = σ b j) ∧ co_pP σ' p n (i + 1) ∧ (∀ k, 0 ≤ k → k < n → ck_rw σ' 491 k = co_R p i k) ∧ ((q = some 0 ∧ ∀ k, 0 ≤ k → k < n → ck_rw σ 491 k = co_R p i k) ∨ (q = some 1 ∧ ¬ ∀ k, 0 ≤ k → k < n → ck_rw σ 491 k = co_R p i k))) := by
  refine ck_cal_of ?_
  refine ck_go_run 4 (X1 := (4, [some (.inr (480, 3, 6)), some (.inl 0), some (.inl 0)], [], σ)) (ps := []) rfl trivial ?_
  refine ck_for 4 (fun v => [some (.inr (480, 3, 6)), some (.inl 0), some (.inl v)]) 10 (fun v s => (0 ≤ v ∧ v ≤ 10) ∧ (∀ b j, b ≠ 490 → s b j = σ b j) ∧ ∀ m, 0 ≤ m → m < v → s 490 m = 1 ∧ s 490 (10 + m) = 0 ∧ s 490 (20 + m) = 0) (fun v s hv hI kk => ?_) (fun v s hv hI => ?_) 0 _ ⟨⟨by omega, by omega⟩, fun _ _ _ => rfl, fun m a b => by omega⟩
  · obtain ⟨⟨v0, v1⟩, hf, hr⟩ := hI
    refine ck_go_run 3 (X1 := (if v < 10 then 10 else 45, [some (.inr (480, 3, 6)), some (.inl 0), some (.inl v)], [], s)) (ps := [ck_rg v, ck_rg 10]) rfl ⟨(ck_rgo (by omega) (by omega)), (ck_rgo (by omega) (by omega)), trivial⟩ ?_
    refine ck_go_t hv ?_
    refine ck_go_run 23 (X1 := (4, [some (.inr (480, 3, 6)), some (.inl 0), some (.inl (v + 1))], [], ck_up (ck_up (ck_up s 490 (0 + v) 1) 490 (10 + v) 0) 490 (20 + v) 0)) (ps := [0 ≤ 0 + v ∧ 0 + v < ((82 : Nat) : Int), 0 ≤ 10 + v ∧ 10 + v < ((82 : Nat) : Int), 0 ≤ 20 + v ∧ 20 + v < ((82 : Nat) : Int)]) rfl ⟨⟨by omega, by omega⟩, ⟨by omega, by omega⟩, ⟨by omega, by omega⟩, trivial⟩ ?_
    exact kk _ ⟨⟨by omega, by omega⟩, fun b j q => by
      simp only [ck_up]
      rw [if_neg (by omega), if_neg (by omega), if_neg (by omega)]
      exact hf b j q, fun m a b => by
      simp only [ck_up, true_and]
      by_cases e : m = v
      · rw [e]
        (repeat' split) <;> first | omega | exact ⟨by omega, by omega, by omega⟩
      · have := hr m a (by omega)
        (repeat' split) <;> omega⟩
  · obtain ⟨⟨v0, v1⟩, hf, hr⟩ := hI
    refine ck_go_run 3 (X1 := (if v < 10 then 10 else 45, [some (.inr (480, 3, 6)), some (.inl 0), some (.inl v)], [], s)) (ps := [ck_rg v, ck_rg 10]) rfl ⟨(ck_rgo (by omega) (by omega)), (ck_rgo (by omega) (by omega)), trivial⟩ ?_
    refine ck_go_f (by omega) ?_
    refine ck_go_run 2 (X1 := (47, [some (.inr (480, 3, 6)), some (.inl 0), some (.inl 0)], [], s)) (ps := []) rfl trivial ?_
    refine ck_for 47 (fun v => [some (.inr (480, 3, 6)), some (.inl 0), some (.inl v)]) 4 (fun v s => (0 ≤ v ∧ v ≤ 4) ∧ (∀ b j, b ≠ 490 → s b j = σ b j) ∧ co_r0 v (ck_mv (s 490))) (fun v s hv hI kk => ?_) (fun v s hv hI => ?_) 0 _ ⟨⟨by omega, by omega⟩, hf, fun m a b => ⟨(ck_y_K rfl a b).symm.trans (by rw [Int.zero_add]; exact (hr m a (by omega)).1), (ck_y_I rfl a b).symm.trans (hr m a (by omega)).2.1, (ck_y_L rfl a b).symm.trans (hr m a (by omega)).2.2⟩, fun r a b c => by omega⟩
    · obtain ⟨⟨v0, v1⟩, hf, hr⟩ := hI
      refine ck_go_run 3 (X1 := (if v < 4 then 52 else 63, [some (.inr (480, 3, 6)), some (.inl 0), some (.inl v)], [], s)) (ps := [ck_rg v, ck_rg 4]) rfl ⟨(ck_rgo (by omega) (by omega)), (ck_rgo (by omega) (by omega)), trivial⟩ ?_
      refine ck_go_t hv ?_
      refine ck_go_run 2 (X1 := (54, [some (.inr (480, 3, 6)), some (.inl 0), some (.inl v)], [.inl v, .inr (480, 3, 6)], s)) (ps := []) rfl trivial ?_
      refine ck_go_cal (rest := []) (ck_cal_le (by decide) (cx_nothing (σ := s) (r := v) ⟨v0, by omega⟩ rfl)) ⟨_, rfl, Or.inl ⟨_, rfl⟩, rfl, rfl, rfl, Nat.le_of_ble_eq_true rfl, fun _ => ⟨_, _, rfl⟩⟩ ?_
      rintro _ s1 ⟨rfl, g1, r1⟩
      try dsimp only at g1 r1
      refine ck_go_run 2 (X1 := (47, [some (.inr (480, 3, 6)), some (.inl 0), some (.inl (v + 1))], [], s1)) (ps := []) rfl trivial ?_
      exact kk _ ⟨⟨by omega, by omega⟩, fun b j q => (g1 b j q).trans (hf b j q), by rw [r1]; exact co_r0_s v0 (by omega) hr⟩
    · obtain ⟨⟨v0, v1⟩, hf, hr⟩ := hI
      refine ck_go_run 3 (X1 := (if v < 4 then 52 else 63, [some (.inr (480, 3, 6)), some (.inl 0), some (.inl v)], [], s)) (ps := [ck_rg v, ck_rg 4]) rfl ⟨(ck_rgo (by omega) (by omega)), (ck_rgo (by omega) (by omega)), trivial⟩ ?_
      refine ck_go_f (by omega) ?_
      have e4 : v = 4 := by omega
      refine ck_go_run 2 (X1 := (65, [some (.inr (480, 3, 6)), some (.inl 0), some (.inl 0)], [], s)) (ps := []) rfl trivial ?_
      refine ck_forI 65 (fun v a => [some (.inr (480, 3, 6)), some (.inl a), some (.inl v)]) n (fun v a s => (0 ≤ v ∧ v ≤ n) ∧ co_pJ σ p n i v v v a (co_W p i v) s) (fun v a s hv hI kk => ?_) (fun v a s hv hI => ?_) 0 0 _ ⟨⟨by omega, hp.1.1⟩, co_pJ_init hp hP hf (co_r0_e (by rw [e4] at hr; exact hr) p i)⟩
      · obtain ⟨⟨v0, v1⟩, hJ⟩ := hI
        have eN : s 480 1 = n := (hJ.1 _ _ (by decide)).trans hP.1.1
        have hn := hp.1
        have hlt : v < n := hv
        have pk := hP.1.2 v v0 hlt
        have hs := hp.2.1 v v0 hlt
        unfold ck_sOk at hs
        have hm : co_pm s p n := co_pm_fr hJ.1 hP.1
        have f_s := hJ.1
        have eN_s : s 480 1 = n := (f_s _ _ (by decide)).trans hP.1.1
        have a1_s : s 481 v = p 6 v := (f_s _ _ (by decide)).trans pk.1.1
        have a2_s : s 482 v = p 7 v := (f_s _ _ (by decide)).trans pk.1.2.1
        have a3_s : s 483 v = p 8 v := (f_s _ _ (by decide)).trans pk.1.2.2.1
        have a4_s : s 484 v = p 9 v := (f_s _ _ (by decide)).trans pk.1.2.2.2.1
        have a7_s : p 6 v = 10 ∨ p 6 v = 11 → s 487 v = p 10 v := fun z => (f_s _ _ (by decide)).trans (pk.2.2 z).1
        refine ck_go_run 4 (X1 := (if v < s 480 1 then 73 else 254, [some (.inr (480, 3, 6)), some (.inl a), some (.inl v)], [], s)) (ps := [ck_rg v, ck_rg (s 480 1)]) rfl ⟨(ck_rgo (by omega) (by omega)), (ck_rgo (by omega) (by omega)), trivial⟩ ?_
        refine ck_go_t (by omega) ?_
        refine ck_mid 103 (fun u => [some (.inr (480, 3, 6)), some (.inl a), some (.inl v)]) (fun t1 => co_pJ σ p n i v v (v + 1) a (co_R p i v) t1) (fun u t1 hJ => ?_) (fun jj => ?_)
        · have hJ1 := hJ
          refine ck_go_run 2 (X1 := (105, [some (.inr (480, 3, 6)), some (.inl a), some (.inl v)], [.inl v, .inr (480, 3, 6)], t1)) (ps := []) rfl trivial ?_
          refine ck_go_cal (rest := []) (ck_cal_le (by decide) (cx_tell' (σ := t1) (k := v) ⟨v0, by omega⟩ (by rw [(hJ1.2.2.1 v v0 (by omega)).2 (Int.le_refl _)]; exact hP.2.2.1 v v0 (by omega)) (by rw [hJ1.2.1]; exact co_R_qb hp v0 hlt))) ⟨_, rfl, Or.inl ⟨_, rfl⟩, rfl, rfl, rfl, Nat.le_of_ble_eq_true rfl, fun _ => ⟨_, _, rfl⟩⟩ ?_
          rintro _ s2 ⟨x, rfl, hkp, hx⟩
          have hx01 : x = 0 ∨ x = 1 := by
            rcases hx with ⟨z, -⟩ | ⟨z, -⟩
            · exact Or.inl z
            · exact Or.inr z
          have ha01 := hJ1.2.2.2.2.2.2.2.1
          refine ck_mid2 121 (fun (u : Int) => [some (.inr (480, 3, 6)), some (.inl u), some (.inl v)]) (fun u t2 => co_pJ σ p n i v (v + 1) (v + 1) u (co_R p i v) t2) (fun u t2 hJ => ?_) (fun jj => ?_)
          · have hJ2 := hJ
            have f_t2 := hJ2.1
            have eN_t2 : t2 480 1 = n := (f_t2 _ _ (by decide)).trans hP.1.1
            have a1_t2 : t2 481 v = p 6 v := (f_t2 _ _ (by decide)).trans pk.1.1
            have a2_t2 : t2 482 v = p 7 v := (f_t2 _ _ (by decide)).trans pk.1.2.1
            have a3_t2 : t2 483 v = p 8 v := (f_t2 _ _ (by decide)).trans pk.1.2.2.1
            have a4_t2 : t2 484 v = p 9 v := (f_t2 _ _ (by decide)).trans pk.1.2.2.2.1
            have a7_t2 : p 6 v = 10 ∨ p 6 v = 11 → t2 487 v = p 10 v := fun z => (f_t2 _ _ (by decide)).trans (pk.2.2 z).1
            refine ck_go_run 6 (X1 := (if t2 481 v = 9 then 143 else 132, [some (.inr (480, 3, 6)), some (.inl u), some (.inl v)], [], t2)) (ps := [0 ≤ v ∧ v < ((64 : Nat) : Int), ck_rg (t2 481 v), ck_rg 9]) rfl ⟨⟨by omega, by omega⟩, (ck_rgo (by omega) (by omega)), (ck_rgo (by omega) (by omega)), trivial⟩ ?_
            refine ck_go_ite (fun h1 => ?_) (fun h1 => ?_)
            · have hT : p 6 v = 9 ∨ p 6 v = 12 := by omega
              refine ck_go_run 3 (X1 := (146, [some (.inr (480, 3, 6)), some (.inl u), some (.inl v)], [.inl 0, .inl v, .inr (480, 3, 6)], t2)) (ps := []) rfl trivial ?_
              refine ck_go_cal (rest := []) (ck_cal_le (by decide) (cx_branch0 (σ := t2) (k := v) (x := p 7 v) (y := p 8 v) (z := p 9 v) ⟨v0, by omega⟩ (by omega) (by omega) (by omega) a2_t2 a3_t2 a4_t2 hJ2.2.1 (co_R_qb hp v0 hlt))) ⟨_, rfl, Or.inl ⟨_, rfl⟩, rfl, rfl, rfl, Nat.le_of_ble_eq_true rfl, fun _ => ⟨_, _, rfl⟩⟩ ?_
              rintro _ s3 ⟨rfl, g3, r3⟩
              try dsimp only at g3 r3
              have j3 := co_pJ_row hJ2 g3 (r3.trans (co_L_not hp v0 hlt hT))
              refine ck_go_run 4 (X1 := (155, [some (.inr (480, 3, 6)), some (.inl u), some (.inl v)], [.inl v, .inr (492, 0, 5248), .inr (480, 3, 6)], s3)) (ps := []) rfl trivial ?_
              refine ck_go_cal (rest := []) (ck_cal_le (by decide) (cx_keep' (σ := s3) (a := 492) (k := v) rfl (by decide) ⟨v0, by omega⟩)) ⟨_, rfl, Or.inl ⟨_, rfl⟩, rfl, rfl, rfl, Nat.le_of_ble_eq_true rfl, fun _ => ⟨_, _, rfl⟩⟩ ?_
              rintro _ s4 ⟨rfl, k4⟩
              try dsimp only at k4
              have j4 := co_pJ_if hp v0 hlt hT j3 k4
              refine ck_go_run 4 (X1 := (164, [some (.inr (480, 3, 6)), some (.inl u), some (.inl v)], [.inl v, .inr (491, 0, 5248), .inr (480, 3, 6)], s4)) (ps := []) rfl trivial ?_
              refine ck_go_cal (rest := []) (ck_cal_le (by decide) (cx_take' (σ := s4) (a := 491) (k := v) rfl (by decide) ⟨v0, by omega⟩)) ⟨_, rfl, Or.inl ⟨_, rfl⟩, rfl, rfl, rfl, Nat.le_of_ble_eq_true rfl, fun _ => ⟨_, _, rfl⟩⟩ ?_
              rintro _ s5 ⟨rfl, g5, r5⟩
              try dsimp only at g5 r5
              have j5 := co_pJ_row j4 g5 (r5.trans ((j4.2.2.1 v v0 (by omega)).1 (by omega)))
              have f_s5 := j5.1
              have eN_s5 : s5 480 1 = n := (f_s5 _ _ (by decide)).trans hP.1.1
              have a1_s5 : s5 481 v = p 6 v := (f_s5 _ _ (by decide)).trans pk.1.1
              have a2_s5 : s5 482 v = p 7 v := (f_s5 _ _ (by decide)).trans pk.1.2.1
              have a3_s5 : s5 483 v = p 8 v := (f_s5 _ _ (by decide)).trans pk.1.2.2.1
              have a4_s5 : s5 484 v = p 9 v := (f_s5 _ _ (by decide)).trans pk.1.2.2.2.1
              have a7_s5 : p 6 v = 10 ∨ p 6 v = 11 → s5 487 v = p 10 v := fun z => (f_s5 _ _ (by decide)).trans (pk.2.2 z).1
              refine ck_go_run 3 (X1 := (170, [some (.inr (480, 3, 6)), some (.inl u), some (.inl v)], [.inl 1, .inl v, .inr (480, 3, 6)], s5)) (ps := []) rfl trivial ?_
              refine ck_go_cal (rest := []) (ck_cal_le (by decide) (cx_branch1 (σ := s5) (k := v) (x := p 7 v) (y := p 8 v) (z := p 9 v) ⟨v0, by omega⟩ (by omega) (by omega) (by omega) a2_s5 a3_s5 a4_s5 j5.2.1 (co_R_qb hp v0 hlt))) ⟨_, rfl, Or.inl ⟨_, rfl⟩, rfl, rfl, rfl, Nat.le_of_ble_eq_true rfl, fun _ => ⟨_, _, rfl⟩⟩ ?_
              rintro _ s6 ⟨rfl, g6, r6⟩
              try dsimp only at g6 r6
              refine ck_go_run 3 (X1 := (65, [some (.inr (480, 3, 6)), some (.inl u), some (.inl (v + 1))], [], s6)) (ps := []) rfl trivial ?_
              exact kk u _ ⟨⟨by omega, by omega⟩, co_pJ_row j5 g6 (r6.trans (co_L_bel hp v0 hlt hT))⟩
            · refine ck_go_run 6 (X1 := (if t2 481 v = 12 then 143 else 176, [some (.inr (480, 3, 6)), some (.inl u), some (.inl v)], [], t2)) (ps := [0 ≤ v ∧ v < ((64 : Nat) : Int), ck_rg (t2 481 v), ck_rg 12]) rfl ⟨⟨by omega, by omega⟩, (ck_rgo (by omega) (by omega)), (ck_rgo (by omega) (by omega)), trivial⟩ ?_
              refine ck_go_ite (fun h2 => ?_) (fun h2 => ?_)
              · have hT : p 6 v = 9 ∨ p 6 v = 12 := by omega
                refine ck_go_run 3 (X1 := (146, [some (.inr (480, 3, 6)), some (.inl u), some (.inl v)], [.inl 0, .inl v, .inr (480, 3, 6)], t2)) (ps := []) rfl trivial ?_
                refine ck_go_cal (rest := []) (ck_cal_le (by decide) (cx_branch0 (σ := t2) (k := v) (x := p 7 v) (y := p 8 v) (z := p 9 v) ⟨v0, by omega⟩ (by omega) (by omega) (by omega) a2_t2 a3_t2 a4_t2 hJ2.2.1 (co_R_qb hp v0 hlt))) ⟨_, rfl, Or.inl ⟨_, rfl⟩, rfl, rfl, rfl, Nat.le_of_ble_eq_true rfl, fun _ => ⟨_, _, rfl⟩⟩ ?_
                rintro _ s7 ⟨rfl, g7, r7⟩
                try dsimp only at g7 r7
                have j7 := co_pJ_row hJ2 g7 (r7.trans (co_L_not hp v0 hlt hT))
                refine ck_go_run 4 (X1 := (155, [some (.inr (480, 3, 6)), some (.inl u), some (.inl v)], [.inl v, .inr (492, 0, 5248), .inr (480, 3, 6)], s7)) (ps := []) rfl trivial ?_
                refine ck_go_cal (rest := []) (ck_cal_le (by decide) (cx_keep' (σ := s7) (a := 492) (k := v) rfl (by decide) ⟨v0, by omega⟩)) ⟨_, rfl, Or.inl ⟨_, rfl⟩, rfl, rfl, rfl, Nat.le_of_ble_eq_true rfl, fun _ => ⟨_, _, rfl⟩⟩ ?_
                rintro _ s8 ⟨rfl, k8⟩
                try dsimp only at k8
                have j8 := co_pJ_if hp v0 hlt hT j7 k8
                refine ck_go_run 4 (X1 := (164, [some (.inr (480, 3, 6)), some (.inl u), some (.inl v)], [.inl v, .inr (491, 0, 5248), .inr (480, 3, 6)], s8)) (ps := []) rfl trivial ?_
                refine ck_go_cal (rest := []) (ck_cal_le (by decide) (cx_take' (σ := s8) (a := 491) (k := v) rfl (by decide) ⟨v0, by omega⟩)) ⟨_, rfl, Or.inl ⟨_, rfl⟩, rfl, rfl, rfl, Nat.le_of_ble_eq_true rfl, fun _ => ⟨_, _, rfl⟩⟩ ?_
                rintro _ s9 ⟨rfl, g9, r9⟩
                try dsimp only at g9 r9
                have j9 := co_pJ_row j8 g9 (r9.trans ((j8.2.2.1 v v0 (by omega)).1 (by omega)))
                have f_s9 := j9.1
                have eN_s9 : s9 480 1 = n := (f_s9 _ _ (by decide)).trans hP.1.1
                have a1_s9 : s9 481 v = p 6 v := (f_s9 _ _ (by decide)).trans pk.1.1
                have a2_s9 : s9 482 v = p 7 v := (f_s9 _ _ (by decide)).trans pk.1.2.1
                have a3_s9 : s9 483 v = p 8 v := (f_s9 _ _ (by decide)).trans pk.1.2.2.1
                have a4_s9 : s9 484 v = p 9 v := (f_s9 _ _ (by decide)).trans pk.1.2.2.2.1
                have a7_s9 : p 6 v = 10 ∨ p 6 v = 11 → s9 487 v = p 10 v := fun z => (f_s9 _ _ (by decide)).trans (pk.2.2 z).1
                refine ck_go_run 3 (X1 := (170, [some (.inr (480, 3, 6)), some (.inl u), some (.inl v)], [.inl 1, .inl v, .inr (480, 3, 6)], s9)) (ps := []) rfl trivial ?_
                refine ck_go_cal (rest := []) (ck_cal_le (by decide) (cx_branch1 (σ := s9) (k := v) (x := p 7 v) (y := p 8 v) (z := p 9 v) ⟨v0, by omega⟩ (by omega) (by omega) (by omega) a2_s9 a3_s9 a4_s9 j9.2.1 (co_R_qb hp v0 hlt))) ⟨_, rfl, Or.inl ⟨_, rfl⟩, rfl, rfl, rfl, Nat.le_of_ble_eq_true rfl, fun _ => ⟨_, _, rfl⟩⟩ ?_
                rintro _ s10 ⟨rfl, g10, r10⟩
                try dsimp only at g10 r10
                refine ck_go_run 3 (X1 := (65, [some (.inr (480, 3, 6)), some (.inl u), some (.inl (v + 1))], [], s10)) (ps := []) rfl trivial ?_
                exact kk u _ ⟨⟨by omega, by omega⟩, co_pJ_row j9 g10 (r10.trans (co_L_bel hp v0 hlt hT))⟩
              · refine ck_go_run 6 (X1 := (if t2 481 v = 10 then 187 else 218, [some (.inr (480, 3, 6)), some (.inl u), some (.inl v)], [], t2)) (ps := [0 ≤ v ∧ v < ((64 : Nat) : Int), ck_rg (t2 481 v), ck_rg 10]) rfl ⟨⟨by omega, by omega⟩, (ck_rgo (by omega) (by omega)), (ck_rgo (by omega) (by omega)), trivial⟩ ?_
                refine ck_go_ite (fun h3 => ?_) (fun h3 => ?_)
                · have hT : p 6 v = 10 := by omega
                  have qe := hp.2.2.2.1 v v0 hlt (Or.inl hT)
                  have qt := qe.2.1 hT
                  refine ck_go_run 7 (X1 := (198, [some (.inr (480, 3, 6)), some (.inl u), some (.inl v)], [.inl (t2 487 v), .inr (493, 0, 5248), .inr (480, 3, 6)], t2)) (ps := [0 ≤ v ∧ v < ((64 : Nat) : Int)]) rfl ⟨⟨by omega, by omega⟩, trivial⟩ ?_
                  refine ck_go_cal (rest := []) (ck_cal_le (by decide) (cx_keep' (σ := t2) (a := 493) (k := p 10 v) (a7_t2 (by omega)) (by decide) (by omega))) ⟨_, rfl, Or.inl ⟨_, rfl⟩, rfl, rfl, rfl, Nat.le_of_ble_eq_true rfl, fun _ => ⟨_, _, rfl⟩⟩ ?_
                  rintro _ s11 ⟨rfl, k11⟩
                  try dsimp only at k11
                  have j11 := co_pJ_else hp v0 hlt hT hJ2 k11
                  have f_s11 := j11.1
                  have eN_s11 : s11 480 1 = n := (f_s11 _ _ (by decide)).trans hP.1.1
                  have a1_s11 : s11 481 v = p 6 v := (f_s11 _ _ (by decide)).trans pk.1.1
                  have a2_s11 : s11 482 v = p 7 v := (f_s11 _ _ (by decide)).trans pk.1.2.1
                  have a3_s11 : s11 483 v = p 8 v := (f_s11 _ _ (by decide)).trans pk.1.2.2.1
                  have a4_s11 : s11 484 v = p 9 v := (f_s11 _ _ (by decide)).trans pk.1.2.2.2.1
                  have a7_s11 : p 6 v = 10 ∨ p 6 v = 11 → s11 487 v = p 10 v := fun z => (f_s11 _ _ (by decide)).trans (pk.2.2 z).1
                  refine ck_go_run 7 (X1 := (212, [some (.inr (480, 3, 6)), some (.inl u), some (.inl v)], [.inl (s11 487 v), .inr (492, 0, 5248), .inr (480, 3, 6)], s11)) (ps := [0 ≤ v ∧ v < ((64 : Nat) : Int)]) rfl ⟨⟨by omega, by omega⟩, trivial⟩ ?_
                  refine ck_go_cal (rest := []) (ck_cal_le (by decide) (cx_take' (σ := s11) (a := 492) (k := p 10 v) (a7_s11 (by omega)) (by decide) (by omega))) ⟨_, rfl, Or.inl ⟨_, rfl⟩, rfl, rfl, rfl, Nat.le_of_ble_eq_true rfl, fun _ => ⟨_, _, rfl⟩⟩ ?_
                  rintro _ s12 ⟨rfl, g12, r12⟩
                  try dsimp only at g12 r12
                  refine ck_go_run 3 (X1 := (65, [some (.inr (480, 3, 6)), some (.inl u), some (.inl (v + 1))], [], s12)) (ps := []) rfl trivial ?_
                  exact kk u _ ⟨⟨by omega, by omega⟩, co_pJ_row j11 g12 (r12.trans ((j11.2.2.2.1 _ qe.1.1 (by omega) (Or.inl qt.1)).trans (co_L_els hp v0 hlt hT)))⟩
                · refine ck_go_run 6 (X1 := (if t2 481 v = 11 then 229 else 243, [some (.inr (480, 3, 6)), some (.inl u), some (.inl v)], [], t2)) (ps := [0 ≤ v ∧ v < ((64 : Nat) : Int), ck_rg (t2 481 v), ck_rg 11]) rfl ⟨⟨by omega, by omega⟩, (ck_rgo (by omega) (by omega)), (ck_rgo (by omega) (by omega)), trivial⟩ ?_
                  refine ck_go_ite (fun h4 => ?_) (fun h4 => ?_)
                  · have hT : p 6 v = 11 := by omega
                    have qe := hp.2.2.2.1 v v0 hlt (Or.inr hT)
                    have qt := (qe.2.2 hT).1
                    have qh := hp.2.2.1 _ qe.1.1 (by omega) qt
                    have c1 : t2 481 (p 10 v) = p 6 (p 10 v) := (f_t2 _ _ (by decide)).trans (hP.1.2 _ qe.1.1 (by omega)).1.1
                    have c2 : t2 485 (p 10 v) = p 11 (p 10 v) := (f_t2 _ _ (by decide)).trans (hP.1.2 _ qe.1.1 (by omega)).1.2.2.2.2
                    have hz9 : -100 ≤ p 9 (p 10 v) ∧ p 9 (p 10 v) ≤ 100 := by
                      have z := hp.2.1 _ qe.1.1 (by omega)
                      unfold ck_sOk at z
                      omega
                    refine ck_go_run 6 (X1 := (237, [some (.inr (480, 3, 6)), some (.inl u), some (.inl v)], [.inl v, .inl (t2 487 v), .inr (480, 3, 6)], t2)) (ps := [0 ≤ v ∧ v < ((64 : Nat) : Int)]) rfl ⟨⟨by omega, by omega⟩, trivial⟩ ?_
                    refine ck_go_cal (rest := []) (ck_cal_le (by decide) (cx_close' (σ := t2) (h := p 10 v) (k := v) (f := co_R p i v) (a7_t2 (by omega)) (by omega) (by rw [c1]; exact ck_rgo (by omega) (by omega)) (by rw [c2]; exact ck_rgo (by omega) (by omega)) hJ2.2.1 (co_R_qb hp v0 hlt) (by rw [hJ2.2.2.2.1 _ qe.1.1 qe.1.2 qt]; exact co_N_qb hp qe.1.1 (by omega) hz9) (hJ2.2.2.2.2.2.1 _ qe.1.1 (by omega)))) ⟨_, rfl, Or.inl ⟨_, rfl⟩, rfl, rfl, rfl, Nat.le_of_ble_eq_true rfl, fun _ => ⟨_, _, rfl⟩⟩ ?_
                    rintro _ s13 ⟨rfl, w1, w2, w3⟩
                    try dsimp only at w1 w2 w3
                    have jE : co_pJ σ p n i (v + 1) (v + 1) (v + 1) u (co_W p i (v + 1)) s13 := by
                      by_cases eh : p 6 (p 10 v) = 12
                      · obtain ⟨z1, z2, z3, z4⟩ := w1 (c1.trans eh)
                        exact co_pJ_end hp v0 hlt hT eh hJ2 z1 z2 z3 z4
                      · have eh9 : p 6 (p 10 v) = 9 := by omega
                        by_cases ee : p 11 (p 10 v) = -1
                        · obtain ⟨z1, z2⟩ := w2 (by rw [c1]; exact eh) (c2.trans ee)
                          refine co_pJ_next hp v0 hlt (by omega) (fun _ => eh9) (co_pJ_row hJ2 z1 (z2.trans ?_))
                          rw [hJ2.2.2.2.1 _ qe.1.1 qe.1.2 qt]
                          exact co_L_end9a hp v0 hlt hT eh9 ee
                        · obtain ⟨z1, z2⟩ := w3 (by rw [c1]; exact eh) (by rw [c2]; exact ee)
                          refine co_pJ_next hp v0 hlt (by omega) (fun _ => eh9) (co_pJ_row hJ2 z1 (z2.trans ?_))
                          have qo := qh.2.2.2.resolve_left ee
                          have z5 := hJ2.2.2.2.2.1 (p 11 (p 10 v)) (by omega) (by have := (qe.2.2 hT).2; omega) qo.2.2.1
                          rw [qo.2.2.2] at z5
                          rw [z5]
                          exact co_L_end9b hp v0 hlt hT eh9 ee
                    refine ck_go_run 3 (X1 := (65, [some (.inr (480, 3, 6)), some (.inl u), some (.inl (v + 1))], [], s13)) (ps := []) rfl trivial ?_
                    exact kk u _ ⟨⟨by omega, by omega⟩, jE⟩
                  · have hT : p 6 v ≠ 9 ∧ p 6 v ≠ 12 ∧ p 6 v ≠ 10 ∧ p 6 v ≠ 11 := by omega
                    refine ck_go_run 2 (X1 := (245, [some (.inr (480, 3, 6)), some (.inl u), some (.inl v)], [.inl v, .inr (480, 3, 6)], t2)) (ps := []) rfl trivial ?_
                    refine ck_go_cal (rest := []) (ck_cal_le (by decide) (cx_effect (σ := t2) (k := v) (f := co_R p i v) ⟨v0, by omega⟩ (by rw [a1_t2, a2_t2, a3_t2, a4_t2]; exact hp.2.1 v v0 hlt) hJ2.2.1 (co_R_qb hp v0 hlt))) ⟨_, rfl, Or.inl ⟨_, rfl⟩, rfl, rfl, rfl, Nat.le_of_ble_eq_true rfl, fun _ => ⟨_, _, rfl⟩⟩ ?_
                    rintro _ s14 ⟨rfl, g14, r14⟩
                    try dsimp only at g14 r14
                    refine ck_go_run 2 (X1 := (65, [some (.inr (480, 3, 6)), some (.inl u), some (.inl (v + 1))], [], s14)) (ps := []) rfl trivial ?_
                    exact kk u _ ⟨⟨by omega, by omega⟩, co_pJ_next hp v0 hlt ⟨hT.1, hT.2.1, hT.2.2.1⟩ (fun z => absurd z hT.2.2.2) (co_pJ_row hJ2 g14 (r14.trans (by rw [a1_t2, a2_t2, a3_t2, a4_t2]; exact co_L_eff hp v0 hlt hT)))⟩
          · refine ck_go_run 1 (X1 := (if x = 0 then 111 else 115, [some (.inr (480, 3, 6)), some (.inl a), some (.inl v)], [], s2)) (ps := [ck_rg x]) rfl ⟨(ck_rgo (by omega) (by omega)), trivial⟩ ?_
            refine ck_go_ite (fun h5 => ?_) (fun h5 => ?_)
            · refine ck_go_run 2 (X1 := (if a = 0 then 119 else 115, [some (.inr (480, 3, 6)), some (.inl a), some (.inl v)], [], s2)) (ps := [ck_rg a]) rfl ⟨(ck_rgo (by omega) (by omega)), trivial⟩ ?_
              refine ck_go_ite (fun h6 => ?_) (fun h6 => ?_)
              · refine ck_go_run 2 (X1 := (121, [some (.inr (480, 3, 6)), some (.inl 0), some (.inl v)], [], s2)) (ps := []) rfl trivial ?_
                exact jj 0 _ (co_pJ_tell v0 (by omega) hJ1 hkp hx (by omega))
              · refine ck_go_run 3 (X1 := (121, [some (.inr (480, 3, 6)), some (.inl 1), some (.inl v)], [], s2)) (ps := []) rfl trivial ?_
                exact jj 1 _ (co_pJ_tell v0 (by omega) hJ1 hkp hx (by omega))
            · refine ck_go_run 3 (X1 := (121, [some (.inr (480, 3, 6)), some (.inl 1), some (.inl v)], [], s2)) (ps := []) rfl trivial ?_
              exact jj 1 _ (co_pJ_tell v0 (by omega) hJ1 hkp hx (by omega))
        · refine ck_go_run 6 (X1 := (if s 481 v = 12 then 84 else 103, [some (.inr (480, 3, 6)), some (.inl a), some (.inl v)], [], s)) (ps := [0 ≤ v ∧ v < ((64 : Nat) : Int), ck_rg (s 481 v), ck_rg 12]) rfl ⟨⟨by omega, by omega⟩, (ck_rgo (by omega) (by omega)), (ck_rgo (by omega) (by omega)), trivial⟩ ?_
          refine ck_go_ite (fun h7 => ?_) (fun h7 => ?_)
          · refine ck_go_run 2 (X1 := (86, [some (.inr (480, 3, 6)), some (.inl a), some (.inl v)], [.inl v, .inr (480, 3, 6)], s)) (ps := []) rfl trivial ?_
            refine ck_go_cal (rest := []) (ck_cal_le (by decide) (cx_loosen' (s := s) hp hm v0 hlt (by omega) hJ.2.1)) ⟨_, rfl, Or.inl ⟨_, rfl⟩, rfl, rfl, rfl, Nat.le_of_ble_eq_true rfl, fun _ => ⟨_, _, rfl⟩⟩ ?_
            rintro _ s15 ⟨rfl, g15, r15⟩
            try dsimp only at g15 r15
            have c01 := co_pJ_c01 v0 hlt (by omega) hJ
            have ec : s15 495 v = s 495 v := g15 _ _ (by decide)
            refine ck_go_run 5 (X1 := (if s15 495 v = 0 then 103 else 98, [some (.inr (480, 3, 6)), some (.inl a), some (.inl v)], [], s15)) (ps := [0 ≤ v ∧ v < ((64 : Nat) : Int), ck_rg (s15 495 v)]) rfl ⟨⟨by omega, by omega⟩, (ck_rgo (by omega) (by omega)), trivial⟩ ?_
            refine ck_go_ite (fun h8 => ?_) (fun h8 => ?_)
            · exact jj (none, none, none) _ (co_pJ_w0 hp v0 hlt (by omega) hJ g15 r15 (by assumption))
            · refine ck_go_run 2 (X1 := (100, [some (.inr (480, 3, 6)), some (.inl a), some (.inl v)], [.inl v, .inr (480, 3, 6)], s15)) (ps := []) rfl trivial ?_
              refine ck_go_cal (rest := []) (ck_cal_le (by decide) (cx_joinBack (σ := s15) (k := v) (f := ck_qFc (p 13 v) (p 14 v) v (co_W p i v)) (g := ck_rw s 494 v) ⟨v0, by omega⟩ r15 (co_fc_qb hp v0 hlt) (co_rw_f1 g15 (by decide)) (c01.resolve_left (by omega)).2)) ⟨_, rfl, Or.inl ⟨_, rfl⟩, rfl, rfl, rfl, Nat.le_of_ble_eq_true rfl, fun _ => ⟨_, _, rfl⟩⟩ ?_
              rintro _ s16 ⟨rfl, g16, r16⟩
              try dsimp only at g16 r16
              exact jj (none, none, none) _ (co_pJ_w1 hp v0 hlt (by omega) (co_pJ_row hJ g15 r15) (by assumption) g16 (by rw [r16, co_rw_f1 g15 (by decide)]))
          · exact jj (none, none, none) _ (co_pJ_plain hp v0 hlt (by omega) hJ)
      · obtain ⟨⟨v0, v1⟩, hJ⟩ := hI
        have eN : s 480 1 = n := (hJ.1 _ _ (by decide)).trans hP.1.1
        have hn := hp.1
        refine ck_go_run 4 (X1 := (if v < s 480 1 then 73 else 254, [some (.inr (480, 3, 6)), some (.inl a), some (.inl v)], [], s)) (ps := [ck_rg v, ck_rg (s 480 1)]) rfl ⟨(ck_rgo (by omega) (by omega)), (ck_rgo (by omega) (by omega)), trivial⟩ ?_
        refine ck_go_f (by omega) ?_
        refine ck_go_run 1 (X1 := (255, [some (.inr (480, 3, 6)), some (.inl a), some (.inl v)], [.inl a], s)) (ps := []) rfl trivial ?_
        have evn : v = n := by omega
        rw [evn] at hJ
        obtain ⟨a1, a2, a3, a4, a5, a6, a7, a8, a9⟩ := hJ
        have hb : ∀ k, 0 ≤ k → k < n → ck_rw s 491 k = co_R p i k := fun k x y => (a3 k x (by omega)).1 y
        refine ck_eZ a8 ⟨a1, ⟨co_pm_fr a1 hP.1, a6, fun k x y => ?_, fun h x y z => (a7 h x y z).1 (hp.2.2.1 h x y (Or.inr z)).1.2⟩, hb, ?_⟩ rfl rfl rfl
        · rcases Int.lt_or_le k n with z | z
          · rw [hb k x z]; exact co_R_qb hp x z
          · rw [(a3 k x y).2 z]; exact hP.2.2.1 k x y
        · rcases a8 with z | z
          · exact Or.inl ⟨by rw [z], a9.mp z⟩
          · exact Or.inr ⟨by rw [z], fun w => by have := a9.mpr w; omega⟩
