/-! ## The reference's run -/
theorem cx_one {σ p : ck_M} {n c : Int} {X : Int → ck_D} {nd : Int → Int} (hp : co_pg p n) (hm : co_pm σ p n) (hX : co_sol p n X) (hi : co_mi p n X c σ) (h0 : σ 480 21 = 0) (hc : c ≤ 1000000000) (hsp : co_spc σ (σ 480 20) (nd (σ 480 20))) (hnd : nd (σ 480 20) = ck_ndl (p 6 (σ 480 20)) (p 7 (σ 480 20)) (p 8 (σ 480 20)) (p 9 (σ 480 20)) (X (σ 480 20))) : ck_cal 5 cm_Mo_one [.inr (480, 3, 6)] σ (fun q σ' => ∃ v, q = some v ∧ v = (co_one p n nd σ).1 ∧ (v = 0 ∨ v = 1) ∧ σ' = (co_one p n nd σ).2) := by
  by_cases h1 : p 6 (σ 480 20) = 9 ∨ p 6 (σ 480 20) = 12
  · exact cx_one_if hp hm hX hi h0 hc hsp hnd h1
  · by_cases h2 : p 6 (σ 480 20) = 10
    · exact cx_one_else hp hm hX hi h0 hc hsp hnd h2
    · by_cases h3 : p 6 (σ 480 20) = 11
      · exact cx_one_end hp hm hX hi h0 hc hsp hnd h3
      · exact cx_one_act hp hm hX hi h0 hc hsp hnd (by omega)
theorem co_pm_rf {σ s p : ck_M} {n : Int} (h : co_rf σ s) (hm : co_pm σ p n) : co_pm s p n := by
  refine ⟨(h _ _ (by decide)).trans hm.1, fun k a b => ?_⟩
  rw [h 481 k (by omega), h 482 k (by omega), h 483 k (by omega), h 484 k (by omega), h 485 k (by omega), h 486 k (by omega), h 487 k (by omega)]
  exact hm.2 k a b
theorem cx_runA {N : Int} {σ : ck_M} (hb : σ 480 19 = 0 ∨ σ 480 19 = 1) (hw : σ 480 19 = 1 → ck_rg (σ 480 21)) (hN : ck_rg N) (h : ¬ (σ 480 19 = 1 ∧ σ 480 21 = 0)) : ck_cal 7 cm_Mo_run [.inr (480, 3, 6), .inl N] σ (fun q σ' => q = some 0 ∧ σ' = ck_up σ 480 0 1) := by
  refine ck_cal_of ?_
  refine ck_go_run 3 (X1 := (if σ 480 19 = 0 then 18 else 7, [some (.inr (480, 3, 6)), some (.inl N), none, none], [], σ)) (ps := [ck_rg (σ 480 19)]) rfl ⟨(ck_rgo (by omega) (by omega)), trivial⟩ ?_
  refine ck_go_ite (fun h1 => ?_) (fun h1 => ?_)
  · refine ck_go_run 5 (X1 := (if 0 = 0 then 25 else 29, [some (.inr (480, 3, 6)), some (.inl N), some (.inl 0), none], [.inr (480, 3, 6)], σ)) (ps := [ck_rg 0]) rfl ⟨(ck_rgo (by omega) (by omega)), trivial⟩ ?_
    refine ck_go_t (by decide) ?_
    refine ck_go_run 4 (X1 := (if 0 = 0 then 49 else 34, [some (.inr (480, 3, 6)), some (.inl N), some (.inl 0), none], [.inl 1, .inr (480, 3, 6)], σ)) (ps := [ck_rg 0]) rfl ⟨(ck_rgo (by omega) (by omega)), trivial⟩ ?_
    refine ck_go_t (by decide) ?_
    refine ck_go_run 1 (X1 := (50, [some (.inr (480, 3, 6)), some (.inl N), some (.inl 0), none], [.inl 0, .inl 1, .inr (480, 3, 6)], σ)) (ps := []) rfl trivial ?_
    refine ck_go_cal (rest := []) (ck_cal_le (by decide) (cx_fails10 _)) ⟨_, rfl, Or.inl ⟨_, rfl⟩, rfl, rfl, rfl, Nat.le_of_ble_eq_true rfl, fun _ => ⟨_, _, rfl⟩⟩ ?_
    rintro _ s1 ⟨rfl, e1⟩
    refine ck_go_run 1 (X1 := (if 1 = 0 then 58 else 56, [some (.inr (480, 3, 6)), some (.inl N), some (.inl 0), none], [], s1)) (ps := [ck_rg 1]) rfl ⟨(ck_rgo (by omega) (by omega)), trivial⟩ ?_
    refine ck_go_f (by decide) ?_
    refine ck_go_run 1 (X1 := (57, [some (.inr (480, 3, 6)), some (.inl N), some (.inl 0), none], [.inl 0], s1)) (ps := []) rfl trivial ?_
    exact ck_eI ⟨rfl, e1⟩ rfl rfl rfl
  · have hw := hw (by omega)
    unfold ck_rg at hw
    refine ck_go_run 3 (X1 := (if σ 480 21 = 0 then 14 else 18, [some (.inr (480, 3, 6)), some (.inl N), none, none], [], σ)) (ps := [ck_rg (σ 480 21)]) rfl ⟨(ck_rgo (by omega) (by omega)), trivial⟩ ?_
    refine ck_go_f (by omega) ?_
    refine ck_go_run 5 (X1 := (if 0 = 0 then 25 else 29, [some (.inr (480, 3, 6)), some (.inl N), some (.inl 0), none], [.inr (480, 3, 6)], σ)) (ps := [ck_rg 0]) rfl ⟨(ck_rgo (by omega) (by omega)), trivial⟩ ?_
    refine ck_go_t (by decide) ?_
    refine ck_go_run 4 (X1 := (if 0 = 0 then 49 else 34, [some (.inr (480, 3, 6)), some (.inl N), some (.inl 0), none], [.inl 1, .inr (480, 3, 6)], σ)) (ps := [ck_rg 0]) rfl ⟨(ck_rgo (by omega) (by omega)), trivial⟩ ?_
    refine ck_go_t (by decide) ?_
    refine ck_go_run 1 (X1 := (50, [some (.inr (480, 3, 6)), some (.inl N), some (.inl 0), none], [.inl 0, .inl 1, .inr (480, 3, 6)], σ)) (ps := []) rfl trivial ?_
    refine ck_go_cal (rest := []) (ck_cal_le (by decide) (cx_fails10 _)) ⟨_, rfl, Or.inl ⟨_, rfl⟩, rfl, rfl, rfl, Nat.le_of_ble_eq_true rfl, fun _ => ⟨_, _, rfl⟩⟩ ?_
    rintro _ s2 ⟨rfl, e2⟩
    refine ck_go_run 1 (X1 := (if 1 = 0 then 58 else 56, [some (.inr (480, 3, 6)), some (.inl N), some (.inl 0), none], [], s2)) (ps := [ck_rg 1]) rfl ⟨(ck_rgo (by omega) (by omega)), trivial⟩ ?_
    refine ck_go_f (by decide) ?_
    refine ck_go_run 1 (X1 := (57, [some (.inr (480, 3, 6)), some (.inl N), some (.inl 0), none], [.inl 0], s2)) (ps := []) rfl trivial ?_
    exact ck_eI ⟨rfl, e2⟩ rfl rfl rfl
theorem cx_runB {N : Int} {σ : ck_M} (h1 : σ 480 19 = 1) (h2 : σ 480 21 = 0) (hN : ck_rg N) (h : ¬ (1 ≤ N ∧ N ≤ 2000)) : ck_cal 7 cm_Mo_run [.inr (480, 3, 6), .inl N] σ (fun q σ' => q = some 0 ∧ σ' = ck_up σ 480 0 2) := by
  refine ck_cal_of ?_
  have hz : ck_in N 1 2000 = 0 := if_neg h
  refine ck_go_run 3 (X1 := (if σ 480 19 = 0 then 18 else 7, [some (.inr (480, 3, 6)), some (.inl N), none, none], [], σ)) (ps := [ck_rg (σ 480 19)]) rfl ⟨(ck_rgo (by omega) (by omega)), trivial⟩ ?_
  refine ck_go_f (by omega) ?_
  refine ck_go_run 3 (X1 := (if σ 480 21 = 0 then 14 else 18, [some (.inr (480, 3, 6)), some (.inl N), none, none], [], σ)) (ps := [ck_rg (σ 480 21)]) rfl ⟨(ck_rgo (by omega) (by omega)), trivial⟩ ?_
  refine ck_go_t (by omega) ?_
  refine ck_go_run 6 (X1 := (if 1 = 0 then 25 else 29, [some (.inr (480, 3, 6)), some (.inl N), some (.inl 1), none], [.inr (480, 3, 6)], σ)) (ps := [ck_rg 1]) rfl ⟨(ck_rgo (by omega) (by omega)), trivial⟩ ?_
  refine ck_go_f (by decide) ?_
  refine ck_go_run 3 (X1 := (if 1 = 0 then 49 else 34, [some (.inr (480, 3, 6)), some (.inl N), some (.inl 1), none], [.inl 0, .inr (480, 3, 6)], σ)) (ps := [ck_rg 1]) rfl ⟨(ck_rgo (by omega) (by omega)), trivial⟩ ?_
  refine ck_go_f (by decide) ?_
  refine ck_go_run 3 (X1 := (39, [some (.inr (480, 3, 6)), some (.inl N), some (.inl 1), none], [.inl 2000, .inl 1, .inl N, .inl 0, .inr (480, 3, 6)], σ)) (ps := []) rfl trivial ?_
  refine ck_go_cal (rest := [.inl 0, .inr (480, 3, 6)]) (ck_cal_le (by decide) (cx_in (v := N) (f := 1) (t := 2000) (by first | assumption | exact ck_rgo (by omega) (by omega)) (by exact ⟨by decide, by decide⟩) (by exact ⟨by decide, by decide⟩) _)) ⟨_, rfl, Or.inr ⟨_, rfl⟩, rfl, rfl, rfl, Nat.le_of_ble_eq_true rfl, fun h => absurd h (by decide)⟩ ?_
  rintro _ s' ⟨rfl, e'⟩
  rw [e']
  clear e' s'
  refine ck_go_run 1 (X1 := (if ck_in N 1 2000 = 0 then 45 else 49, [some (.inr (480, 3, 6)), some (.inl N), some (.inl 1), none], [.inl 0, .inr (480, 3, 6)], σ)) (ps := [ck_rg (ck_in N 1 2000)]) rfl ⟨(ck_rgo (by omega) (by omega)), trivial⟩ ?_
  refine ck_go_t (by omega) ?_
  refine ck_go_run 2 (X1 := (50, [some (.inr (480, 3, 6)), some (.inl N), some (.inl 1), none], [.inl 1, .inl 0, .inr (480, 3, 6)], σ)) (ps := []) rfl trivial ?_
  refine ck_go_cal (rest := []) (ck_cal_le (by decide) (cx_fails01 _)) ⟨_, rfl, Or.inl ⟨_, rfl⟩, rfl, rfl, rfl, Nat.le_of_ble_eq_true rfl, fun _ => ⟨_, _, rfl⟩⟩ ?_
  rintro _ s1 ⟨rfl, e1⟩
  refine ck_go_run 1 (X1 := (if 1 = 0 then 58 else 56, [some (.inr (480, 3, 6)), some (.inl N), some (.inl 1), none], [], s1)) (ps := [ck_rg 1]) rfl ⟨(ck_rgo (by omega) (by omega)), trivial⟩ ?_
  refine ck_go_f (by decide) ?_
  refine ck_go_run 1 (X1 := (57, [some (.inr (480, 3, 6)), some (.inl N), some (.inl 1), none], [.inl 0], s1)) (ps := []) rfl trivial ?_
  exact ck_eI ⟨rfl, e1⟩ rfl rfl rfl
theorem cx_runC {N n c : Int} {σ p : ck_M} {X : Int → ck_D} {nd : Int → Int} (h1 : σ 480 19 = 1) (h2 : σ 480 21 = 0) (h : 1 ≤ N ∧ N ≤ 2000) (hp : co_pg p n) (hm : co_pm (ck_up σ 480 0 0) p n) (hX : co_sol p n X) (hi : co_mi p n X c (ck_up σ 480 0 0)) (hc : c ≤ 100000000) (hn7 : ∀ k, 0 ≤ k → k < n → 0 ≤ nd k ∧ nd k ≤ 7) (hnd : ∀ k, 0 ≤ k → k < n → nd k = ck_ndl (p 6 k) (p 7 k) (p 8 k) (p 9 k) (X k)) (hspc : ∀ s, co_rf (ck_up σ 480 0 0) s → ∀ k, 0 ≤ k → k < n → ck_cal 1 cm_Mo_spared [.inr (480, 3, 6), .inl k] s (fun q s' => q = some (nd k) ∧ s' = s)) : ck_cal 7 cm_Mo_run [.inr (480, 3, 6), .inl N] σ (fun q σ' => q = some (co_rn p n nd N.toNat (ck_up σ 480 0 0)).1 ∧ σ' = (co_rn p n nd N.toNat (ck_up σ 480 0 0)).2) := by
  refine ck_cal_of ?_
  have hz : ck_in N 1 2000 = 1 := if_pos h
  refine ck_go_run 3 (X1 := (if σ 480 19 = 0 then 18 else 7, [some (.inr (480, 3, 6)), some (.inl N), none, none], [], σ)) (ps := [ck_rg (σ 480 19)]) rfl ⟨(ck_rgo (by omega) (by omega)), trivial⟩ ?_
  refine ck_go_f (by omega) ?_
  refine ck_go_run 3 (X1 := (if σ 480 21 = 0 then 14 else 18, [some (.inr (480, 3, 6)), some (.inl N), none, none], [], σ)) (ps := [ck_rg (σ 480 21)]) rfl ⟨(ck_rgo (by omega) (by omega)), trivial⟩ ?_
  refine ck_go_t (by omega) ?_
  refine ck_go_run 6 (X1 := (if 1 = 0 then 25 else 29, [some (.inr (480, 3, 6)), some (.inl N), some (.inl 1), none], [.inr (480, 3, 6)], σ)) (ps := [ck_rg 1]) rfl ⟨(ck_rgo (by omega) (by omega)), trivial⟩ ?_
  refine ck_go_f (by decide) ?_
  refine ck_go_run 3 (X1 := (if 1 = 0 then 49 else 34, [some (.inr (480, 3, 6)), some (.inl N), some (.inl 1), none], [.inl 0, .inr (480, 3, 6)], σ)) (ps := [ck_rg 1]) rfl ⟨(ck_rgo (by omega) (by omega)), trivial⟩ ?_
  refine ck_go_f (by decide) ?_
  refine ck_go_run 3 (X1 := (39, [some (.inr (480, 3, 6)), some (.inl N), some (.inl 1), none], [.inl 2000, .inl 1, .inl N, .inl 0, .inr (480, 3, 6)], σ)) (ps := []) rfl trivial ?_
  refine ck_go_cal (rest := [.inl 0, .inr (480, 3, 6)]) (ck_cal_le (by decide) (cx_in (v := N) (f := 1) (t := 2000) (by first | assumption | exact ck_rgo (by omega) (by omega)) (by exact ⟨by decide, by decide⟩) (by exact ⟨by decide, by decide⟩) _)) ⟨_, rfl, Or.inr ⟨_, rfl⟩, rfl, rfl, rfl, Nat.le_of_ble_eq_true rfl, fun h => absurd h (by decide)⟩ ?_
  rintro _ s' ⟨rfl, e'⟩
  rw [e']
  clear e' s'
  refine ck_go_run 1 (X1 := (if ck_in N 1 2000 = 0 then 45 else 49, [some (.inr (480, 3, 6)), some (.inl N), some (.inl 1), none], [.inl 0, .inr (480, 3, 6)], σ)) (ps := [ck_rg (ck_in N 1 2000)]) rfl ⟨(ck_rgo (by omega) (by omega)), trivial⟩ ?_
  refine ck_go_f (by omega) ?_
  refine ck_go_run 1 (X1 := (50, [some (.inr (480, 3, 6)), some (.inl N), some (.inl 1), none], [.inl 0, .inl 0, .inr (480, 3, 6)], σ)) (ps := []) rfl trivial ?_
  refine ck_go_cal (rest := []) (ck_cal_le (by decide) (cx_fails00 _)) ⟨_, rfl, Or.inl ⟨_, rfl⟩, rfl, rfl, rfl, Nat.le_of_ble_eq_true rfl, fun _ => ⟨_, _, rfl⟩⟩ ?_
  rintro _ s1 ⟨rfl, e1⟩
  rw [e1]
  clear e1 s1
  refine ck_go_run 1 (X1 := (if 0 = 0 then 58 else 56, [some (.inr (480, 3, 6)), some (.inl N), some (.inl 1), none], [], ck_up σ 480 0 0)) (ps := [ck_rg 0]) rfl ⟨(ck_rgo (by omega) (by omega)), trivial⟩ ?_
  refine ck_go_t (by decide) ?_
  refine ck_go_run 2 (X1 := (60, [some (.inr (480, 3, 6)), some (.inl N), some (.inl 1), some (.inl 0)], [], ck_up σ 480 0 0)) (ps := []) rfl trivial ?_
  refine ck_for 60 (fun v => [some (.inr (480, 3, 6)), some (.inl N), some (.inl 1), some (.inl v)]) N (fun v s => co_rI p n nd N (ck_up σ 480 0 0) v s ∧ co_mi p n X (c + 4 * v) s ∧ co_rf (ck_up σ 480 0 0) s) (fun v s hv hI kk => ?_) (fun v s hv hI => ?_) 0 _ ⟨co_rI_0 (by omega), by rw [Int.mul_zero, Int.add_zero]; exact hi, co_rf_r _⟩
  · obtain ⟨hR, hM, hF⟩ := hI
    have hv0 := hR.1
    have hw := hM.2.2.1
    refine ck_go_run 3 (X1 := (if v < N then 65 else 85, [some (.inr (480, 3, 6)), some (.inl N), some (.inl 1), some (.inl v)], [], s)) (ps := [ck_rg v, ck_rg N]) rfl ⟨(ck_rgo (by omega) (by omega)), (ck_rgo (by omega) (by omega)), trivial⟩ ?_
    refine ck_go_t hv ?_
    refine ck_go_run 3 (X1 := (if s 480 21 = 0 then 72 else 85, [some (.inr (480, 3, 6)), some (.inl N), some (.inl 1), some (.inl v)], [], s)) (ps := [ck_rg (s 480 21)]) rfl ⟨(ck_rgo (by omega) (by omega)), trivial⟩ ?_
    refine ck_go_ite (fun h1 => ?_) (fun h1 => ?_)
    · have h0 : s 480 21 = 0 := by assumption
      refine ck_go_run 1 (X1 := (73, [some (.inr (480, 3, 6)), some (.inl N), some (.inl 1), some (.inl v)], [.inr (480, 3, 6)], s)) (ps := []) rfl trivial ?_
      refine ck_go_cal (rest := []) (ck_cal_le (by decide) (cx_one (σ := s) (nd := nd) hp (co_pm_rf hF hm) hX hM h0 (by omega) ⟨hn7 _ hM.2.1.1 (hM.2.2.2 h0).1, fun t ht => hspc t (co_rf_tr hF ht) _ hM.2.1.1 (hM.2.2.2 h0).1⟩ (hnd _ hM.2.1.1 (hM.2.2.2 h0).1))) ⟨_, rfl, Or.inl ⟨_, rfl⟩, rfl, rfl, rfl, Nat.le_of_ble_eq_true rfl, fun _ => ⟨_, _, rfl⟩⟩ ?_
      obtain ⟨o1, o2, o3⟩ := co_one_ok (nd := nd) hp hX hM h0
      rintro _ s2 ⟨w, rfl, hw1, hw01, e2⟩
      rw [e2]
      clear e2 s2
      refine ck_go_run 1 (X1 := (if w = 0 then 85 else 79, [some (.inr (480, 3, 6)), some (.inl N), some (.inl 1), some (.inl v)], [], (co_one p n nd s).2)) (ps := [ck_rg w]) rfl ⟨(ck_rgo (by omega) (by omega)), trivial⟩ ?_
      refine ck_go_ite (fun h2 => ?_) (fun h2 => ?_)
      · refine ck_go_run 1 (X1 := (86, [some (.inr (480, 3, 6)), some (.inl N), some (.inl 1), some (.inl v)], [.inl v], (co_one p n nd s).2)) (ps := []) rfl trivial ?_
        have hE := co_rI_fail hR hv h0 (by omega)
        exact ck_eI ⟨by rw [hE], by rw [hE]⟩ rfl rfl rfl
      · refine ck_go_run 2 (X1 := (60, [some (.inr (480, 3, 6)), some (.inl N), some (.inl 1), some (.inl (v + 1))], [], (co_one p n nd s).2)) (ps := []) rfl trivial ?_
        exact kk _ ⟨co_rI_go hR hv h0 (by omega), ⟨co_md_up o1.1 (by omega), o1.2⟩, co_rf_tr hF o2⟩
    · refine ck_go_run 1 (X1 := (86, [some (.inr (480, 3, 6)), some (.inl N), some (.inl 1), some (.inl v)], [.inl v], s)) (ps := []) rfl trivial ?_
      have hE : co_rn p n nd N.toNat (ck_up σ 480 0 0) = (v, s) := by
        first | exact co_rI_end hR hv | exact co_rI_stop hR (by assumption)
      exact ck_eI ⟨by rw [hE], by rw [hE]⟩ rfl rfl rfl
  · obtain ⟨hR, hM, hF⟩ := hI
    have hv0 := hR.1
    have hw := hM.2.2.1
    refine ck_go_run 3 (X1 := (if v < N then 65 else 85, [some (.inr (480, 3, 6)), some (.inl N), some (.inl 1), some (.inl v)], [], s)) (ps := [ck_rg v, ck_rg N]) rfl ⟨(ck_rgo (by omega) (by omega)), (ck_rgo (by omega) (by omega)), trivial⟩ ?_
    refine ck_go_f (by omega) ?_
    refine ck_go_run 1 (X1 := (86, [some (.inr (480, 3, 6)), some (.inl N), some (.inl 1), some (.inl v)], [.inl v], s)) (ps := []) rfl trivial ?_
    have hE : co_rn p n nd N.toNat (ck_up σ 480 0 0) = (v, s) := by
      first | exact co_rI_end hR hv | exact co_rI_stop hR (by assumption)
    exact ck_eI ⟨by rw [hE], by rw [hE]⟩ rfl rfl rfl
