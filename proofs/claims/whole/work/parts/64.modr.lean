/-! ## The reference's run: its parts -/
theorem co_rf_r (m : ck_M) : co_rf m m := fun _ _ _ => rfl
theorem co_rf_cnt {m : ck_M} (nd b : Int) : co_rf m (co_cnt nd b m) := fun x j q => co_cnt_o nd b (by omega)
theorem co_andr {nd b : Int} (h : 0 ≤ nd ∧ nd ≤ 7) (hb : b = 1 ∨ b = 2 ∨ b = 4) : 0 ≤ ck_and nd b ∧ ck_and nd b ≤ 7 := by
  have h2 : nd = 0 ∨ nd = 1 ∨ nd = 2 ∨ nd = 3 ∨ nd = 4 ∨ nd = 5 ∨ nd = 6 ∨ nd = 7 := by omega
  rcases hb with rfl | rfl | rfl <;> rcases h2 with rfl | rfl | rfl | rfl | rfl | rfl | rfl | rfl <;> decide +kernel
/-- what is spared at k, as long as a run goes -/
def co_spc (σ : ck_M) (k nd : Int) : Prop := (0 ≤ nd ∧ nd ≤ 7) ∧ ∀ s, co_rf σ s → ck_cal 1 cm_Mo_spared [.inr (480, 3, 6), .inl k] s (fun q s' => q = some nd ∧ s' = s)
def co_lc (nd r i : Int) (m : ck_M) : Prop := (0 < ck_and nd 1 → m 497 r ≠ -1) ∧ (0 < ck_and nd 2 → 0 ≤ i) ∧ (0 < ck_and nd 4 → m 497 r ≠ -1 → i < m 498 (m 497 r))
theorem cx_stops (w : Int) (σ : ck_M) : ck_cal 1 cm_Mo_stops [.inr (480, 3, 6), .inl w] σ (fun q σ' => q = some 0 ∧ σ' = co_stp σ w) := by
  refine ck_cal_of ?_
  refine ck_go_run 6 (X1 := (8, [some (.inr (480, 3, 6)), some (.inl w)], [.inl 0], ck_up σ 480 21 (1 + w))) (ps := []) rfl trivial ?_
  exact ck_eZ (Or.inl rfl) ⟨rfl, rfl⟩ rfl rfl rfl
theorem cx_check {nd b h k : Int} (hb : b = 1 ∨ b = 2 ∨ b = 4) (h01 : h = 0 ∨ h = 1) (hl : 0 < ck_and nd b → h = 1) {σ0 σ : ck_M} (hsp : co_spc σ0 k nd) (hrf : co_rf σ0 σ) (hk : σ 480 20 = k) : ck_cal 2 cm_Mo_check [.inr (480, 3, 6), .inl b, .inl h] σ (fun q σ' => q = some h ∧ σ' = co_cnt nd b σ) := by
  refine ck_cal_of ?_
  subst hk
  have ha := co_andr hsp.1 hb
  refine ck_go_run 3 (X1 := (5, [some (.inr (480, 3, 6)), some (.inl b), some (.inl h)], [.inl (σ 480 20), .inr (480, 3, 6)], σ)) (ps := []) rfl trivial ?_
  refine ck_go_cal (rest := []) (ck_cal_le (by decide) (hsp.2 _ hrf)) ⟨_, rfl, Or.inl ⟨_, rfl⟩, rfl, rfl, rfl, Nat.le_of_ble_eq_true rfl, fun _ => ⟨_, _, rfl⟩⟩ ?_
  rintro _ s' ⟨rfl, e'⟩
  rw [e']
  clear e' s'
  refine ck_go_run 3 (X1 := (if 0 < ck_and nd b then 13 else 25, [some (.inr (480, 3, 6)), some (.inl b), some (.inl h)], [], σ)) (ps := [ck_rg (ck_and nd b)]) rfl ⟨(ck_rgo (by omega) (by omega)), trivial⟩ ?_
  refine ck_go_ite (fun h1 => ?_) (fun h1 => ?_)
  · refine ck_go_run 7 (X1 := (24, [some (.inr (480, 3, 6)), some (.inl b), some (.inl h)], [.inl 1], ck_up σ 480 24 ((σ 480 24) + 1))) (ps := []) rfl trivial ?_
    refine ck_eZ (by omega) ⟨?_, ?_⟩ rfl rfl rfl
    · rw [show h = 1 from hl (by omega)]
    · unfold co_cnt
      rw [if_pos (by omega)]
  · refine ck_go_run 7 (X1 := (36, [some (.inr (480, 3, 6)), some (.inl b), some (.inl h)], [.inl h], ck_up σ 480 23 ((σ 480 23) + 1))) (ps := []) rfl trivial ?_
    refine ck_eZ (by omega) ⟨rfl, ?_⟩ rfl rfl rfl
    unfold co_cnt
    rw [if_neg (by omega)]
theorem cx_checks {nd r i c : Int} (hr : 0 ≤ r ∧ r < 4) (hi : co_nb i) {σ : ck_M} (hmd : co_md c σ) (hsp : co_spc σ (σ 480 20) nd) (hlo : co_lc nd r i σ) : ck_cal 3 cm_Mo_checks [.inr (480, 3, 6), .inl r, .inl i] σ (fun q σ' => ∃ v, q = some v ∧ v = (co_chs nd r i σ).1 ∧ (v = 0 ∨ v = 1) ∧ σ' = (co_chs nd r i σ).2) := by
  refine ck_cal_of ?_
  have hR := hmd.2.2.1 r hr.1 hr.2
  have h26 := hmd.2.1
  refine ck_go_run 8 (X1 := (if σ 497 r = (-1) then 16 else 12, [some (.inr (480, 3, 6)), some (.inl r), some (.inl i)], [.inl 1, .inr (480, 3, 6)], σ)) (ps := [0 ≤ r ∧ r < ((4 : Nat) : Int), ck_rg (σ 497 r), ck_rg ((-1))]) rfl ⟨⟨by omega, by omega⟩, (ck_rgo (by omega) (by omega)), (ck_rgo (by omega) (by omega)), trivial⟩ ?_
  refine ck_go_ite (fun h1 => ?_) (fun h1 => ?_)
  · refine ck_go_run 1 (X1 := (17, [some (.inr (480, 3, 6)), some (.inl r), some (.inl i)], [.inl 0, .inl 1, .inr (480, 3, 6)], σ)) (ps := []) rfl trivial ?_
    refine ck_go_cal (rest := []) (ck_cal_le (by decide) (cx_check (σ := σ) (by decide) (by decide) (fun z => absurd (hlo.1 z) (by omega)) hsp (co_rf_r σ) rfl)) ⟨_, rfl, Or.inl ⟨_, rfl⟩, rfl, rfl, rfl, Nat.le_of_ble_eq_true rfl, fun _ => ⟨_, _, rfl⟩⟩ ?_
    rintro _ s1 ⟨rfl, e1⟩
    have f1 : co_rf σ s1 := by
      rw [e1]
      exact co_rf_tr (co_rf_r σ) (co_rf_cnt _ _)
    have k1 : s1 480 20 = σ 480 20 := by
      rw [e1]
      exact (co_cnt_o _ _ (by omega)).trans rfl
    refine ck_go_run 1 (X1 := (if 0 = 0 then 23 else 29, [some (.inr (480, 3, 6)), some (.inl r), some (.inl i)], [], s1)) (ps := [ck_rg 0]) rfl ⟨(ck_rgo (by omega) (by omega)), trivial⟩ ?_
    refine ck_go_t (by decide) ?_
    refine ck_go_run 2 (X1 := (25, [some (.inr (480, 3, 6)), some (.inl r), some (.inl i)], [.inl 1, .inr (480, 3, 6)], s1)) (ps := []) rfl trivial ?_
    refine ck_go_cal (rest := []) (ck_cal_le (by decide) (cx_stops 1 s1)) ⟨_, rfl, Or.inl ⟨_, rfl⟩, rfl, rfl, rfl, Nat.le_of_ble_eq_true rfl, fun _ => ⟨_, _, rfl⟩⟩ ?_
    rintro _ s2 ⟨rfl, e2⟩
    refine ck_eZ (by decide) ⟨0, rfl, ?_, by decide, ?_⟩ rfl rfl rfl
    · unfold co_chs
      rw [if_pos (by omega)]
    · unfold co_chs
      rw [e2, e1, if_pos (by omega)]
  · refine ck_go_run 2 (X1 := (17, [some (.inr (480, 3, 6)), some (.inl r), some (.inl i)], [.inl 1, .inl 1, .inr (480, 3, 6)], σ)) (ps := []) rfl trivial ?_
    refine ck_go_cal (rest := []) (ck_cal_le (by decide) (cx_check (σ := σ) (by decide) (by decide) (fun _ => rfl) hsp (co_rf_r σ) rfl)) ⟨_, rfl, Or.inl ⟨_, rfl⟩, rfl, rfl, rfl, Nat.le_of_ble_eq_true rfl, fun _ => ⟨_, _, rfl⟩⟩ ?_
    rintro _ s3 ⟨rfl, e3⟩
    have f3 : co_rf σ s3 := by
      rw [e3]
      exact co_rf_tr (co_rf_r σ) (co_rf_cnt _ _)
    have k3 : s3 480 20 = σ 480 20 := by
      rw [e3]
      exact (co_cnt_o _ _ (by omega)).trans rfl
    refine ck_go_run 1 (X1 := (if 1 = 0 then 23 else 29, [some (.inr (480, 3, 6)), some (.inl r), some (.inl i)], [], s3)) (ps := [ck_rg 1]) rfl ⟨(ck_rgo (by omega) (by omega)), trivial⟩ ?_
    refine ck_go_f (by decide) ?_
    refine ck_go_run 4 (X1 := (if i < 0 then 39 else 35, [some (.inr (480, 3, 6)), some (.inl r), some (.inl i)], [.inl 2, .inr (480, 3, 6)], s3)) (ps := [ck_rg i]) rfl ⟨(ck_rgo (by omega) (by omega)), trivial⟩ ?_
    refine ck_go_ite (fun h2 => ?_) (fun h2 => ?_)
    · refine ck_go_run 1 (X1 := (40, [some (.inr (480, 3, 6)), some (.inl r), some (.inl i)], [.inl 0, .inl 2, .inr (480, 3, 6)], s3)) (ps := []) rfl trivial ?_
      refine ck_go_cal (rest := []) (ck_cal_le (by decide) (cx_check (σ := s3) (by decide) (by decide) (fun z => absurd (hlo.2.1 z) (by omega)) hsp f3 k3)) ⟨_, rfl, Or.inl ⟨_, rfl⟩, rfl, rfl, rfl, Nat.le_of_ble_eq_true rfl, fun _ => ⟨_, _, rfl⟩⟩ ?_
      rintro _ s4 ⟨rfl, e4⟩
      have f4 : co_rf σ s4 := by
        rw [e4]
        exact co_rf_tr f3 (co_rf_cnt _ _)
      have k4 : s4 480 20 = σ 480 20 := by
        rw [e4]
        exact (co_cnt_o _ _ (by omega)).trans k3
      refine ck_go_run 1 (X1 := (if 0 = 0 then 46 else 52, [some (.inr (480, 3, 6)), some (.inl r), some (.inl i)], [], s4)) (ps := [ck_rg 0]) rfl ⟨(ck_rgo (by omega) (by omega)), trivial⟩ ?_
      refine ck_go_t (by decide) ?_
      refine ck_go_run 2 (X1 := (48, [some (.inr (480, 3, 6)), some (.inl r), some (.inl i)], [.inl 2, .inr (480, 3, 6)], s4)) (ps := []) rfl trivial ?_
      refine ck_go_cal (rest := []) (ck_cal_le (by decide) (cx_stops 2 s4)) ⟨_, rfl, Or.inl ⟨_, rfl⟩, rfl, rfl, rfl, Nat.le_of_ble_eq_true rfl, fun _ => ⟨_, _, rfl⟩⟩ ?_
      rintro _ s5 ⟨rfl, e5⟩
      refine ck_eZ (by decide) ⟨0, rfl, ?_, by decide, ?_⟩ rfl rfl rfl
      · unfold co_chs
        rw [if_neg (by omega), if_pos (by omega)]
      · unfold co_chs
        rw [e5, e4, e3, if_neg (by omega), if_pos (by omega)]
    · refine ck_go_run 2 (X1 := (40, [some (.inr (480, 3, 6)), some (.inl r), some (.inl i)], [.inl 1, .inl 2, .inr (480, 3, 6)], s3)) (ps := []) rfl trivial ?_
      refine ck_go_cal (rest := []) (ck_cal_le (by decide) (cx_check (σ := s3) (by decide) (by decide) (fun _ => rfl) hsp f3 k3)) ⟨_, rfl, Or.inl ⟨_, rfl⟩, rfl, rfl, rfl, Nat.le_of_ble_eq_true rfl, fun _ => ⟨_, _, rfl⟩⟩ ?_
      rintro _ s6 ⟨rfl, e6⟩
      have f6 : co_rf σ s6 := by
        rw [e6]
        exact co_rf_tr f3 (co_rf_cnt _ _)
      have k6 : s6 480 20 = σ 480 20 := by
        rw [e6]
        exact (co_cnt_o _ _ (by omega)).trans k3
      refine ck_go_run 1 (X1 := (if 1 = 0 then 46 else 52, [some (.inr (480, 3, 6)), some (.inl r), some (.inl i)], [], s6)) (ps := [ck_rg 1]) rfl ⟨(ck_rgo (by omega) (by omega)), trivial⟩ ?_
      refine ck_go_f (by decide) ?_
      have v1 : s6 497 r = σ 497 r := by
        rw [e6, e3, co_cnt_o _ _ (by omega), co_cnt_o _ _ (by omega)]
      have v2 : s6 498 (s6 497 r) = σ 498 (σ 497 r) := by
        rw [v1, e6, e3, co_cnt_o _ _ (by omega), co_cnt_o _ _ (by omega)]
      have hL := hmd.2.2.2.1 (σ 497 r) (by omega) (by omega)
      refine ck_go_run 11 (X1 := (if i < s6 498 (s6 497 r) then 69 else 73, [some (.inr (480, 3, 6)), some (.inl r), some (.inl i)], [.inl 4, .inr (480, 3, 6)], s6)) (ps := [0 ≤ r ∧ r < ((4 : Nat) : Int), 0 ≤ s6 497 r ∧ s6 497 r < ((40 : Nat) : Int), ck_rg i, ck_rg (s6 498 (s6 497 r))]) rfl ⟨⟨by omega, by omega⟩, ⟨by omega, by omega⟩, (ck_rgo (by omega) (by omega)), (ck_rgo (by omega) (by omega)), trivial⟩ ?_
      refine ck_go_ite (fun h3 => ?_) (fun h3 => ?_)
      · refine ck_go_run 2 (X1 := (74, [some (.inr (480, 3, 6)), some (.inl r), some (.inl i)], [.inl 1, .inl 4, .inr (480, 3, 6)], s6)) (ps := []) rfl trivial ?_
        refine ck_go_cal (rest := []) (ck_cal_le (by decide) (cx_check (σ := s6) (by decide) (by decide) (fun _ => rfl) hsp f6 k6)) ⟨_, rfl, Or.inl ⟨_, rfl⟩, rfl, rfl, rfl, Nat.le_of_ble_eq_true rfl, fun _ => ⟨_, _, rfl⟩⟩ ?_
        rintro _ s7 ⟨rfl, e7⟩
        have f7 : co_rf σ s7 := by
          rw [e7]
          exact co_rf_tr f6 (co_rf_cnt _ _)
        have k7 : s7 480 20 = σ 480 20 := by
          rw [e7]
          exact (co_cnt_o _ _ (by omega)).trans k6
        refine ck_go_run 1 (X1 := (if 1 = 0 then 80 else 86, [some (.inr (480, 3, 6)), some (.inl r), some (.inl i)], [], s7)) (ps := [ck_rg 1]) rfl ⟨(ck_rgo (by omega) (by omega)), trivial⟩ ?_
        refine ck_go_f (by decide) ?_
        refine ck_go_run 1 (X1 := (87, [some (.inr (480, 3, 6)), some (.inl r), some (.inl i)], [.inl 1], s7)) (ps := []) rfl trivial ?_
        refine ck_eZ (by decide) ⟨1, rfl, ?_, by decide, ?_⟩ rfl rfl rfl
        · unfold co_chs
          rw [if_neg (by omega), if_neg (by omega), if_pos (by omega)]
        · unfold co_chs
          rw [e7, e6, e3, if_neg (by omega), if_neg (by omega), if_pos (by omega)]
      · refine ck_go_run 1 (X1 := (74, [some (.inr (480, 3, 6)), some (.inl r), some (.inl i)], [.inl 0, .inl 4, .inr (480, 3, 6)], s6)) (ps := []) rfl trivial ?_
        refine ck_go_cal (rest := []) (ck_cal_le (by decide) (cx_check (σ := s6) (by decide) (by decide) (fun z => absurd (hlo.2.2 z (by omega)) (by omega)) hsp f6 k6)) ⟨_, rfl, Or.inl ⟨_, rfl⟩, rfl, rfl, rfl, Nat.le_of_ble_eq_true rfl, fun _ => ⟨_, _, rfl⟩⟩ ?_
        rintro _ s8 ⟨rfl, e8⟩
        have f8 : co_rf σ s8 := by
          rw [e8]
          exact co_rf_tr f6 (co_rf_cnt _ _)
        have k8 : s8 480 20 = σ 480 20 := by
          rw [e8]
          exact (co_cnt_o _ _ (by omega)).trans k6
        refine ck_go_run 1 (X1 := (if 0 = 0 then 80 else 86, [some (.inr (480, 3, 6)), some (.inl r), some (.inl i)], [], s8)) (ps := [ck_rg 0]) rfl ⟨(ck_rgo (by omega) (by omega)), trivial⟩ ?_
        refine ck_go_t (by decide) ?_
        refine ck_go_run 2 (X1 := (82, [some (.inr (480, 3, 6)), some (.inl r), some (.inl i)], [.inl 3, .inr (480, 3, 6)], s8)) (ps := []) rfl trivial ?_
        refine ck_go_cal (rest := []) (ck_cal_le (by decide) (cx_stops 3 s8)) ⟨_, rfl, Or.inl ⟨_, rfl⟩, rfl, rfl, rfl, Nat.le_of_ble_eq_true rfl, fun _ => ⟨_, _, rfl⟩⟩ ?_
        rintro _ s9 ⟨rfl, e9⟩
        refine ck_eZ (by decide) ⟨0, rfl, ?_, by decide, ?_⟩ rfl rfl rfl
        · unfold co_chs
          rw [if_neg (by omega), if_neg (by omega), if_neg (by omega)]
        · unfold co_chs
          rw [e9, e8, e6, e3, if_neg (by omega), if_neg (by omega), if_neg (by omega)]
theorem cx_sum {σ : ck_M} (hk : 0 ≤ σ 480 20 ∧ σ 480 20 < 64) (hy : 0 ≤ σ 483 (σ 480 20) ∧ σ 483 (σ 480 20) ≤ 10) : ck_cal 1 cm_Mo_sum [.inr (480, 3, 6)] σ (fun q σ' => q = some ((if σ 483 (σ 480 20) = 10 then 0 else σ 496 (σ 483 (σ 480 20))) + σ 484 (σ 480 20)) ∧ σ' = σ) := by
  refine ck_cal_of ?_
  refine ck_go_run 7 (X1 := (if σ 483 (σ 480 20) = 10 then 14 else 18, [some (.inr (480, 3, 6))], [], σ)) (ps := [0 ≤ σ 480 20 ∧ σ 480 20 < ((64 : Nat) : Int), ck_rg (σ 483 (σ 480 20)), ck_rg 10]) rfl ⟨⟨by omega, by omega⟩, (ck_rgo (by omega) (by omega)), (ck_rgo (by omega) (by omega)), trivial⟩ ?_
  refine ck_go_ite (fun h1 => ?_) (fun h1 => ?_)
  · refine ck_go_run 8 (X1 := (42, [some (.inr (480, 3, 6))], [.inl (0 + (σ 484 (σ 480 20)))], σ)) (ps := [0 ≤ σ 480 20 ∧ σ 480 20 < ((64 : Nat) : Int)]) rfl ⟨⟨by omega, by omega⟩, trivial⟩ ?_
    exact ck_eI ⟨by first | rw [if_pos (by assumption)] | rw [if_neg (by assumption)], rfl⟩ rfl rfl rfl
  · refine ck_go_run 14 (X1 := (42, [some (.inr (480, 3, 6))], [.inl ((σ 496 (σ 483 (σ 480 20))) + (σ 484 (σ 480 20)))], σ)) (ps := [0 ≤ σ 480 20 ∧ σ 480 20 < ((64 : Nat) : Int), 0 ≤ σ 483 (σ 480 20) ∧ σ 483 (σ 480 20) < ((10 : Nat) : Int), 0 ≤ σ 480 20 ∧ σ 480 20 < ((64 : Nat) : Int)]) rfl ⟨⟨by omega, by omega⟩, ⟨by omega, by omega⟩, ⟨by omega, by omega⟩, trivial⟩ ?_
    exact ck_eI ⟨by first | rw [if_pos (by assumption)] | rw [if_neg (by assumption)], rfl⟩ rfl rfl rfl
theorem cx_input {x c : Int} (hx : 0 ≤ x ∧ x < 10) {σ : ck_M} (hmd : co_md c σ) : ck_cal 1 cm_Mo_input [.inr (480, 3, 6), .inl x] σ (fun q σ' => q = none ∧ σ' = co_inp σ x) := by
  refine ck_cal_of ?_
  have h12 := hmd.2.2.2.2.2.2.1.1
  refine ck_mid 23 (fun u => [some (.inr (480, 3, 6)), some (.inl x), none]) (fun t => t = ck_up σ 496 x (if 0 < σ 480 12 then σ 489 0 else 0)) (fun u t hJ => ?_) (fun jj => ?_)
  · have w1 : t 480 12 = σ 480 12 := by
      rw [hJ]
      exact if_neg (by omega)
    refine ck_go_run 2 (X1 := (25, [some (.inr (480, 3, 6)), some (.inl x), some (.inl 1)], [], t)) (ps := []) rfl trivial ?_
    refine ck_for 25 (fun v => [some (.inr (480, 3, 6)), some (.inl x), some (.inl v)]) (σ 480 12) (fun v s => (1 ≤ v ∧ (v = 1 ∨ v ≤ σ 480 12)) ∧ ∀ b j, s b j = if b = 489 ∧ 0 ≤ j ∧ j < v - 1 then σ 489 (j + 1) else t b j) (fun v s hv hI kk => ?_) (fun v s hv hI => ?_) 1 _ ⟨⟨by omega, Or.inl rfl⟩, fun b j => (if_neg (by omega)).symm⟩
    · obtain ⟨⟨v0, v1⟩, hc⟩ := hI
      have w2 : s 480 12 = σ 480 12 := by rw [hc, if_neg (by omega), w1]
      refine ck_go_run 4 (X1 := (if v < s 480 12 then 33 else 53, [some (.inr (480, 3, 6)), some (.inl x), some (.inl v)], [], s)) (ps := [ck_rg v, ck_rg (s 480 12)]) rfl ⟨(ck_rgo (by omega) (by omega)), (ck_rgo (by omega) (by omega)), trivial⟩ ?_
      refine ck_go_t (by omega) ?_
      refine ck_go_run 12 (X1 := (25, [some (.inr (480, 3, 6)), some (.inl x), some (.inl (v + 1))], [], ck_up s 489 (v - 1) (s 489 v))) (ps := [0 ≤ v ∧ v < ((64 : Nat) : Int), 0 ≤ v - 1 ∧ v - 1 < ((64 : Nat) : Int)]) rfl ⟨⟨by omega, by omega⟩, ⟨by omega, by omega⟩, trivial⟩ ?_
      exact kk _ ⟨⟨by omega, by omega⟩, fun b j => by
        have e1 : s 489 v = σ 489 v := by
          rw [hc, if_neg (by omega), hJ]
          exact if_neg (by omega)
        unfold ck_up
        by_cases q : b = 489 ∧ j = v - 1
        · rw [if_pos q, e1, if_pos (by omega), q.2, Int.sub_add_cancel]
        · rw [if_neg q, hc]
          by_cases q2 : b = 489 ∧ 0 ≤ j ∧ j < v - 1
          · rw [if_pos q2, if_pos (by omega)]
          · rw [if_neg q2, if_neg (by omega)]⟩
    · obtain ⟨⟨v0, v1⟩, hc⟩ := hI
      have w2 : s 480 12 = σ 480 12 := by rw [hc, if_neg (by omega), w1]
      refine ck_go_run 4 (X1 := (if v < s 480 12 then 33 else 53, [some (.inr (480, 3, 6)), some (.inl x), some (.inl v)], [], s)) (ps := [ck_rg v, ck_rg (s 480 12)]) rfl ⟨(ck_rgo (by omega) (by omega)), (ck_rgo (by omega) (by omega)), trivial⟩ ?_
      refine ck_go_f (by omega) ?_
      refine ck_go_run 4 (X1 := (if 0 < s 480 12 then 61 else 70, [some (.inr (480, 3, 6)), some (.inl x), some (.inl v)], [.inr (480, 3, 6)], s)) (ps := [ck_rg (s 480 12)]) rfl ⟨(ck_rgo (by omega) (by omega)), trivial⟩ ?_
      refine ck_go_ite (fun h1 => ?_) (fun h1 => ?_)
      · refine ck_go_run 6 (X1 := (74, [some (.inr (480, 3, 6)), some (.inl x), some (.inl v)], [], ck_up s 480 12 ((s 480 12) - 1))) (ps := []) rfl trivial ?_
        refine ck_eV ⟨rfl, ?_⟩ rfl rfl rfl
        funext b j
        unfold co_inp
        have e0 : ck_up s 480 12 (((s 480 12) - 1)) b j = if b = 480 ∧ j = 12 then (((s 480 12) - 1)) else s b j := rfl
        rw [e0]
        by_cases q : b = 480 ∧ j = 12
        · rw [if_pos q, if_neg (by omega), if_neg (by omega), if_pos q]
          first | rw [if_pos (by omega), w2] | rw [if_neg (by omega)]
        · rw [if_neg q, hc]
          by_cases q2 : b = 489 ∧ 0 ≤ j ∧ j < v - 1
          · rw [if_pos q2, if_neg (by omega), if_pos (by omega)]
          · rw [if_neg q2, hJ]
            by_cases q3 : b = 496 ∧ j = x
            · rw [if_pos q3]
              exact if_pos q3
            · rw [if_neg q3, if_neg (show ¬ (b = 489 ∧ 0 ≤ j ∧ j < σ 480 12 - 1) by omega), if_neg q]
              exact if_neg q3
      · refine ck_go_run 2 (X1 := (74, [some (.inr (480, 3, 6)), some (.inl x), some (.inl v)], [], ck_up s 480 12 0)) (ps := []) rfl trivial ?_
        refine ck_eV ⟨rfl, ?_⟩ rfl rfl rfl
        funext b j
        unfold co_inp
        have e0 : ck_up s 480 12 (0) b j = if b = 480 ∧ j = 12 then (0) else s b j := rfl
        rw [e0]
        by_cases q : b = 480 ∧ j = 12
        · rw [if_pos q, if_neg (by omega), if_neg (by omega), if_pos q]
          first | rw [if_pos (by omega), w2] | rw [if_neg (by omega)]
        · rw [if_neg q, hc]
          by_cases q2 : b = 489 ∧ 0 ≤ j ∧ j < v - 1
          · rw [if_pos q2, if_neg (by omega), if_pos (by omega)]
          · rw [if_neg q2, hJ]
            by_cases q3 : b = 496 ∧ j = x
            · rw [if_pos q3]
              exact if_pos q3
            · rw [if_neg q3, if_neg (show ¬ (b = 489 ∧ 0 ≤ j ∧ j < σ 480 12 - 1) by omega), if_neg q]
              exact if_neg q3
  · refine ck_go_run 6 (X1 := (if 0 < σ 480 12 then 12 else 21, [some (.inr (480, 3, 6)), some (.inl x), none], [.inl x, .inr (496, 0, 10)], σ)) (ps := [ck_rg (σ 480 12)]) rfl ⟨(ck_rgo (by omega) (by omega)), trivial⟩ ?_
    refine ck_go_ite (fun h2 => ?_) (fun h2 => ?_)
    · refine ck_go_run 6 (X1 := (23, [some (.inr (480, 3, 6)), some (.inl x), none], [], ck_up σ 496 x (σ 489 0))) (ps := [0 ≤ 0 ∧ 0 < ((64 : Nat) : Int), 0 ≤ x ∧ x < ((10 : Nat) : Int)]) rfl ⟨(by decide), ⟨by omega, by omega⟩, trivial⟩ ?_
      exact jj (none, none, none) _ (by first | rw [if_pos (by assumption)] | rw [if_neg (by assumption)])
    · refine ck_go_run 2 (X1 := (23, [some (.inr (480, 3, 6)), some (.inl x), none], [], ck_up σ 496 x 0)) (ps := [0 ≤ x ∧ x < ((10 : Nat) : Int)]) rfl ⟨⟨by omega, by omega⟩, trivial⟩ ?_
      exact jj (none, none, none) _ (by first | rw [if_pos (by assumption)] | rw [if_neg (by assumption)])
theorem cx_room {r l c : Int} (hr : 0 ≤ r ∧ r < 4) (hl : co_nb l) {σ : ck_M} (hmd : co_md c σ) : ck_cal 2 cm_Mo_room [.inr (480, 3, 6), .inl r, .inl l] σ (fun q σ' => q = some (co_mk σ r l).1 ∧ σ' = (co_mk σ r l).2) := by
  refine ck_cal_of ?_
  have h26 := hmd.2.1
  have hi01 := co_in01 l 0 40
  refine ck_go_run 3 (X1 := (4, [some (.inr (480, 3, 6)), some (.inl r), some (.inl l), none], [.inl 40, .inl 0, .inl l], σ)) (ps := []) rfl trivial ?_
  refine ck_go_cal (rest := []) (ck_cal_le (by decide) (cx_in (v := l) (f := 0) (t := 40) (by first | assumption | exact ck_rgo (by omega) (by omega)) (by exact ⟨by decide, by decide⟩) (by exact ⟨by decide, by decide⟩) _)) ⟨_, rfl, Or.inr ⟨_, rfl⟩, rfl, rfl, rfl, Nat.le_of_ble_eq_true rfl, fun h => absurd h (by decide)⟩ ?_
  rintro _ s' ⟨rfl, e'⟩
  rw [e']
  clear e' s'
  refine ck_go_run 1 (X1 := (if ck_in l 0 40 = 0 then 19 else 10, [some (.inr (480, 3, 6)), some (.inl r), some (.inl l), none], [], σ)) (ps := [ck_rg (ck_in l 0 40)]) rfl ⟨(ck_rgo (by omega) (by omega)), trivial⟩ ?_
  refine ck_go_ite (fun h1 => ?_) (fun h1 => ?_)
  · refine ck_go_run 2 (X1 := (21, [some (.inr (480, 3, 6)), some (.inl r), some (.inl l), none], [.inl 5, .inr (480, 3, 6)], σ)) (ps := []) rfl trivial ?_
    refine ck_go_cal (rest := []) (ck_cal_le (by decide) (cx_stops 5 σ)) ⟨_, rfl, Or.inl ⟨_, rfl⟩, rfl, rfl, rfl, Nat.le_of_ble_eq_true rfl, fun _ => ⟨_, _, rfl⟩⟩ ?_
    rintro _ s1 ⟨rfl, e1⟩
    refine ck_eZ (Or.inl rfl) ?_ rfl rfl rfl
    unfold co_mk
    try simp only [co_in0] at *
    rw [if_neg (by omega)]
    exact ⟨rfl, e1⟩
  · refine ck_go_run 4 (X1 := (if σ 480 26 = 40 then 19 else 25, [some (.inr (480, 3, 6)), some (.inl r), some (.inl l), none], [], σ)) (ps := [ck_rg (σ 480 26), ck_rg 40]) rfl ⟨(ck_rgo (by omega) (by omega)), (ck_rgo (by omega) (by omega)), trivial⟩ ?_
    refine ck_go_ite (fun h2 => ?_) (fun h2 => ?_)
    · refine ck_go_run 2 (X1 := (21, [some (.inr (480, 3, 6)), some (.inl r), some (.inl l), none], [.inl 5, .inr (480, 3, 6)], σ)) (ps := []) rfl trivial ?_
      refine ck_go_cal (rest := []) (ck_cal_le (by decide) (cx_stops 5 σ)) ⟨_, rfl, Or.inl ⟨_, rfl⟩, rfl, rfl, rfl, Nat.le_of_ble_eq_true rfl, fun _ => ⟨_, _, rfl⟩⟩ ?_
      rintro _ s2 ⟨rfl, e2⟩
      refine ck_eZ (Or.inl rfl) ?_ rfl rfl rfl
      unfold co_mk
      try simp only [co_in0] at *
      rw [if_neg (by omega)]
      exact ⟨rfl, e2⟩
    · simp only [co_in0] at *
      refine ck_go_run 8 (X1 := (37, [some (.inr (480, 3, 6)), some (.inl r), some (.inl l), some (.inl 0)], [], ck_up σ 498 (σ 480 26) l)) (ps := [0 ≤ σ 480 26 ∧ σ 480 26 < ((40 : Nat) : Int)]) rfl ⟨⟨by omega, by omega⟩, trivial⟩ ?_
      refine ck_for 37 (fun v => [some (.inr (480, 3, 6)), some (.inl r), some (.inl l), some (.inl v)]) l (fun v s => (0 ≤ v ∧ v ≤ l) ∧ ∀ b j, s b j = if b = 499 ∧ 40 * σ 480 26 ≤ j ∧ j < 40 * σ 480 26 + v then 0 else if b = 498 ∧ j = σ 480 26 then l else σ b j) (fun v s hv hI kk => ?_) (fun v s hv hI => ?_) 0 _ ⟨⟨by omega, by omega⟩, fun b j => by
        rw [if_neg (by omega)]
        rfl⟩
      · obtain ⟨⟨v0, v1⟩, hc⟩ := hI
        have w2 : s 480 26 = σ 480 26 := by rw [hc, if_neg (by omega), if_neg (by omega)]
        refine ck_go_run 3 (X1 := (if v < l then 42 else 63, [some (.inr (480, 3, 6)), some (.inl r), some (.inl l), some (.inl v)], [], s)) (ps := [ck_rg v, ck_rg l]) rfl ⟨(ck_rgo (by omega) (by omega)), (ck_rgo (by omega) (by omega)), trivial⟩ ?_
        refine ck_go_t hv ?_
        refine ck_go_run 12 (X1 := (37, [some (.inr (480, 3, 6)), some (.inl r), some (.inl l), some (.inl (v + 1))], [], ck_up s 499 ((40 * (s 480 26)) + v) 0)) (ps := [0 ≤ (40 * (s 480 26)) + v ∧ (40 * (s 480 26)) + v < ((1600 : Nat) : Int)]) rfl ⟨⟨by omega, by omega⟩, trivial⟩ ?_
        exact kk _ ⟨⟨by omega, by omega⟩, fun b j => by
          unfold ck_up
          rw [w2, hc]
          by_cases q : b = 499 ∧ j = 40 * σ 480 26 + v
          · rw [if_pos q, if_pos (by omega)]
          · rw [if_neg q]
            by_cases q2 : b = 499 ∧ 40 * σ 480 26 ≤ j ∧ j < 40 * σ 480 26 + v
            · rw [if_pos q2, if_pos (by omega)]
            · rw [if_neg q2, if_neg (show ¬ (b = 499 ∧ 40 * σ 480 26 ≤ j ∧ j < 40 * σ 480 26 + (v + 1)) by omega)]⟩
      · obtain ⟨⟨v0, v1⟩, hc⟩ := hI
        have w2 : s 480 26 = σ 480 26 := by rw [hc, if_neg (by omega), if_neg (by omega)]
        refine ck_go_run 3 (X1 := (if v < l then 42 else 63, [some (.inr (480, 3, 6)), some (.inl r), some (.inl l), some (.inl v)], [], s)) (ps := [ck_rg v, ck_rg l]) rfl ⟨(ck_rgo (by omega) (by omega)), (ck_rgo (by omega) (by omega)), trivial⟩ ?_
        refine ck_go_f (by omega) ?_
        refine ck_go_run 13 (X1 := (84, [some (.inr (480, 3, 6)), some (.inl r), some (.inl l), some (.inl v)], [.inl 1], ck_up (ck_up s 497 r (s 480 26)) 480 26 ((s 480 26) + 1))) (ps := [0 ≤ r ∧ r < ((4 : Nat) : Int)]) rfl ⟨⟨by omega, by omega⟩, trivial⟩ ?_
        refine ck_eZ (Or.inr rfl) ?_ rfl rfl rfl
        unfold co_mk
        try simp only [co_in0] at *
        rw [if_pos (by omega)]
        refine ⟨rfl, ?_⟩
        have ev : v = l := by omega
        funext b j
        have e0 : ∀ u w : Int, ck_up (ck_up s 497 r u) 480 26 w b j = if b = 480 ∧ j = 26 then w else if b = 497 ∧ j = r then u else s b j := fun u w => rfl
        rw [e0, w2]
        unfold co_mkm
        have e1 : ck_up s 497 r (σ 480 26) 480 26 = s 480 26 := if_neg (by omega)
        first | rw [hc, ev] | rw [e1, w2, hc, ev]
