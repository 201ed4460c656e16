/-! ## The class: what is told, what waits -/
theorem cx_leave (σ : ck_M) : ck_cal 1 cm_Ma_leave [.inr (1, 3, 3)] σ (fun q σ' => q = none ∧ σ' = ck_up σ 1 8 0) := by
  refine ck_cal_of ?_
  refine ck_go_run 3 (X1 := (5, [some (.inr (1, 3, 3))], [], ck_up σ 1 8 0)) (ps := [0 = 0 ∨ 0 = 1]) rfl ⟨Or.inl rfl, trivial⟩ ?_
  exact ck_eV ⟨rfl, rfl⟩ rfl rfl rfl
theorem cx_emptyP (σ : ck_M) : ck_cal 1 cm_Pr_empty [.inr (5, 3, 4)] σ (fun q σ' => q = none ∧ σ' = ck_up (ck_up σ 5 10 0) 5 11 0) := by
  refine ck_cal_of ?_
  refine ck_go_run 6 (X1 := (10, [some (.inr (5, 3, 4))], [], ck_up (ck_up σ 5 10 0) 5 11 0)) (ps := []) rfl trivial ?_
  exact ck_eV ⟨rfl, rfl⟩ rfl rfl rfl
theorem cx_emptyI (σ : ck_M) : ck_cal 1 cm_In_empty [.inr (2, 3, 2)] σ (fun q σ' => q = none ∧ σ' = ck_up (ck_up σ 2 1 0) 2 2 0) := by
  refine ck_cal_of ?_
  refine ck_go_run 6 (X1 := (10, [some (.inr (2, 3, 2))], [], ck_up (ck_up σ 2 1 0) 2 2 0)) (ps := []) rfl trivial ?_
  exact ck_eV ⟨rfl, rfl⟩ rfl rfl rfl
theorem cx_appendI {v : Int} {σ : ck_M} (h1 : 0 ≤ σ 2 1 ∧ σ 2 1 < 64) (h2 : 0 ≤ σ 2 2 ∧ σ 2 2 ≤ 64) : ck_cal 1 cm_In_append [.inr (2, 3, 2), .inl v] σ (fun q σ' => (σ 2 2 = 64 ∧ q = some (-1) ∧ σ' = σ) ∨ (σ 2 2 ≠ 64 ∧ q = some (σ 2 2 + 1) ∧ σ' = ck_up (ck_up σ 3 ((σ 2 1 + σ 2 2) % 64) v) 2 2 (σ 2 2 + 1))) := by
  refine ck_cal_of ?_
  have er : ck_rem (σ 2 1 + σ 2 2) 64 = (σ 2 1 + σ 2 2) % 64 := co_rem (by omega) (by decide)
  refine ck_go_run 4 (X1 := (if σ 2 2 = 64 then 9 else 11, [some (.inr (2, 3, 2)), some (.inl v)], [], σ)) (ps := [ck_rg (σ 2 2), ck_rg 64]) rfl ⟨(ck_rgo (by omega) (by omega)), (ck_rgo (by omega) (by omega)), trivial⟩ ?_
  refine ck_go_ite (fun h1 => ?_) (fun h1 => ?_)
  · refine ck_go_run 1 (X1 := (10, [some (.inr (2, 3, 2)), some (.inl v)], [.inl ((-1))], σ)) (ps := []) rfl trivial ?_
    exact ck_eI (Or.inl ⟨by omega, rfl, rfl⟩) rfl rfl rfl
  · refine ck_go_run 19 (X1 := (43, [some (.inr (2, 3, 2)), some (.inl v)], [.inl ((σ 2 2) + 1)], ck_up (ck_up σ 3 (ck_rem ((σ 2 1) + (σ 2 2)) 64) v) 2 2 ((σ 2 2) + 1))) (ps := [ck_rg 64 ∧ 64 ≠ 0, 0 ≤ ck_rem ((σ 2 1) + (σ 2 2)) 64 ∧ ck_rem ((σ 2 1) + (σ 2 2)) 64 < ((64 : Nat) : Int)]) rfl ⟨⟨ck_rgo (by omega) (by omega), by omega⟩, ⟨by omega, by omega⟩, trivial⟩ ?_
    refine ck_eI (Or.inr ⟨by omega, rfl, ?_⟩) rfl rfl rfl
    rw [er]
theorem cx_isNumber {v : Int} (hv : ck_rg v) (σ : ck_M) : ck_cal 1 cm_Cs_isNumber [.inl v] σ (fun q σ' => q = some (ck_in v 0 9) ∧ σ' = σ) := by
  refine ck_cal_of ?_
  unfold ck_rg at hv
  refine ck_go_run 2 (X1 := (if v < 0 then 14 else 4, [some (.inl v)], [], σ)) (ps := [ck_rg v]) rfl ⟨(ck_rgo (by omega) (by omega)), trivial⟩ ?_
  refine ck_go_ite (fun h1 => ?_) (fun h1 => ?_)
  · refine ck_go_run 1 (X1 := (15, [some (.inl v)], [.inl 0], σ)) (ps := []) rfl trivial ?_
    refine ck_eZ (by decide) ⟨?_, rfl⟩ rfl rfl rfl
    unfold ck_in
    rw [if_neg (by omega)]
  · refine ck_go_run 3 (X1 := (if v < 10 then 10 else 14, [some (.inl v)], [], σ)) (ps := [ck_rg v, ck_rg 10]) rfl ⟨(ck_rgo (by omega) (by omega)), (ck_rgo (by omega) (by omega)), trivial⟩ ?_
    refine ck_go_ite (fun h2 => ?_) (fun h2 => ?_)
    · refine ck_go_run 2 (X1 := (15, [some (.inl v)], [.inl 1], σ)) (ps := []) rfl trivial ?_
      refine ck_eZ (by decide) ⟨?_, rfl⟩ rfl rfl rfl
      unfold ck_in
      rw [if_pos (by omega)]
    · refine ck_go_run 1 (X1 := (15, [some (.inl v)], [.inl 0], σ)) (ps := []) rfl trivial ?_
      refine ck_eZ (by decide) ⟨?_, rfl⟩ rfl rfl rfl
      unfold ck_in
      rw [if_neg (by omega)]
theorem cx_isArray {v : Int} (hv : ck_rg v) (σ : ck_M) : ck_cal 1 cm_Cs_isArray [.inl v] σ (fun q σ' => q = some (ck_in v 0 3) ∧ σ' = σ) := by
  refine ck_cal_of ?_
  unfold ck_rg at hv
  refine ck_go_run 2 (X1 := (if v < 0 then 13 else 4, [some (.inl v)], [], σ)) (ps := [ck_rg v]) rfl ⟨(ck_rgo (by omega) (by omega)), trivial⟩ ?_
  refine ck_go_ite (fun h1 => ?_) (fun h1 => ?_)
  · refine ck_go_run 1 (X1 := (14, [some (.inl v)], [.inl 0], σ)) (ps := []) rfl trivial ?_
    refine ck_eZ (by decide) ⟨?_, rfl⟩ rfl rfl rfl
    unfold ck_in
    rw [if_neg (by omega)]
  · refine ck_go_run 3 (X1 := (if v < 4 then 9 else 13, [some (.inl v)], [], σ)) (ps := [ck_rg v, ck_rg 4]) rfl ⟨(ck_rgo (by omega) (by omega)), (ck_rgo (by omega) (by omega)), trivial⟩ ?_
    refine ck_go_ite (fun h2 => ?_) (fun h2 => ?_)
    · refine ck_go_run 2 (X1 := (14, [some (.inl v)], [.inl 1], σ)) (ps := []) rfl trivial ?_
      refine ck_eZ (by decide) ⟨?_, rfl⟩ rfl rfl rfl
      unfold ck_in
      rw [if_pos (by omega)]
    · refine ck_go_run 1 (X1 := (14, [some (.inl v)], [.inl 0], σ)) (ps := []) rfl trivial ?_
      refine ck_eZ (by decide) ⟨?_, rfl⟩ rfl rfl rfl
      unfold ck_in
      rw [if_neg (by omega)]
theorem cx_isConstant {v : Int} (hv : ck_rg v) (σ : ck_M) : ck_cal 1 cm_Pr_isConstant [.inl v] σ (fun q σ' => q = some (ck_in v (-100) 100) ∧ σ' = σ) := by
  refine ck_cal_of ?_
  unfold ck_rg at hv
  refine ck_go_run 3 (X1 := (if v < (-100) then 16 else 6, [some (.inl v)], [], σ)) (ps := [ck_rg v, ck_rg ((-100))]) rfl ⟨(ck_rgo (by omega) (by omega)), (ck_rgo (by omega) (by omega)), trivial⟩ ?_
  refine ck_go_ite (fun h1 => ?_) (fun h1 => ?_)
  · refine ck_go_run 1 (X1 := (17, [some (.inl v)], [.inl 0], σ)) (ps := []) rfl trivial ?_
    refine ck_eZ (by decide) ⟨?_, rfl⟩ rfl rfl rfl
    unfold ck_in
    rw [if_neg (by omega)]
  · refine ck_go_run 3 (X1 := (if 100 < v then 16 else 12, [some (.inl v)], [], σ)) (ps := [ck_rg v, ck_rg 100]) rfl ⟨(ck_rgo (by omega) (by omega)), (ck_rgo (by omega) (by omega)), trivial⟩ ?_
    refine ck_go_ite (fun h2 => ?_) (fun h2 => ?_)
    · refine ck_go_run 1 (X1 := (17, [some (.inl v)], [.inl 0], σ)) (ps := []) rfl trivial ?_
      refine ck_eZ (by decide) ⟨?_, rfl⟩ rfl rfl rfl
      unfold ck_in
      rw [if_neg (by omega)]
    · refine ck_go_run 2 (X1 := (17, [some (.inl v)], [.inl 1], σ)) (ps := []) rfl trivial ?_
      refine ck_eZ (by decide) ⟨?_, rfl⟩ rfl rfl rfl
      unfold ck_in
      rw [if_pos (by omega)]
theorem cx_hasOwner {t : Int} (ht : ck_rg t) {σ : ck_M} (hd : 0 ≤ σ 5 11 ∧ σ 5 11 ≤ 8) (ho : 0 < σ 5 11 → 0 ≤ σ 15 (σ 5 11 - 1) ∧ σ 15 (σ 5 11 - 1) < 64) (hs : 0 < σ 5 11 → ck_rg (σ 6 (σ 15 (σ 5 11 - 1))) ∧ ck_rg (σ 11 (σ 15 (σ 5 11 - 1)))) : ck_cal 1 cm_Pr_hasOwner [.inr (5, 3, 4), .inl t] σ (fun q σ' => (∃ r, q = some r ∧ ((r = 1 ∧ co_own t (σ 5 11) (σ 6 (σ 15 (σ 5 11 - 1))) (σ 11 (σ 15 (σ 5 11 - 1)))) ∨ (r = 0 ∧ ¬ co_own t (σ 5 11) (σ 6 (σ 15 (σ 5 11 - 1))) (σ 11 (σ 15 (σ 5 11 - 1)))))) ∧ σ' = σ) := by
  refine ck_cal_of ?_
  have rt := id ht
  unfold ck_rg at rt
  refine ck_go_run 3 (X1 := (if t = 10 then 14 else 6, [some (.inr (5, 3, 4)), some (.inl t), none], [], σ)) (ps := [ck_rg t, ck_rg 10]) rfl ⟨(ck_rgo (by omega) (by omega)), (ck_rgo (by omega) (by omega)), trivial⟩ ?_
  refine ck_go_ite (fun h1 => ?_) (fun h1 => ?_)
  · refine ck_go_run 3 (X1 := (if σ 5 11 = 0 then 21 else 23, [some (.inr (5, 3, 4)), some (.inl t), none], [], σ)) (ps := [ck_rg (σ 5 11)]) rfl ⟨(ck_rgo (by omega) (by omega)), trivial⟩ ?_
    refine ck_go_ite (fun h2 => ?_) (fun h2 => ?_)
    · refine ck_go_run 1 (X1 := (22, [some (.inr (5, 3, 4)), some (.inl t), none], [.inl 0], σ)) (ps := []) rfl trivial ?_
      refine ck_eZ (by decide) ⟨⟨0, rfl, Or.inr ⟨rfl, ?_⟩⟩, rfl⟩ rfl rfl rfl
      unfold co_own
      omega
    · have hs1 := (hs (by omega)).1
      have hs2 := (hs (by omega)).2
      have ho1 := ho (by omega)
      unfold ck_rg at hs1 hs2
      refine ck_go_run 11 (X1 := (if t = 11 then 62 else 41, [some (.inr (5, 3, 4)), some (.inl t), some (.inl (σ 15 ((σ 5 11) - 1)))], [], σ)) (ps := [0 ≤ (σ 5 11) - 1 ∧ (σ 5 11) - 1 < ((8 : Nat) : Int), ck_rg t, ck_rg 11]) rfl ⟨⟨by omega, by omega⟩, (ck_rgo (by omega) (by omega)), (ck_rgo (by omega) (by omega)), trivial⟩ ?_
      refine ck_go_ite (fun h3 => ?_) (fun h3 => ?_)
      · refine ck_go_run 2 (X1 := (67, [some (.inr (5, 3, 4)), some (.inl t), some (.inl (σ 15 ((σ 5 11) - 1)))], [.inl 1], σ)) (ps := []) rfl trivial ?_
        refine ck_eZ (by decide) ⟨⟨1, rfl, Or.inl ⟨rfl, ?_⟩⟩, rfl⟩ rfl rfl rfl
        unfold co_own
        omega
      · refine ck_go_run 6 (X1 := (if σ 6 (σ 15 ((σ 5 11) - 1)) = 9 then 52 else 66, [some (.inr (5, 3, 4)), some (.inl t), some (.inl (σ 15 ((σ 5 11) - 1)))], [], σ)) (ps := [0 ≤ σ 15 ((σ 5 11) - 1) ∧ σ 15 ((σ 5 11) - 1) < ((64 : Nat) : Int), ck_rg (σ 6 (σ 15 ((σ 5 11) - 1))), ck_rg 9]) rfl ⟨⟨by omega, by omega⟩, (ck_rgo (by omega) (by omega)), (ck_rgo (by omega) (by omega)), trivial⟩ ?_
        refine ck_go_ite (fun h4 => ?_) (fun h4 => ?_)
        · refine ck_go_run 6 (X1 := (if σ 11 (σ 15 ((σ 5 11) - 1)) = (-1) then 62 else 66, [some (.inr (5, 3, 4)), some (.inl t), some (.inl (σ 15 ((σ 5 11) - 1)))], [], σ)) (ps := [0 ≤ σ 15 ((σ 5 11) - 1) ∧ σ 15 ((σ 5 11) - 1) < ((64 : Nat) : Int), ck_rg (σ 11 (σ 15 ((σ 5 11) - 1))), ck_rg ((-1))]) rfl ⟨⟨by omega, by omega⟩, (ck_rgo (by omega) (by omega)), (ck_rgo (by omega) (by omega)), trivial⟩ ?_
          refine ck_go_ite (fun h5 => ?_) (fun h5 => ?_)
          · refine ck_go_run 2 (X1 := (67, [some (.inr (5, 3, 4)), some (.inl t), some (.inl (σ 15 ((σ 5 11) - 1)))], [.inl 1], σ)) (ps := []) rfl trivial ?_
            refine ck_eZ (by decide) ⟨⟨1, rfl, Or.inl ⟨rfl, ?_⟩⟩, rfl⟩ rfl rfl rfl
            unfold co_own
            omega
          · refine ck_go_run 1 (X1 := (67, [some (.inr (5, 3, 4)), some (.inl t), some (.inl (σ 15 ((σ 5 11) - 1)))], [.inl 0], σ)) (ps := []) rfl trivial ?_
            refine ck_eZ (by decide) ⟨⟨0, rfl, Or.inr ⟨rfl, ?_⟩⟩, rfl⟩ rfl rfl rfl
            unfold co_own
            omega
        · refine ck_go_run 1 (X1 := (67, [some (.inr (5, 3, 4)), some (.inl t), some (.inl (σ 15 ((σ 5 11) - 1)))], [.inl 0], σ)) (ps := []) rfl trivial ?_
          refine ck_eZ (by decide) ⟨⟨0, rfl, Or.inr ⟨rfl, ?_⟩⟩, rfl⟩ rfl rfl rfl
          unfold co_own
          omega
  · refine ck_go_run 3 (X1 := (if t = 11 then 14 else 12, [some (.inr (5, 3, 4)), some (.inl t), none], [], σ)) (ps := [ck_rg t, ck_rg 11]) rfl ⟨(ck_rgo (by omega) (by omega)), (ck_rgo (by omega) (by omega)), trivial⟩ ?_
    refine ck_go_ite (fun h6 => ?_) (fun h6 => ?_)
    · refine ck_go_run 3 (X1 := (if σ 5 11 = 0 then 21 else 23, [some (.inr (5, 3, 4)), some (.inl t), none], [], σ)) (ps := [ck_rg (σ 5 11)]) rfl ⟨(ck_rgo (by omega) (by omega)), trivial⟩ ?_
      refine ck_go_ite (fun h7 => ?_) (fun h7 => ?_)
      · refine ck_go_run 1 (X1 := (22, [some (.inr (5, 3, 4)), some (.inl t), none], [.inl 0], σ)) (ps := []) rfl trivial ?_
        refine ck_eZ (by decide) ⟨⟨0, rfl, Or.inr ⟨rfl, ?_⟩⟩, rfl⟩ rfl rfl rfl
        unfold co_own
        omega
      · have hs1 := (hs (by omega)).1
        have hs2 := (hs (by omega)).2
        have ho1 := ho (by omega)
        unfold ck_rg at hs1 hs2
        refine ck_go_run 11 (X1 := (if t = 11 then 62 else 41, [some (.inr (5, 3, 4)), some (.inl t), some (.inl (σ 15 ((σ 5 11) - 1)))], [], σ)) (ps := [0 ≤ (σ 5 11) - 1 ∧ (σ 5 11) - 1 < ((8 : Nat) : Int), ck_rg t, ck_rg 11]) rfl ⟨⟨by omega, by omega⟩, (ck_rgo (by omega) (by omega)), (ck_rgo (by omega) (by omega)), trivial⟩ ?_
        refine ck_go_ite (fun h8 => ?_) (fun h8 => ?_)
        · refine ck_go_run 2 (X1 := (67, [some (.inr (5, 3, 4)), some (.inl t), some (.inl (σ 15 ((σ 5 11) - 1)))], [.inl 1], σ)) (ps := []) rfl trivial ?_
          refine ck_eZ (by decide) ⟨⟨1, rfl, Or.inl ⟨rfl, ?_⟩⟩, rfl⟩ rfl rfl rfl
          unfold co_own
          omega
        · refine ck_go_run 6 (X1 := (if σ 6 (σ 15 ((σ 5 11) - 1)) = 9 then 52 else 66, [some (.inr (5, 3, 4)), some (.inl t), some (.inl (σ 15 ((σ 5 11) - 1)))], [], σ)) (ps := [0 ≤ σ 15 ((σ 5 11) - 1) ∧ σ 15 ((σ 5 11) - 1) < ((64 : Nat) : Int), ck_rg (σ 6 (σ 15 ((σ 5 11) - 1))), ck_rg 9]) rfl ⟨⟨by omega, by omega⟩, (ck_rgo (by omega) (by omega)), (ck_rgo (by omega) (by omega)), trivial⟩ ?_
          refine ck_go_ite (fun h9 => ?_) (fun h9 => ?_)
          · refine ck_go_run 6 (X1 := (if σ 11 (σ 15 ((σ 5 11) - 1)) = (-1) then 62 else 66, [some (.inr (5, 3, 4)), some (.inl t), some (.inl (σ 15 ((σ 5 11) - 1)))], [], σ)) (ps := [0 ≤ σ 15 ((σ 5 11) - 1) ∧ σ 15 ((σ 5 11) - 1) < ((64 : Nat) : Int), ck_rg (σ 11 (σ 15 ((σ 5 11) - 1))), ck_rg ((-1))]) rfl ⟨⟨by omega, by omega⟩, (ck_rgo (by omega) (by omega)), (ck_rgo (by omega) (by omega)), trivial⟩ ?_
            refine ck_go_ite (fun h10 => ?_) (fun h10 => ?_)
            · refine ck_go_run 2 (X1 := (67, [some (.inr (5, 3, 4)), some (.inl t), some (.inl (σ 15 ((σ 5 11) - 1)))], [.inl 1], σ)) (ps := []) rfl trivial ?_
              refine ck_eZ (by decide) ⟨⟨1, rfl, Or.inl ⟨rfl, ?_⟩⟩, rfl⟩ rfl rfl rfl
              unfold co_own
              omega
            · refine ck_go_run 1 (X1 := (67, [some (.inr (5, 3, 4)), some (.inl t), some (.inl (σ 15 ((σ 5 11) - 1)))], [.inl 0], σ)) (ps := []) rfl trivial ?_
              refine ck_eZ (by decide) ⟨⟨0, rfl, Or.inr ⟨rfl, ?_⟩⟩, rfl⟩ rfl rfl rfl
              unfold co_own
              omega
          · refine ck_go_run 1 (X1 := (67, [some (.inr (5, 3, 4)), some (.inl t), some (.inl (σ 15 ((σ 5 11) - 1)))], [.inl 0], σ)) (ps := []) rfl trivial ?_
            refine ck_eZ (by decide) ⟨⟨0, rfl, Or.inr ⟨rfl, ?_⟩⟩, rfl⟩ rfl rfl rfl
            unfold co_own
            omega
    · refine ck_go_run 1 (X1 := (13, [some (.inr (5, 3, 4)), some (.inl t), none], [.inl 1], σ)) (ps := []) rfl trivial ?_
      refine ck_eZ (by decide) ⟨⟨1, rfl, Or.inl ⟨rfl, ?_⟩⟩, rfl⟩ rfl rfl rfl
      unfold co_own
      omega
theorem co_b0 {m : Int} (h0 : 0 ≤ m) (h1 : m < 10) : ck_and (ck_shr 0 m) 1 = 0 := by
  obtain ⟨M, rfl⟩ := co_nat h0
  have := co_bit (a := 0) (m := M) (by omega) (by omega)
  rw [Nat.zero_div] at this
  exact this
theorem co_cn_n {p : ck_M} {h v m : Int} (h0 : h + 1 ≤ v) (hv : ¬ p 6 v < 5) : (¬ co_cn p h v m) ↔ ¬ co_cn p h (v + 1) m := by
  refine not_congr ⟨fun ⟨j, a, b, c, d⟩ => ⟨j, a, by omega, c, d⟩, fun ⟨j, a, b, c, d⟩ => ⟨j, a, ?_, c, d⟩⟩
  by_cases e : j = v
  · rw [e] at c; exact absurd c hv
  · omega
theorem co_cn_y {p : ck_M} {h v m : Int} (h0 : h + 1 ≤ v) (hv : p 6 v < 5) : (m ≠ p 7 v ∧ ¬ co_cn p h v m) ↔ ¬ co_cn p h (v + 1) m := by
  constructor
  · rintro ⟨z1, z2⟩ ⟨j, a, b, c, d⟩
    by_cases e : j = v
    · rw [e] at d; exact z1 d.symm
    · exact z2 ⟨j, a, by omega, c, d⟩
  · intro z
    exact ⟨fun e => z ⟨v, by omega, by omega, hv, e.symm⟩, fun ⟨j, a, b, c, d⟩ => z ⟨j, a, by omega, c, d⟩⟩
theorem co_ca_n {p : ck_M} {h v m : Int} (h0 : h + 1 ≤ v) (hv : ¬ (6 ≤ p 6 v ∧ p 6 v ≤ 8)) : (¬ co_ca p h v m) ↔ ¬ co_ca p h (v + 1) m := by
  refine not_congr ⟨fun ⟨j, a, b, c, c', d⟩ => ⟨j, a, by omega, c, c', d⟩, fun ⟨j, a, b, c, c', d⟩ => ⟨j, a, ?_, c, c', d⟩⟩
  by_cases e : j = v
  · rw [e] at c c'; exact absurd ⟨c, c'⟩ hv
  · omega
theorem co_ca_y {p : ck_M} {h v m : Int} (h0 : h + 1 ≤ v) (hv : 6 ≤ p 6 v ∧ p 6 v ≤ 8) : (m ≠ p 7 v ∧ ¬ co_ca p h v m) ↔ ¬ co_ca p h (v + 1) m := by
  constructor
  · rintro ⟨z1, z2⟩ ⟨j, a, b, c, c', d⟩
    by_cases e : j = v
    · rw [e] at d; exact z1 d.symm
    · exact z2 ⟨j, a, by omega, c, c', d⟩
  · intro z
    exact ⟨fun e => z ⟨v, by omega, by omega, hv.1, hv.2, e.symm⟩, fun ⟨j, a, b, c, c', d⟩ => z ⟨j, a, by omega, c, c', d⟩⟩
theorem cx_closeP {k : Int} {σ : ck_M} (hd : 0 < σ 5 11 ∧ σ 5 11 ≤ 8) (hk : 0 ≤ k ∧ k < 64) (hh : 0 ≤ σ 15 (σ 5 11 - 1) ∧ σ 15 (σ 5 11 - 1) < k) (hS : ∀ j, σ 15 (σ 5 11 - 1) < j → j < k → ck_sOk (σ 6 j) (σ 7 j) (σ 8 j) (σ 9 j)) : ck_cal 1 cm_Pr_close [.inr (5, 3, 4), .inl k] σ (fun q σ' => q = none ∧ ∃ a b, σ' = ck_up (ck_up (ck_up (ck_up (ck_up σ 5 11 (σ 5 11 - 1)) 10 k (σ 15 (σ 5 11 - 1))) 12 (σ 15 (σ 5 11 - 1)) k) 13 (σ 15 (σ 5 11 - 1)) a) 14 (σ 15 (σ 5 11 - 1)) b ∧ (∀ m, 0 ≤ m → m < 10 → (ck_and (ck_shr a m) 1 = 0 ↔ ¬ co_cn σ (σ 15 (σ 5 11 - 1)) k m)) ∧ ∀ m, 0 ≤ m → m < 10 → (ck_and (ck_shr b m) 1 = 0 ↔ ¬ co_ca σ (σ 15 (σ 5 11 - 1)) k m)) := by
  refine ck_cal_of ?_
  refine ck_go_run 30 (X1 := (44, [some (.inr (5, 3, 4)), some (.inl k), some (.inl (σ 15 ((σ 5 11) - 1))), some (.inl 0), some (.inl 0), some (.inl ((σ 15 ((σ 5 11) - 1)) + 1))], [], ck_up (ck_up (ck_up σ 5 11 ((σ 5 11) - 1)) 10 k (σ 15 ((σ 5 11) - 1))) 12 (σ 15 ((σ 5 11) - 1)) k)) (ps := [0 ≤ (σ 5 11) - 1 ∧ (σ 5 11) - 1 < ((8 : Nat) : Int), 0 ≤ k ∧ k < ((64 : Nat) : Int), 0 ≤ σ 15 ((σ 5 11) - 1) ∧ σ 15 ((σ 5 11) - 1) < ((64 : Nat) : Int)]) rfl ⟨⟨by omega, by omega⟩, ⟨by omega, by omega⟩, ⟨by omega, by omega⟩, trivial⟩ ?_
  refine ck_whl 44 (fun (u : Int × Int × Int) => [some (.inr (5, 3, 4)), some (.inl k), some (.inl (σ 15 ((σ 5 11) - 1))), some (.inl u.2.1), some (.inl u.2.2), some (.inl u.1)]) (fun u s => s = ck_up (ck_up (ck_up σ 5 11 (σ 5 11 - 1)) 10 k (σ 15 (σ 5 11 - 1))) 12 (σ 15 (σ 5 11 - 1)) k ∧ (σ 15 (σ 5 11 - 1) + 1 ≤ u.1 ∧ u.1 ≤ k) ∧ (0 ≤ u.2.1 ∧ u.2.1 < 1024) ∧ (0 ≤ u.2.2 ∧ u.2.2 < 1024) ∧ (∀ m, 0 ≤ m → m < 10 → (ck_and (ck_shr u.2.1 m) 1 = 0 ↔ ¬ co_cn σ (σ 15 (σ 5 11 - 1)) u.1 m)) ∧ ∀ m, 0 ≤ m → m < 10 → (ck_and (ck_shr u.2.2 m) 1 = 0 ↔ ¬ co_ca σ (σ 15 (σ 5 11 - 1)) u.1 m)) (fun u s => (k - u.1).toNat) (fun u s hI kk => ?_) ((σ 15 ((σ 5 11) - 1)) + 1, 0, 0) _ ⟨rfl, ⟨by omega, by omega⟩, ⟨(by decide : (0 : Int) ≤ 0), (by decide : (0 : Int) < 1024)⟩, ⟨(by decide : (0 : Int) ≤ 0), (by decide : (0 : Int) < 1024)⟩, fun m m0 m1 => ⟨fun _ => fun ⟨j, z1, z2, _⟩ => by omega, fun _ => co_b0 m0 m1⟩, fun m m0 m1 => ⟨fun _ => fun ⟨j, z1, z2, _⟩ => by omega, fun _ => co_b0 m0 m1⟩⟩
  obtain ⟨v, a, b⟩ := u
  dsimp only at hI kk
  obtain ⟨es, ⟨v0, v1⟩, ha, hb, hA, hB⟩ := hI
  rw [es]
  refine ck_go_run 3 (X1 := (if v < k then 50 else 130, [some (.inr (5, 3, 4)), some (.inl k), some (.inl (σ 15 ((σ 5 11) - 1))), some (.inl a), some (.inl b), some (.inl v)], [], ck_up (ck_up (ck_up σ 5 11 (σ 5 11 - 1)) 10 k (σ 15 (σ 5 11 - 1))) 12 (σ 15 (σ 5 11 - 1)) k)) (ps := [ck_rg v, ck_rg k]) rfl ⟨(ck_rgo (by omega) (by omega)), (ck_rgo (by omega) (by omega)), trivial⟩ ?_
  refine ck_go_ite (fun h1 => ?_) (fun h1 => ?_)
  · have hs := hS v (by omega) (by omega)
    unfold ck_sOk at hs
    refine ck_go_run 5 (X1 := (if σ 6 v < 0 then 86 else 60, [some (.inr (5, 3, 4)), some (.inl k), some (.inl (σ 15 ((σ 5 11) - 1))), some (.inl a), some (.inl b), some (.inl v)], [], ck_up (ck_up (ck_up σ 5 11 (σ 5 11 - 1)) 10 k (σ 15 (σ 5 11 - 1))) 12 (σ 15 (σ 5 11 - 1)) k)) (ps := [0 ≤ v ∧ v < ((64 : Nat) : Int), ck_rg (σ 6 v)]) rfl ⟨⟨by omega, by omega⟩, (ck_rgo (by omega) (by omega)), trivial⟩ ?_
    refine ck_go_ite (fun h2 => ?_) (fun h2 => ?_)
    · refine ck_go_run 6 (X1 := (if σ 6 v < 6 then 124 else 98, [some (.inr (5, 3, 4)), some (.inl k), some (.inl (σ 15 ((σ 5 11) - 1))), some (.inl a), some (.inl b), some (.inl v)], [], ck_up (ck_up (ck_up σ 5 11 (σ 5 11 - 1)) 10 k (σ 15 (σ 5 11 - 1))) 12 (σ 15 (σ 5 11 - 1)) k)) (ps := [0 ≤ v ∧ v < ((64 : Nat) : Int), ck_rg (σ 6 v), ck_rg 6]) rfl ⟨⟨by omega, by omega⟩, (ck_rgo (by omega) (by omega)), (ck_rgo (by omega) (by omega)), trivial⟩ ?_
      refine ck_go_ite (fun h3 => ?_) (fun h3 => ?_)
      · refine ck_go_run 2 (X1 := (44, [some (.inr (5, 3, 4)), some (.inl k), some (.inl (σ 15 ((σ 5 11) - 1))), some (.inl a), some (.inl b), some (.inl (v + 1))], [], ck_up (ck_up (ck_up σ 5 11 (σ 5 11 - 1)) 10 k (σ 15 (σ 5 11 - 1))) 12 (σ 15 (σ 5 11 - 1)) k)) (ps := []) rfl trivial ?_
        exact kk (v + 1, a, b) _ ⟨rfl, ⟨by omega, by omega⟩, ha, hb, fun m m0 m1 => (hA m m0 m1).trans (co_cn_n v0 (by omega)), fun m m0 m1 => (hB m m0 m1).trans (co_ca_n v0 (by omega))⟩ (by show (k - (v + 1)).toNat < (k - v).toNat; omega)
      · refine ck_go_run 6 (X1 := (if 8 < σ 6 v then 124 else 110, [some (.inr (5, 3, 4)), some (.inl k), some (.inl (σ 15 ((σ 5 11) - 1))), some (.inl a), some (.inl b), some (.inl v)], [], ck_up (ck_up (ck_up σ 5 11 (σ 5 11 - 1)) 10 k (σ 15 (σ 5 11 - 1))) 12 (σ 15 (σ 5 11 - 1)) k)) (ps := [0 ≤ v ∧ v < ((64 : Nat) : Int), ck_rg (σ 6 v), ck_rg 8]) rfl ⟨⟨by omega, by omega⟩, (ck_rgo (by omega) (by omega)), (ck_rgo (by omega) (by omega)), trivial⟩ ?_
        refine ck_go_ite (fun h4 => ?_) (fun h4 => ?_)
        · refine ck_go_run 2 (X1 := (44, [some (.inr (5, 3, 4)), some (.inl k), some (.inl (σ 15 ((σ 5 11) - 1))), some (.inl a), some (.inl b), some (.inl (v + 1))], [], ck_up (ck_up (ck_up σ 5 11 (σ 5 11 - 1)) 10 k (σ 15 (σ 5 11 - 1))) 12 (σ 15 (σ 5 11 - 1)) k)) (ps := []) rfl trivial ?_
          exact kk (v + 1, a, b) _ ⟨rfl, ⟨by omega, by omega⟩, ha, hb, fun m m0 m1 => (hA m m0 m1).trans (co_cn_n v0 (by omega)), fun m m0 m1 => (hB m m0 m1).trans (co_ca_n v0 (by omega))⟩ (by show (k - (v + 1)).toNat < (k - v).toNat; omega)
        · refine ck_go_run 11 (X1 := (44, [some (.inr (5, 3, 4)), some (.inl k), some (.inl (σ 15 ((σ 5 11) - 1))), some (.inl a), some (.inl (ck_or b (ck_shl 1 (σ 7 v)))), some (.inl (v + 1))], [], ck_up (ck_up (ck_up σ 5 11 (σ 5 11 - 1)) 10 k (σ 15 (σ 5 11 - 1))) 12 (σ 15 (σ 5 11 - 1)) k)) (ps := [0 ≤ v ∧ v < ((64 : Nat) : Int)]) rfl ⟨⟨by omega, by omega⟩, trivial⟩ ?_
          exact kk (v + 1, a, ck_or b (ck_shl 1 (σ 7 v))) _ ⟨rfl, ⟨by omega, by omega⟩, ha, (co_ors hb ⟨by omega, by omega⟩).1, fun m m0 m1 => (hA m m0 m1).trans (co_cn_n v0 (by omega)), fun m m0 m1 => ((co_ors hb ⟨by omega, by omega⟩).2 m m0 m1).trans ((and_congr_right (fun _ => hB m m0 m1)).trans (co_ca_y v0 (by omega)))⟩ (by show (k - (v + 1)).toNat < (k - v).toNat; omega)
    · refine ck_go_run 6 (X1 := (if 4 < σ 6 v then 86 else 71, [some (.inr (5, 3, 4)), some (.inl k), some (.inl (σ 15 ((σ 5 11) - 1))), some (.inl a), some (.inl b), some (.inl v)], [], ck_up (ck_up (ck_up σ 5 11 (σ 5 11 - 1)) 10 k (σ 15 (σ 5 11 - 1))) 12 (σ 15 (σ 5 11 - 1)) k)) (ps := [0 ≤ v ∧ v < ((64 : Nat) : Int), ck_rg (σ 6 v), ck_rg 4]) rfl ⟨⟨by omega, by omega⟩, (ck_rgo (by omega) (by omega)), (ck_rgo (by omega) (by omega)), trivial⟩ ?_
      refine ck_go_ite (fun h5 => ?_) (fun h5 => ?_)
      · refine ck_go_run 6 (X1 := (if σ 6 v < 6 then 124 else 98, [some (.inr (5, 3, 4)), some (.inl k), some (.inl (σ 15 ((σ 5 11) - 1))), some (.inl a), some (.inl b), some (.inl v)], [], ck_up (ck_up (ck_up σ 5 11 (σ 5 11 - 1)) 10 k (σ 15 (σ 5 11 - 1))) 12 (σ 15 (σ 5 11 - 1)) k)) (ps := [0 ≤ v ∧ v < ((64 : Nat) : Int), ck_rg (σ 6 v), ck_rg 6]) rfl ⟨⟨by omega, by omega⟩, (ck_rgo (by omega) (by omega)), (ck_rgo (by omega) (by omega)), trivial⟩ ?_
        refine ck_go_ite (fun h6 => ?_) (fun h6 => ?_)
        · refine ck_go_run 2 (X1 := (44, [some (.inr (5, 3, 4)), some (.inl k), some (.inl (σ 15 ((σ 5 11) - 1))), some (.inl a), some (.inl b), some (.inl (v + 1))], [], ck_up (ck_up (ck_up σ 5 11 (σ 5 11 - 1)) 10 k (σ 15 (σ 5 11 - 1))) 12 (σ 15 (σ 5 11 - 1)) k)) (ps := []) rfl trivial ?_
          exact kk (v + 1, a, b) _ ⟨rfl, ⟨by omega, by omega⟩, ha, hb, fun m m0 m1 => (hA m m0 m1).trans (co_cn_n v0 (by omega)), fun m m0 m1 => (hB m m0 m1).trans (co_ca_n v0 (by omega))⟩ (by show (k - (v + 1)).toNat < (k - v).toNat; omega)
        · refine ck_go_run 6 (X1 := (if 8 < σ 6 v then 124 else 110, [some (.inr (5, 3, 4)), some (.inl k), some (.inl (σ 15 ((σ 5 11) - 1))), some (.inl a), some (.inl b), some (.inl v)], [], ck_up (ck_up (ck_up σ 5 11 (σ 5 11 - 1)) 10 k (σ 15 (σ 5 11 - 1))) 12 (σ 15 (σ 5 11 - 1)) k)) (ps := [0 ≤ v ∧ v < ((64 : Nat) : Int), ck_rg (σ 6 v), ck_rg 8]) rfl ⟨⟨by omega, by omega⟩, (ck_rgo (by omega) (by omega)), (ck_rgo (by omega) (by omega)), trivial⟩ ?_
          refine ck_go_ite (fun h7 => ?_) (fun h7 => ?_)
          · refine ck_go_run 2 (X1 := (44, [some (.inr (5, 3, 4)), some (.inl k), some (.inl (σ 15 ((σ 5 11) - 1))), some (.inl a), some (.inl b), some (.inl (v + 1))], [], ck_up (ck_up (ck_up σ 5 11 (σ 5 11 - 1)) 10 k (σ 15 (σ 5 11 - 1))) 12 (σ 15 (σ 5 11 - 1)) k)) (ps := []) rfl trivial ?_
            exact kk (v + 1, a, b) _ ⟨rfl, ⟨by omega, by omega⟩, ha, hb, fun m m0 m1 => (hA m m0 m1).trans (co_cn_n v0 (by omega)), fun m m0 m1 => (hB m m0 m1).trans (co_ca_n v0 (by omega))⟩ (by show (k - (v + 1)).toNat < (k - v).toNat; omega)
          · refine ck_go_run 11 (X1 := (44, [some (.inr (5, 3, 4)), some (.inl k), some (.inl (σ 15 ((σ 5 11) - 1))), some (.inl a), some (.inl (ck_or b (ck_shl 1 (σ 7 v)))), some (.inl (v + 1))], [], ck_up (ck_up (ck_up σ 5 11 (σ 5 11 - 1)) 10 k (σ 15 (σ 5 11 - 1))) 12 (σ 15 (σ 5 11 - 1)) k)) (ps := [0 ≤ v ∧ v < ((64 : Nat) : Int)]) rfl ⟨⟨by omega, by omega⟩, trivial⟩ ?_
            exact kk (v + 1, a, ck_or b (ck_shl 1 (σ 7 v))) _ ⟨rfl, ⟨by omega, by omega⟩, ha, (co_ors hb ⟨by omega, by omega⟩).1, fun m m0 m1 => (hA m m0 m1).trans (co_cn_n v0 (by omega)), fun m m0 m1 => ((co_ors hb ⟨by omega, by omega⟩).2 m m0 m1).trans ((and_congr_right (fun _ => hB m m0 m1)).trans (co_ca_y v0 (by omega)))⟩ (by show (k - (v + 1)).toNat < (k - v).toNat; omega)
      · refine ck_go_run 12 (X1 := (44, [some (.inr (5, 3, 4)), some (.inl k), some (.inl (σ 15 ((σ 5 11) - 1))), some (.inl (ck_or a (ck_shl 1 (σ 7 v)))), some (.inl b), some (.inl (v + 1))], [], ck_up (ck_up (ck_up σ 5 11 (σ 5 11 - 1)) 10 k (σ 15 (σ 5 11 - 1))) 12 (σ 15 (σ 5 11 - 1)) k)) (ps := [0 ≤ v ∧ v < ((64 : Nat) : Int)]) rfl ⟨⟨by omega, by omega⟩, trivial⟩ ?_
        exact kk (v + 1, ck_or a (ck_shl 1 (σ 7 v)), b) _ ⟨rfl, ⟨by omega, by omega⟩, (co_ors ha ⟨by omega, by omega⟩).1, hb, fun m m0 m1 => ((co_ors ha ⟨by omega, by omega⟩).2 m m0 m1).trans ((and_congr_right (fun _ => hA m m0 m1)).trans (co_cn_y v0 (by omega))), fun m m0 m1 => (hB m m0 m1).trans (co_ca_n v0 (by omega))⟩ (by show (k - (v + 1)).toNat < (k - v).toNat; omega)
  · refine ck_go_run 10 (X1 := (145, [some (.inr (5, 3, 4)), some (.inl k), some (.inl (σ 15 ((σ 5 11) - 1))), some (.inl a), some (.inl b), some (.inl v)], [], ck_up (ck_up (ck_up (ck_up (ck_up σ 5 11 (σ 5 11 - 1)) 10 k (σ 15 (σ 5 11 - 1))) 12 (σ 15 (σ 5 11 - 1)) k) 13 (σ 15 ((σ 5 11) - 1)) a) 14 (σ 15 ((σ 5 11) - 1)) b)) (ps := [0 ≤ σ 15 ((σ 5 11) - 1) ∧ σ 15 ((σ 5 11) - 1) < ((64 : Nat) : Int), 0 ≤ σ 15 ((σ 5 11) - 1) ∧ σ 15 ((σ 5 11) - 1) < ((64 : Nat) : Int)]) rfl ⟨⟨by omega, by omega⟩, ⟨by omega, by omega⟩, trivial⟩ ?_
    have ev : v = k := by omega
    rw [ev] at hA hB
    exact ck_eV ⟨rfl, a, b, rfl, hA, hB⟩ rfl rfl rfl
theorem cx_appendP_full {t x y z : Int} (ht : ck_rg t) {σ : ck_M} (hn : 0 ≤ σ 5 10 ∧ σ 5 10 ≤ 64) (hd : 0 ≤ σ 5 11 ∧ σ 5 11 ≤ 8) (hf : σ 5 10 = 64 ∨ ((t = 9 ∨ t = 12) ∧ σ 5 11 = 8)) : ck_cal 2 cm_Pr_append [.inr (5, 3, 4), .inl t, .inl x, .inl y, .inl z] σ (fun q σ' => q = some (-1) ∧ σ' = σ) := by
  refine ck_cal_of ?_
  have rt := id ht
  unfold ck_rg at rt
  refine ck_go_run 3 (X1 := (if t = 9 then 12 else 6, [some (.inr (5, 3, 4)), some (.inl t), some (.inl x), some (.inl y), some (.inl z), none, none], [], σ)) (ps := [ck_rg t, ck_rg 9]) rfl ⟨(ck_rgo (by omega) (by omega)), (ck_rgo (by omega) (by omega)), trivial⟩ ?_
  refine ck_go_ite (fun h1 => ?_) (fun h1 => ?_)
  · refine ck_go_run 7 (X1 := (if σ 5 10 = 64 then 42 else 28, [some (.inr (5, 3, 4)), some (.inl t), some (.inl x), some (.inl y), some (.inl z), some (.inl 1), none], [], σ)) (ps := [ck_rg (σ 5 10), ck_rg 64]) rfl ⟨(ck_rgo (by omega) (by omega)), (ck_rgo (by omega) (by omega)), trivial⟩ ?_
    refine ck_go_ite (fun h2 => ?_) (fun h2 => ?_)
    · refine ck_go_run 1 (X1 := (43, [some (.inr (5, 3, 4)), some (.inl t), some (.inl x), some (.inl y), some (.inl z), some (.inl 1), none], [.inl ((-1))], σ)) (ps := []) rfl trivial ?_
      exact ck_eI ⟨rfl, rfl⟩ rfl rfl rfl
    · refine ck_go_run 2 (X1 := (if 1 = 0 then 44 else 33, [some (.inr (5, 3, 4)), some (.inl t), some (.inl x), some (.inl y), some (.inl z), some (.inl 1), none], [], σ)) (ps := [ck_rg 1]) rfl ⟨(ck_rgo (by omega) (by omega)), trivial⟩ ?_
      refine ck_go_f (by decide) ?_
      refine ck_go_run 4 (X1 := (if σ 5 11 = 8 then 42 else 44, [some (.inr (5, 3, 4)), some (.inl t), some (.inl x), some (.inl y), some (.inl z), some (.inl 1), none], [], σ)) (ps := [ck_rg (σ 5 11), ck_rg 8]) rfl ⟨(ck_rgo (by omega) (by omega)), (ck_rgo (by omega) (by omega)), trivial⟩ ?_
      refine ck_go_ite (fun h3 => ?_) (fun h3 => ?_)
      · refine ck_go_run 1 (X1 := (43, [some (.inr (5, 3, 4)), some (.inl t), some (.inl x), some (.inl y), some (.inl z), some (.inl 1), none], [.inl ((-1))], σ)) (ps := []) rfl trivial ?_
        exact ck_eI ⟨rfl, rfl⟩ rfl rfl rfl
      · exfalso
        omega
  · refine ck_go_run 3 (X1 := (if t = 12 then 12 else 16, [some (.inr (5, 3, 4)), some (.inl t), some (.inl x), some (.inl y), some (.inl z), none, none], [], σ)) (ps := [ck_rg t, ck_rg 12]) rfl ⟨(ck_rgo (by omega) (by omega)), (ck_rgo (by omega) (by omega)), trivial⟩ ?_
    refine ck_go_ite (fun h4 => ?_) (fun h4 => ?_)
    · refine ck_go_run 7 (X1 := (if σ 5 10 = 64 then 42 else 28, [some (.inr (5, 3, 4)), some (.inl t), some (.inl x), some (.inl y), some (.inl z), some (.inl 1), none], [], σ)) (ps := [ck_rg (σ 5 10), ck_rg 64]) rfl ⟨(ck_rgo (by omega) (by omega)), (ck_rgo (by omega) (by omega)), trivial⟩ ?_
      refine ck_go_ite (fun h5 => ?_) (fun h5 => ?_)
      · refine ck_go_run 1 (X1 := (43, [some (.inr (5, 3, 4)), some (.inl t), some (.inl x), some (.inl y), some (.inl z), some (.inl 1), none], [.inl ((-1))], σ)) (ps := []) rfl trivial ?_
        exact ck_eI ⟨rfl, rfl⟩ rfl rfl rfl
      · refine ck_go_run 2 (X1 := (if 1 = 0 then 44 else 33, [some (.inr (5, 3, 4)), some (.inl t), some (.inl x), some (.inl y), some (.inl z), some (.inl 1), none], [], σ)) (ps := [ck_rg 1]) rfl ⟨(ck_rgo (by omega) (by omega)), trivial⟩ ?_
        refine ck_go_f (by decide) ?_
        refine ck_go_run 4 (X1 := (if σ 5 11 = 8 then 42 else 44, [some (.inr (5, 3, 4)), some (.inl t), some (.inl x), some (.inl y), some (.inl z), some (.inl 1), none], [], σ)) (ps := [ck_rg (σ 5 11), ck_rg 8]) rfl ⟨(ck_rgo (by omega) (by omega)), (ck_rgo (by omega) (by omega)), trivial⟩ ?_
        refine ck_go_ite (fun h6 => ?_) (fun h6 => ?_)
        · refine ck_go_run 1 (X1 := (43, [some (.inr (5, 3, 4)), some (.inl t), some (.inl x), some (.inl y), some (.inl z), some (.inl 1), none], [.inl ((-1))], σ)) (ps := []) rfl trivial ?_
          exact ck_eI ⟨rfl, rfl⟩ rfl rfl rfl
        · exfalso
          omega
    · refine ck_go_run 6 (X1 := (if σ 5 10 = 64 then 42 else 28, [some (.inr (5, 3, 4)), some (.inl t), some (.inl x), some (.inl y), some (.inl z), some (.inl 0), none], [], σ)) (ps := [ck_rg (σ 5 10), ck_rg 64]) rfl ⟨(ck_rgo (by omega) (by omega)), (ck_rgo (by omega) (by omega)), trivial⟩ ?_
      refine ck_go_ite (fun h7 => ?_) (fun h7 => ?_)
      · refine ck_go_run 1 (X1 := (43, [some (.inr (5, 3, 4)), some (.inl t), some (.inl x), some (.inl y), some (.inl z), some (.inl 0), none], [.inl ((-1))], σ)) (ps := []) rfl trivial ?_
        exact ck_eI ⟨rfl, rfl⟩ rfl rfl rfl
      · refine ck_go_run 2 (X1 := (if 0 = 0 then 44 else 33, [some (.inr (5, 3, 4)), some (.inl t), some (.inl x), some (.inl y), some (.inl z), some (.inl 0), none], [], σ)) (ps := [ck_rg 0]) rfl ⟨(ck_rgo (by omega) (by omega)), trivial⟩ ?_
        refine ck_go_t (by decide) ?_
        exfalso
        omega
theorem cx_appendP_plain {t x y z : Int} (ht : ck_rg t) {σ : ck_M} (hn : 0 ≤ σ 5 10 ∧ σ 5 10 < 64) (hk : t ≠ 9 ∧ t ≠ 10 ∧ t ≠ 11 ∧ t ≠ 12) : ck_cal 2 cm_Pr_append [.inr (5, 3, 4), .inl t, .inl x, .inl y, .inl z] σ (fun q σ' => q = some (σ 5 10 + 1) ∧ σ' = ck_up (ck_up (ck_up (ck_up (ck_up (ck_up σ 6 (σ 5 10) t) 7 (σ 5 10) x) 8 (σ 5 10) y) 9 (σ 5 10) z) 11 (σ 5 10) (-1)) 5 10 (σ 5 10 + 1)) := by
  refine ck_cal_of ?_
  have rt := id ht
  unfold ck_rg at rt
  refine ck_go_run 3 (X1 := (if t = 9 then 12 else 6, [some (.inr (5, 3, 4)), some (.inl t), some (.inl x), some (.inl y), some (.inl z), none, none], [], σ)) (ps := [ck_rg t, ck_rg 9]) rfl ⟨(ck_rgo (by omega) (by omega)), (ck_rgo (by omega) (by omega)), trivial⟩ ?_
  refine ck_go_f (by omega) ?_
  refine ck_go_run 3 (X1 := (if t = 12 then 12 else 16, [some (.inr (5, 3, 4)), some (.inl t), some (.inl x), some (.inl y), some (.inl z), none, none], [], σ)) (ps := [ck_rg t, ck_rg 12]) rfl ⟨(ck_rgo (by omega) (by omega)), (ck_rgo (by omega) (by omega)), trivial⟩ ?_
  refine ck_go_f (by omega) ?_
  refine ck_go_run 6 (X1 := (if σ 5 10 = 64 then 42 else 28, [some (.inr (5, 3, 4)), some (.inl t), some (.inl x), some (.inl y), some (.inl z), some (.inl 0), none], [], σ)) (ps := [ck_rg (σ 5 10), ck_rg 64]) rfl ⟨(ck_rgo (by omega) (by omega)), (ck_rgo (by omega) (by omega)), trivial⟩ ?_
  refine ck_go_f (by omega) ?_
  refine ck_go_run 2 (X1 := (if 0 = 0 then 44 else 33, [some (.inr (5, 3, 4)), some (.inl t), some (.inl x), some (.inl y), some (.inl z), some (.inl 0), none], [], σ)) (ps := [ck_rg 0]) rfl ⟨(ck_rgo (by omega) (by omega)), trivial⟩ ?_
  refine ck_go_t (by decide) ?_
  refine ck_go_run 30 (X1 := (if 0 = 0 then 120 else 96, [some (.inr (5, 3, 4)), some (.inl t), some (.inl x), some (.inl y), some (.inl z), some (.inl 0), some (.inl (σ 5 10))], [], ck_up (ck_up (ck_up (ck_up (ck_up σ 6 (σ 5 10) t) 7 (σ 5 10) x) 8 (σ 5 10) y) 9 (σ 5 10) z) 11 (σ 5 10) ((-1)))) (ps := [0 ≤ σ 5 10 ∧ σ 5 10 < ((64 : Nat) : Int), 0 ≤ σ 5 10 ∧ σ 5 10 < ((64 : Nat) : Int), 0 ≤ σ 5 10 ∧ σ 5 10 < ((64 : Nat) : Int), 0 ≤ σ 5 10 ∧ σ 5 10 < ((64 : Nat) : Int), 0 ≤ σ 5 10 ∧ σ 5 10 < ((64 : Nat) : Int), ck_rg 0]) rfl ⟨⟨by omega, by omega⟩, ⟨by omega, by omega⟩, ⟨by omega, by omega⟩, ⟨by omega, by omega⟩, ⟨by omega, by omega⟩, (ck_rgo (by omega) (by omega)), trivial⟩ ?_
  refine ck_go_t (by decide) ?_
  refine ck_go_run 3 (X1 := (if t = 10 then 126 else 161, [some (.inr (5, 3, 4)), some (.inl t), some (.inl x), some (.inl y), some (.inl z), some (.inl 0), some (.inl (σ 5 10))], [], ck_up (ck_up (ck_up (ck_up (ck_up σ 6 (σ 5 10) t) 7 (σ 5 10) x) 8 (σ 5 10) y) 9 (σ 5 10) z) 11 (σ 5 10) ((-1)))) (ps := [ck_rg t, ck_rg 10]) rfl ⟨(ck_rgo (by omega) (by omega)), (ck_rgo (by omega) (by omega)), trivial⟩ ?_
  refine ck_go_f (by omega) ?_
  refine ck_go_run 3 (X1 := (if t = 11 then 167 else 173, [some (.inr (5, 3, 4)), some (.inl t), some (.inl x), some (.inl y), some (.inl z), some (.inl 0), some (.inl (σ 5 10))], [], ck_up (ck_up (ck_up (ck_up (ck_up σ 6 (σ 5 10) t) 7 (σ 5 10) x) 8 (σ 5 10) y) 9 (σ 5 10) z) 11 (σ 5 10) ((-1)))) (ps := [ck_rg t, ck_rg 11]) rfl ⟨(ck_rgo (by omega) (by omega)), (ck_rgo (by omega) (by omega)), trivial⟩ ?_
  refine ck_go_f (by omega) ?_
  refine ck_go_run 8 (X1 := (187, [some (.inr (5, 3, 4)), some (.inl t), some (.inl x), some (.inl y), some (.inl z), some (.inl 0), some (.inl (σ 5 10))], [.inl ((σ 5 10) + 1)], ck_up (ck_up (ck_up (ck_up (ck_up (ck_up σ 6 (σ 5 10) t) 7 (σ 5 10) x) 8 (σ 5 10) y) 9 (σ 5 10) z) 11 (σ 5 10) ((-1))) 5 10 ((σ 5 10) + 1))) (ps := []) rfl trivial ?_
  exact ck_eI ⟨rfl, rfl⟩ rfl rfl rfl
theorem cx_appendP_open {t x y z : Int} (ht : ck_rg t) {σ : ck_M} (hn : 0 ≤ σ 5 10 ∧ σ 5 10 < 64) (hk : t = 9 ∨ t = 12) (hd : 0 ≤ σ 5 11 ∧ σ 5 11 < 8) : ck_cal 2 cm_Pr_append [.inr (5, 3, 4), .inl t, .inl x, .inl y, .inl z] σ (fun q σ' => q = some (σ 5 10 + 1) ∧ σ' = ck_up (ck_up (ck_up (ck_up (ck_up (ck_up (ck_up (ck_up σ 6 (σ 5 10) t) 7 (σ 5 10) x) 8 (σ 5 10) y) 9 (σ 5 10) z) 11 (σ 5 10) (-1)) 15 (σ 5 11) (σ 5 10)) 5 11 (σ 5 11 + 1)) 5 10 (σ 5 10 + 1)) := by
  refine ck_cal_of ?_
  have rt := id ht
  unfold ck_rg at rt
  refine ck_go_run 3 (X1 := (if t = 9 then 12 else 6, [some (.inr (5, 3, 4)), some (.inl t), some (.inl x), some (.inl y), some (.inl z), none, none], [], σ)) (ps := [ck_rg t, ck_rg 9]) rfl ⟨(ck_rgo (by omega) (by omega)), (ck_rgo (by omega) (by omega)), trivial⟩ ?_
  refine ck_go_ite (fun h1 => ?_) (fun h1 => ?_)
  · refine ck_go_run 7 (X1 := (if σ 5 10 = 64 then 42 else 28, [some (.inr (5, 3, 4)), some (.inl t), some (.inl x), some (.inl y), some (.inl z), some (.inl 1), none], [], σ)) (ps := [ck_rg (σ 5 10), ck_rg 64]) rfl ⟨(ck_rgo (by omega) (by omega)), (ck_rgo (by omega) (by omega)), trivial⟩ ?_
    refine ck_go_f (by omega) ?_
    refine ck_go_run 2 (X1 := (if 1 = 0 then 44 else 33, [some (.inr (5, 3, 4)), some (.inl t), some (.inl x), some (.inl y), some (.inl z), some (.inl 1), none], [], σ)) (ps := [ck_rg 1]) rfl ⟨(ck_rgo (by omega) (by omega)), trivial⟩ ?_
    refine ck_go_f (by decide) ?_
    refine ck_go_run 4 (X1 := (if σ 5 11 = 8 then 42 else 44, [some (.inr (5, 3, 4)), some (.inl t), some (.inl x), some (.inl y), some (.inl z), some (.inl 1), none], [], σ)) (ps := [ck_rg (σ 5 11), ck_rg 8]) rfl ⟨(ck_rgo (by omega) (by omega)), (ck_rgo (by omega) (by omega)), trivial⟩ ?_
    refine ck_go_f (by omega) ?_
    refine ck_go_run 30 (X1 := (if 1 = 0 then 120 else 96, [some (.inr (5, 3, 4)), some (.inl t), some (.inl x), some (.inl y), some (.inl z), some (.inl 1), some (.inl (σ 5 10))], [], ck_up (ck_up (ck_up (ck_up (ck_up σ 6 (σ 5 10) t) 7 (σ 5 10) x) 8 (σ 5 10) y) 9 (σ 5 10) z) 11 (σ 5 10) ((-1)))) (ps := [0 ≤ σ 5 10 ∧ σ 5 10 < ((64 : Nat) : Int), 0 ≤ σ 5 10 ∧ σ 5 10 < ((64 : Nat) : Int), 0 ≤ σ 5 10 ∧ σ 5 10 < ((64 : Nat) : Int), 0 ≤ σ 5 10 ∧ σ 5 10 < ((64 : Nat) : Int), 0 ≤ σ 5 10 ∧ σ 5 10 < ((64 : Nat) : Int), ck_rg 1]) rfl ⟨⟨by omega, by omega⟩, ⟨by omega, by omega⟩, ⟨by omega, by omega⟩, ⟨by omega, by omega⟩, ⟨by omega, by omega⟩, (ck_rgo (by omega) (by omega)), trivial⟩ ?_
    refine ck_go_f (by decide) ?_
    refine ck_go_run 21 (X1 := (187, [some (.inr (5, 3, 4)), some (.inl t), some (.inl x), some (.inl y), some (.inl z), some (.inl 1), some (.inl (σ 5 10))], [.inl ((σ 5 10) + 1)], ck_up (ck_up (ck_up (ck_up (ck_up (ck_up (ck_up (ck_up σ 6 (σ 5 10) t) 7 (σ 5 10) x) 8 (σ 5 10) y) 9 (σ 5 10) z) 11 (σ 5 10) ((-1))) 15 (σ 5 11) (σ 5 10)) 5 11 ((σ 5 11) + 1)) 5 10 ((σ 5 10) + 1))) (ps := [0 ≤ σ 5 11 ∧ σ 5 11 < ((8 : Nat) : Int)]) rfl ⟨⟨by omega, by omega⟩, trivial⟩ ?_
    exact ck_eI ⟨rfl, rfl⟩ rfl rfl rfl
  · refine ck_go_run 3 (X1 := (if t = 12 then 12 else 16, [some (.inr (5, 3, 4)), some (.inl t), some (.inl x), some (.inl y), some (.inl z), none, none], [], σ)) (ps := [ck_rg t, ck_rg 12]) rfl ⟨(ck_rgo (by omega) (by omega)), (ck_rgo (by omega) (by omega)), trivial⟩ ?_
    refine ck_go_t (by omega) ?_
    refine ck_go_run 7 (X1 := (if σ 5 10 = 64 then 42 else 28, [some (.inr (5, 3, 4)), some (.inl t), some (.inl x), some (.inl y), some (.inl z), some (.inl 1), none], [], σ)) (ps := [ck_rg (σ 5 10), ck_rg 64]) rfl ⟨(ck_rgo (by omega) (by omega)), (ck_rgo (by omega) (by omega)), trivial⟩ ?_
    refine ck_go_f (by omega) ?_
    refine ck_go_run 2 (X1 := (if 1 = 0 then 44 else 33, [some (.inr (5, 3, 4)), some (.inl t), some (.inl x), some (.inl y), some (.inl z), some (.inl 1), none], [], σ)) (ps := [ck_rg 1]) rfl ⟨(ck_rgo (by omega) (by omega)), trivial⟩ ?_
    refine ck_go_f (by decide) ?_
    refine ck_go_run 4 (X1 := (if σ 5 11 = 8 then 42 else 44, [some (.inr (5, 3, 4)), some (.inl t), some (.inl x), some (.inl y), some (.inl z), some (.inl 1), none], [], σ)) (ps := [ck_rg (σ 5 11), ck_rg 8]) rfl ⟨(ck_rgo (by omega) (by omega)), (ck_rgo (by omega) (by omega)), trivial⟩ ?_
    refine ck_go_f (by omega) ?_
    refine ck_go_run 30 (X1 := (if 1 = 0 then 120 else 96, [some (.inr (5, 3, 4)), some (.inl t), some (.inl x), some (.inl y), some (.inl z), some (.inl 1), some (.inl (σ 5 10))], [], ck_up (ck_up (ck_up (ck_up (ck_up σ 6 (σ 5 10) t) 7 (σ 5 10) x) 8 (σ 5 10) y) 9 (σ 5 10) z) 11 (σ 5 10) ((-1)))) (ps := [0 ≤ σ 5 10 ∧ σ 5 10 < ((64 : Nat) : Int), 0 ≤ σ 5 10 ∧ σ 5 10 < ((64 : Nat) : Int), 0 ≤ σ 5 10 ∧ σ 5 10 < ((64 : Nat) : Int), 0 ≤ σ 5 10 ∧ σ 5 10 < ((64 : Nat) : Int), 0 ≤ σ 5 10 ∧ σ 5 10 < ((64 : Nat) : Int), ck_rg 1]) rfl ⟨⟨by omega, by omega⟩, ⟨by omega, by omega⟩, ⟨by omega, by omega⟩, ⟨by omega, by omega⟩, ⟨by omega, by omega⟩, (ck_rgo (by omega) (by omega)), trivial⟩ ?_
    refine ck_go_f (by decide) ?_
    refine ck_go_run 21 (X1 := (187, [some (.inr (5, 3, 4)), some (.inl t), some (.inl x), some (.inl y), some (.inl z), some (.inl 1), some (.inl (σ 5 10))], [.inl ((σ 5 10) + 1)], ck_up (ck_up (ck_up (ck_up (ck_up (ck_up (ck_up (ck_up σ 6 (σ 5 10) t) 7 (σ 5 10) x) 8 (σ 5 10) y) 9 (σ 5 10) z) 11 (σ 5 10) ((-1))) 15 (σ 5 11) (σ 5 10)) 5 11 ((σ 5 11) + 1)) 5 10 ((σ 5 10) + 1))) (ps := [0 ≤ σ 5 11 ∧ σ 5 11 < ((8 : Nat) : Int)]) rfl ⟨⟨by omega, by omega⟩, trivial⟩ ?_
    exact ck_eI ⟨rfl, rfl⟩ rfl rfl rfl
theorem cx_appendP_else {t x y z : Int} (ht : ck_rg t) {σ : ck_M} (hn : 0 ≤ σ 5 10 ∧ σ 5 10 < 64) (hk : t = 10) (hd : 0 < σ 5 11 ∧ σ 5 11 ≤ 8) (hh : 0 ≤ σ 15 (σ 5 11 - 1) ∧ σ 15 (σ 5 11 - 1) < σ 5 10) : ck_cal 2 cm_Pr_append [.inr (5, 3, 4), .inl t, .inl x, .inl y, .inl z] σ (fun q σ' => q = some (σ 5 10 + 1) ∧ σ' = ck_up (ck_up (ck_up (ck_up (ck_up (ck_up (ck_up (ck_up σ 6 (σ 5 10) t) 7 (σ 5 10) x) 8 (σ 5 10) y) 9 (σ 5 10) z) 11 (σ 5 10) (-1)) 10 (σ 5 10) (σ 15 (σ 5 11 - 1))) 11 (σ 15 (σ 5 11 - 1)) (σ 5 10)) 5 10 (σ 5 10 + 1)) := by
  refine ck_cal_of ?_
  have rt := id ht
  unfold ck_rg at rt
  refine ck_go_run 3 (X1 := (if t = 9 then 12 else 6, [some (.inr (5, 3, 4)), some (.inl t), some (.inl x), some (.inl y), some (.inl z), none, none], [], σ)) (ps := [ck_rg t, ck_rg 9]) rfl ⟨(ck_rgo (by omega) (by omega)), (ck_rgo (by omega) (by omega)), trivial⟩ ?_
  refine ck_go_f (by omega) ?_
  refine ck_go_run 3 (X1 := (if t = 12 then 12 else 16, [some (.inr (5, 3, 4)), some (.inl t), some (.inl x), some (.inl y), some (.inl z), none, none], [], σ)) (ps := [ck_rg t, ck_rg 12]) rfl ⟨(ck_rgo (by omega) (by omega)), (ck_rgo (by omega) (by omega)), trivial⟩ ?_
  refine ck_go_f (by omega) ?_
  refine ck_go_run 6 (X1 := (if σ 5 10 = 64 then 42 else 28, [some (.inr (5, 3, 4)), some (.inl t), some (.inl x), some (.inl y), some (.inl z), some (.inl 0), none], [], σ)) (ps := [ck_rg (σ 5 10), ck_rg 64]) rfl ⟨(ck_rgo (by omega) (by omega)), (ck_rgo (by omega) (by omega)), trivial⟩ ?_
  refine ck_go_f (by omega) ?_
  refine ck_go_run 2 (X1 := (if 0 = 0 then 44 else 33, [some (.inr (5, 3, 4)), some (.inl t), some (.inl x), some (.inl y), some (.inl z), some (.inl 0), none], [], σ)) (ps := [ck_rg 0]) rfl ⟨(ck_rgo (by omega) (by omega)), trivial⟩ ?_
  refine ck_go_t (by decide) ?_
  refine ck_go_run 30 (X1 := (if 0 = 0 then 120 else 96, [some (.inr (5, 3, 4)), some (.inl t), some (.inl x), some (.inl y), some (.inl z), some (.inl 0), some (.inl (σ 5 10))], [], ck_up (ck_up (ck_up (ck_up (ck_up σ 6 (σ 5 10) t) 7 (σ 5 10) x) 8 (σ 5 10) y) 9 (σ 5 10) z) 11 (σ 5 10) ((-1)))) (ps := [0 ≤ σ 5 10 ∧ σ 5 10 < ((64 : Nat) : Int), 0 ≤ σ 5 10 ∧ σ 5 10 < ((64 : Nat) : Int), 0 ≤ σ 5 10 ∧ σ 5 10 < ((64 : Nat) : Int), 0 ≤ σ 5 10 ∧ σ 5 10 < ((64 : Nat) : Int), 0 ≤ σ 5 10 ∧ σ 5 10 < ((64 : Nat) : Int), ck_rg 0]) rfl ⟨⟨by omega, by omega⟩, ⟨by omega, by omega⟩, ⟨by omega, by omega⟩, ⟨by omega, by omega⟩, ⟨by omega, by omega⟩, (ck_rgo (by omega) (by omega)), trivial⟩ ?_
  refine ck_go_t (by decide) ?_
  refine ck_go_run 3 (X1 := (if t = 10 then 126 else 161, [some (.inr (5, 3, 4)), some (.inl t), some (.inl x), some (.inl y), some (.inl z), some (.inl 0), some (.inl (σ 5 10))], [], ck_up (ck_up (ck_up (ck_up (ck_up σ 6 (σ 5 10) t) 7 (σ 5 10) x) 8 (σ 5 10) y) 9 (σ 5 10) z) 11 (σ 5 10) ((-1)))) (ps := [ck_rg t, ck_rg 10]) rfl ⟨(ck_rgo (by omega) (by omega)), (ck_rgo (by omega) (by omega)), trivial⟩ ?_
  refine ck_go_t (by omega) ?_
  refine ck_go_run 11 (X1 := (144, [some (.inr (5, 3, 4)), some (.inl t), some (.inl x), some (.inl y), some (.inl z), some (.inl 0), some (.inl (σ 5 10))], [], ck_up (ck_up (ck_up (ck_up (ck_up (ck_up σ 6 (σ 5 10) t) 7 (σ 5 10) x) 8 (σ 5 10) y) 9 (σ 5 10) z) 11 (σ 5 10) ((-1))) 10 (σ 5 10) (σ 15 ((σ 5 11) - 1)))) (ps := [0 ≤ (σ 5 11) - 1 ∧ (σ 5 11) - 1 < ((8 : Nat) : Int), 0 ≤ σ 5 10 ∧ σ 5 10 < ((64 : Nat) : Int)]) rfl ⟨⟨by omega, by omega⟩, ⟨by omega, by omega⟩, trivial⟩ ?_
  have ew : (ck_up (ck_up (ck_up (ck_up (ck_up (ck_up σ 6 (σ 5 10) t) 7 (σ 5 10) x) 8 (σ 5 10) y) 9 (σ 5 10) z) 11 (σ 5 10) ((-1))) 10 (σ 5 10) (σ 15 ((σ 5 11) - 1))) 10 (σ 5 10) = σ 15 (σ 5 11 - 1) := if_pos ⟨rfl, rfl⟩
  refine ck_go_run 17 (X1 := (187, [some (.inr (5, 3, 4)), some (.inl t), some (.inl x), some (.inl y), some (.inl z), some (.inl 0), some (.inl (σ 5 10))], [.inl ((σ 5 10) + 1)], ck_up (ck_up (ck_up (ck_up (ck_up (ck_up (ck_up (ck_up σ 6 (σ 5 10) t) 7 (σ 5 10) x) 8 (σ 5 10) y) 9 (σ 5 10) z) 11 (σ 5 10) ((-1))) 10 (σ 5 10) (σ 15 ((σ 5 11) - 1))) 11 ((ck_up (ck_up (ck_up (ck_up (ck_up (ck_up σ 6 (σ 5 10) t) 7 (σ 5 10) x) 8 (σ 5 10) y) 9 (σ 5 10) z) 11 (σ 5 10) ((-1))) 10 (σ 5 10) (σ 15 ((σ 5 11) - 1))) 10 (σ 5 10)) (σ 5 10)) 5 10 ((σ 5 10) + 1))) (ps := [0 ≤ σ 5 10 ∧ σ 5 10 < ((64 : Nat) : Int), 0 ≤ (ck_up (ck_up (ck_up (ck_up (ck_up (ck_up σ 6 (σ 5 10) t) 7 (σ 5 10) x) 8 (σ 5 10) y) 9 (σ 5 10) z) 11 (σ 5 10) ((-1))) 10 (σ 5 10) (σ 15 ((σ 5 11) - 1))) 10 (σ 5 10) ∧ (ck_up (ck_up (ck_up (ck_up (ck_up (ck_up σ 6 (σ 5 10) t) 7 (σ 5 10) x) 8 (σ 5 10) y) 9 (σ 5 10) z) 11 (σ 5 10) ((-1))) 10 (σ 5 10) (σ 15 ((σ 5 11) - 1))) 10 (σ 5 10) < ((64 : Nat) : Int)]) rfl ⟨⟨by omega, by omega⟩, ⟨by omega, by omega⟩, trivial⟩ ?_
  refine ck_eI ⟨rfl, ?_⟩ rfl rfl rfl
  rw [ew]
theorem cx_appendP_end {t x y z : Int} (ht : ck_rg t) {σ : ck_M} (hn : 0 ≤ σ 5 10 ∧ σ 5 10 < 64) (hk : t = 11) (hd : 0 < σ 5 11 ∧ σ 5 11 ≤ 8) (hh : 0 ≤ σ 15 (σ 5 11 - 1) ∧ σ 15 (σ 5 11 - 1) < σ 5 10) (hS : ∀ j, σ 15 (σ 5 11 - 1) < j → j < σ 5 10 → ck_sOk (σ 6 j) (σ 7 j) (σ 8 j) (σ 9 j)) : ck_cal 2 cm_Pr_append [.inr (5, 3, 4), .inl t, .inl x, .inl y, .inl z] σ (fun q σ' => q = some (σ 5 10 + 1) ∧ ∃ a b, σ' = ck_up (ck_up (ck_up (ck_up (ck_up (ck_up (ck_up (ck_up (ck_up (ck_up (ck_up σ 6 (σ 5 10) t) 7 (σ 5 10) x) 8 (σ 5 10) y) 9 (σ 5 10) z) 11 (σ 5 10) (-1)) 5 11 (σ 5 11 - 1)) 10 (σ 5 10) (σ 15 (σ 5 11 - 1))) 12 (σ 15 (σ 5 11 - 1)) (σ 5 10)) 13 (σ 15 (σ 5 11 - 1)) a) 14 (σ 15 (σ 5 11 - 1)) b) 5 10 (σ 5 10 + 1) ∧ (∀ m, 0 ≤ m → m < 10 → (ck_and (ck_shr a m) 1 = 0 ↔ ¬ co_cn σ (σ 15 (σ 5 11 - 1)) (σ 5 10) m)) ∧ ∀ m, 0 ≤ m → m < 10 → (ck_and (ck_shr b m) 1 = 0 ↔ ¬ co_ca σ (σ 15 (σ 5 11 - 1)) (σ 5 10) m)) := by
  refine ck_cal_of ?_
  have rt := id ht
  unfold ck_rg at rt
  refine ck_go_run 3 (X1 := (if t = 9 then 12 else 6, [some (.inr (5, 3, 4)), some (.inl t), some (.inl x), some (.inl y), some (.inl z), none, none], [], σ)) (ps := [ck_rg t, ck_rg 9]) rfl ⟨(ck_rgo (by omega) (by omega)), (ck_rgo (by omega) (by omega)), trivial⟩ ?_
  refine ck_go_f (by omega) ?_
  refine ck_go_run 3 (X1 := (if t = 12 then 12 else 16, [some (.inr (5, 3, 4)), some (.inl t), some (.inl x), some (.inl y), some (.inl z), none, none], [], σ)) (ps := [ck_rg t, ck_rg 12]) rfl ⟨(ck_rgo (by omega) (by omega)), (ck_rgo (by omega) (by omega)), trivial⟩ ?_
  refine ck_go_f (by omega) ?_
  refine ck_go_run 6 (X1 := (if σ 5 10 = 64 then 42 else 28, [some (.inr (5, 3, 4)), some (.inl t), some (.inl x), some (.inl y), some (.inl z), some (.inl 0), none], [], σ)) (ps := [ck_rg (σ 5 10), ck_rg 64]) rfl ⟨(ck_rgo (by omega) (by omega)), (ck_rgo (by omega) (by omega)), trivial⟩ ?_
  refine ck_go_f (by omega) ?_
  refine ck_go_run 2 (X1 := (if 0 = 0 then 44 else 33, [some (.inr (5, 3, 4)), some (.inl t), some (.inl x), some (.inl y), some (.inl z), some (.inl 0), none], [], σ)) (ps := [ck_rg 0]) rfl ⟨(ck_rgo (by omega) (by omega)), trivial⟩ ?_
  refine ck_go_t (by decide) ?_
  refine ck_go_run 30 (X1 := (if 0 = 0 then 120 else 96, [some (.inr (5, 3, 4)), some (.inl t), some (.inl x), some (.inl y), some (.inl z), some (.inl 0), some (.inl (σ 5 10))], [], ck_up (ck_up (ck_up (ck_up (ck_up σ 6 (σ 5 10) t) 7 (σ 5 10) x) 8 (σ 5 10) y) 9 (σ 5 10) z) 11 (σ 5 10) ((-1)))) (ps := [0 ≤ σ 5 10 ∧ σ 5 10 < ((64 : Nat) : Int), 0 ≤ σ 5 10 ∧ σ 5 10 < ((64 : Nat) : Int), 0 ≤ σ 5 10 ∧ σ 5 10 < ((64 : Nat) : Int), 0 ≤ σ 5 10 ∧ σ 5 10 < ((64 : Nat) : Int), 0 ≤ σ 5 10 ∧ σ 5 10 < ((64 : Nat) : Int), ck_rg 0]) rfl ⟨⟨by omega, by omega⟩, ⟨by omega, by omega⟩, ⟨by omega, by omega⟩, ⟨by omega, by omega⟩, ⟨by omega, by omega⟩, (ck_rgo (by omega) (by omega)), trivial⟩ ?_
  refine ck_go_t (by decide) ?_
  refine ck_go_run 3 (X1 := (if t = 10 then 126 else 161, [some (.inr (5, 3, 4)), some (.inl t), some (.inl x), some (.inl y), some (.inl z), some (.inl 0), some (.inl (σ 5 10))], [], ck_up (ck_up (ck_up (ck_up (ck_up σ 6 (σ 5 10) t) 7 (σ 5 10) x) 8 (σ 5 10) y) 9 (σ 5 10) z) 11 (σ 5 10) ((-1)))) (ps := [ck_rg t, ck_rg 10]) rfl ⟨(ck_rgo (by omega) (by omega)), (ck_rgo (by omega) (by omega)), trivial⟩ ?_
  refine ck_go_f (by omega) ?_
  refine ck_go_run 3 (X1 := (if t = 11 then 167 else 173, [some (.inr (5, 3, 4)), some (.inl t), some (.inl x), some (.inl y), some (.inl z), some (.inl 0), some (.inl (σ 5 10))], [], ck_up (ck_up (ck_up (ck_up (ck_up σ 6 (σ 5 10) t) 7 (σ 5 10) x) 8 (σ 5 10) y) 9 (σ 5 10) z) 11 (σ 5 10) ((-1)))) (ps := [ck_rg t, ck_rg 11]) rfl ⟨(ck_rgo (by omega) (by omega)), (ck_rgo (by omega) (by omega)), trivial⟩ ?_
  refine ck_go_t (by omega) ?_
  have hsa : co_sa σ (ck_up (ck_up (ck_up (ck_up (ck_up σ 6 (σ 5 10) t) 7 (σ 5 10) x) 8 (σ 5 10) y) 9 (σ 5 10) z) 11 (σ 5 10) ((-1))) (σ 5 10) := fun b j z1 z2 z3 z4 => by
    simp only [ck_up]
    (repeat rw [if_neg (by omega)])
  refine ck_go_run 2 (X1 := (170, [some (.inr (5, 3, 4)), some (.inl t), some (.inl x), some (.inl y), some (.inl z), some (.inl 0), some (.inl (σ 5 10))], [.inl (σ 5 10), .inr (5, 3, 4)], ck_up (ck_up (ck_up (ck_up (ck_up σ 6 (σ 5 10) t) 7 (σ 5 10) x) 8 (σ 5 10) y) 9 (σ 5 10) z) 11 (σ 5 10) ((-1)))) (ps := []) rfl trivial ?_
  refine ck_go_cal (rest := []) (ck_cal_le (by decide) (cx_closeP (σ := ck_up (ck_up (ck_up (ck_up (ck_up σ 6 (σ 5 10) t) 7 (σ 5 10) x) 8 (σ 5 10) y) 9 (σ 5 10) z) 11 (σ 5 10) ((-1))) (k := σ 5 10) hd hn hh (fun j z1 z2 => by
      have e : ∀ b, ¬ b = 11 → (ck_up (ck_up (ck_up (ck_up (ck_up σ 6 (σ 5 10) t) 7 (σ 5 10) x) 8 (σ 5 10) y) 9 (σ 5 10) z) 11 (σ 5 10) ((-1))) b j = σ b j := fun b hb => by
        simp only [ck_up]
        (repeat rw [if_neg (by omega)])
      rw [e 6 (by decide), e 7 (by decide), e 8 (by decide), e 9 (by decide)]
      exact hS j z1 z2))) ⟨_, rfl, Or.inl ⟨_, rfl⟩, rfl, rfl, rfl, Nat.le_of_ble_eq_true rfl, fun _ => ⟨_, _, rfl⟩⟩ ?_
  rintro _ s1 ⟨rfl, a, b, e1, hA, hB⟩
  have hC : ∀ m, co_cn (ck_up (ck_up (ck_up (ck_up (ck_up σ 6 (σ 5 10) t) 7 (σ 5 10) x) 8 (σ 5 10) y) 9 (σ 5 10) z) 11 (σ 5 10) ((-1))) (σ 15 (σ 5 11 - 1)) (σ 5 10) m ↔ co_cn σ (σ 15 (σ 5 11 - 1)) (σ 5 10) m := fun m => co_cn_c (n := σ 5 10) hsa hh.1 (Int.le_refl _)
  have hC2 : ∀ m, co_ca (ck_up (ck_up (ck_up (ck_up (ck_up σ 6 (σ 5 10) t) 7 (σ 5 10) x) 8 (σ 5 10) y) 9 (σ 5 10) z) 11 (σ 5 10) ((-1))) (σ 15 (σ 5 11 - 1)) (σ 5 10) m ↔ co_ca σ (σ 15 (σ 5 11 - 1)) (σ 5 10) m := fun m => co_ca_c (n := σ 5 10) hsa hh.1 (Int.le_refl _)
  rw [e1]
  clear e1 s1
  refine ck_go_run 8 (X1 := (187, [some (.inr (5, 3, 4)), some (.inl t), some (.inl x), some (.inl y), some (.inl z), some (.inl 0), some (.inl (σ 5 10))], [.inl ((σ 5 10) + 1)], ck_up (ck_up (ck_up (ck_up (ck_up (ck_up (ck_up (ck_up (ck_up (ck_up (ck_up σ 6 (σ 5 10) t) 7 (σ 5 10) x) 8 (σ 5 10) y) 9 (σ 5 10) z) 11 (σ 5 10) (-1)) 5 11 (σ 5 11 - 1)) 10 (σ 5 10) (σ 15 (σ 5 11 - 1))) 12 (σ 15 (σ 5 11 - 1)) (σ 5 10)) 13 (σ 15 (σ 5 11 - 1)) a) 14 (σ 15 (σ 5 11 - 1)) b) 5 10 ((σ 5 10) + 1))) (ps := []) rfl trivial ?_
  exact ck_eI ⟨rfl, a, b, rfl, fun m m0 m1 => (hA m m0 m1).trans (not_congr (hC m)), fun m m0 m1 => (hB m m0 m1).trans (not_congr (hC2 m))⟩ rfl rfl rfl
theorem cx_begin {σ : ck_M} (hn : 0 ≤ σ 5 10 ∧ σ 5 10 ≤ 64) : ck_cal 1 cm_Ma_begin [.inr (1, 3, 3)] σ (fun q σ' => q = none ∧ (∀ b j, b ≠ 20 → b ≠ 21 → (b ≠ 1 ∨ j < 8) → σ' b j = σ b j) ∧ (σ' 1 8 = 1 ∧ σ' 1 9 = (if σ 5 10 = 0 then 1 else 0) ∧ σ' 1 10 = 0 ∧ σ' 1 11 = 0) ∧ (σ' 1 12 = 0 ∧ σ' 1 13 = 0 ∧ σ' 1 14 = 0 ∧ σ' 1 15 = 0) ∧ (∀ j, 0 ≤ j → j < 10 → σ' 20 j = 0) ∧ ∀ j, 0 ≤ j → j < 4 → σ' 21 j = -1) := by
  refine ck_cal_of ?_
  refine ck_go_run 21 (X1 := (35, [some (.inr (1, 3, 3)), none], [], ck_up (ck_up (ck_up (ck_up (ck_up (ck_up (ck_up σ 1 8 1) 1 10 0) 1 11 0) 1 12 0) 1 13 0) 1 14 0) 1 15 0)) (ps := [1 = 0 ∨ 1 = 1]) rfl ⟨Or.inr rfl, trivial⟩ ?_
  obtain ⟨t, ht⟩ : ∃ z, z = ck_up (ck_up (ck_up (ck_up (ck_up (ck_up (ck_up σ 1 8 1) 1 10 0) 1 11 0) 1 12 0) 1 13 0) 1 14 0) 1 15 0 := ⟨_, rfl⟩
  rw [← ht]
  refine ck_go_run 2 (X1 := (37, [some (.inr (1, 3, 3)), some (.inl 0)], [], t)) (ps := []) rfl trivial ?_
  refine ck_for 37 (fun v => [some (.inr (1, 3, 3)), some (.inl v)]) 10 (fun v z => (0 ≤ v ∧ v ≤ 10) ∧ ∀ b j, z b j = if b = 20 ∧ 0 ≤ j ∧ j < v then 0 else t b j) (fun v z hv hI kk => ?_) (fun v z hv hI => ?_) 0 _ ⟨⟨by omega, by omega⟩, fun b j => (if_neg (by omega)).symm⟩
  · obtain ⟨⟨v0, v1⟩, hc1⟩ := hI
    refine ck_go_run 3 (X1 := (if v < 10 then 43 else 56, [some (.inr (1, 3, 3)), some (.inl v)], [], z)) (ps := [ck_rg v, ck_rg 10]) rfl ⟨(ck_rgo (by omega) (by omega)), (ck_rgo (by omega) (by omega)), trivial⟩ ?_
    refine ck_go_t hv ?_
    refine ck_go_run 7 (X1 := (37, [some (.inr (1, 3, 3)), some (.inl (v + 1))], [], ck_up z 20 v 0)) (ps := [0 ≤ v ∧ v < ((10 : Nat) : Int)]) rfl ⟨⟨by omega, by omega⟩, trivial⟩ ?_
    exact kk _ ⟨⟨by omega, by omega⟩, fun b j => by
      simp only [ck_up, hc1]
      (repeat' split) <;> first | rfl | omega⟩
  · obtain ⟨⟨v0, v1⟩, hc1⟩ := hI
    refine ck_go_run 3 (X1 := (if v < 10 then 43 else 56, [some (.inr (1, 3, 3)), some (.inl v)], [], z)) (ps := [ck_rg v, ck_rg 10]) rfl ⟨(ck_rgo (by omega) (by omega)), (ck_rgo (by omega) (by omega)), trivial⟩ ?_
    refine ck_go_f (by omega) ?_
    refine ck_go_run 2 (X1 := (58, [some (.inr (1, 3, 3)), some (.inl 0)], [], z)) (ps := []) rfl trivial ?_
    refine ck_for 58 (fun w => [some (.inr (1, 3, 3)), some (.inl w)]) 4 (fun w y => (0 ≤ w ∧ w ≤ 4) ∧ ∀ b j, y b j = if b = 21 ∧ 0 ≤ j ∧ j < w then -1 else z b j) (fun w y hv hI kk => ?_) (fun w y hv hI => ?_) 0 _ ⟨⟨by omega, by omega⟩, fun b j => (if_neg (by omega)).symm⟩
    · obtain ⟨⟨w0, w1⟩, hc2⟩ := hI
      refine ck_go_run 3 (X1 := (if w < 4 then 63 else 76, [some (.inr (1, 3, 3)), some (.inl w)], [], y)) (ps := [ck_rg w, ck_rg 4]) rfl ⟨(ck_rgo (by omega) (by omega)), (ck_rgo (by omega) (by omega)), trivial⟩ ?_
      refine ck_go_t hv ?_
      refine ck_go_run 7 (X1 := (58, [some (.inr (1, 3, 3)), some (.inl (w + 1))], [], ck_up y 21 w ((-1)))) (ps := [0 ≤ w ∧ w < ((4 : Nat) : Int)]) rfl ⟨⟨by omega, by omega⟩, trivial⟩ ?_
      exact kk _ ⟨⟨by omega, by omega⟩, fun b j => by
        simp only [ck_up, hc2]
        (repeat' split) <;> first | rfl | omega⟩
    · obtain ⟨⟨w0, w1⟩, hc2⟩ := hI
      refine ck_go_run 3 (X1 := (if w < 4 then 63 else 76, [some (.inr (1, 3, 3)), some (.inl w)], [], y)) (ps := [ck_rg w, ck_rg 4]) rfl ⟨(ck_rgo (by omega) (by omega)), (ck_rgo (by omega) (by omega)), trivial⟩ ?_
      refine ck_go_f (by omega) ?_
      have hy : ∀ b j, b ≠ 20 → b ≠ 21 → y b j = t b j := fun b j z1 z2 => by
        rw [hc2, if_neg (by omega), hc1, if_neg (by omega)]
      have hN : y 5 10 = σ 5 10 := by
        rw [hy 5 10 (by decide) (by decide), ht]
        rfl
      refine ck_go_run 5 (X1 := (if y 5 10 = 0 then 87 else 91, [some (.inr (1, 3, 3)), some (.inl w)], [.inr (1, 3, 3)], y)) (ps := [ck_rg (y 5 10)]) rfl ⟨(ck_rgo (by omega) (by omega)), trivial⟩ ?_
      refine ck_go_ite (fun h1 => ?_) (fun h1 => ?_)
      · refine ck_go_run 3 (X1 := (95, [some (.inr (1, 3, 3)), some (.inl w)], [], ck_up y 1 9 1)) (ps := []) rfl trivial ?_
        refine ck_eV ⟨rfl, fun b j z0 z1 z => ?_, ⟨?_, ?_, ?_, ?_⟩, ⟨?_, ?_, ?_, ?_⟩, fun j a b => ?_, fun j a b => ?_⟩ rfl rfl rfl
        · show ck_up y 1 9 1 b j = σ b j
          have e : ck_up y 1 9 1 b j = y b j := if_neg (by omega)
          rw [e, hy b j (by omega) (by omega), ht]
          simp only [ck_up]
          (repeat rw [if_neg (by omega)])
        · show y 1 8 = 1
          rw [hy _ _ (by decide) (by decide), ht]; rfl
        · show 1 = _
          rw [if_pos (by omega)]
        · show y 1 10 = 0
          rw [hy _ _ (by decide) (by decide), ht]; rfl
        · show y 1 11 = 0
          rw [hy _ _ (by decide) (by decide), ht]; rfl
        · show y 1 12 = 0
          rw [hy _ _ (by decide) (by decide), ht]; rfl
        · show y 1 13 = 0
          rw [hy _ _ (by decide) (by decide), ht]; rfl
        · show y 1 14 = 0
          rw [hy _ _ (by decide) (by decide), ht]; rfl
        · show y 1 15 = 0
          rw [hy _ _ (by decide) (by decide), ht]; rfl
        · show y 20 j = 0
          rw [hc2, if_neg (by omega), hc1, if_pos ⟨rfl, a, by omega⟩]
        · show y 21 j = -1
          rw [hc2, if_pos ⟨rfl, a, by omega⟩]
      · refine ck_go_run 2 (X1 := (95, [some (.inr (1, 3, 3)), some (.inl w)], [], ck_up y 1 9 0)) (ps := []) rfl trivial ?_
        refine ck_eV ⟨rfl, fun b j z0 z1 z => ?_, ⟨?_, ?_, ?_, ?_⟩, ⟨?_, ?_, ?_, ?_⟩, fun j a b => ?_, fun j a b => ?_⟩ rfl rfl rfl
        · show ck_up y 1 9 0 b j = σ b j
          have e : ck_up y 1 9 0 b j = y b j := if_neg (by omega)
          rw [e, hy b j (by omega) (by omega), ht]
          simp only [ck_up]
          (repeat rw [if_neg (by omega)])
        · show y 1 8 = 1
          rw [hy _ _ (by decide) (by decide), ht]; rfl
        · show 0 = _
          rw [if_neg (by omega)]
        · show y 1 10 = 0
          rw [hy _ _ (by decide) (by decide), ht]; rfl
        · show y 1 11 = 0
          rw [hy _ _ (by decide) (by decide), ht]; rfl
        · show y 1 12 = 0
          rw [hy _ _ (by decide) (by decide), ht]; rfl
        · show y 1 13 = 0
          rw [hy _ _ (by decide) (by decide), ht]; rfl
        · show y 1 14 = 0
          rw [hy _ _ (by decide) (by decide), ht]; rfl
        · show y 1 15 = 0
          rw [hy _ _ (by decide) (by decide), ht]; rfl
        · show y 20 j = 0
          rw [hc2, if_neg (by omega), hc1, if_pos ⟨rfl, a, by omega⟩]
        · show y 21 j = -1
          rw [hc2, if_pos ⟨rfl, a, by omega⟩]
theorem cx_outputBack {k : Int} (hk : ck_rg k) {σ : ck_M} (h : 0 ≤ σ 1 14 ∧ σ 1 14 ≤ 1000000000) : ck_cal 2 cm_Ma_outputBack [.inr (1, 3, 3), .inl k] σ (fun q σ' => q = some (if 0 ≤ k ∧ k < 16 ∧ k < σ 1 14 then σ 24 ((σ 1 14 - 1 - k) % 16) else 1000000000) ∧ σ' = σ) := by
  refine ck_cal_of ?_
  unfold ck_rg at hk
  refine ck_go_run 2 (X1 := (if k < 0 then 18 else 4, [some (.inr (1, 3, 3)), some (.inl k)], [], σ)) (ps := [ck_rg k]) rfl ⟨(ck_rgo (by omega) (by omega)), trivial⟩ ?_
  refine ck_go_ite (fun h1 => ?_) (fun h1 => ?_)
  · refine ck_go_run 1 (X1 := (20, [some (.inr (1, 3, 3)), some (.inl k)], [.inl 1000000000], σ)) (ps := []) rfl trivial ?_
    refine ck_eI ⟨?_, rfl⟩ rfl rfl rfl
    rw [if_neg (by omega)]
  · refine ck_go_run 3 (X1 := (if k < 16 then 10 else 18, [some (.inr (1, 3, 3)), some (.inl k)], [], σ)) (ps := [ck_rg k, ck_rg 16]) rfl ⟨(ck_rgo (by omega) (by omega)), (ck_rgo (by omega) (by omega)), trivial⟩ ?_
    refine ck_go_ite (fun h2 => ?_) (fun h2 => ?_)
    · refine ck_go_run 4 (X1 := (if k < σ 1 14 then 21 else 18, [some (.inr (1, 3, 3)), some (.inl k)], [], σ)) (ps := [ck_rg k, ck_rg (σ 1 14)]) rfl ⟨(ck_rgo (by omega) (by omega)), (ck_rgo (by omega) (by omega)), trivial⟩ ?_
      refine ck_go_ite (fun h3 => ?_) (fun h3 => ?_)
      · refine ck_go_run 9 (X1 := (35, [some (.inr (1, 3, 3)), some (.inl k)], [.inl 16, .inl (((σ 1 14) - 1) - k), .inr (24, 0, 16)], σ)) (ps := []) rfl trivial ?_
        refine ck_go_cal (rest := [.inr (24, 0, 16)]) (ck_cal_le (by decide) (cx_floorMod (x := ((σ 1 14) - 1) - k) (by omega) _)) ⟨_, rfl, Or.inr ⟨_, rfl⟩, rfl, rfl, rfl, Nat.le_of_ble_eq_true rfl, fun h => absurd h (by decide)⟩ ?_
        rintro _ s' ⟨rfl, e'⟩
        rw [e']
        clear e' s'
        refine ck_go_run 1 (X1 := (39, [some (.inr (1, 3, 3)), some (.inl k)], [.inl (σ 24 (((((σ 1 14) - 1) - k) % 16)))], σ)) (ps := [0 ≤ ((((σ 1 14) - 1) - k) % 16) ∧ ((((σ 1 14) - 1) - k) % 16) < ((16 : Nat) : Int)]) rfl ⟨⟨by omega, by omega⟩, trivial⟩ ?_
        refine ck_eI ⟨?_, rfl⟩ rfl rfl rfl
        rw [if_pos (by omega)]
      · refine ck_go_run 1 (X1 := (20, [some (.inr (1, 3, 3)), some (.inl k)], [.inl 1000000000], σ)) (ps := []) rfl trivial ?_
        refine ck_eI ⟨?_, rfl⟩ rfl rfl rfl
        rw [if_neg (by omega)]
    · refine ck_go_run 1 (X1 := (20, [some (.inr (1, 3, 3)), some (.inl k)], [.inl 1000000000], σ)) (ps := []) rfl trivial ?_
      refine ck_eI ⟨?_, rfl⟩ rfl rfl rfl
      rw [if_neg (by omega)]
theorem cx_tell0 (σ : ck_M) : ck_cal 1 cm_Ma_tell [.inr (1, 3, 3), .inl 0] σ (fun q σ' => q = some (σ 1 10) ∧ σ' = σ) := by
  refine ck_cal_of ?_
  refine ck_go_run 2 (X1 := (ck_sw 0 0 79 [44, 49, 54, 59, 64, 69, 74], [some (.inr (1, 3, 3)), some (.inl 0)], [], σ)) (ps := [ck_rg 0]) rfl ⟨(ck_rgo (by omega) (by omega)), trivial⟩ ?_
  refine ck_go_pc (q := 44) rfl ?_
  refine ck_go_run 2 (X1 := (48, [some (.inr (1, 3, 3)), some (.inl 0)], [.inl (σ 1 10)], σ)) (ps := []) rfl trivial ?_
  exact ck_eI ⟨rfl, rfl⟩ rfl rfl rfl
theorem cx_tell1 (σ : ck_M) : ck_cal 1 cm_Ma_tell [.inr (1, 3, 3), .inl 1] σ (fun q σ' => q = some (σ 1 9) ∧ σ' = σ) := by
  refine ck_cal_of ?_
  refine ck_go_run 2 (X1 := (ck_sw 0 1 79 [44, 49, 54, 59, 64, 69, 74], [some (.inr (1, 3, 3)), some (.inl 1)], [], σ)) (ps := [ck_rg 1]) rfl ⟨(ck_rgo (by omega) (by omega)), trivial⟩ ?_
  refine ck_go_pc (q := 49) rfl ?_
  refine ck_go_run 2 (X1 := (53, [some (.inr (1, 3, 3)), some (.inl 1)], [.inl (σ 1 9)], σ)) (ps := []) rfl trivial ?_
  exact ck_eI ⟨rfl, rfl⟩ rfl rfl rfl
theorem cx_tell2 (σ : ck_M) : ck_cal 1 cm_Ma_tell [.inr (1, 3, 3), .inl 2] σ (fun q σ' => q = some (σ 1 11) ∧ σ' = σ) := by
  refine ck_cal_of ?_
  refine ck_go_run 2 (X1 := (ck_sw 0 2 79 [44, 49, 54, 59, 64, 69, 74], [some (.inr (1, 3, 3)), some (.inl 2)], [], σ)) (ps := [ck_rg 2]) rfl ⟨(ck_rgo (by omega) (by omega)), trivial⟩ ?_
  refine ck_go_pc (q := 54) rfl ?_
  refine ck_go_run 2 (X1 := (58, [some (.inr (1, 3, 3)), some (.inl 2)], [.inl (σ 1 11)], σ)) (ps := []) rfl trivial ?_
  exact ck_eI ⟨rfl, rfl⟩ rfl rfl rfl
theorem cx_tell3 (σ : ck_M) : ck_cal 1 cm_Ma_tell [.inr (1, 3, 3), .inl 3] σ (fun q σ' => q = some (σ 1 12) ∧ σ' = σ) := by
  refine ck_cal_of ?_
  refine ck_go_run 2 (X1 := (ck_sw 0 3 79 [44, 49, 54, 59, 64, 69, 74], [some (.inr (1, 3, 3)), some (.inl 3)], [], σ)) (ps := [ck_rg 3]) rfl ⟨(ck_rgo (by omega) (by omega)), trivial⟩ ?_
  refine ck_go_pc (q := 59) rfl ?_
  refine ck_go_run 2 (X1 := (63, [some (.inr (1, 3, 3)), some (.inl 3)], [.inl (σ 1 12)], σ)) (ps := []) rfl trivial ?_
  exact ck_eI ⟨rfl, rfl⟩ rfl rfl rfl
theorem cx_tell4 (σ : ck_M) : ck_cal 1 cm_Ma_tell [.inr (1, 3, 3), .inl 4] σ (fun q σ' => q = some (σ 1 13) ∧ σ' = σ) := by
  refine ck_cal_of ?_
  refine ck_go_run 2 (X1 := (ck_sw 0 4 79 [44, 49, 54, 59, 64, 69, 74], [some (.inr (1, 3, 3)), some (.inl 4)], [], σ)) (ps := [ck_rg 4]) rfl ⟨(ck_rgo (by omega) (by omega)), trivial⟩ ?_
  refine ck_go_pc (q := 64) rfl ?_
  refine ck_go_run 2 (X1 := (68, [some (.inr (1, 3, 3)), some (.inl 4)], [.inl (σ 1 13)], σ)) (ps := []) rfl trivial ?_
  exact ck_eI ⟨rfl, rfl⟩ rfl rfl rfl
theorem cx_tell5 (σ : ck_M) : ck_cal 1 cm_Ma_tell [.inr (1, 3, 3), .inl 5] σ (fun q σ' => q = some (σ 1 14) ∧ σ' = σ) := by
  refine ck_cal_of ?_
  refine ck_go_run 2 (X1 := (ck_sw 0 5 79 [44, 49, 54, 59, 64, 69, 74], [some (.inr (1, 3, 3)), some (.inl 5)], [], σ)) (ps := [ck_rg 5]) rfl ⟨(ck_rgo (by omega) (by omega)), trivial⟩ ?_
  refine ck_go_pc (q := 69) rfl ?_
  refine ck_go_run 2 (X1 := (73, [some (.inr (1, 3, 3)), some (.inl 5)], [.inl (σ 1 14)], σ)) (ps := []) rfl trivial ?_
  exact ck_eI ⟨rfl, rfl⟩ rfl rfl rfl
theorem cx_tell6 (σ : ck_M) : ck_cal 1 cm_Ma_tell [.inr (1, 3, 3), .inl 6] σ (fun q σ' => q = some (σ 1 15) ∧ σ' = σ) := by
  refine ck_cal_of ?_
  refine ck_go_run 2 (X1 := (ck_sw 0 6 79 [44, 49, 54, 59, 64, 69, 74], [some (.inr (1, 3, 3)), some (.inl 6)], [], σ)) (ps := [ck_rg 6]) rfl ⟨(ck_rgo (by omega) (by omega)), trivial⟩ ?_
  refine ck_go_pc (q := 74) rfl ?_
  refine ck_go_run 2 (X1 := (78, [some (.inr (1, 3, 3)), some (.inl 6)], [.inl (σ 1 15)], σ)) (ps := []) rfl trivial ?_
  exact ck_eI ⟨rfl, rfl⟩ rfl rfl rfl
theorem cx_tellX {w : Int} (hw : ck_rg w) (hT : w < 0 ∨ 6 < w) (σ : ck_M) : ck_cal 1 cm_Ma_tell [.inr (1, 3, 3), .inl w] σ (fun q σ' => q = some (-1) ∧ σ' = σ) := by
  refine ck_cal_of ?_
  have rw_ := id hw
  unfold ck_rg at rw_
  refine ck_go_run 2 (X1 := (ck_sw 0 w 79 [44, 49, 54, 59, 64, 69, 74], [some (.inr (1, 3, 3)), some (.inl w)], [], σ)) (ps := [ck_rg w]) rfl ⟨(ck_rgo (by omega) (by omega)), trivial⟩ ?_
  · refine ck_go_pc (q := 79) (by
      unfold ck_sw
      rcases hT with h | h
      · rw [if_pos h]
      · rw [if_neg (by omega), List.getElem?_eq_none (by show 7 ≤ _; omega)]
        rfl) ?_
    refine ck_go_run 1 (X1 := (80, [some (.inr (1, 3, 3)), some (.inl w)], [.inl ((-1))], σ)) (ps := []) rfl trivial ?_
    exact ck_eI ⟨rfl, rfl⟩ rfl rfl rfl
def co_tl (a : Int → Int) (w : Int) : Int := if w = 0 then a 0 else if w = 1 then a 1 else if w = 2 then a 2 else if w = 3 then a 3 else if w = 4 then a 4 else if w = 5 then a 5 else if w = 6 then a 6 else -1
theorem co_tl_x {a : Int → Int} {w : Int} (h : w < 0 ∨ 6 < w) : co_tl a w = -1 := by
  unfold co_tl
  rw [if_neg (by omega), if_neg (by omega), if_neg (by omega), if_neg (by omega), if_neg (by omega), if_neg (by omega), if_neg (by omega)]
theorem cx_tellC {w : Int} (hw : ck_rg w) (σ : ck_M) : ck_cal 1 cm_Ma_tell [.inr (1, 3, 3), .inl w] σ (fun q σ' => q = some (co_tl (fun j => σ 1 (if j = 0 then 10 else if j = 1 then 9 else j + 9)) w) ∧ σ' = σ) := by
  by_cases h : w < 0 ∨ 6 < w
  · rw [co_tl_x h]
    exact cx_tellX hw h σ
  · have h2 : w = 0 ∨ w = 1 ∨ w = 2 ∨ w = 3 ∨ w = 4 ∨ w = 5 ∨ w = 6 := by omega
    rcases h2 with rfl | rfl | rfl | rfl | rfl | rfl | rfl
    · exact cx_tell0 σ
    · exact cx_tell1 σ
    · exact cx_tell2 σ
    · exact cx_tell3 σ
    · exact cx_tell4 σ
    · exact cx_tell5 σ
    · exact cx_tell6 σ
