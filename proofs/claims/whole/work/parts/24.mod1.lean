def ck_ml (v : Int) : Int := if v < -200 then 1000000000 else v
def ck_mh (v : Int) : Int := if 200 < v then 1000000000 else v
def ck_mlm (v b : Int) : Int := if v = 1000000000 then 1000000000 else ck_ml (v + b)
def ck_mhm (v b : Int) : Int := if v = 1000000000 then 1000000000 else ck_mh (v + b)
def ck_gr (a b : Int) : Int := if a = 1000000000 then b else if b = 1000000000 then a else if b < a then a else b
def ck_lw (a b : Int) : Int := if a = 1000000000 then b else if b = 1000000000 then a else if a < b then a else b
def ck_in (v f t : Int) : Int := if f ≤ v ∧ v ≤ t then 1 else 0
theorem ck_rg_ml {v : Int} (h : ck_rg v) : ck_rg (ck_ml v) := by unfold ck_ml; split; exact ⟨by decide, by decide⟩; exact h
theorem ck_rg_mh {v : Int} (h : ck_rg v) : ck_rg (ck_mh v) := by unfold ck_mh; split; exact ⟨by decide, by decide⟩; exact h
theorem ck_in_01 {v f t : Int} : ck_in v f t = 0 ∨ ck_in v f t = 1 := by unfold ck_in; split; exact Or.inr rfl; exact Or.inl rfl
theorem ck_rg_in {v f t : Int} : ck_rg (ck_in v f t) := by rcases ck_in_01 (v := v) (f := f) (t := t) with h | h <;> rw [h] <;> exact ⟨by decide, by decide⟩
theorem ck_in_0 {v f t : Int} (h : ck_in v f t = 0) : ¬ (f ≤ v ∧ v ≤ t) := by
  intro q
  unfold ck_in at h
  rw [if_pos q] at h
  cases h
theorem ck_in_1 {v f t : Int} (h : ¬ ck_in v f t = 0) : f ≤ v ∧ v ≤ t := by
  by_cases q : f ≤ v ∧ v ≤ t
  · exact q
  · unfold ck_in at h
    rw [if_neg q] at h
    exact absurd rfl h
theorem cx_leastOf {v : Int} (hv : -2000000000 ≤ v ∧ v ≤ 2000000000) (σ : ck_M) : ck_cal 1 cm_Mo_leastOf [.inl v] σ (fun r σ' => r = some (ck_ml v) ∧ σ' = σ) := by
  refine ck_cal_of ?_
  refine ck_go_run 3 (X1 := (if v < (-200) then 7 else 12, [some (.inl v)], [], σ)) (ps := [ck_rg v, ck_rg ((-200))]) rfl ⟨(ck_rgo (by omega) (by omega)), (ck_rgo (by omega) (by omega)), trivial⟩ ?_
  refine ck_go_ite (fun h1 => ?_) (fun h1 => ?_)
  · refine ck_go_run 2 (X1 := (13, [some (.inl v)], [.inl 1000000000], σ)) (ps := []) rfl trivial ?_
    exact ck_eI ⟨by (try unfold ck_ml); (repeat' split) <;> first | rfl | omega, rfl⟩ rfl rfl rfl
  · refine ck_go_run 1 (X1 := (13, [some (.inl v)], [.inl v], σ)) (ps := []) rfl trivial ?_
    exact ck_eI ⟨by (try unfold ck_ml); (repeat' split) <;> first | rfl | omega, rfl⟩ rfl rfl rfl
theorem cx_high {v : Int} (hv : -2000000000 ≤ v ∧ v ≤ 2000000000) (σ : ck_M) : ck_cal 1 cm_Mo_high [.inl v] σ (fun r σ' => r = some (ck_mh v) ∧ σ' = σ) := by
  refine ck_cal_of ?_
  refine ck_go_run 3 (X1 := (if 200 < v then 7 else 12, [some (.inl v)], [], σ)) (ps := [ck_rg v, ck_rg 200]) rfl ⟨(ck_rgo (by omega) (by omega)), (ck_rgo (by omega) (by omega)), trivial⟩ ?_
  refine ck_go_ite (fun h1 => ?_) (fun h1 => ?_)
  · refine ck_go_run 2 (X1 := (13, [some (.inl v)], [.inl 1000000000], σ)) (ps := []) rfl trivial ?_
    exact ck_eI ⟨by (try unfold ck_mh); (repeat' split) <;> first | rfl | omega, rfl⟩ rfl rfl rfl
  · refine ck_go_run 1 (X1 := (13, [some (.inl v)], [.inl v], σ)) (ps := []) rfl trivial ?_
    exact ck_eI ⟨by (try unfold ck_mh); (repeat' split) <;> first | rfl | omega, rfl⟩ rfl rfl rfl
theorem cx_leastMore {v b : Int} (hv : -1000000000 ≤ v ∧ v ≤ 1000000000) (hb : -1000 ≤ b ∧ b ≤ 1000) (σ : ck_M) : ck_cal 2 cm_Mo_leastMore [.inl v, .inl b] σ (fun r σ' => r = some (ck_mlm v b) ∧ σ' = σ) := by
  refine ck_cal_of ?_
  refine ck_go_run 3 (X1 := (if v = 1000000000 then 6 else 11, [some (.inl v), some (.inl b)], [], σ)) (ps := [ck_rg v, ck_rg 1000000000]) rfl ⟨(ck_rgo (by omega) (by omega)), (ck_rgo (by omega) (by omega)), trivial⟩ ?_
  refine ck_go_ite (fun h1 => ?_) (fun h1 => ?_)
  · refine ck_go_run 2 (X1 := (17, [some (.inl v), some (.inl b)], [.inl 1000000000], σ)) (ps := []) rfl trivial ?_
    exact ck_eI ⟨by (try unfold ck_mlm); (repeat' split) <;> first | rfl | omega, rfl⟩ rfl rfl rfl
  · refine ck_go_run 3 (X1 := (14, [some (.inl v), some (.inl b)], [.inl (v + b)], σ)) (ps := []) rfl trivial ?_
    refine ck_go_cal (rest := []) (ck_cal_le (by decide) (cx_leastOf (v := v + b) (by omega) _)) ⟨_, rfl, Or.inr ⟨_, rfl⟩, rfl, rfl, rfl, Nat.le_of_ble_eq_true rfl, fun h => absurd h (by decide)⟩ ?_
    rintro _ s' ⟨rfl, e'⟩
    rw [e']
    clear e' s'
    exact ck_eI ⟨by (try unfold ck_mlm); (repeat' split) <;> first | rfl | omega, rfl⟩ rfl rfl rfl
theorem cx_highMore {v b : Int} (hv : -1000000000 ≤ v ∧ v ≤ 1000000000) (hb : -1000 ≤ b ∧ b ≤ 1000) (σ : ck_M) : ck_cal 2 cm_Mo_highMore [.inl v, .inl b] σ (fun r σ' => r = some (ck_mhm v b) ∧ σ' = σ) := by
  refine ck_cal_of ?_
  refine ck_go_run 3 (X1 := (if v = 1000000000 then 6 else 11, [some (.inl v), some (.inl b)], [], σ)) (ps := [ck_rg v, ck_rg 1000000000]) rfl ⟨(ck_rgo (by omega) (by omega)), (ck_rgo (by omega) (by omega)), trivial⟩ ?_
  refine ck_go_ite (fun h1 => ?_) (fun h1 => ?_)
  · refine ck_go_run 2 (X1 := (17, [some (.inl v), some (.inl b)], [.inl 1000000000], σ)) (ps := []) rfl trivial ?_
    exact ck_eI ⟨by (try unfold ck_mhm); (repeat' split) <;> first | rfl | omega, rfl⟩ rfl rfl rfl
  · refine ck_go_run 3 (X1 := (14, [some (.inl v), some (.inl b)], [.inl (v + b)], σ)) (ps := []) rfl trivial ?_
    refine ck_go_cal (rest := []) (ck_cal_le (by decide) (cx_high (v := v + b) (by omega) _)) ⟨_, rfl, Or.inr ⟨_, rfl⟩, rfl, rfl, rfl, Nat.le_of_ble_eq_true rfl, fun h => absurd h (by decide)⟩ ?_
    rintro _ s' ⟨rfl, e'⟩
    rw [e']
    clear e' s'
    exact ck_eI ⟨by (try unfold ck_mhm); (repeat' split) <;> first | rfl | omega, rfl⟩ rfl rfl rfl
theorem cx_greater {a b : Int} (ha : -2000000000 ≤ a ∧ a ≤ 2000000000) (hb : -2000000000 ≤ b ∧ b ≤ 2000000000) (σ : ck_M) : ck_cal 1 cm_Mo_greater [.inl a, .inl b] σ (fun r σ' => r = some (ck_gr a b) ∧ σ' = σ) := by
  refine ck_cal_of ?_
  refine ck_go_run 3 (X1 := (if a = 1000000000 then 6 else 10, [some (.inl a), some (.inl b)], [], σ)) (ps := [ck_rg a, ck_rg 1000000000]) rfl ⟨(ck_rgo (by omega) (by omega)), (ck_rgo (by omega) (by omega)), trivial⟩ ?_
  refine ck_go_ite (fun h1 => ?_) (fun h1 => ?_)
  · refine ck_go_run 2 (X1 := (26, [some (.inl a), some (.inl b)], [.inl b], σ)) (ps := []) rfl trivial ?_
    exact ck_eI ⟨by (try unfold ck_gr); (repeat' split) <;> first | rfl | omega, rfl⟩ rfl rfl rfl
  · refine ck_go_run 3 (X1 := (if b = 1000000000 then 21 else 16, [some (.inl a), some (.inl b)], [], σ)) (ps := [ck_rg b, ck_rg 1000000000]) rfl ⟨(ck_rgo (by omega) (by omega)), (ck_rgo (by omega) (by omega)), trivial⟩ ?_
    refine ck_go_ite (fun h2 => ?_) (fun h2 => ?_)
    · refine ck_go_run 2 (X1 := (26, [some (.inl a), some (.inl b)], [.inl a], σ)) (ps := []) rfl trivial ?_
      exact ck_eI ⟨by (try unfold ck_gr); (repeat' split) <;> first | rfl | omega, rfl⟩ rfl rfl rfl
    · refine ck_go_run 3 (X1 := (if b < a then 21 else 25, [some (.inl a), some (.inl b)], [], σ)) (ps := [ck_rg a, ck_rg b]) rfl ⟨(ck_rgo (by omega) (by omega)), (ck_rgo (by omega) (by omega)), trivial⟩ ?_
      refine ck_go_ite (fun h3 => ?_) (fun h3 => ?_)
      · refine ck_go_run 2 (X1 := (26, [some (.inl a), some (.inl b)], [.inl a], σ)) (ps := []) rfl trivial ?_
        exact ck_eI ⟨by (try unfold ck_gr); (repeat' split) <;> first | rfl | omega, rfl⟩ rfl rfl rfl
      · refine ck_go_run 1 (X1 := (26, [some (.inl a), some (.inl b)], [.inl b], σ)) (ps := []) rfl trivial ?_
        exact ck_eI ⟨by (try unfold ck_gr); (repeat' split) <;> first | rfl | omega, rfl⟩ rfl rfl rfl
theorem cx_lower {a b : Int} (ha : -2000000000 ≤ a ∧ a ≤ 2000000000) (hb : -2000000000 ≤ b ∧ b ≤ 2000000000) (σ : ck_M) : ck_cal 1 cm_Mo_lower [.inl a, .inl b] σ (fun r σ' => r = some (ck_lw a b) ∧ σ' = σ) := by
  refine ck_cal_of ?_
  refine ck_go_run 3 (X1 := (if a = 1000000000 then 6 else 10, [some (.inl a), some (.inl b)], [], σ)) (ps := [ck_rg a, ck_rg 1000000000]) rfl ⟨(ck_rgo (by omega) (by omega)), (ck_rgo (by omega) (by omega)), trivial⟩ ?_
  refine ck_go_ite (fun h1 => ?_) (fun h1 => ?_)
  · refine ck_go_run 2 (X1 := (26, [some (.inl a), some (.inl b)], [.inl b], σ)) (ps := []) rfl trivial ?_
    exact ck_eI ⟨by (try unfold ck_lw); (repeat' split) <;> first | rfl | omega, rfl⟩ rfl rfl rfl
  · refine ck_go_run 3 (X1 := (if b = 1000000000 then 21 else 16, [some (.inl a), some (.inl b)], [], σ)) (ps := [ck_rg b, ck_rg 1000000000]) rfl ⟨(ck_rgo (by omega) (by omega)), (ck_rgo (by omega) (by omega)), trivial⟩ ?_
    refine ck_go_ite (fun h2 => ?_) (fun h2 => ?_)
    · refine ck_go_run 2 (X1 := (26, [some (.inl a), some (.inl b)], [.inl a], σ)) (ps := []) rfl trivial ?_
      exact ck_eI ⟨by (try unfold ck_lw); (repeat' split) <;> first | rfl | omega, rfl⟩ rfl rfl rfl
    · refine ck_go_run 3 (X1 := (if a < b then 21 else 25, [some (.inl a), some (.inl b)], [], σ)) (ps := [ck_rg a, ck_rg b]) rfl ⟨(ck_rgo (by omega) (by omega)), (ck_rgo (by omega) (by omega)), trivial⟩ ?_
      refine ck_go_ite (fun h3 => ?_) (fun h3 => ?_)
      · refine ck_go_run 2 (X1 := (26, [some (.inl a), some (.inl b)], [.inl a], σ)) (ps := []) rfl trivial ?_
        exact ck_eI ⟨by (try unfold ck_lw); (repeat' split) <;> first | rfl | omega, rfl⟩ rfl rfl rfl
      · refine ck_go_run 1 (X1 := (26, [some (.inl a), some (.inl b)], [.inl b], σ)) (ps := []) rfl trivial ?_
        exact ck_eI ⟨by (try unfold ck_lw); (repeat' split) <;> first | rfl | omega, rfl⟩ rfl rfl rfl
theorem cx_in {v f t : Int} (hv : ck_rg v) (hf : ck_rg f) (ht : ck_rg t) (σ : ck_M) : ck_cal 1 cm_Mo_in [.inl v, .inl f, .inl t] σ (fun r σ' => r = some (ck_in v f t) ∧ σ' = σ) := by
  refine ck_cal_of ?_
  obtain ⟨v1, v2⟩ := id hv
  obtain ⟨f1, f2⟩ := id hf
  obtain ⟨t1, t2⟩ := id ht
  refine ck_go_run 3 (X1 := (if v < f then 14 else 5, [some (.inl v), some (.inl f), some (.inl t)], [], σ)) (ps := [ck_rg v, ck_rg f]) rfl ⟨(ck_rgo (by omega) (by omega)), (ck_rgo (by omega) (by omega)), trivial⟩ ?_
  refine ck_go_ite (fun h1 => ?_) (fun h1 => ?_)
  · refine ck_go_run 1 (X1 := (15, [some (.inl v), some (.inl f), some (.inl t)], [.inl 0], σ)) (ps := []) rfl trivial ?_
    exact ck_eZ (Or.inl rfl) ⟨by unfold ck_in; (repeat' split) <;> first | rfl | omega, rfl⟩ rfl rfl rfl
  · refine ck_go_run 3 (X1 := (if t < v then 14 else 10, [some (.inl v), some (.inl f), some (.inl t)], [], σ)) (ps := [ck_rg v, ck_rg t]) rfl ⟨(ck_rgo (by omega) (by omega)), (ck_rgo (by omega) (by omega)), trivial⟩ ?_
    refine ck_go_ite (fun h2 => ?_) (fun h2 => ?_)
    · refine ck_go_run 1 (X1 := (15, [some (.inl v), some (.inl f), some (.inl t)], [.inl 0], σ)) (ps := []) rfl trivial ?_
      exact ck_eZ (Or.inl rfl) ⟨by unfold ck_in; (repeat' split) <;> first | rfl | omega, rfl⟩ rfl rfl rfl
    · refine ck_go_run 2 (X1 := (15, [some (.inl v), some (.inl f), some (.inl t)], [.inl 1], σ)) (ps := []) rfl trivial ?_
      exact ck_eZ (Or.inr rfl) ⟨by unfold ck_in; (repeat' split) <;> first | rfl | omega, rfl⟩ rfl rfl rfl
def ck_wo (a b g : Int) : Int := if a = 1000000000 then 1000000000 else if b = 1000000000 then 1000000000 else if g = 0 then (if b < a then b else a) else (if b < a then a else b)
theorem cx_worst {a b g : Int} (ha : -2000000000 ≤ a ∧ a ≤ 2000000000) (hb : -2000000000 ≤ b ∧ b ≤ 2000000000) (hg : g = 0 ∨ g = 1) (σ : ck_M) : ck_cal 1 cm_Mo_worst [.inl a, .inl b, .inl g] σ (fun r σ' => r = some (ck_wo a b g) ∧ σ' = σ) := by
  refine ck_cal_of ?_
  refine ck_go_run 3 (X1 := (if a = 1000000000 then 12 else 6, [some (.inl a), some (.inl b), some (.inl g)], [], σ)) (ps := [ck_rg a, ck_rg 1000000000]) rfl ⟨(ck_rgo (by omega) (by omega)), (ck_rgo (by omega) (by omega)), trivial⟩ ?_
  refine ck_go_ite (fun h1 => ?_) (fun h1 => ?_)
  · refine ck_go_run 2 (X1 := (36, [some (.inl a), some (.inl b), some (.inl g)], [.inl 1000000000], σ)) (ps := []) rfl trivial ?_
    exact ck_eI ⟨by (try unfold ck_wo); (repeat' split) <;> first | rfl | omega, rfl⟩ rfl rfl rfl
  · refine ck_go_run 3 (X1 := (if b = 1000000000 then 12 else 17, [some (.inl a), some (.inl b), some (.inl g)], [], σ)) (ps := [ck_rg b, ck_rg 1000000000]) rfl ⟨(ck_rgo (by omega) (by omega)), (ck_rgo (by omega) (by omega)), trivial⟩ ?_
    refine ck_go_ite (fun h2 => ?_) (fun h2 => ?_)
    · refine ck_go_run 2 (X1 := (36, [some (.inl a), some (.inl b), some (.inl g)], [.inl 1000000000], σ)) (ps := []) rfl trivial ?_
      exact ck_eI ⟨by (try unfold ck_wo); (repeat' split) <;> first | rfl | omega, rfl⟩ rfl rfl rfl
    · refine ck_go_run 3 (X1 := (if b < a then 22 else 26, [some (.inl a), some (.inl b), some (.inl g)], [], σ)) (ps := [ck_rg a, ck_rg b]) rfl ⟨(ck_rgo (by omega) (by omega)), (ck_rgo (by omega) (by omega)), trivial⟩ ?_
      refine ck_go_ite (fun h3 => ?_) (fun h3 => ?_)
      · refine ck_go_run 4 (X1 := (if 1 = g then 31 else 35, [some (.inl a), some (.inl b), some (.inl g)], [], σ)) (ps := [ck_rg 1, ck_rg g]) rfl ⟨(ck_rgo (by omega) (by omega)), (ck_rgo (by omega) (by omega)), trivial⟩ ?_
        refine ck_go_ite (fun h4 => ?_) (fun h4 => ?_)
        · refine ck_go_run 2 (X1 := (36, [some (.inl a), some (.inl b), some (.inl g)], [.inl a], σ)) (ps := []) rfl trivial ?_
          exact ck_eI ⟨by (try unfold ck_wo); (repeat' split) <;> first | rfl | omega, rfl⟩ rfl rfl rfl
        · refine ck_go_run 1 (X1 := (36, [some (.inl a), some (.inl b), some (.inl g)], [.inl b], σ)) (ps := []) rfl trivial ?_
          exact ck_eI ⟨by (try unfold ck_wo); (repeat' split) <;> first | rfl | omega, rfl⟩ rfl rfl rfl
      · refine ck_go_run 3 (X1 := (if 0 = g then 31 else 35, [some (.inl a), some (.inl b), some (.inl g)], [], σ)) (ps := [ck_rg 0, ck_rg g]) rfl ⟨(ck_rgo (by omega) (by omega)), (ck_rgo (by omega) (by omega)), trivial⟩ ?_
        refine ck_go_ite (fun h5 => ?_) (fun h5 => ?_)
        · refine ck_go_run 2 (X1 := (36, [some (.inl a), some (.inl b), some (.inl g)], [.inl a], σ)) (ps := []) rfl trivial ?_
          exact ck_eI ⟨by (try unfold ck_wo); (repeat' split) <;> first | rfl | omega, rfl⟩ rfl rfl rfl
        · refine ck_go_run 1 (X1 := (36, [some (.inl a), some (.inl b), some (.inl g)], [.inl b], σ)) (ps := []) rfl trivial ?_
          exact ck_eI ⟨by (try unfold ck_wo); (repeat' split) <;> first | rfl | omega, rfl⟩ rfl rfl rfl
