theorem cx_max {a b : Int} (ha : ck_rg a) (hb : ck_rg b) (σ : ck_M) : ck_cal 1 cm_Jm_max [.inl a, .inl b] σ (fun r σ' => r = some (ck_mx a b) ∧ σ' = σ) := by
  refine ck_cal_of ?_
  refine ck_go_run 3 (X1 := (if a < b then 9 else 5, [some (.inl a), some (.inl b)], [], σ)) (ps := [ck_rg a, ck_rg b]) rfl ⟨ha, hb, trivial⟩ ?_
  refine ck_go_ite (fun h => ?_) (fun h => ?_)
  · refine ck_go_run 1 (X1 := (10, [some (.inl a), some (.inl b)], [.inl b], σ)) (ps := []) rfl trivial ?_
    exact ck_eI ⟨by rw [ck_mx, if_pos h], rfl⟩ rfl rfl rfl
  · refine ck_go_run 2 (X1 := (10, [some (.inl a), some (.inl b)], [.inl a], σ)) (ps := []) rfl trivial ?_
    exact ck_eI ⟨by rw [ck_mx, if_neg h], rfl⟩ rfl rfl rfl
theorem cx_min {a b : Int} (ha : ck_rg a) (hb : ck_rg b) (σ : ck_M) : ck_cal 1 cm_Jm_min [.inl a, .inl b] σ (fun r σ' => r = some (ck_mn a b) ∧ σ' = σ) := by
  refine ck_cal_of ?_
  refine ck_go_run 3 (X1 := (if b < a then 9 else 5, [some (.inl a), some (.inl b)], [], σ)) (ps := [ck_rg a, ck_rg b]) rfl ⟨ha, hb, trivial⟩ ?_
  refine ck_go_ite (fun h => ?_) (fun h => ?_)
  · refine ck_go_run 1 (X1 := (10, [some (.inl a), some (.inl b)], [.inl b], σ)) (ps := []) rfl trivial ?_
    exact ck_eI ⟨by rw [ck_mn, if_pos h], rfl⟩ rfl rfl rfl
  · refine ck_go_run 2 (X1 := (10, [some (.inl a), some (.inl b)], [.inl a], σ)) (ps := []) rfl trivial ?_
    exact ck_eI ⟨by rw [ck_mn, if_neg h], rfl⟩ rfl rfl rfl
theorem cx_boundedLow {a : Int} (ha : ck_rg a) (σ : ck_M) : ck_cal 1 cm_Fa_boundedLow [.inl a] σ (fun r σ' => r = some (ck_bL a) ∧ σ' = σ) := by
  refine ck_cal_of ?_
  refine ck_go_run 3 (X1 := (if a < (-200) then 7 else 12, [some (.inl a)], [], σ)) (ps := [ck_rg a, ck_rg ((-200))]) rfl ⟨ha, ck_rgo (by omega) (by omega), trivial⟩ ?_
  refine ck_go_ite (fun h => ?_) (fun h => ?_)
  · refine ck_go_run 2 (X1 := (13, [some (.inl a)], [.inl ((-1000000000))], σ)) (ps := []) rfl trivial ?_
    exact ck_eI ⟨by rw [ck_bL, if_pos h], rfl⟩ rfl rfl rfl
  · refine ck_go_run 1 (X1 := (13, [some (.inl a)], [.inl a], σ)) (ps := []) rfl trivial ?_
    exact ck_eI ⟨by rw [ck_bL, if_neg h], rfl⟩ rfl rfl rfl
theorem cx_boundedHigh {a : Int} (ha : ck_rg a) (σ : ck_M) : ck_cal 1 cm_Fa_boundedHigh [.inl a] σ (fun r σ' => r = some (ck_bH a) ∧ σ' = σ) := by
  refine ck_cal_of ?_
  refine ck_go_run 3 (X1 := (if 200 < a then 7 else 12, [some (.inl a)], [], σ)) (ps := [ck_rg a, ck_rg 200]) rfl ⟨ha, ck_rgo (by omega) (by omega), trivial⟩ ?_
  refine ck_go_ite (fun h => ?_) (fun h => ?_)
  · refine ck_go_run 2 (X1 := (13, [some (.inl a)], [.inl 1000000000], σ)) (ps := []) rfl trivial ?_
    exact ck_eI ⟨by rw [ck_bH, if_pos h], rfl⟩ rfl rfl rfl
  · refine ck_go_run 1 (X1 := (13, [some (.inl a)], [.inl a], σ)) (ps := []) rfl trivial ?_
    exact ck_eI ⟨by rw [ck_bH, if_neg h], rfl⟩ rfl rfl rfl
/-- all that is known is small enough that sums of two don't wrap -/
def ck_fb (f : ck_D) : Prop := (∀ n, -1000000000 ≤ ck_kn f n ∧ ck_kn f n ≤ 1000000000) ∧ (∀ n, -1000000000 ≤ ck_lo f n ∧ ck_lo f n ≤ 1000000000) ∧ (∀ n r, -1000000000 ≤ ck_hi f n r ∧ ck_hi f n r ≤ 1000000000) ∧ (∀ r, -1000000000 ≤ ck_va f r ∧ ck_va f r ≤ 1000000000) ∧ (∀ r, -1000000000 ≤ ck_sz f r ∧ ck_sz f r ≤ 1000000000) ∧ ∀ r, 0 ≤ ck_th f r ∧ ck_th f r ≤ 1
section CKB
variable {σ : ck_M} {c n r : Int}
theorem ck_r_kn (h0 : 0 ≤ n) (h1 : n < 10) : ck_kn (ck_rd σ c) n = σ (c + 1) n := ck_N_kn h0 h1
theorem ck_r_lo (h0 : 0 ≤ n) (h1 : n < 10) : ck_lo (ck_rd σ c) n = σ (c + 2) n := ck_N_lo h0 h1
theorem ck_r_hi (h0 : 0 ≤ n) (h1 : n < 10) (h2 : 0 ≤ r) (h3 : r < 4) : ck_hi (ck_rd σ c) n r = σ (c + 3) (n * 4 + r) := ck_N_hi h0 h1 h2 h3
theorem ck_r_va (h2 : 0 ≤ r) (h3 : r < 4) : ck_va (ck_rd σ c) r = σ (c + 4) r := ck_N_va h2 h3
theorem ck_r_sz (h2 : 0 ≤ r) (h3 : r < 4) : ck_sz (ck_rd σ c) r = σ (c + 5) r := ck_N_sz h2 h3
theorem ck_r_th (h2 : 0 ≤ r) (h3 : r < 4) : ck_th (ck_rd σ c) r = σ (c + 6) r := ck_N_th h2 h3
theorem ck_b_kn (hB : ck_fb (ck_rd σ c)) (h0 : 0 ≤ n) (h1 : n < 10) : -1000000000 ≤ σ (c + 1) n ∧ σ (c + 1) n ≤ 1000000000 := by rw [← ck_r_kn (σ := σ) (c := c) h0 h1]; exact hB.1 n
theorem ck_b_lo (hB : ck_fb (ck_rd σ c)) (h0 : 0 ≤ n) (h1 : n < 10) : -1000000000 ≤ σ (c + 2) n ∧ σ (c + 2) n ≤ 1000000000 := by rw [← ck_r_lo (σ := σ) (c := c) h0 h1]; exact hB.2.1 n
theorem ck_b_hi (hB : ck_fb (ck_rd σ c)) (h0 : 0 ≤ n) (h1 : n < 10) (h2 : 0 ≤ r) (h3 : r < 4) : -1000000000 ≤ σ (c + 3) (n * 4 + r) ∧ σ (c + 3) (n * 4 + r) ≤ 1000000000 := by rw [← ck_r_hi (σ := σ) (c := c) h0 h1 h2 h3]; exact hB.2.2.1 n r
theorem ck_b_va (hB : ck_fb (ck_rd σ c)) (h2 : 0 ≤ r) (h3 : r < 4) : -1000000000 ≤ σ (c + 4) r ∧ σ (c + 4) r ≤ 1000000000 := by rw [← ck_r_va (σ := σ) (c := c) h2 h3]; exact hB.2.2.2.1 r
theorem ck_b_sz (hB : ck_fb (ck_rd σ c)) (h2 : 0 ≤ r) (h3 : r < 4) : -1000000000 ≤ σ (c + 5) r ∧ σ (c + 5) r ≤ 1000000000 := by rw [← ck_r_sz (σ := σ) (c := c) h2 h3]; exact hB.2.2.2.2.1 r
theorem ck_b_th (hB : ck_fb (ck_rd σ c)) (h2 : 0 ≤ r) (h3 : r < 4) : 0 ≤ σ (c + 6) r ∧ σ (c + 6) r ≤ 1 := by rw [← ck_r_th (σ := σ) (c := c) h2 h3]; exact hB.2.2.2.2.2 r
end CKB
theorem cx_isSameArray {c r a : Int} (hr : 0 ≤ r ∧ r < 4) (ha : 0 ≤ a ∧ a < 4) {σ : ck_M} (hr1 : ck_rg (σ (c + 4) r)) (ha1 : ck_rg (σ (c + 4) a)) : ck_cal 1 cm_Fa_isSameArray [.inr (c, 3, 0), .inl r, .inl a] σ (fun q σ' => q = some (if σ (c + 4) r = σ (c + 4) a ∧ σ (c + 4) r ≠ 0 then 1 else 0) ∧ σ' = σ) := by
  refine ck_cal_of ?_
  refine ck_go_run 9 (X1 := (if σ (c + 4) r = σ (c + 4) a then 15 else 28, [some (.inr (c, 3, 0)), some (.inl r), some (.inl a)], [], σ)) (ps := [0 ≤ r ∧ r < ((4 : Nat) : Int), 0 ≤ a ∧ a < ((4 : Nat) : Int), ck_rg (σ (c + 4) r), ck_rg (σ (c + 4) a)]) rfl ⟨⟨by omega, by omega⟩, ⟨by omega, by omega⟩, hr1, ha1, trivial⟩ ?_
  refine ck_go_ite (fun h => ?_) (fun h => ?_)
  · refine ck_go_run 5 (X1 := (if σ (c + 4) r = 0 then 28 else 24, [some (.inr (c, 3, 0)), some (.inl r), some (.inl a)], [], σ)) (ps := [0 ≤ r ∧ r < ((4 : Nat) : Int), ck_rg (σ (c + 4) r)]) rfl ⟨⟨by omega, by omega⟩, hr1, trivial⟩ ?_
    refine ck_go_ite (fun h2 => ?_) (fun h2 => ?_)
    · refine ck_go_run 1 (X1 := (29, [some (.inr (c, 3, 0)), some (.inl r), some (.inl a)], [.inl 0], σ)) (ps := []) rfl trivial ?_
      exact ck_eZ (Or.inl rfl) ⟨by rw [if_neg (fun q => q.2 h2)], rfl⟩ rfl rfl rfl
    · refine ck_go_run 2 (X1 := (29, [some (.inr (c, 3, 0)), some (.inl r), some (.inl a)], [.inl 1], σ)) (ps := []) rfl trivial ?_
      exact ck_eZ (Or.inr rfl) ⟨by rw [if_pos ⟨h, h2⟩], rfl⟩ rfl rfl rfl
  · refine ck_go_run 1 (X1 := (29, [some (.inr (c, 3, 0)), some (.inl r), some (.inl a)], [.inl 0], σ)) (ps := []) rfl trivial ?_
    exact ck_eZ (Or.inl rfl) ⟨by rw [if_neg (fun q => h q.1)], rfl⟩ rfl rfl rfl
theorem cx_highOfConstant {c v r : Int} (hr : 0 ≤ r ∧ r < 4) {σ : ck_M} (hv : -1000000000 ≤ v ∧ v ≤ 1000000000) (h1 : -1000000000 ≤ σ (c + 4) r ∧ σ (c + 4) r ≤ 1000000000) (h2 : -1000000000 ≤ σ (c + 5) r ∧ σ (c + 5) r ≤ 1000000000) : ck_cal 2 cm_Fa_highOfConstant [.inr (c, 3, 0), .inl v, .inl r] σ (fun q σ' => q = some (if σ (c + 4) r = 0 then 1000000000 else ck_bH (if σ (c + 5) r = 1000000000 then v else v - σ (c + 5) r)) ∧ σ' = σ) := by
  refine ck_cal_of ?_
  refine ck_go_run 5 (X1 := (if σ (c + 4) r = 0 then 9 else 12, [some (.inr (c, 3, 0)), some (.inl v), some (.inl r)], [], σ)) (ps := [0 ≤ r ∧ r < ((4 : Nat) : Int), ck_rg (σ (c + 4) r)]) rfl ⟨⟨by omega, by omega⟩, (ck_rgo (by omega) (by omega)), trivial⟩ ?_
  refine ck_go_ite (fun h => ?_) (fun h => ?_)
  · refine ck_go_run 1 (X1 := (11, [some (.inr (c, 3, 0)), some (.inl v), some (.inl r)], [.inl 1000000000], σ)) (ps := []) rfl trivial ?_
    exact ck_eI ⟨by rw [if_pos h], rfl⟩ rfl rfl rfl
  · refine ck_go_run 6 (X1 := (if σ (c + 5) r = 1000000000 then 23 else 27, [some (.inr (c, 3, 0)), some (.inl v), some (.inl r)], [], σ)) (ps := [0 ≤ r ∧ r < ((4 : Nat) : Int), ck_rg (σ (c + 5) r), ck_rg 1000000000]) rfl ⟨⟨by omega, by omega⟩, (ck_rgo (by omega) (by omega)), (ck_rgo (by omega) (by omega)), trivial⟩ ?_
    refine ck_go_ite (fun h3 => ?_) (fun h3 => ?_)
    · refine ck_go_run 2 (X1 := (35, [some (.inr (c, 3, 0)), some (.inl v), some (.inl r)], [.inl v], σ)) (ps := []) rfl trivial ?_
      refine ck_go_cal (rest := []) (cx_boundedHigh (a := v) (ck_rgo (by omega) (by omega)) σ) ⟨_, rfl, Or.inr ⟨_, rfl⟩, rfl, rfl, rfl, by decide, fun h => absurd h (by decide)⟩ ?_
      rintro q σ' ⟨rfl, rfl⟩
      exact ck_eI ⟨by rw [if_neg h, if_pos h3], rfl⟩ rfl rfl rfl
    · refine ck_go_run 6 (X1 := (35, [some (.inr (c, 3, 0)), some (.inl v), some (.inl r)], [.inl (v - (σ (c + 5) r))], σ)) (ps := [0 ≤ r ∧ r < ((4 : Nat) : Int)]) rfl ⟨⟨by omega, by omega⟩, trivial⟩ ?_
      refine ck_go_cal (rest := []) (cx_boundedHigh (a := v - σ (c + 5) r) (ck_rgo (by omega) (by omega)) σ) ⟨_, rfl, Or.inr ⟨_, rfl⟩, rfl, rfl, rfl, by decide, fun h => absurd h (by decide)⟩ ?_
      rintro q σ' ⟨rfl, rfl⟩
      exact ck_eI ⟨by rw [if_neg h, if_neg h3], rfl⟩ rfl rfl rfl
def ck_dNull (r : Int) (f : ck_D) : ck_D := ck_N (ck_kn f) (ck_lo f) (fun n q => if q = r then 1000000000 else ck_hi f n q) (fun q => if q = r then 0 else ck_va f q) (fun q => if q = r then 1000000000 else ck_sz f q) (fun q => if q = r then 0 else ck_th f q)
theorem cx_setNull {c r : Int} (hr : 0 ≤ r ∧ r < 4) {σ : ck_M} : ck_cal 1 cm_Fa_setNull [.inr (c, 3, 0), .inl r] σ (fun q σ' => q = none ∧ ck_f6 σ σ' c ∧ ck_rd σ' c = ck_dNull r (ck_rd σ c)) := by
  refine ck_cal_of ?_
  refine ck_go_run 17 (X1 := (24, [some (.inr (c, 3, 0)), some (.inl r), some (.inl 0)], [], ck_up (ck_up (ck_up σ (c + 4) r 0) (c + 5) r 1000000000) (c + 6) r 0)) (ps := [0 ≤ r ∧ r < ((4 : Nat) : Int), 0 ≤ r ∧ r < ((4 : Nat) : Int), 0 ≤ r ∧ r < ((4 : Nat) : Int), 0 = 0 ∨ 0 = 1]) rfl ⟨⟨by omega, by omega⟩, ⟨by omega, by omega⟩, ⟨by omega, by omega⟩, Or.inl rfl, trivial⟩ ?_
  refine ck_for 24 (fun v => [some (.inr (c, 3, 0)), some (.inl r), some (.inl v)]) 10 (fun v s => 0 ≤ v ∧ v ≤ 10 ∧ ∀ b j, s b j = if b = c + 3 ∧ 0 ≤ j ∧ j < v * 4 ∧ (j - r) % 4 = 0 then 1000000000 else (ck_up (ck_up (ck_up σ (c + 4) r 0) (c + 5) r 1000000000) (c + 6) r 0) b j) (fun v s hv hI k => ?_) (fun v s hv hI => ?_) 0 _ ⟨by omega, by omega, fun b j => by rw [if_neg (by omega)]⟩
  · obtain ⟨h0, h1, hI⟩ := hI
    refine ck_go_run 3 (X1 := (if v < 10 then 30 else 48, [some (.inr (c, 3, 0)), some (.inl r), some (.inl v)], [], s)) (ps := [ck_rg v, ck_rg 10]) rfl ⟨(ck_rgo (by omega) (by omega)), (ck_rgo (by omega) (by omega)), trivial⟩ ?_
    refine ck_go_t hv ?_
    refine ck_go_run 11 (X1 := (24, [some (.inr (c, 3, 0)), some (.inl r), some (.inl (v + 1))], [], ck_up s (c + 3) ((v * 4) + r) 1000000000)) (ps := [0 ≤ (v * 4) + r ∧ (v * 4) + r < ((40 : Nat) : Int)]) rfl ⟨⟨by omega, by omega⟩, trivial⟩ ?_
    exact k _ ⟨by omega, by omega, fun b j => by
      simp only [ck_up, hI]
      exact ck_ite_or (by omega)⟩
  · obtain ⟨h0, h1, hI⟩ := hI
    refine ck_go_run 3 (X1 := (if v < 10 then 30 else 48, [some (.inr (c, 3, 0)), some (.inl r), some (.inl v)], [], s)) (ps := [ck_rg v, ck_rg 10]) rfl ⟨(ck_rgo (by omega) (by omega)), (ck_rgo (by omega) (by omega)), trivial⟩ ?_
    refine ck_go_f (by omega) ?_
    refine ck_eV ⟨rfl, ?_, ?_⟩ rfl rfl rfl
    · intro b j hb
      simp only [hI, ck_up]
      (repeat' split) <;> first | rfl | omega
    · unfold ck_dNull
      refine ck_N_ext ?_ ?_ ?_ ?_ ?_ ?_ <;> intros <;> (first | rw [ck_r_kn] | rw [ck_r_lo] | rw [ck_r_hi] | rw [ck_r_va] | rw [ck_r_sz] | rw [ck_r_th]) <;> (try assumption) <;> simp only [hI, ck_up, true_and] <;> (repeat' split) <;> first | rfl | omega
