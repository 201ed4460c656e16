section CKX
variable {s : ck_M} {c n r : Int} {f : ck_D}
theorem ck_x_kn (h : ck_rd s c = f) (h0 : 0 ≤ n) (h1 : n < 10) : s (c + 1) n = ck_kn f n := by rw [← h]; exact (ck_r_kn h0 h1).symm
theorem ck_x_lo (h : ck_rd s c = f) (h0 : 0 ≤ n) (h1 : n < 10) : s (c + 2) n = ck_lo f n := by rw [← h]; exact (ck_r_lo h0 h1).symm
theorem ck_x_hi (h : ck_rd s c = f) (h0 : 0 ≤ n) (h1 : n < 10) (h2 : 0 ≤ r) (h3 : r < 4) : s (c + 3) (n * 4 + r) = ck_hi f n r := by rw [← h]; exact (ck_r_hi h0 h1 h2 h3).symm
theorem ck_x_va (h : ck_rd s c = f) (h2 : 0 ≤ r) (h3 : r < 4) : s (c + 4) r = ck_va f r := by rw [← h]; exact (ck_r_va h2 h3).symm
theorem ck_x_sz (h : ck_rd s c = f) (h2 : 0 ≤ r) (h3 : r < 4) : s (c + 5) r = ck_sz f r := by rw [← h]; exact (ck_r_sz h2 h3).symm
theorem ck_x_th (h : ck_rd s c = f) (h2 : 0 ≤ r) (h3 : r < 4) : s (c + 6) r = ck_th f r := by rw [← h]; exact (ck_r_th h2 h3).symm
end CKX
theorem ck_f6_tr {a b d : ck_M} {c : Int} (h : ck_f6 a b c) (h2 : ck_f6 b d c) : ck_f6 a d c := fun x j hx => (h2 x j hx).trans (h x j hx)
theorem ck_sa_0 {A B : Int} (h : ck_sa A B = 0) : ¬ (A = B ∧ A ≠ 0) := by
  intro q
  unfold ck_sa at h
  rw [if_pos q] at h
  cases h
theorem ck_sa_1 {A B : Int} (h : ¬ ck_sa A B = 0) : A = B ∧ A ≠ 0 := by
  by_cases q : A = B ∧ A ≠ 0
  · exact q
  · unfold ck_sa at h
    rw [if_neg q] at h
    exact absurd rfl h
theorem cx_bL {a A : Int} (e : a = A) (ha : ck_rg A) (σ : ck_M) : ck_cal 1 cm_Fa_boundedLow [.inl a] σ (fun r σ' => r = some (ck_bL A) ∧ σ' = σ) := by subst e; exact cx_boundedLow ha σ
theorem cx_bH {a A : Int} (e : a = A) (ha : ck_rg A) (σ : ck_M) : ck_cal 1 cm_Fa_boundedHigh [.inl a] σ (fun r σ' => r = some (ck_bH A) ∧ σ' = σ) := by subst e; exact cx_boundedHigh ha σ
theorem cx_mx {a b A B : Int} (e : a = A) (e2 : b = B) (ha : ck_rg A) (hb : ck_rg B) (σ : ck_M) : ck_cal 1 cm_Jm_max [.inl a, .inl b] σ (fun r σ' => r = some (ck_mx A B) ∧ σ' = σ) := by subst e e2; exact cx_max ha hb σ
theorem cx_mn {a b A B : Int} (e : a = A) (e2 : b = B) (ha : ck_rg A) (hb : ck_rg B) (σ : ck_M) : ck_cal 1 cm_Jm_min [.inl a, .inl b] σ (fun r σ' => r = some (ck_mn A B) ∧ σ' = σ) := by subst e e2; exact cx_min ha hb σ
theorem ck_bHb {v : Int} (h : -2000000000 ≤ v) (h2 : v ≤ 2000000000) : -2000000000 ≤ ck_bH v ∧ ck_bH v ≤ 1000000000 := by unfold ck_bH; split <;> omega
theorem ck_bLb {v : Int} (h : -2000000000 ≤ v) (h2 : v ≤ 2000000000) : -1000000000 ≤ ck_bL v ∧ ck_bL v ≤ 2000000000 := by unfold ck_bL; split <;> omega
theorem ck_hcb {A B v : Int} (hv : -1000000000 ≤ v ∧ v ≤ 1000000000) (hB : -1000000000 ≤ B ∧ B ≤ 1000000000) : -2000000000 ≤ ck_hc A B v ∧ ck_hc A B v ≤ 1000000000 := by
  unfold ck_hc ck_bH
  (repeat' split) <;> omega
/-- a place that isn't written -/
theorem ck_st0n {s M : ck_M} {a v : Int} {g : Int → Int} (hI1 : ∀ b j, (b ≠ a ∨ j < 0 ∨ v ≤ j) → s b j = M b j) (hI2 : ∀ q, 0 ≤ q → q < v → s a q = g q) (hx : M a v = g v) (hv : 0 ≤ v) : (∀ b j, (b ≠ a ∨ j < 0 ∨ v + 1 ≤ j) → s b j = M b j) ∧ ∀ q, 0 ≤ q → q < v + 1 → s a q = g q := by
  refine ⟨fun b j h => hI1 b j (by omega), fun q h0 h1 => ?_⟩
  by_cases hq : q = v
  · subst hq
    rw [hI1 a q (by omega), hx]
  · exact hI2 q h0 (by omega)
theorem ck_st1n {s M : ck_M} {a base v : Int} {g : Int → Int} (hI1 : ∀ b j, (b ≠ a ∨ j < base ∨ base + v ≤ j) → s b j = M b j) (hI2 : ∀ q, 0 ≤ q → q < v → s a (base + q) = g q) (hx : M a (base + v) = g v) (hv : 0 ≤ v) : (∀ b j, (b ≠ a ∨ j < base ∨ base + (v + 1) ≤ j) → s b j = M b j) ∧ ∀ q, 0 ≤ q → q < v + 1 → s a (base + q) = g q := by
  refine ⟨fun b j h => hI1 b j (by omega), fun q h0 h1 => ?_⟩
  by_cases hq : q = v
  · subst hq
    rw [hI1 a (base + q) (by omega), hx]
  · exact hI2 q h0 (by omega)
def ck_dSet (x k : Int) (f : ck_D) : ck_D := ck_N (fun n => if n = x then k else ck_kn f n) (fun n => if n = x then k else ck_lo f n) (fun n q => if n = x then ck_hoc f k q else ck_hi f n q) (ck_va f) (ck_sz f) (ck_th f)
theorem cx_setConstant {c x k : Int} (hx : 0 ≤ x ∧ x < 10) (hk : -1000000 ≤ k ∧ k ≤ 1000000) {σ : ck_M} {f : ck_D} (hf : ck_rd σ c = f) (hB : ck_fb f) : ck_cal 3 cm_Fa_setConstant [.inr (c, 3, 0), .inl x, .inl k] σ (fun q σ' => q = none ∧ ck_f6 σ σ' c ∧ ck_rd σ' c = ck_dSet x k f) := by
  refine ck_cal_of ?_
  refine ck_go_run 12 (X1 := (16, [some (.inr (c, 3, 0)), some (.inl x), some (.inl k), some (.inl 0)], [], ck_up (ck_up σ (c + 1) x k) (c + 2) x k)) (ps := [0 ≤ x ∧ x < ((10 : Nat) : Int), 0 ≤ x ∧ x < ((10 : Nat) : Int)]) rfl ⟨⟨by omega, by omega⟩, ⟨by omega, by omega⟩, trivial⟩ ?_
  refine ck_for 16 (fun v => [some (.inr (c, 3, 0)), some (.inl x), some (.inl k), some (.inl v)]) 4 (fun v s => 0 ≤ v ∧ v ≤ 4 ∧ (∀ b j, (b ≠ c + 3 ∨ j < x * 4 ∨ x * 4 + v ≤ j) → s b j = (ck_up (ck_up σ (c + 1) x k) (c + 2) x k) b j) ∧ ∀ q, 0 ≤ q → q < v → s (c + 3) (x * 4 + q) = ck_hc (ck_va f q) (ck_sz f q) k) (fun v s hv hI kk => ?_) (fun v s hv hI => ?_) 0 _ ⟨by omega, by omega, fun _ _ _ => rfl, fun _ _ _ => by omega⟩
  · obtain ⟨h0, h4, hI1, hI2⟩ := hI
    have e4 : s (c + 4) (v) = σ (c + 4) v := by
      rw [hI1 (c + 4) (v) (by omega)]
      simp only [ck_up]
      (repeat' split) <;> first | rfl | omega
    rw [ck_x_va hf h0 hv] at e4
    have e5 : s (c + 5) (v) = σ (c + 5) v := by
      rw [hI1 (c + 5) (v) (by omega)]
      simp only [ck_up]
      (repeat' split) <;> first | rfl | omega
    rw [ck_x_sz hf h0 hv] at e5
    have b5 := hB.2.2.2.2.1 v
    have b4 := hB.2.2.2.1 v
    refine ck_go_run 3 (X1 := (if v < 4 then 21 else 43, [some (.inr (c, 3, 0)), some (.inl x), some (.inl k), some (.inl v)], [], s)) (ps := [ck_rg v, ck_rg 4]) rfl ⟨(ck_rgo (by omega) (by omega)), (ck_rgo (by omega) (by omega)), trivial⟩ ?_
    refine ck_go_t hv ?_
    refine ck_go_run 10 (X1 := (33, [some (.inr (c, 3, 0)), some (.inl x), some (.inl k), some (.inl v)], [.inl v, .inl k, .inr (c, 3, 0), .inl ((x * 4) + v), .inr (c + 3, 0, 40)], s)) (ps := []) rfl trivial ?_
    refine ck_go_cal (rest := [.inl ((x * 4) + v), .inr (c + 3, 0, 40)]) (ck_cal_le (by decide) (cx_hoc (c := c) (v := k) (r := v) (by omega) e4 e5 (by omega) b4 b5)) ⟨_, rfl, Or.inl ⟨_, rfl⟩, rfl, rfl, rfl, Nat.le_of_ble_eq_true rfl, fun _ => ⟨_, _, rfl⟩⟩ ?_
    rintro _ s' ⟨rfl, e'⟩
    rw [e']
    clear e' s'
    refine ck_go_run 3 (X1 := (16, [some (.inr (c, 3, 0)), some (.inl x), some (.inl k), some (.inl (v + 1))], [], ck_up s (c + 3) ((x * 4) + v) (ck_hc (ck_va f v) (ck_sz f v) k))) (ps := [0 ≤ (x * 4) + v ∧ (x * 4) + v < ((40 : Nat) : Int)]) rfl ⟨⟨by omega, by omega⟩, trivial⟩ ?_
    exact kk _ ⟨by omega, by omega, ck_st1 (g := fun q => ck_hc (ck_va f q) (ck_sz f q) k) hI1 hI2 rfl h0⟩
  · obtain ⟨h0, h4, hI1, hI2⟩ := hI
    refine ck_go_run 3 (X1 := (if v < 4 then 21 else 43, [some (.inr (c, 3, 0)), some (.inl x), some (.inl k), some (.inl v)], [], s)) (ps := [ck_rg v, ck_rg 4]) rfl ⟨(ck_rgo (by omega) (by omega)), (ck_rgo (by omega) (by omega)), trivial⟩ ?_
    refine ck_go_f (by omega) ?_
    refine ck_eV ⟨rfl, ?_, ?_⟩ rfl rfl rfl
    · intro b j hb
      rw [hI1 b j (by omega)]
      simp only [ck_up]
      (repeat' split) <;> first | rfl | omega
    · unfold ck_dSet
      refine ck_N_ext (fun n a0 a1 => ?_) (fun n a0 a1 => ?_) (fun n q a0 a1 b0 b1 => ?_) (fun q b0 b1 => ?_) (fun q b0 b1 => ?_) (fun q b0 b1 => ?_)
      · rw [← ck_x_kn hf a0 a1, hI1 (c + 1) n (by omega)]
        simp only [ck_up, true_and]
        (repeat' split) <;> first | rfl | omega
      · rw [← ck_x_lo hf a0 a1, hI1 (c + 2) n (by omega)]
        simp only [ck_up, true_and]
        (repeat' split) <;> first | rfl | omega
      · by_cases hn : n = x
        · subst hn
          rw [if_pos rfl, hI2 q b0 (by omega), ck_hoc_eq]
        · rw [if_neg hn, ← ck_x_hi hf a0 a1 b0 b1, hI1 (c + 3) (n * 4 + q) (by omega)]
          simp only [ck_up]
          (repeat' split) <;> first | rfl | omega
      · rw [← ck_x_va hf b0 b1, hI1 (c + 4) q (by omega)]
        simp only [ck_up, true_and]
        (repeat' split) <;> first | rfl | omega
      · rw [← ck_x_sz hf b0 b1, hI1 (c + 5) q (by omega)]
        simp only [ck_up, true_and]
        (repeat' split) <;> first | rfl | omega
      · rw [← ck_x_th hf b0 b1, hI1 (c + 6) q (by omega)]
        simp only [ck_up, true_and]
        (repeat' split) <;> first | rfl | omega
def ck_dSum (x y z : Int) (f : ck_D) : ck_D := ck_N (fun n => if n = x then (if ck_kn f y = 1000000000 then 1000000000 else ck_kn f y + z) else ck_kn f n) (fun n => if n = x then ck_bL (ck_lo f y + z) else ck_lo f n) (fun n q => if n = x then ck_bH (ck_hi f y q + z) else ck_hi f n q) (ck_va f) (ck_sz f) (ck_th f)
theorem cx_setSum {c x y z : Int} (hx : 0 ≤ x ∧ x < 10) (hy : 0 ≤ y ∧ y < 10) (hz : -1000 ≤ z ∧ z ≤ 1000) {σ : ck_M} {f : ck_D} (hf : ck_rd σ c = f) (hB : ck_fb f) : ck_cal 2 cm_Fa_setSum [.inr (c, 3, 0), .inl x, .inl y, .inl z] σ (fun q σ' => q = none ∧ ck_f6 σ σ' c ∧ ck_rd σ' c = ck_dSum x y z f) := by
  refine ck_cal_of ?_
  have bk := hB.1 y
  rw [← ck_x_kn hf hy.1 hy.2] at bk
  have bl := hB.2.1 y
  refine ck_go_run 9 (X1 := (if σ (c + 1) y = 1000000000 then 16 else 21, [some (.inr (c, 3, 0)), some (.inl x), some (.inl y), some (.inl z), none], [.inl x, .inr (c + 1, 0, 10)], σ)) (ps := [0 ≤ y ∧ y < ((10 : Nat) : Int), ck_rg (σ (c + 1) y), ck_rg 1000000000]) rfl ⟨⟨by omega, by omega⟩, (ck_rgo (by omega) (by omega)), (ck_rgo (by omega) (by omega)), trivial⟩ ?_
  refine ck_go_ite (fun h1 => ?_) (fun h1 => ?_)
  · refine ck_go_run 12 (X1 := (43, [some (.inr (c, 3, 0)), some (.inl x), some (.inl y), some (.inl z), none], [.inl (((ck_up σ (c + 1) x 1000000000) (c + 2) y) + z), .inl x, .inr (c + 2, 0, 10)], ck_up σ (c + 1) x 1000000000)) (ps := [0 ≤ x ∧ x < ((10 : Nat) : Int), 0 ≤ y ∧ y < ((10 : Nat) : Int)]) rfl ⟨⟨by omega, by omega⟩, ⟨by omega, by omega⟩, trivial⟩ ?_
    refine ck_go_cal (rest := [.inl x, .inr (c + 2, 0, 10)]) (ck_cal_le (by decide) (cx_bL (a := ((ck_up σ (c + 1) x 1000000000) (c + 2) y) + z) (A := ck_lo f y + z) (by rw [← ck_x_lo hf hy.1 hy.2]; simp only [ck_up]; rw [if_neg (by omega)]) (ck_rgo (by omega) (by omega)) _)) ⟨_, rfl, Or.inr ⟨_, rfl⟩, rfl, rfl, rfl, Nat.le_of_ble_eq_true rfl, fun h => absurd h (by decide)⟩ ?_
    rintro _ s' ⟨rfl, e'⟩
    rw [e']
    clear e' s'
    refine ck_go_run 3 (X1 := (50, [some (.inr (c, 3, 0)), some (.inl x), some (.inl y), some (.inl z), some (.inl 0)], [], ck_up (ck_up σ (c + 1) x 1000000000) (c + 2) x (ck_bL (ck_lo f y + z)))) (ps := [0 ≤ x ∧ x < ((10 : Nat) : Int)]) rfl ⟨⟨by omega, by omega⟩, trivial⟩ ?_
    refine ck_for 50 (fun v => [some (.inr (c, 3, 0)), some (.inl x), some (.inl y), some (.inl z), some (.inl v)]) 4 (fun v s => 0 ≤ v ∧ v ≤ 4 ∧ (∀ b j, (b ≠ c + 3 ∨ j < x * 4 ∨ x * 4 + v ≤ j) → s b j = (ck_up (ck_up σ (c + 1) x 1000000000) (c + 2) x (ck_bL (ck_lo f y + z))) b j) ∧ ∀ q, 0 ≤ q → q < v → s (c + 3) (x * 4 + q) = ck_bH (ck_hi f y q + z)) (fun v s hv hI kk => ?_) (fun v s hv hI => ?_) 0 _ ⟨by omega, by omega, fun _ _ _ => rfl, fun _ _ _ => by omega⟩
    · obtain ⟨h0, h4, hI1, hI2⟩ := hI
      have e3 : s (c + 3) (y * 4 + v) = ck_hi f y v := by
        rw [← ck_x_hi hf hy.1 hy.2 h0 hv, hI1 (c + 3) (y * 4 + v) (by omega)]
        simp only [ck_up]
        (repeat' split) <;> first | rfl | omega
      have b3 := hB.2.2.1 y v
      refine ck_go_run 3 (X1 := (if v < 4 then 56 else 89, [some (.inr (c, 3, 0)), some (.inl x), some (.inl y), some (.inl z), some (.inl v)], [], s)) (ps := [ck_rg v, ck_rg 4]) rfl ⟨(ck_rgo (by omega) (by omega)), (ck_rgo (by omega) (by omega)), trivial⟩ ?_
      refine ck_go_t hv ?_
      refine ck_go_run 17 (X1 := (79, [some (.inr (c, 3, 0)), some (.inl x), some (.inl y), some (.inl z), some (.inl v)], [.inl ((s (c + 3) ((y * 4) + v)) + z), .inl ((x * 4) + v), .inr (c + 3, 0, 40)], s)) (ps := [0 ≤ (y * 4) + v ∧ (y * 4) + v < ((40 : Nat) : Int)]) rfl ⟨⟨by omega, by omega⟩, trivial⟩ ?_
      refine ck_go_cal (rest := [.inl ((x * 4) + v), .inr (c + 3, 0, 40)]) (ck_cal_le (by decide) (cx_bH (a := (s (c + 3) ((y * 4) + v)) + z) (A := ck_hi f y v + z) (by rw [← e3]) (ck_rgo (by omega) (by omega)) _)) ⟨_, rfl, Or.inr ⟨_, rfl⟩, rfl, rfl, rfl, Nat.le_of_ble_eq_true rfl, fun h => absurd h (by decide)⟩ ?_
      rintro _ s' ⟨rfl, e'⟩
      rw [e']
      clear e' s'
      refine ck_go_run 3 (X1 := (50, [some (.inr (c, 3, 0)), some (.inl x), some (.inl y), some (.inl z), some (.inl (v + 1))], [], ck_up s (c + 3) ((x * 4) + v) (ck_bH (ck_hi f y v + z)))) (ps := [0 ≤ (x * 4) + v ∧ (x * 4) + v < ((40 : Nat) : Int)]) rfl ⟨⟨by omega, by omega⟩, trivial⟩ ?_
      exact kk _ ⟨by omega, by omega, ck_st1 (g := fun q => ck_bH (ck_hi f y q + z)) hI1 hI2 rfl h0⟩
    · obtain ⟨h0, h4, hI1, hI2⟩ := hI
      refine ck_go_run 3 (X1 := (if v < 4 then 56 else 89, [some (.inr (c, 3, 0)), some (.inl x), some (.inl y), some (.inl z), some (.inl v)], [], s)) (ps := [ck_rg v, ck_rg 4]) rfl ⟨(ck_rgo (by omega) (by omega)), (ck_rgo (by omega) (by omega)), trivial⟩ ?_
      refine ck_go_f (by omega) ?_
      refine ck_eV ⟨rfl, ?_, ?_⟩ rfl rfl rfl
      · intro b j hb
        rw [hI1 b j (by omega)]
        simp only [ck_up]
        (repeat' split) <;> first | rfl | omega
      · unfold ck_dSum
        refine ck_N_ext (fun n a0 a1 => ?_) (fun n a0 a1 => ?_) (fun n q a0 a1 b0 b1 => ?_) (fun q b0 b1 => ?_) (fun q b0 b1 => ?_) (fun q b0 b1 => ?_)
        · rw [← ck_x_kn hf a0 a1, ← ck_x_kn hf hy.1 hy.2, hI1 (c + 1) n (by omega)]
          simp only [ck_up, true_and]
          (repeat' split) <;> first | rfl | omega
        · rw [← ck_x_lo hf a0 a1, hI1 (c + 2) n (by omega)]
          simp only [ck_up, true_and]
          (repeat' split) <;> first | rfl | omega
        · by_cases hn : n = x
          · subst hn
            rw [if_pos rfl, hI2 q b0 (by omega)]
          · rw [if_neg hn, ← ck_x_hi hf a0 a1 b0 b1, hI1 (c + 3) (n * 4 + q) (by omega)]
            simp only [ck_up]
            (repeat' split) <;> first | rfl | omega
        · rw [← ck_x_va hf b0 b1, hI1 (c + 4) q (by omega)]
          simp only [ck_up, true_and]
          (repeat' split) <;> first | rfl | omega
        · rw [← ck_x_sz hf b0 b1, hI1 (c + 5) q (by omega)]
          simp only [ck_up, true_and]
          (repeat' split) <;> first | rfl | omega
        · rw [← ck_x_th hf b0 b1, hI1 (c + 6) q (by omega)]
          simp only [ck_up, true_and]
          (repeat' split) <;> first | rfl | omega
  · refine ck_go_run 16 (X1 := (43, [some (.inr (c, 3, 0)), some (.inl x), some (.inl y), some (.inl z), none], [.inl (((ck_up σ (c + 1) x ((σ (c + 1) y) + z)) (c + 2) y) + z), .inl x, .inr (c + 2, 0, 10)], ck_up σ (c + 1) x ((σ (c + 1) y) + z))) (ps := [0 ≤ y ∧ y < ((10 : Nat) : Int), 0 ≤ x ∧ x < ((10 : Nat) : Int), 0 ≤ y ∧ y < ((10 : Nat) : Int)]) rfl ⟨⟨by omega, by omega⟩, ⟨by omega, by omega⟩, ⟨by omega, by omega⟩, trivial⟩ ?_
    refine ck_go_cal (rest := [.inl x, .inr (c + 2, 0, 10)]) (ck_cal_le (by decide) (cx_bL (a := ((ck_up σ (c + 1) x ((σ (c + 1) y) + z)) (c + 2) y) + z) (A := ck_lo f y + z) (by rw [← ck_x_lo hf hy.1 hy.2]; simp only [ck_up]; rw [if_neg (by omega)]) (ck_rgo (by omega) (by omega)) _)) ⟨_, rfl, Or.inr ⟨_, rfl⟩, rfl, rfl, rfl, Nat.le_of_ble_eq_true rfl, fun h => absurd h (by decide)⟩ ?_
    rintro _ s' ⟨rfl, e'⟩
    rw [e']
    clear e' s'
    refine ck_go_run 3 (X1 := (50, [some (.inr (c, 3, 0)), some (.inl x), some (.inl y), some (.inl z), some (.inl 0)], [], ck_up (ck_up σ (c + 1) x ((σ (c + 1) y) + z)) (c + 2) x (ck_bL (ck_lo f y + z)))) (ps := [0 ≤ x ∧ x < ((10 : Nat) : Int)]) rfl ⟨⟨by omega, by omega⟩, trivial⟩ ?_
    refine ck_for 50 (fun v => [some (.inr (c, 3, 0)), some (.inl x), some (.inl y), some (.inl z), some (.inl v)]) 4 (fun v s => 0 ≤ v ∧ v ≤ 4 ∧ (∀ b j, (b ≠ c + 3 ∨ j < x * 4 ∨ x * 4 + v ≤ j) → s b j = (ck_up (ck_up σ (c + 1) x ((σ (c + 1) y) + z)) (c + 2) x (ck_bL (ck_lo f y + z))) b j) ∧ ∀ q, 0 ≤ q → q < v → s (c + 3) (x * 4 + q) = ck_bH (ck_hi f y q + z)) (fun v s hv hI kk => ?_) (fun v s hv hI => ?_) 0 _ ⟨by omega, by omega, fun _ _ _ => rfl, fun _ _ _ => by omega⟩
    · obtain ⟨h0, h4, hI1, hI2⟩ := hI
      have e3 : s (c + 3) (y * 4 + v) = ck_hi f y v := by
        rw [← ck_x_hi hf hy.1 hy.2 h0 hv, hI1 (c + 3) (y * 4 + v) (by omega)]
        simp only [ck_up]
        (repeat' split) <;> first | rfl | omega
      have b3 := hB.2.2.1 y v
      refine ck_go_run 3 (X1 := (if v < 4 then 56 else 89, [some (.inr (c, 3, 0)), some (.inl x), some (.inl y), some (.inl z), some (.inl v)], [], s)) (ps := [ck_rg v, ck_rg 4]) rfl ⟨(ck_rgo (by omega) (by omega)), (ck_rgo (by omega) (by omega)), trivial⟩ ?_
      refine ck_go_t hv ?_
      refine ck_go_run 17 (X1 := (79, [some (.inr (c, 3, 0)), some (.inl x), some (.inl y), some (.inl z), some (.inl v)], [.inl ((s (c + 3) ((y * 4) + v)) + z), .inl ((x * 4) + v), .inr (c + 3, 0, 40)], s)) (ps := [0 ≤ (y * 4) + v ∧ (y * 4) + v < ((40 : Nat) : Int)]) rfl ⟨⟨by omega, by omega⟩, trivial⟩ ?_
      refine ck_go_cal (rest := [.inl ((x * 4) + v), .inr (c + 3, 0, 40)]) (ck_cal_le (by decide) (cx_bH (a := (s (c + 3) ((y * 4) + v)) + z) (A := ck_hi f y v + z) (by rw [← e3]) (ck_rgo (by omega) (by omega)) _)) ⟨_, rfl, Or.inr ⟨_, rfl⟩, rfl, rfl, rfl, Nat.le_of_ble_eq_true rfl, fun h => absurd h (by decide)⟩ ?_
      rintro _ s' ⟨rfl, e'⟩
      rw [e']
      clear e' s'
      refine ck_go_run 3 (X1 := (50, [some (.inr (c, 3, 0)), some (.inl x), some (.inl y), some (.inl z), some (.inl (v + 1))], [], ck_up s (c + 3) ((x * 4) + v) (ck_bH (ck_hi f y v + z)))) (ps := [0 ≤ (x * 4) + v ∧ (x * 4) + v < ((40 : Nat) : Int)]) rfl ⟨⟨by omega, by omega⟩, trivial⟩ ?_
      exact kk _ ⟨by omega, by omega, ck_st1 (g := fun q => ck_bH (ck_hi f y q + z)) hI1 hI2 rfl h0⟩
    · obtain ⟨h0, h4, hI1, hI2⟩ := hI
      refine ck_go_run 3 (X1 := (if v < 4 then 56 else 89, [some (.inr (c, 3, 0)), some (.inl x), some (.inl y), some (.inl z), some (.inl v)], [], s)) (ps := [ck_rg v, ck_rg 4]) rfl ⟨(ck_rgo (by omega) (by omega)), (ck_rgo (by omega) (by omega)), trivial⟩ ?_
      refine ck_go_f (by omega) ?_
      refine ck_eV ⟨rfl, ?_, ?_⟩ rfl rfl rfl
      · intro b j hb
        rw [hI1 b j (by omega)]
        simp only [ck_up]
        (repeat' split) <;> first | rfl | omega
      · unfold ck_dSum
        refine ck_N_ext (fun n a0 a1 => ?_) (fun n a0 a1 => ?_) (fun n q a0 a1 b0 b1 => ?_) (fun q b0 b1 => ?_) (fun q b0 b1 => ?_) (fun q b0 b1 => ?_)
        · rw [← ck_x_kn hf a0 a1, ← ck_x_kn hf hy.1 hy.2, hI1 (c + 1) n (by omega)]
          simp only [ck_up, true_and]
          (repeat' split) <;> first | rfl | omega
        · rw [← ck_x_lo hf a0 a1, hI1 (c + 2) n (by omega)]
          simp only [ck_up, true_and]
          (repeat' split) <;> first | rfl | omega
        · by_cases hn : n = x
          · subst hn
            rw [if_pos rfl, hI2 q b0 (by omega)]
          · rw [if_neg hn, ← ck_x_hi hf a0 a1 b0 b1, hI1 (c + 3) (n * 4 + q) (by omega)]
            simp only [ck_up]
            (repeat' split) <;> first | rfl | omega
        · rw [← ck_x_va hf b0 b1, hI1 (c + 4) q (by omega)]
          simp only [ck_up, true_and]
          (repeat' split) <;> first | rfl | omega
        · rw [← ck_x_sz hf b0 b1, hI1 (c + 5) q (by omega)]
          simp only [ck_up, true_and]
          (repeat' split) <;> first | rfl | omega
        · rw [← ck_x_th hf b0 b1, hI1 (c + 6) q (by omega)]
          simp only [ck_up, true_and]
          (repeat' split) <;> first | rfl | omega
def ck_dMark (a : Int) (f : ck_D) : ck_D := ck_N (ck_kn f) (ck_lo f) (ck_hi f) (ck_va f) (ck_sz f) (fun q => if ck_va f q = ck_va f a ∧ ck_va f q ≠ 0 then 1 else ck_th f q)
theorem cx_markThere {c a : Int} (ha : 0 ≤ a ∧ a < 4) {σ : ck_M} {f : ck_D} (hf : ck_rd σ c = f) (hB : ck_fb f) : ck_cal 2 cm_Fa_markThere [.inr (c, 3, 0), .inl a] σ (fun q σ' => q = none ∧ ck_f6 σ σ' c ∧ ck_rd σ' c = ck_dMark a f) := by
  refine ck_cal_of ?_
  refine ck_go_run 2 (X1 := (2, [some (.inr (c, 3, 0)), some (.inl a), some (.inl 0)], [], σ)) (ps := []) rfl trivial ?_
  refine ck_for 2 (fun v => [some (.inr (c, 3, 0)), some (.inl a), some (.inl v)]) 4 (fun v s => 0 ≤ v ∧ v ≤ 4 ∧ (∀ b j, (b ≠ c + 6 ∨ j < 0 ∨ v ≤ j) → s b j = (σ) b j) ∧ ∀ q, 0 ≤ q → q < v → s (c + 6) q = (if ck_va f q = ck_va f a ∧ ck_va f q ≠ 0 then 1 else ck_th f q)) (fun v s hv hI kk => ?_) (fun v s hv hI => ?_) 0 _ ⟨by omega, by omega, fun _ _ _ => rfl, fun _ _ _ => by omega⟩
  · obtain ⟨h0, h4, hI1, hI2⟩ := hI
    have e4 : s (c + 4) v = ck_va f v := by rw [← ck_x_va hf h0 hv]; exact hI1 _ _ (by omega)
    have e4a : s (c + 4) a = ck_va f a := by rw [← ck_x_va hf ha.1 ha.2]; exact hI1 _ _ (by omega)
    have b4 := hB.2.2.2.1 v
    have b4a := hB.2.2.2.1 a
    refine ck_go_run 3 (X1 := (if v < 4 then 7 else 29, [some (.inr (c, 3, 0)), some (.inl a), some (.inl v)], [], s)) (ps := [ck_rg v, ck_rg 4]) rfl ⟨(ck_rgo (by omega) (by omega)), (ck_rgo (by omega) (by omega)), trivial⟩ ?_
    refine ck_go_t hv ?_
    refine ck_go_run 3 (X1 := (10, [some (.inr (c, 3, 0)), some (.inl a), some (.inl v)], [.inl a, .inl v, .inr (c, 3, 0)], s)) (ps := []) rfl trivial ?_
    refine ck_go_cal (rest := []) (ck_cal_le (by decide) (cx_same (c := c) (r := v) (a := a) (by omega) ha e4 e4a (ck_rgo (by omega) (by omega)) (ck_rgo (by omega) (by omega)))) ⟨_, rfl, Or.inl ⟨_, rfl⟩, rfl, rfl, rfl, Nat.le_of_ble_eq_true rfl, fun _ => ⟨_, _, rfl⟩⟩ ?_
    rintro _ s' ⟨rfl, e'⟩
    rw [e']
    clear e' s'
    refine ck_go_run 1 (X1 := (if ck_sa (ck_va f v) (ck_va f a) = 0 then 23 else 16, [some (.inr (c, 3, 0)), some (.inl a), some (.inl v)], [], s)) (ps := [ck_rg (ck_sa (ck_va f v) (ck_va f a))]) rfl ⟨ck_rg_sa, trivial⟩ ?_
    refine ck_go_ite (fun h1 => ?_) (fun h1 => ?_)
    · refine ck_go_run 2 (X1 := (2, [some (.inr (c, 3, 0)), some (.inl a), some (.inl (v + 1))], [], s)) (ps := []) rfl trivial ?_
      exact kk _ ⟨by omega, by omega, ck_st0n (g := fun q => (if ck_va f q = ck_va f a ∧ ck_va f q ≠ 0 then 1 else ck_th f q)) hI1 hI2 (by rw [ck_x_th hf h0 hv, if_neg (ck_sa_0 h1)]) h0⟩
    · refine ck_go_run 7 (X1 := (2, [some (.inr (c, 3, 0)), some (.inl a), some (.inl (v + 1))], [], ck_up s (c + 6) v 1)) (ps := [0 ≤ v ∧ v < ((4 : Nat) : Int), 1 = 0 ∨ 1 = 1]) rfl ⟨⟨by omega, by omega⟩, Or.inr rfl, trivial⟩ ?_
      exact kk _ ⟨by omega, by omega, ck_st0 (g := fun q => (if ck_va f q = ck_va f a ∧ ck_va f q ≠ 0 then 1 else ck_th f q)) hI1 hI2 (by rw [if_pos (ck_sa_1 h1)]) h0⟩
  · obtain ⟨h0, h4, hI1, hI2⟩ := hI
    refine ck_go_run 3 (X1 := (if v < 4 then 7 else 29, [some (.inr (c, 3, 0)), some (.inl a), some (.inl v)], [], s)) (ps := [ck_rg v, ck_rg 4]) rfl ⟨(ck_rgo (by omega) (by omega)), (ck_rgo (by omega) (by omega)), trivial⟩ ?_
    refine ck_go_f (by omega) ?_
    refine ck_eV ⟨rfl, ?_, ?_⟩ rfl rfl rfl
    · intro b j hb
      rw [hI1 b j (by omega)]
    · unfold ck_dMark
      refine ck_N_ext (fun n a0 a1 => ?_) (fun n a0 a1 => ?_) (fun n q a0 a1 b0 b1 => ?_) (fun q b0 b1 => ?_) (fun q b0 b1 => ?_) (fun q b0 b1 => ?_)
      · rw [← ck_x_kn hf a0 a1, hI1 (c + 1) n (by omega)]
      · rw [← ck_x_lo hf a0 a1, hI1 (c + 2) n (by omega)]
      · rw [← ck_x_hi hf a0 a1 b0 b1, hI1 (c + 3) (n * 4 + q) (by omega)]
      · rw [← ck_x_va hf b0 b1, hI1 (c + 4) q (by omega)]
      · rw [← ck_x_sz hf b0 b1, hI1 (c + 5) q (by omega)]
      · rw [hI2 q b0 (by omega)]
