theorem ck_x_hr {s : ck_M} {c i : Int} {f : ck_D} (h : ck_rd s c = f) (h0 : 0 ≤ i) (h1 : i < 40) : s (c + 3) i = ck_hi f (i / 4) (i % 4) := by
  rw [← ck_x_hi h (n := i / 4) (r := i % 4) (by omega) (by omega) (by omega) (by omega)]
  congr 1
  omega
def ck_dFirst : ck_D := ck_N (fun _ => 0) (fun _ => 0) (fun _ _ => 1000000000) (fun _ => 0) (fun _ => 1000000000) (fun _ => 0)
def ck_dFv (v : Int) (f : ck_D) : ck_D := ck_N (fun _ => 0) (fun _ => 0) (fun n q => if q < v then 1000000000 else ck_hi f n q) (fun q => if q < v then 0 else ck_va f q) (fun q => if q < v then 1000000000 else ck_sz f q) (fun q => if q < v then 0 else ck_th f q)
theorem ck_dFv_s {v : Int} {f : ck_D} (h0 : 0 ≤ v) (h4 : v < 4) : ck_dNull v (ck_dFv v f) = ck_dFv (v + 1) f := by
  unfold ck_dNull ck_dFv
  refine ck_N_ext (fun n a0 a1 => ?_) (fun n a0 a1 => ?_) (fun n q a0 a1 b0 b1 => ?_) (fun q b0 b1 => ?_) (fun q b0 b1 => ?_) (fun q b0 b1 => ?_)
  · rw [ck_N_kn a0 a1]
  · rw [ck_N_lo a0 a1]
  · rw [ck_N_hi a0 a1 b0 b1]
    (repeat' split) <;> first | rfl | omega
  · rw [ck_N_va b0 b1]
    (repeat' split) <;> first | rfl | omega
  · rw [ck_N_sz b0 b1]
    (repeat' split) <;> first | rfl | omega
  · rw [ck_N_th b0 b1]
    (repeat' split) <;> first | rfl | omega
theorem ck_dFv_4 {f : ck_D} {v : Int} (h : 4 ≤ v) : ck_dFv v f = ck_dFirst := by
  unfold ck_dFv ck_dFirst
  refine ck_N_ext (fun n a0 a1 => rfl) (fun n a0 a1 => rfl) (fun n q a0 a1 b0 b1 => ?_) (fun q b0 b1 => ?_) (fun q b0 b1 => ?_) (fun q b0 b1 => ?_) <;> rw [if_pos (by omega)]
theorem cx_setFirst {c : Int} {σ : ck_M} : ck_cal 2 cm_Fa_setFirst [.inr (c, 3, 0)] σ (fun q σ' => q = none ∧ ck_f6 σ σ' c ∧ ck_rd σ' c = ck_dFirst) := by
  refine ck_cal_of ?_
  refine ck_go_run 2 (X1 := (2, [some (.inr (c, 3, 0)), some (.inl 0)], [], σ)) (ps := []) rfl trivial ?_
  refine ck_for 2 (fun v => [some (.inr (c, 3, 0)), some (.inl v)]) 10 (fun v s => 0 ≤ v ∧ v ≤ 10 ∧ ∀ b j, s b j = if (b = c + 1 ∨ b = c + 2) ∧ 0 ≤ j ∧ j < v then 0 else σ b j) (fun v s hv hI kk => ?_) (fun v s hv hI => ?_) 0 _ ⟨by omega, by omega, fun b j => by rw [if_neg (by omega)]⟩
  · obtain ⟨h0, h1, hI⟩ := hI
    refine ck_go_run 3 (X1 := (if v < 10 then 8 else 28, [some (.inr (c, 3, 0)), some (.inl v)], [], s)) (ps := [ck_rg v, ck_rg 10]) rfl ⟨(ck_rgo (by omega) (by omega)), (ck_rgo (by omega) (by omega)), trivial⟩ ?_
    refine ck_go_t hv ?_
    refine ck_go_run 12 (X1 := (2, [some (.inr (c, 3, 0)), some (.inl (v + 1))], [], ck_up (ck_up s (c + 1) v 0) (c + 2) v 0)) (ps := [0 ≤ v ∧ v < ((10 : Nat) : Int), 0 ≤ v ∧ v < ((10 : Nat) : Int)]) rfl ⟨⟨by omega, by omega⟩, ⟨by omega, by omega⟩, trivial⟩ ?_
    exact kk _ ⟨by omega, by omega, fun b j => by
      simp only [ck_up, hI]
      (repeat' split) <;> first | rfl | omega⟩
  · obtain ⟨h0, h1, hI⟩ := hI
    refine ck_go_run 3 (X1 := (if v < 10 then 8 else 28, [some (.inr (c, 3, 0)), some (.inl v)], [], s)) (ps := [ck_rg v, ck_rg 10]) rfl ⟨(ck_rgo (by omega) (by omega)), (ck_rgo (by omega) (by omega)), trivial⟩ ?_
    refine ck_go_f (by omega) ?_
    refine ck_go_run 2 (X1 := (30, [some (.inr (c, 3, 0)), some (.inl 0)], [], s)) (ps := []) rfl trivial ?_
    refine ck_for 30 (fun w => [some (.inr (c, 3, 0)), some (.inl w)]) 4 (fun w t => 0 ≤ w ∧ w ≤ 4 ∧ ck_f6 σ t c ∧ ck_rd t c = ck_dFv w (ck_rd σ c)) (fun w t hv hI kk => ?_) (fun w t hv hI => ?_) 0 _ ⟨by omega, by omega, fun b j hb => by rw [hI, if_neg (by omega)], by
      unfold ck_dFv
      refine ck_N_ext (fun n a0 a1 => ?_) (fun n a0 a1 => ?_) (fun n q a0 a1 b0 b1 => ?_) (fun q b0 b1 => ?_) (fun q b0 b1 => ?_) (fun q b0 b1 => ?_)
      · rw [hI, if_pos (by omega)]
      · rw [hI, if_pos (by omega)]
      · rw [hI, if_neg (by omega), if_neg (by omega), ck_r_hi a0 a1 b0 b1]
      · rw [hI, if_neg (by omega), if_neg (by omega), ck_r_va b0 b1]
      · rw [hI, if_neg (by omega), if_neg (by omega), ck_r_sz b0 b1]
      · rw [hI, if_neg (by omega), if_neg (by omega), ck_r_th b0 b1]⟩
    · obtain ⟨k0, k1, kf, kr⟩ := hI
      refine ck_go_run 3 (X1 := (if w < 4 then 35 else 46, [some (.inr (c, 3, 0)), some (.inl w)], [], t)) (ps := [ck_rg w, ck_rg 4]) rfl ⟨(ck_rgo (by omega) (by omega)), (ck_rgo (by omega) (by omega)), trivial⟩ ?_
      refine ck_go_t hv ?_
      refine ck_go_run 2 (X1 := (37, [some (.inr (c, 3, 0)), some (.inl w)], [.inl w, .inr (c, 3, 0)], t)) (ps := []) rfl trivial ?_
      refine ck_go_cal (rest := []) (ck_cal_le (by decide) (cx_setNull (c := c) (r := w) (by omega))) ⟨_, rfl, Or.inl ⟨_, rfl⟩, rfl, rfl, rfl, Nat.le_of_ble_eq_true rfl, fun _ => ⟨_, _, rfl⟩⟩ ?_
      rintro _ s1 ⟨rfl, g1, r1⟩
      try dsimp only at g1 r1
      refine ck_go_run 2 (X1 := (30, [some (.inr (c, 3, 0)), some (.inl (w + 1))], [], s1)) (ps := []) rfl trivial ?_
      exact kk _ ⟨by omega, by omega, ck_f6_tr kf g1, by rw [r1, kr, ck_dFv_s k0 hv]⟩
    · obtain ⟨k0, k1, kf, kr⟩ := hI
      refine ck_go_run 3 (X1 := (if w < 4 then 35 else 46, [some (.inr (c, 3, 0)), some (.inl w)], [], t)) (ps := [ck_rg w, ck_rg 4]) rfl ⟨(ck_rgo (by omega) (by omega)), (ck_rgo (by omega) (by omega)), trivial⟩ ?_
      refine ck_go_f (by omega) ?_
      exact ck_eV ⟨rfl, kf, by rw [kr, ck_dFv_4 hv]⟩ rfl rfl rfl
theorem cx_copy {c e : Int} (hd : c + 6 < e ∨ e + 6 < c) {σ : ck_M} {g : ck_D} (hg : ck_rd σ e = g) (hB : ck_fb g) : ck_cal 1 cm_Fa_copy [.inr (c, 3, 0), .inr (e, 3, 0)] σ (fun q σ' => q = none ∧ ck_f6 σ σ' c ∧ ck_rd σ' c = g) := by
  refine ck_cal_of ?_
  refine ck_go_run 42 (X1 := (75, [some (.inr (c, 3, 0)), some (.inr (e, 3, 0)), some (.inl 0)], [], ck_cpy (ck_cpy (ck_cpy (ck_cpy (ck_cpy σ (e + 1) (c + 1) 10) (e + 2) (c + 2) 10) (e + 3) (c + 3) 40) (e + 4) (c + 4) 4) (e + 5) (c + 5) 4)) (ps := [0 = 0, 0 = 0, 0 ≤ 10, 10 ≤ ((10 : Nat) : Int), 10 ≤ ((10 : Nat) : Int), 0 = 0, 0 = 0, 0 ≤ 10, 10 ≤ ((10 : Nat) : Int), 10 ≤ ((10 : Nat) : Int), 0 = 0, 0 = 0, 0 ≤ 40, 40 ≤ ((40 : Nat) : Int), 40 ≤ ((40 : Nat) : Int), 0 = 0, 0 = 0, 0 ≤ 4, 4 ≤ ((4 : Nat) : Int), 4 ≤ ((4 : Nat) : Int), 0 = 0, 0 = 0, 0 ≤ 4, 4 ≤ ((4 : Nat) : Int), 4 ≤ ((4 : Nat) : Int)]) rfl ⟨(by omega), (by omega), (by omega), (by omega), (by omega), (by omega), (by omega), (by omega), (by omega), (by omega), (by omega), (by omega), (by omega), (by omega), (by omega), (by omega), (by omega), (by omega), (by omega), (by omega), (by omega), (by omega), (by omega), (by omega), (by omega), trivial⟩ ?_
  refine ck_for 75 (fun v => [some (.inr (c, 3, 0)), some (.inr (e, 3, 0)), some (.inl v)]) 4 (fun v s => 0 ≤ v ∧ v ≤ 4 ∧ (∀ b j, (b ≠ c + 6 ∨ j < 0 ∨ v ≤ j) → s b j = (ck_cpy (ck_cpy (ck_cpy (ck_cpy (ck_cpy σ (e + 1) (c + 1) 10) (e + 2) (c + 2) 10) (e + 3) (c + 3) 40) (e + 4) (c + 4) 4) (e + 5) (c + 5) 4) b j) ∧ ∀ q, 0 ≤ q → q < v → s (c + 6) q = ck_th g q) (fun v s hv hI kk => ?_) (fun v s hv hI => ?_) 0 _ ⟨by omega, by omega, fun _ _ _ => rfl, fun _ _ _ => by omega⟩
  · obtain ⟨h0, h4, hI1, hI2⟩ := hI
    have e6 : s (e + 6) v = ck_th g v := by
      rw [← ck_x_th hg h0 hv, hI1 _ _ (by omega)]
      simp only [ck_cpy]
      (repeat' split) <;> first | rfl | omega
    refine ck_go_run 3 (X1 := (if v < 4 then 80 else 98, [some (.inr (c, 3, 0)), some (.inr (e, 3, 0)), some (.inl v)], [], s)) (ps := [ck_rg v, ck_rg 4]) rfl ⟨(ck_rgo (by omega) (by omega)), (ck_rgo (by omega) (by omega)), trivial⟩ ?_
    refine ck_go_t hv ?_
    refine ck_go_run 10 (X1 := (75, [some (.inr (c, 3, 0)), some (.inr (e, 3, 0)), some (.inl (v + 1))], [], ck_up s (c + 6) v (s (e + 6) v))) (ps := [0 ≤ v ∧ v < ((4 : Nat) : Int), 0 ≤ v ∧ v < ((4 : Nat) : Int), s (e + 6) v = 0 ∨ s (e + 6) v = 1]) rfl ⟨⟨by omega, by omega⟩, ⟨by omega, by omega⟩, (by
      have h6 := hB.2.2.2.2.2 v
      rw [← e6] at h6
      omega), trivial⟩ ?_
    exact kk _ ⟨by omega, by omega, ck_st0 (g := fun q => ck_th g q) hI1 hI2 e6 h0⟩
  · obtain ⟨h0, h4, hI1, hI2⟩ := hI
    refine ck_go_run 3 (X1 := (if v < 4 then 80 else 98, [some (.inr (c, 3, 0)), some (.inr (e, 3, 0)), some (.inl v)], [], s)) (ps := [ck_rg v, ck_rg 4]) rfl ⟨(ck_rgo (by omega) (by omega)), (ck_rgo (by omega) (by omega)), trivial⟩ ?_
    refine ck_go_f (by omega) ?_
    refine ck_eV ⟨rfl, ?_, ?_⟩ rfl rfl rfl
    · intro b j hb
      rw [hI1 b j (by omega)]
      simp only [ck_cpy]
      (repeat' split) <;> first | rfl | omega
    · rw [← hg]
      refine ck_N_ext (fun n a0 a1 => ?_) (fun n a0 a1 => ?_) (fun n q a0 a1 b0 b1 => ?_) (fun q b0 b1 => ?_) (fun q b0 b1 => ?_) (fun q b0 b1 => ?_)
      · rw [hI1 (c + 1) n (by omega)]
        simp only [ck_cpy, true_and]
        (repeat' split) <;> first | rfl | omega
      · rw [hI1 (c + 2) n (by omega)]
        simp only [ck_cpy, true_and]
        (repeat' split) <;> first | rfl | omega
      · rw [hI1 (c + 3) (n * 4 + q) (by omega)]
        simp only [ck_cpy, true_and]
        (repeat' split) <;> first | rfl | omega
      · rw [hI1 (c + 4) q (by omega)]
        simp only [ck_cpy, true_and]
        (repeat' split) <;> first | rfl | omega
      · rw [hI1 (c + 5) q (by omega)]
        simp only [ck_cpy, true_and]
        (repeat' split) <;> first | rfl | omega
      · rw [hI2 q b0 (by omega), ck_x_th hg b0 b1]
