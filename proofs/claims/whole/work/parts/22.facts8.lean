theorem ck_rd_f6 {a b : ck_M} {c e : Int} (h : ck_f6 a b c) (hd : c + 6 < e ∨ e + 6 < c) : ck_rd b e = ck_rd a e := by
  refine ck_N_ext (fun n a0 a1 => ?_) (fun n a0 a1 => ?_) (fun n q a0 a1 b0 b1 => ?_) (fun q b0 b1 => ?_) (fun q b0 b1 => ?_) (fun q b0 b1 => ?_) <;> exact h _ _ (by omega)
def ck_dJb (g f : ck_D) : ck_D := ck_N (ck_kn f) (fun n => ck_mn (ck_lo f n) (ck_lo g n)) (fun n q => ck_mx (ck_hi f n q) (ck_hi g n q)) (ck_va f) (ck_sz f) (fun q => if ck_th f q = 0 ∨ ck_th g q = 0 then 0 else 1)
theorem cx_joinBounds {c e : Int} (hd : c + 6 < e ∨ e + 6 < c) {σ : ck_M} {f g : ck_D} (hf : ck_rd σ c = f) (hB : ck_fb f) (hg : ck_rd σ e = g) (hG : ck_fb g) : ck_cal 2 cm_Fa_joinBounds [.inr (c, 3, 0), .inr (e, 3, 0)] σ (fun q σ' => q = none ∧ ck_f6 σ σ' c ∧ ck_rd σ' c = ck_dJb g f) := by
  refine ck_cal_of ?_
  refine ck_go_run 2 (X1 := (2, [some (.inr (c, 3, 0)), some (.inr (e, 3, 0)), some (.inl 0)], [], σ)) (ps := []) rfl trivial ?_
  refine ck_for 2 (fun v => [some (.inr (c, 3, 0)), some (.inr (e, 3, 0)), some (.inl v)]) 10 (fun v s => 0 ≤ v ∧ v ≤ 10 ∧ (∀ b j, (b ≠ c + 2 ∨ j < 0 ∨ v ≤ j) → s b j = (σ) b j) ∧ ∀ q, 0 ≤ q → q < v → s (c + 2) q = ck_mn (ck_lo f q) (ck_lo g q)) (fun v s hv hI kk => ?_) (fun v s hv hI => ?_) 0 _ ⟨by omega, by omega, fun _ _ _ => rfl, fun _ _ _ => by omega⟩
  · obtain ⟨h0, h4, hI1, hI2⟩ := hI
    have e1 : s (c + 2) v = ck_lo f v := by rw [hI1 _ _ (by omega), ck_x_lo hf h0 hv]
    have e2 : s (e + 2) v = ck_lo g v := by rw [hI1 _ _ (by omega), ck_x_lo hg h0 hv]
    have b1 := hB.2.1 v
    have b2 := hG.2.1 v
    refine ck_go_run 3 (X1 := (if v < 10 then 8 else 35, [some (.inr (c, 3, 0)), some (.inr (e, 3, 0)), some (.inl v)], [], s)) (ps := [ck_rg v, ck_rg 10]) rfl ⟨(ck_rgo (by omega) (by omega)), (ck_rgo (by omega) (by omega)), trivial⟩ ?_
    refine ck_go_t hv ?_
    refine ck_go_run 11 (X1 := (25, [some (.inr (c, 3, 0)), some (.inr (e, 3, 0)), some (.inl v)], [.inl (s (e + 2) v), .inl (s (c + 2) v), .inl v, .inr (c + 2, 0, 10)], s)) (ps := [0 ≤ v ∧ v < ((10 : Nat) : Int), 0 ≤ v ∧ v < ((10 : Nat) : Int)]) rfl ⟨⟨by omega, by omega⟩, ⟨by omega, by omega⟩, trivial⟩ ?_
    refine ck_go_cal (rest := [.inl v, .inr (c + 2, 0, 10)]) (ck_cal_le (by decide) (cx_mn e1 e2 (ck_rgo (by omega) (by omega)) (ck_rgo (by omega) (by omega)) _)) ⟨_, rfl, Or.inr ⟨_, rfl⟩, rfl, rfl, rfl, Nat.le_of_ble_eq_true rfl, fun h => absurd h (by decide)⟩ ?_
    rintro _ s' ⟨rfl, e'⟩
    rw [e']
    clear e' s'
    refine ck_go_run 3 (X1 := (2, [some (.inr (c, 3, 0)), some (.inr (e, 3, 0)), some (.inl (v + 1))], [], ck_up s (c + 2) v (ck_mn (ck_lo f v) (ck_lo g v)))) (ps := [0 ≤ v ∧ v < ((10 : Nat) : Int)]) rfl ⟨⟨by omega, by omega⟩, trivial⟩ ?_
    exact kk _ ⟨by omega, by omega, ck_st0 (g := fun q => ck_mn (ck_lo f q) (ck_lo g q)) hI1 hI2 rfl h0⟩
  · obtain ⟨h0, h4, hI1, hI2⟩ := hI
    refine ck_go_run 3 (X1 := (if v < 10 then 8 else 35, [some (.inr (c, 3, 0)), some (.inr (e, 3, 0)), some (.inl v)], [], s)) (ps := [ck_rg v, ck_rg 10]) rfl ⟨(ck_rgo (by omega) (by omega)), (ck_rgo (by omega) (by omega)), trivial⟩ ?_
    refine ck_go_f (by omega) ?_
    refine ck_go_run 2 (X1 := (37, [some (.inr (c, 3, 0)), some (.inr (e, 3, 0)), some (.inl 0)], [], s)) (ps := []) rfl trivial ?_
    refine ck_for 37 (fun v2 => [some (.inr (c, 3, 0)), some (.inr (e, 3, 0)), some (.inl v2)]) (((40 : Nat) : Int)) (fun v2 t => 0 ≤ v2 ∧ v2 ≤ 40 ∧ (∀ b j, (b ≠ c + 3 ∨ j < 0 ∨ v2 ≤ j) → t b j = (s) b j) ∧ ∀ q, 0 ≤ q → q < v2 → t (c + 3) q = ck_mx (ck_hi f (q / 4) (q % 4)) (ck_hi g (q / 4) (q % 4))) (fun v2 t hv hI kk => ?_) (fun v2 t hv hI => ?_) 0 _ ⟨by omega, by omega, fun _ _ _ => rfl, fun _ _ _ => by omega⟩
    · obtain ⟨k0, k4, kI1, kI2⟩ := hI
      have e1 : t (c + 3) v2 = ck_hi f (v2 / 4) (v2 % 4) := by rw [kI1 _ _ (by omega), hI1 _ _ (by omega), ck_x_hr hf k0 (by omega)]
      have e2 : t (e + 3) v2 = ck_hi g (v2 / 4) (v2 % 4) := by rw [kI1 _ _ (by omega), hI1 _ _ (by omega), ck_x_hr hg k0 (by omega)]
      have b1 := hB.2.2.1 (v2 / 4) (v2 % 4)
      have b2 := hG.2.2.1 (v2 / 4) (v2 % 4)
      refine ck_go_run 5 (X1 := (if v2 < ((40 : Nat) : Int) then 46 else 73, [some (.inr (c, 3, 0)), some (.inr (e, 3, 0)), some (.inl v2)], [], t)) (ps := [ck_rg v2, ck_rg (((40 : Nat) : Int))]) rfl ⟨(ck_rgo (by omega) (by omega)), (ck_rgo (by omega) (by omega)), trivial⟩ ?_
      refine ck_go_t hv ?_
      refine ck_go_run 11 (X1 := (63, [some (.inr (c, 3, 0)), some (.inr (e, 3, 0)), some (.inl v2)], [.inl (t (e + 3) v2), .inl (t (c + 3) v2), .inl v2, .inr (c + 3, 0, 40)], t)) (ps := [0 ≤ v2 ∧ v2 < ((40 : Nat) : Int), 0 ≤ v2 ∧ v2 < ((40 : Nat) : Int)]) rfl ⟨⟨by omega, by omega⟩, ⟨by omega, by omega⟩, trivial⟩ ?_
      refine ck_go_cal (rest := [.inl v2, .inr (c + 3, 0, 40)]) (ck_cal_le (by decide) (cx_mx e1 e2 (ck_rgo (by omega) (by omega)) (ck_rgo (by omega) (by omega)) _)) ⟨_, rfl, Or.inr ⟨_, rfl⟩, rfl, rfl, rfl, Nat.le_of_ble_eq_true rfl, fun h => absurd h (by decide)⟩ ?_
      rintro _ s' ⟨rfl, e'⟩
      rw [e']
      clear e' s'
      refine ck_go_run 3 (X1 := (37, [some (.inr (c, 3, 0)), some (.inr (e, 3, 0)), some (.inl (v2 + 1))], [], ck_up t (c + 3) v2 (ck_mx (ck_hi f (v2 / 4) (v2 % 4)) (ck_hi g (v2 / 4) (v2 % 4))))) (ps := [0 ≤ v2 ∧ v2 < ((40 : Nat) : Int)]) rfl ⟨⟨by omega, by omega⟩, trivial⟩ ?_
      exact kk _ ⟨by omega, by omega, ck_st0 (g := fun q => ck_mx (ck_hi f (q / 4) (q % 4)) (ck_hi g (q / 4) (q % 4))) kI1 kI2 rfl k0⟩
    · obtain ⟨k0, k4, kI1, kI2⟩ := hI
      refine ck_go_run 5 (X1 := (if v2 < ((40 : Nat) : Int) then 46 else 73, [some (.inr (c, 3, 0)), some (.inr (e, 3, 0)), some (.inl v2)], [], t)) (ps := [ck_rg v2, ck_rg (((40 : Nat) : Int))]) rfl ⟨(ck_rgo (by omega) (by omega)), (ck_rgo (by omega) (by omega)), trivial⟩ ?_
      refine ck_go_f (by omega) ?_
      refine ck_go_run 2 (X1 := (75, [some (.inr (c, 3, 0)), some (.inr (e, 3, 0)), some (.inl 0)], [], t)) (ps := []) rfl trivial ?_
      refine ck_for 75 (fun v3 => [some (.inr (c, 3, 0)), some (.inr (e, 3, 0)), some (.inl v3)]) 4 (fun v3 w => 0 ≤ v3 ∧ v3 ≤ 4 ∧ (∀ b j, (b ≠ c + 6 ∨ j < 0 ∨ v3 ≤ j) → w b j = (t) b j) ∧ ∀ q, 0 ≤ q → q < v3 → w (c + 6) q = (if ck_th f q = 0 ∨ ck_th g q = 0 then 0 else 1)) (fun v3 w hv hI kk => ?_) (fun v3 w hv hI => ?_) 0 _ ⟨by omega, by omega, fun _ _ _ => rfl, fun _ _ _ => by omega⟩
      · obtain ⟨m0, m4, mI1, mI2⟩ := hI
        have e1 : w (c + 6) v3 = ck_th f v3 := by rw [mI1 _ _ (by omega), kI1 _ _ (by omega), hI1 _ _ (by omega), ck_x_th hf m0 hv]
        have e2 : w (e + 6) v3 = ck_th g v3 := by rw [mI1 _ _ (by omega), kI1 _ _ (by omega), hI1 _ _ (by omega), ck_x_th hg m0 hv]
        have b1 := hB.2.2.2.2.2 v3
        have b2 := hG.2.2.2.2.2 v3
        refine ck_go_run 3 (X1 := (if v3 < 4 then 80 else 115, [some (.inr (c, 3, 0)), some (.inr (e, 3, 0)), some (.inl v3)], [], w)) (ps := [ck_rg v3, ck_rg 4]) rfl ⟨(ck_rgo (by omega) (by omega)), (ck_rgo (by omega) (by omega)), trivial⟩ ?_
        refine ck_go_t hv ?_
        refine ck_go_run 8 (X1 := (if w (c + 6) v3 = 0 then 107 else 94, [some (.inr (c, 3, 0)), some (.inr (e, 3, 0)), some (.inl v3)], [.inl v3, .inr (c + 6, 1, 4)], w)) (ps := [0 ≤ v3 ∧ v3 < ((4 : Nat) : Int), ck_rg (w (c + 6) v3)]) rfl ⟨⟨by omega, by omega⟩, (ck_rgo (by omega) (by omega)), trivial⟩ ?_
        refine ck_go_ite (fun h1 => ?_) (fun h1 => ?_)
        · refine ck_go_run 4 (X1 := (75, [some (.inr (c, 3, 0)), some (.inr (e, 3, 0)), some (.inl (v3 + 1))], [], ck_up w (c + 6) v3 0)) (ps := [0 ≤ v3 ∧ v3 < ((4 : Nat) : Int), 0 = 0 ∨ 0 = 1]) rfl ⟨⟨by omega, by omega⟩, Or.inl rfl, trivial⟩ ?_
          exact kk _ ⟨by omega, by omega, ck_st0 (g := fun q => (if ck_th f q = 0 ∨ ck_th g q = 0 then 0 else 1)) mI1 mI2 (by rw [← e1, ← e2]; rw [if_pos (by omega)]) m0⟩
        · refine ck_go_run 5 (X1 := (if w (e + 6) v3 = 0 then 107 else 103, [some (.inr (c, 3, 0)), some (.inr (e, 3, 0)), some (.inl v3)], [.inl v3, .inr (c + 6, 1, 4)], w)) (ps := [0 ≤ v3 ∧ v3 < ((4 : Nat) : Int), ck_rg (w (e + 6) v3)]) rfl ⟨⟨by omega, by omega⟩, (ck_rgo (by omega) (by omega)), trivial⟩ ?_
          refine ck_go_ite (fun h2 => ?_) (fun h2 => ?_)
          · refine ck_go_run 4 (X1 := (75, [some (.inr (c, 3, 0)), some (.inr (e, 3, 0)), some (.inl (v3 + 1))], [], ck_up w (c + 6) v3 0)) (ps := [0 ≤ v3 ∧ v3 < ((4 : Nat) : Int), 0 = 0 ∨ 0 = 1]) rfl ⟨⟨by omega, by omega⟩, Or.inl rfl, trivial⟩ ?_
            exact kk _ ⟨by omega, by omega, ck_st0 (g := fun q => (if ck_th f q = 0 ∨ ck_th g q = 0 then 0 else 1)) mI1 mI2 (by rw [← e1, ← e2]; rw [if_pos (by omega)]) m0⟩
          · refine ck_go_run 5 (X1 := (75, [some (.inr (c, 3, 0)), some (.inr (e, 3, 0)), some (.inl (v3 + 1))], [], ck_up w (c + 6) v3 1)) (ps := [0 ≤ v3 ∧ v3 < ((4 : Nat) : Int), 1 = 0 ∨ 1 = 1]) rfl ⟨⟨by omega, by omega⟩, Or.inr rfl, trivial⟩ ?_
            exact kk _ ⟨by omega, by omega, ck_st0 (g := fun q => (if ck_th f q = 0 ∨ ck_th g q = 0 then 0 else 1)) mI1 mI2 (by rw [← e1, ← e2]; rw [if_neg (by omega)]) m0⟩
      · obtain ⟨m0, m4, mI1, mI2⟩ := hI
        refine ck_go_run 3 (X1 := (if v3 < 4 then 80 else 115, [some (.inr (c, 3, 0)), some (.inr (e, 3, 0)), some (.inl v3)], [], w)) (ps := [ck_rg v3, ck_rg 4]) rfl ⟨(ck_rgo (by omega) (by omega)), (ck_rgo (by omega) (by omega)), trivial⟩ ?_
        refine ck_go_f (by omega) ?_
        refine ck_eV ⟨rfl, ?_, ?_⟩ rfl rfl rfl
        · intro b j hb
          rw [mI1 b j (by omega), kI1 b j (by omega), hI1 b j (by omega)]
        · unfold ck_dJb
          refine ck_N_ext (fun n a0 a1 => ?_) (fun n a0 a1 => ?_) (fun n q a0 a1 b0 b1 => ?_) (fun q b0 b1 => ?_) (fun q b0 b1 => ?_) (fun q b0 b1 => ?_)
          · rw [mI1 _ _ (by omega), kI1 _ _ (by omega), hI1 _ _ (by omega), ck_x_kn hf a0 a1]
          · rw [mI1 _ _ (by omega), kI1 _ _ (by omega), hI2 n a0 (by omega)]
          · rw [mI1 _ _ (by omega), kI2 (n * 4 + q) (by omega) (by omega), show (n * 4 + q) / 4 = n by omega, show (n * 4 + q) % 4 = q by omega]
          · rw [mI1 _ _ (by omega), kI1 _ _ (by omega), hI1 _ _ (by omega), ck_x_va hf b0 b1]
          · rw [mI1 _ _ (by omega), kI1 _ _ (by omega), hI1 _ _ (by omega), ck_x_sz hf b0 b1]
          · rw [mI2 q b0 (by omega)]
def ck_dJwv (v : Int) (g : ck_D) (k : Int) (f : ck_D) : ck_D := ck_N (fun n => if ck_kn f n = ck_kn g n then ck_kn f n else 1000000000) (fun n => ck_mn (ck_lo f n) (ck_lo g n)) (fun n q => ck_mx (ck_hi f n q) (ck_hi g n q)) (fun q => if q < v ∧ ck_va f q ≠ ck_va g q then 65 + k * 4 + q else ck_va f q) (fun q => if q < v ∧ ck_va f q ≠ ck_va g q then 1000000000 else ck_sz f q) (fun q => if ck_th f q = 0 ∨ ck_th g q = 0 then 0 else 1)
/-- the join behind an if: g the other way, k the END -/
def ck_dJw (g : ck_D) (k : Int) (f : ck_D) : ck_D := ck_dJwv 4 g k f
theorem ck_dJwv_s {v k : Int} {f g : ck_D} (h0 : 0 ≤ v) (h4 : v < 4) (h : ¬ ck_va f v = ck_va g v) : ck_dJv v k (ck_dJwv v g k f) = ck_dJwv (v + 1) g k f := by
  unfold ck_dJv ck_dJwv
  refine ck_N_ext (fun n a0 a1 => ?_) (fun n a0 a1 => ?_) (fun n q a0 a1 b0 b1 => ?_) (fun q b0 b1 => ?_) (fun q b0 b1 => ?_) (fun q b0 b1 => ?_)
  · rw [ck_N_kn a0 a1]
  · rw [ck_N_lo a0 a1]
  · rw [ck_N_hi a0 a1 b0 b1]
  · rw [ck_N_va b0 b1]
    by_cases hq : q = v
    · subst hq
      rw [if_pos rfl, if_pos ⟨by omega, h⟩]
    · (repeat' split) <;> first | rfl | omega
  · rw [ck_N_sz b0 b1]
    by_cases hq : q = v
    · subst hq
      rw [if_pos rfl, if_pos ⟨by omega, h⟩]
    · (repeat' split) <;> first | rfl | omega
  · rw [ck_N_th b0 b1]
theorem ck_dJwv_n {v k : Int} {f g : ck_D} (h : ck_va f v = ck_va g v) : ck_dJwv v g k f = ck_dJwv (v + 1) g k f := by
  unfold ck_dJwv
  refine ck_N_ext (fun n a0 a1 => rfl) (fun n a0 a1 => rfl) (fun n q a0 a1 b0 b1 => rfl) (fun q b0 b1 => ?_) (fun q b0 b1 => ?_) (fun q b0 b1 => rfl)
  · by_cases hq : q = v
    · subst hq
      rw [if_neg (fun z => z.2 h), if_neg (fun z => z.2 h)]
    · (repeat' split) <;> first | rfl | omega
  · by_cases hq : q = v
    · subst hq
      rw [if_neg (fun z => z.2 h), if_neg (fun z => z.2 h)]
    · (repeat' split) <;> first | rfl | omega
theorem ck_dJwv_4 {v k : Int} {f g : ck_D} (h : 4 ≤ v) : ck_dJwv v g k f = ck_dJw g k f := by
  unfold ck_dJw ck_dJwv
  refine ck_N_ext (fun n a0 a1 => rfl) (fun n a0 a1 => rfl) (fun n q a0 a1 b0 b1 => rfl) (fun q b0 b1 => ?_) (fun q b0 b1 => ?_) (fun q b0 b1 => rfl) <;> (repeat' split) <;> first | rfl | omega
theorem cx_joinWays {c e k : Int} (hd : c + 6 < e ∨ e + 6 < c) {σ : ck_M} {f g : ck_D} (hf : ck_rd σ c = f) (hB : ck_fb f) (hg : ck_rd σ e = g) (hG : ck_fb g) : ck_cal 3 cm_Fa_joinWays [.inr (c, 3, 0), .inr (e, 3, 0), .inl k] σ (fun q σ' => q = none ∧ ck_f6 σ σ' c ∧ ck_rd σ' c = ck_dJw g k f) := by
  refine ck_cal_of ?_
  refine ck_go_run 2 (X1 := (2, [some (.inr (c, 3, 0)), some (.inr (e, 3, 0)), some (.inl k), none], [.inr (e, 3, 0), .inr (c, 3, 0)], σ)) (ps := []) rfl trivial ?_
  refine ck_go_cal (rest := []) (ck_cal_le (by decide) (cx_joinBounds hd hf hB hg hG)) ⟨_, rfl, Or.inl ⟨_, rfl⟩, rfl, rfl, rfl, Nat.le_of_ble_eq_true rfl, fun _ => ⟨_, _, rfl⟩⟩ ?_
  rintro _ s1 ⟨rfl, g1, r1⟩
  try dsimp only at g1 r1
  have re : ck_rd s1 e = g := by rw [ck_rd_f6 g1 hd]; exact hg
  refine ck_go_run 2 (X1 := (7, [some (.inr (c, 3, 0)), some (.inr (e, 3, 0)), some (.inl k), some (.inl 0)], [], s1)) (ps := []) rfl trivial ?_
  refine ck_for 7 (fun v => [some (.inr (c, 3, 0)), some (.inr (e, 3, 0)), some (.inl k), some (.inl v)]) 10 (fun v s => 0 ≤ v ∧ v ≤ 10 ∧ (∀ b j, (b ≠ c + 1 ∨ j < 0 ∨ v ≤ j) → s b j = (s1) b j) ∧ ∀ q, 0 ≤ q → q < v → s (c + 1) q = (if ck_kn f q = ck_kn g q then ck_kn f q else 1000000000)) (fun v s hv hI kk => ?_) (fun v s hv hI => ?_) 0 _ ⟨by omega, by omega, fun _ _ _ => rfl, fun _ _ _ => by omega⟩
  · obtain ⟨h0, h4, hI1, hI2⟩ := hI
    have e1 : s (c + 1) v = ck_kn f v := by
      rw [hI1 _ _ (by omega), ck_x_kn r1 h0 hv]
      simp only [ck_dJb, ck_N_kn h0 hv]
    have e2 : s (e + 1) v = ck_kn g v := by rw [hI1 _ _ (by omega), ck_x_kn re h0 hv]
    have b1 := hB.1 v
    have b2 := hG.1 v
    refine ck_go_run 3 (X1 := (if v < 10 then 13 else 42, [some (.inr (c, 3, 0)), some (.inr (e, 3, 0)), some (.inl k), some (.inl v)], [], s)) (ps := [ck_rg v, ck_rg 10]) rfl ⟨(ck_rgo (by omega) (by omega)), (ck_rgo (by omega) (by omega)), trivial⟩ ?_
    refine ck_go_t hv ?_
    refine ck_go_run 9 (X1 := (if s (c + 1) v = s (e + 1) v then 36 else 28, [some (.inr (c, 3, 0)), some (.inr (e, 3, 0)), some (.inl k), some (.inl v)], [], s)) (ps := [0 ≤ v ∧ v < ((10 : Nat) : Int), 0 ≤ v ∧ v < ((10 : Nat) : Int), ck_rg (s (c + 1) v), ck_rg (s (e + 1) v)]) rfl ⟨⟨by omega, by omega⟩, ⟨by omega, by omega⟩, (ck_rgo (by omega) (by omega)), (ck_rgo (by omega) (by omega)), trivial⟩ ?_
    refine ck_go_ite (fun h1 => ?_) (fun h1 => ?_)
    · refine ck_go_run 2 (X1 := (7, [some (.inr (c, 3, 0)), some (.inr (e, 3, 0)), some (.inl k), some (.inl (v + 1))], [], s)) (ps := []) rfl trivial ?_
      exact kk _ ⟨by omega, by omega, ck_st0n (g := fun q => (if ck_kn f q = ck_kn g q then ck_kn f q else 1000000000)) hI1 hI2 (by rw [if_pos (by rw [← e1, ← e2]; exact h1), ← e1, hI1 _ _ (by omega)]) h0⟩
    · refine ck_go_run 7 (X1 := (7, [some (.inr (c, 3, 0)), some (.inr (e, 3, 0)), some (.inl k), some (.inl (v + 1))], [], ck_up s (c + 1) v 1000000000)) (ps := [0 ≤ v ∧ v < ((10 : Nat) : Int)]) rfl ⟨⟨by omega, by omega⟩, trivial⟩ ?_
      exact kk _ ⟨by omega, by omega, ck_st0 (g := fun q => (if ck_kn f q = ck_kn g q then ck_kn f q else 1000000000)) hI1 hI2 (by rw [if_neg (by rw [← e1, ← e2]; exact h1)]) h0⟩
  · obtain ⟨h0, h4, hI1, hI2⟩ := hI
    refine ck_go_run 3 (X1 := (if v < 10 then 13 else 42, [some (.inr (c, 3, 0)), some (.inr (e, 3, 0)), some (.inl k), some (.inl v)], [], s)) (ps := [ck_rg v, ck_rg 10]) rfl ⟨(ck_rgo (by omega) (by omega)), (ck_rgo (by omega) (by omega)), trivial⟩ ?_
    refine ck_go_f (by omega) ?_
    refine ck_go_run 2 (X1 := (44, [some (.inr (c, 3, 0)), some (.inr (e, 3, 0)), some (.inl k), some (.inl 0)], [], s)) (ps := []) rfl trivial ?_
    refine ck_for 44 (fun v2 => [some (.inr (c, 3, 0)), some (.inr (e, 3, 0)), some (.inl k), some (.inl v2)]) 4 (fun v2 t => 0 ≤ v2 ∧ v2 ≤ 4 ∧ ck_f6 σ t c ∧ ck_rd t c = ck_dJwv v2 g k f) (fun v2 t hv hI kk => ?_) (fun v2 t hv hI => ?_) 0 _ ⟨by omega, by omega, fun b j hb => by rw [hI1 b j (by omega), g1 b j hb], by
      unfold ck_dJwv
      refine ck_N_ext (fun n a0 a1 => ?_) (fun n a0 a1 => ?_) (fun n q a0 a1 b0 b1 => ?_) (fun q b0 b1 => ?_) (fun q b0 b1 => ?_) (fun q b0 b1 => ?_)
      · rw [hI2 n a0 (by omega)]
      · rw [hI1 _ _ (by omega), ck_x_lo r1 a0 a1]
        simp only [ck_dJb, ck_N_lo a0 a1]
      · rw [hI1 _ _ (by omega), ck_x_hi r1 a0 a1 b0 b1]
        simp only [ck_dJb, ck_N_hi a0 a1 b0 b1]
      · rw [hI1 _ _ (by omega), ck_x_va r1 b0 b1, if_neg (by omega)]
        simp only [ck_dJb, ck_N_va b0 b1]
      · rw [hI1 _ _ (by omega), ck_x_sz r1 b0 b1, if_neg (by omega)]
        simp only [ck_dJb, ck_N_sz b0 b1]
      · rw [hI1 _ _ (by omega), ck_x_th r1 b0 b1]
        simp only [ck_dJb, ck_N_th b0 b1]⟩
    · obtain ⟨k0, k4, kf, kr⟩ := hI
      have e4 : t (c + 4) v2 = ck_va f v2 := by
        rw [ck_x_va kr k0 hv]
        simp only [ck_dJwv, ck_N_va k0 hv]
        rw [if_neg (by omega)]
      have e5 : t (e + 4) v2 = ck_va g v2 := by rw [kf _ _ (by omega), ck_x_va hg k0 hv]
      have b1 := hB.2.2.2.1 v2
      have b2 := hG.2.2.2.1 v2
      refine ck_go_run 3 (X1 := (if v2 < 4 then 49 else 76, [some (.inr (c, 3, 0)), some (.inr (e, 3, 0)), some (.inl k), some (.inl v2)], [], t)) (ps := [ck_rg v2, ck_rg 4]) rfl ⟨(ck_rgo (by omega) (by omega)), (ck_rgo (by omega) (by omega)), trivial⟩ ?_
      refine ck_go_t hv ?_
      refine ck_go_run 9 (X1 := (if t (c + 4) v2 = t (e + 4) v2 then 70 else 64, [some (.inr (c, 3, 0)), some (.inr (e, 3, 0)), some (.inl k), some (.inl v2)], [], t)) (ps := [0 ≤ v2 ∧ v2 < ((4 : Nat) : Int), 0 ≤ v2 ∧ v2 < ((4 : Nat) : Int), ck_rg (t (c + 4) v2), ck_rg (t (e + 4) v2)]) rfl ⟨⟨by omega, by omega⟩, ⟨by omega, by omega⟩, (ck_rgo (by omega) (by omega)), (ck_rgo (by omega) (by omega)), trivial⟩ ?_
      refine ck_go_ite (fun h2 => ?_) (fun h2 => ?_)
      · refine ck_go_run 2 (X1 := (44, [some (.inr (c, 3, 0)), some (.inr (e, 3, 0)), some (.inl k), some (.inl (v2 + 1))], [], t)) (ps := []) rfl trivial ?_
        exact kk _ ⟨by omega, by omega, kf, by rw [kr, ck_dJwv_n (by rw [← e4, ← e5]; exact h2)]⟩
      · refine ck_go_run 3 (X1 := (67, [some (.inr (c, 3, 0)), some (.inr (e, 3, 0)), some (.inl k), some (.inl v2)], [.inl k, .inl v2, .inr (c, 3, 0)], t)) (ps := []) rfl trivial ?_
        refine ck_go_cal (rest := []) (ck_cal_le (by decide) (cx_setJoinedValue (c := c) (r := v2) (k := k) (by omega) kr)) ⟨_, rfl, Or.inl ⟨_, rfl⟩, rfl, rfl, rfl, Nat.le_of_ble_eq_true rfl, fun _ => ⟨_, _, rfl⟩⟩ ?_
        rintro _ s2 ⟨rfl, gj, rj⟩
        try dsimp only at gj rj
        refine ck_go_run 2 (X1 := (44, [some (.inr (c, 3, 0)), some (.inr (e, 3, 0)), some (.inl k), some (.inl (v2 + 1))], [], s2)) (ps := []) rfl trivial ?_
        exact kk _ ⟨by omega, by omega, ck_f6_tr kf gj, by rw [rj, ck_dJwv_s k0 hv (by rw [← e4, ← e5]; exact h2)]⟩
    · obtain ⟨k0, k4, kf, kr⟩ := hI
      refine ck_go_run 3 (X1 := (if v2 < 4 then 49 else 76, [some (.inr (c, 3, 0)), some (.inr (e, 3, 0)), some (.inl k), some (.inl v2)], [], t)) (ps := [ck_rg v2, ck_rg 4]) rfl ⟨(ck_rgo (by omega) (by omega)), (ck_rgo (by omega) (by omega)), trivial⟩ ?_
      refine ck_go_f (by omega) ?_
      exact ck_eV ⟨rfl, kf, by rw [kr, ck_dJwv_4 hv]⟩ rfl rfl rfl
