theorem ck_forU {d : Nat} {md : ck_MD} {T : ck_F → Prop} (hd : Nat) (ls : Int → (Option ck_PV × Option ck_PV × Option ck_PV) → ck_Ls) (B : Int) (I : Int → ck_M → Prop) (body : ∀ v u σ, v < B → I v σ → (∀ u' σ', I (v + 1) σ' → ck_go d md (hd, ls (v + 1) u', [], σ') T) → ck_go d md (hd, ls v u, [], σ) T) (stop : ∀ v u σ, B ≤ v → I v σ → ck_go d md (hd, ls v u, [], σ) T) : ∀ v u σ, I v σ → ck_go d md (hd, ls v u, [], σ) T := by
  have h : ∀ (n : Nat) (v : Int) (u : Option ck_PV × Option ck_PV × Option ck_PV) (σ : ck_M), (B - v).toNat ≤ n → I v σ → ck_go d md (hd, ls v u, [], σ) T := by
    intro n
    induction n with
    | zero => exact fun v u σ hn hI => stop v u σ (by omega) hI
    | succ n ih =>
      intro v u σ hn hI
      by_cases hv : v < B
      · exact body v u σ hv hI (fun u' σ' h' => ih (v + 1) u' σ' (by omega) h')
      · exact stop v u σ (by omega) hI
  exact fun v u σ hI => h _ v u σ (Nat.le_refl _) hI
theorem ck_mxb {a b : Int} : (ck_mx a b = a ∨ ck_mx a b = b) ∧ a ≤ ck_mx a b ∧ b ≤ ck_mx a b := by unfold ck_mx; split <;> omega
theorem ck_mnb {a b : Int} : (ck_mn a b = a ∨ ck_mn a b = b) ∧ ck_mn a b ≤ a ∧ ck_mn a b ≤ b := by unfold ck_mn; split <;> omega
theorem ck_rg_and {a b : Int} : ck_rg (ck_and a b) := ⟨Int32.le_toInt _, Int32.toInt_lt _⟩
def ck_dLen (x a : Int) (f : ck_D) : ck_D := ck_N (fun n => if n = x then 1000000000 else ck_kn f n) (fun n => if n = x then 0 else ck_lo f n) (fun n q => if n = x then (if ck_va f q = ck_va f a ∧ ck_va f q ≠ 0 then 0 else 1000000000) else ck_hi f n q) (ck_va f) (ck_sz f) (fun q => if ck_va f q = ck_va f a ∧ ck_va f q ≠ 0 then 1 else ck_th f q)
theorem cx_setLength {c x a : Int} (hx : 0 ≤ x ∧ x < 10) (ha : 0 ≤ a ∧ a < 4) {σ : ck_M} {f : ck_D} (hf : ck_rd σ c = f) (hB : ck_fb f) : ck_cal 3 cm_Fa_setLength [.inr (c, 3, 0), .inl x, .inl a] σ (fun q σ' => q = none ∧ ck_f6 σ σ' c ∧ ck_rd σ' c = ck_dLen x a f) := by
  refine ck_cal_of ?_
  refine ck_go_run 2 (X1 := (2, [some (.inr (c, 3, 0)), some (.inl x), some (.inl a), none], [.inl a, .inr (c, 3, 0)], σ)) (ps := []) rfl trivial ?_
  refine ck_go_cal (rest := []) (ck_cal_le (by decide) (cx_markThere (c := c) (a := a) ha hf hB)) ⟨_, rfl, Or.inl ⟨_, rfl⟩, rfl, rfl, rfl, Nat.le_of_ble_eq_true rfl, fun _ => ⟨_, _, rfl⟩⟩ ?_
  rintro _ s1 ⟨rfl, g1, r1⟩
  try dsimp only at g1 r1
  refine ck_go_run 2 (X1 := (7, [some (.inr (c, 3, 0)), some (.inl x), some (.inl a), none], [.inl x, .inr (c, 3, 0)], s1)) (ps := []) rfl trivial ?_
  refine ck_go_cal (rest := []) (ck_cal_le (by decide) (cx_setAnything (c := c) (x := x) hx)) ⟨_, rfl, Or.inl ⟨_, rfl⟩, rfl, rfl, rfl, Nat.le_of_ble_eq_true rfl, fun _ => ⟨_, _, rfl⟩⟩ ?_
  rintro _ s2 ⟨rfl, g2, r2⟩
  try dsimp only at g2 r2
  rw [r1] at r2
  refine ck_go_run 7 (X1 := (19, [some (.inr (c, 3, 0)), some (.inl x), some (.inl a), some (.inl 0)], [], ck_up s2 (c + 2) x 0)) (ps := [0 ≤ x ∧ x < ((10 : Nat) : Int)]) rfl ⟨⟨by omega, by omega⟩, trivial⟩ ?_
  refine ck_for 19 (fun v => [some (.inr (c, 3, 0)), some (.inl x), some (.inl a), some (.inl v)]) 4 (fun v s => 0 ≤ v ∧ v ≤ 4 ∧ (∀ b j, (b ≠ c + 3 ∨ j < x * 4 ∨ x * 4 + v ≤ j) → s b j = (ck_up s2 (c + 2) x 0) b j) ∧ ∀ q, 0 ≤ q → q < v → s (c + 3) (x * 4 + q) = (if ck_va f q = ck_va f a ∧ ck_va f q ≠ 0 then 0 else 1000000000)) (fun v s hv hI kk => ?_) (fun v s hv hI => ?_) 0 _ ⟨by omega, by omega, fun _ _ _ => rfl, fun _ _ _ => by omega⟩
  · obtain ⟨h0, h4, hI1, hI2⟩ := hI
    have e4 : s (c + 4) v = ck_va f v := by
      rw [hI1 _ _ (by omega)]
      simp only [ck_up]
      rw [if_neg (by omega), ck_x_va r2 h0 hv]
      simp only [ck_dAny, ck_dMark, ck_N_va h0 hv]
    have e4a : s (c + 4) a = ck_va f a := by
      rw [hI1 _ _ (by omega)]
      simp only [ck_up]
      rw [if_neg (by omega), ck_x_va r2 ha.1 ha.2]
      simp only [ck_dAny, ck_dMark, ck_N_va ha.1 ha.2]
    have b4 := hB.2.2.2.1 v
    have b4a := hB.2.2.2.1 a
    refine ck_go_run 3 (X1 := (if v < 4 then 24 else 50, [some (.inr (c, 3, 0)), some (.inl x), some (.inl a), some (.inl v)], [], s)) (ps := [ck_rg v, ck_rg 4]) rfl ⟨(ck_rgo (by omega) (by omega)), (ck_rgo (by omega) (by omega)), trivial⟩ ?_
    refine ck_go_t hv ?_
    refine ck_go_run 3 (X1 := (27, [some (.inr (c, 3, 0)), some (.inl x), some (.inl a), some (.inl v)], [.inl a, .inl v, .inr (c, 3, 0)], s)) (ps := []) rfl trivial ?_
    refine ck_go_cal (rest := []) (ck_cal_le (by decide) (cx_same (c := c) (r := v) (a := a) (by omega) ha e4 e4a (ck_rgo (by omega) (by omega)) (ck_rgo (by omega) (by omega)))) ⟨_, rfl, Or.inl ⟨_, rfl⟩, rfl, rfl, rfl, Nat.le_of_ble_eq_true rfl, fun _ => ⟨_, _, rfl⟩⟩ ?_
    rintro _ s' ⟨rfl, e'⟩
    rw [e']
    clear e' s'
    refine ck_go_run 1 (X1 := (if ck_sa (ck_va f v) (ck_va f a) = 0 then 44 else 33, [some (.inr (c, 3, 0)), some (.inl x), some (.inl a), some (.inl v)], [], s)) (ps := [ck_rg (ck_sa (ck_va f v) (ck_va f a))]) rfl ⟨ck_rg_sa, trivial⟩ ?_
    refine ck_go_ite (fun h1 => ?_) (fun h1 => ?_)
    · refine ck_go_run 2 (X1 := (19, [some (.inr (c, 3, 0)), some (.inl x), some (.inl a), some (.inl (v + 1))], [], s)) (ps := []) rfl trivial ?_
      exact kk _ ⟨by omega, by omega, ck_st1n (g := fun q => (if ck_va f q = ck_va f a ∧ ck_va f q ≠ 0 then 0 else 1000000000)) hI1 hI2 (by
        simp only [ck_up]
        rw [if_neg (by omega), ck_x_hi r2 hx.1 hx.2 h0 hv]
        simp only [ck_dAny, ck_N_hi hx.1 hx.2 h0 hv, if_true]
        rw [if_neg (ck_sa_0 h1)]) h0⟩
    · refine ck_go_run 11 (X1 := (19, [some (.inr (c, 3, 0)), some (.inl x), some (.inl a), some (.inl (v + 1))], [], ck_up s (c + 3) ((x * 4) + v) 0)) (ps := [0 ≤ (x * 4) + v ∧ (x * 4) + v < ((40 : Nat) : Int)]) rfl ⟨⟨by omega, by omega⟩, trivial⟩ ?_
      exact kk _ ⟨by omega, by omega, ck_st1 (g := fun q => (if ck_va f q = ck_va f a ∧ ck_va f q ≠ 0 then 0 else 1000000000)) hI1 hI2 (by rw [if_pos (ck_sa_1 h1)]) h0⟩
  · obtain ⟨h0, h4, hI1, hI2⟩ := hI
    refine ck_go_run 3 (X1 := (if v < 4 then 24 else 50, [some (.inr (c, 3, 0)), some (.inl x), some (.inl a), some (.inl v)], [], s)) (ps := [ck_rg v, ck_rg 4]) rfl ⟨(ck_rgo (by omega) (by omega)), (ck_rgo (by omega) (by omega)), trivial⟩ ?_
    refine ck_go_f (by omega) ?_
    refine ck_eV ⟨rfl, ?_, ?_⟩ rfl rfl rfl
    · intro b j hb
      rw [hI1 b j (by omega)]
      simp only [ck_up]
      rw [if_neg (by omega), g2 b j hb, g1 b j hb]
    · unfold ck_dLen
      refine ck_N_ext (fun n a0 a1 => ?_) (fun n a0 a1 => ?_) (fun n q a0 a1 b0 b1 => ?_) (fun q b0 b1 => ?_) (fun q b0 b1 => ?_) (fun q b0 b1 => ?_)
      · rw [hI1 (c + 1) n (by omega)]
        simp only [ck_up, true_and]
        rw [ck_x_kn r2 a0 a1]
        simp only [ck_dAny, ck_dMark, ck_N_kn a0 a1]
        try ((repeat' split) <;> first | rfl | omega)
      · rw [hI1 (c + 2) n (by omega)]
        simp only [ck_up, true_and]
        by_cases hn : n = x
        · rw [if_pos hn, if_pos hn]
        · rw [if_neg hn, if_neg hn, ck_x_lo r2 a0 a1]
          simp only [ck_dAny, ck_dMark, ck_N_lo a0 a1]
          rw [if_neg hn]
      · by_cases hn : n = x
        · subst hn
          rw [if_pos rfl, hI2 q b0 (by omega)]
        · rw [if_neg hn, hI1 (c + 3) (n * 4 + q) (by omega)]
          simp only [ck_up]
          rw [if_neg (by omega), ck_x_hi r2 a0 a1 b0 b1]
          simp only [ck_dAny, ck_dMark, ck_N_hi a0 a1 b0 b1]
          rw [if_neg hn]
      · rw [hI1 (c + 4) q (by omega)]
        simp only [ck_up, true_and]
        rw [ck_x_va r2 b0 b1]
        simp only [ck_dAny, ck_dMark, ck_N_va b0 b1]
        try ((repeat' split) <;> first | rfl | omega)
      · rw [hI1 (c + 5) q (by omega)]
        simp only [ck_up, true_and]
        rw [ck_x_sz r2 b0 b1]
        simp only [ck_dAny, ck_dMark, ck_N_sz b0 b1]
        try ((repeat' split) <;> first | rfl | omega)
      · rw [hI1 (c + 6) q (by omega)]
        simp only [ck_up, true_and]
        rw [ck_x_th r2 b0 b1]
        simp only [ck_dAny, ck_dMark, ck_N_th b0 b1]
        try ((repeat' split) <;> first | rfl | omega)
def ck_dUse (a m : Int) (f : ck_D) : ck_D := ck_N (ck_kn f) (fun n => if n = m then ck_mx (ck_lo f m) 0 else ck_lo f n) (fun n q => if n = m then (if ck_va f q = ck_va f a ∧ ck_va f q ≠ 0 then ck_mn (ck_hi f m q) (-1) else ck_hi f m q) else ck_hi f n q) (ck_va f) (ck_sz f) (fun q => if ck_va f q = ck_va f a ∧ ck_va f q ≠ 0 then 1 else ck_th f q)
theorem cx_useIndex {c a m : Int} (ha : 0 ≤ a ∧ a < 4) (hm : 0 ≤ m ∧ m < 10) {σ : ck_M} {f : ck_D} (hf : ck_rd σ c = f) (hB : ck_fb f) : ck_cal 3 cm_Fa_useIndex [.inr (c, 3, 0), .inl a, .inl m] σ (fun q σ' => q = none ∧ ck_f6 σ σ' c ∧ ck_rd σ' c = ck_dUse a m f) := by
  refine ck_cal_of ?_
  have bl := hB.2.1 m
  refine ck_go_run 2 (X1 := (2, [some (.inr (c, 3, 0)), some (.inl a), some (.inl m), none], [.inl a, .inr (c, 3, 0)], σ)) (ps := []) rfl trivial ?_
  refine ck_go_cal (rest := []) (ck_cal_le (by decide) (cx_markThere (c := c) (a := a) ha hf hB)) ⟨_, rfl, Or.inl ⟨_, rfl⟩, rfl, rfl, rfl, Nat.le_of_ble_eq_true rfl, fun _ => ⟨_, _, rfl⟩⟩ ?_
  rintro _ s1 ⟨rfl, g1, r1⟩
  try dsimp only at g1 r1
  refine ck_go_run 8 (X1 := (17, [some (.inr (c, 3, 0)), some (.inl a), some (.inl m), none], [.inl 0, .inl (s1 (c + 2) m), .inl m, .inr (c + 2, 0, 10)], s1)) (ps := [0 ≤ m ∧ m < ((10 : Nat) : Int)]) rfl ⟨⟨by omega, by omega⟩, trivial⟩ ?_
  refine ck_go_cal (rest := [.inl m, .inr (c + 2, 0, 10)]) (ck_cal_le (by decide) (cx_mx (A := ck_lo f m) (B := 0) (by rw [ck_x_lo r1 hm.1 hm.2]; simp only [ck_dMark, ck_N_lo hm.1 hm.2]) rfl (ck_rgo (by omega) (by omega)) (ck_rgo (by omega) (by omega)) _)) ⟨_, rfl, Or.inr ⟨_, rfl⟩, rfl, rfl, rfl, Nat.le_of_ble_eq_true rfl, fun h => absurd h (by decide)⟩ ?_
  rintro _ s' ⟨rfl, e'⟩
  rw [e']
  clear e' s'
  refine ck_go_run 3 (X1 := (23, [some (.inr (c, 3, 0)), some (.inl a), some (.inl m), some (.inl 0)], [], ck_up s1 (c + 2) m (ck_mx (ck_lo f m) 0))) (ps := [0 ≤ m ∧ m < ((10 : Nat) : Int)]) rfl ⟨⟨by omega, by omega⟩, trivial⟩ ?_
  refine ck_for 23 (fun v => [some (.inr (c, 3, 0)), some (.inl a), some (.inl m), some (.inl v)]) 4 (fun v s => 0 ≤ v ∧ v ≤ 4 ∧ (∀ b j, (b ≠ c + 3 ∨ j < m * 4 ∨ m * 4 + v ≤ j) → s b j = (ck_up s1 (c + 2) m (ck_mx (ck_lo f m) 0)) b j) ∧ ∀ q, 0 ≤ q → q < v → s (c + 3) (m * 4 + q) = (if ck_va f q = ck_va f a ∧ ck_va f q ≠ 0 then ck_mn (ck_hi f m q) (-1) else ck_hi f m q)) (fun v s hv hI kk => ?_) (fun v s hv hI => ?_) 0 _ ⟨by omega, by omega, fun _ _ _ => rfl, fun _ _ _ => by omega⟩
  · obtain ⟨h0, h4, hI1, hI2⟩ := hI
    have e4 : s (c + 4) v = ck_va f v := by
      rw [hI1 _ _ (by omega)]
      simp only [ck_up]
      rw [if_neg (by omega), ck_x_va r1 h0 hv]
      simp only [ck_dMark, ck_N_va h0 hv]
    have e4a : s (c + 4) a = ck_va f a := by
      rw [hI1 _ _ (by omega)]
      simp only [ck_up]
      rw [if_neg (by omega), ck_x_va r1 ha.1 ha.2]
      simp only [ck_dMark, ck_N_va ha.1 ha.2]
    have b4 := hB.2.2.2.1 v
    have b4a := hB.2.2.2.1 a
    have e3 : s (c + 3) (m * 4 + v) = ck_hi f m v := by
      rw [hI1 _ _ (by omega)]
      simp only [ck_up]
      rw [if_neg (by omega), ck_x_hi r1 hm.1 hm.2 h0 hv]
      simp only [ck_dMark, ck_N_hi hm.1 hm.2 h0 hv]
    have b3 := hB.2.2.1 m v
    refine ck_go_run 3 (X1 := (if v < 4 then 28 else 67, [some (.inr (c, 3, 0)), some (.inl a), some (.inl m), some (.inl v)], [], s)) (ps := [ck_rg v, ck_rg 4]) rfl ⟨(ck_rgo (by omega) (by omega)), (ck_rgo (by omega) (by omega)), trivial⟩ ?_
    refine ck_go_t hv ?_
    refine ck_go_run 3 (X1 := (31, [some (.inr (c, 3, 0)), some (.inl a), some (.inl m), some (.inl v)], [.inl a, .inl v, .inr (c, 3, 0)], s)) (ps := []) rfl trivial ?_
    refine ck_go_cal (rest := []) (ck_cal_le (by decide) (cx_same (c := c) (r := v) (a := a) (by omega) ha e4 e4a (ck_rgo (by omega) (by omega)) (ck_rgo (by omega) (by omega)))) ⟨_, rfl, Or.inl ⟨_, rfl⟩, rfl, rfl, rfl, Nat.le_of_ble_eq_true rfl, fun _ => ⟨_, _, rfl⟩⟩ ?_
    rintro _ s' ⟨rfl, e'⟩
    rw [e']
    clear e' s'
    refine ck_go_run 1 (X1 := (if ck_sa (ck_va f v) (ck_va f a) = 0 then 61 else 37, [some (.inr (c, 3, 0)), some (.inl a), some (.inl m), some (.inl v)], [], s)) (ps := [ck_rg (ck_sa (ck_va f v) (ck_va f a))]) rfl ⟨ck_rg_sa, trivial⟩ ?_
    refine ck_go_ite (fun h1 => ?_) (fun h1 => ?_)
    · refine ck_go_run 2 (X1 := (23, [some (.inr (c, 3, 0)), some (.inl a), some (.inl m), some (.inl (v + 1))], [], s)) (ps := []) rfl trivial ?_
      exact kk _ ⟨by omega, by omega, ck_st1n (g := fun q => (if ck_va f q = ck_va f a ∧ ck_va f q ≠ 0 then ck_mn (ck_hi f m q) (-1) else ck_hi f m q)) hI1 hI2 (by
        rw [if_neg (ck_sa_0 h1), ← e3, hI1 _ _ (by omega)]) h0⟩
    · refine ck_go_run 16 (X1 := (57, [some (.inr (c, 3, 0)), some (.inl a), some (.inl m), some (.inl v)], [.inl ((-1)), .inl (s (c + 3) ((m * 4) + v)), .inl ((m * 4) + v), .inr (c + 3, 0, 40)], s)) (ps := [0 ≤ (m * 4) + v ∧ (m * 4) + v < ((40 : Nat) : Int)]) rfl ⟨⟨by omega, by omega⟩, trivial⟩ ?_
      refine ck_go_cal (rest := [.inl ((m * 4) + v), .inr (c + 3, 0, 40)]) (ck_cal_le (by decide) (cx_mn (A := ck_hi f m v) (B := -1) e3 rfl (ck_rgo (by omega) (by omega)) (ck_rgo (by omega) (by omega)) _)) ⟨_, rfl, Or.inr ⟨_, rfl⟩, rfl, rfl, rfl, Nat.le_of_ble_eq_true rfl, fun h => absurd h (by decide)⟩ ?_
      rintro _ s' ⟨rfl, e'⟩
      rw [e']
      clear e' s'
      refine ck_go_run 3 (X1 := (23, [some (.inr (c, 3, 0)), some (.inl a), some (.inl m), some (.inl (v + 1))], [], ck_up s (c + 3) ((m * 4) + v) (ck_mn (ck_hi f m v) (-1)))) (ps := [0 ≤ (m * 4) + v ∧ (m * 4) + v < ((40 : Nat) : Int)]) rfl ⟨⟨by omega, by omega⟩, trivial⟩ ?_
      exact kk _ ⟨by omega, by omega, ck_st1 (g := fun q => (if ck_va f q = ck_va f a ∧ ck_va f q ≠ 0 then ck_mn (ck_hi f m q) (-1) else ck_hi f m q)) hI1 hI2 (by rw [if_pos (ck_sa_1 h1)]) h0⟩
  · obtain ⟨h0, h4, hI1, hI2⟩ := hI
    refine ck_go_run 3 (X1 := (if v < 4 then 28 else 67, [some (.inr (c, 3, 0)), some (.inl a), some (.inl m), some (.inl v)], [], s)) (ps := [ck_rg v, ck_rg 4]) rfl ⟨(ck_rgo (by omega) (by omega)), (ck_rgo (by omega) (by omega)), trivial⟩ ?_
    refine ck_go_f (by omega) ?_
    refine ck_eV ⟨rfl, ?_, ?_⟩ rfl rfl rfl
    · intro b j hb
      rw [hI1 b j (by omega)]
      simp only [ck_up]
      rw [if_neg (by omega), g1 b j hb]
    · unfold ck_dUse
      refine ck_N_ext (fun n a0 a1 => ?_) (fun n a0 a1 => ?_) (fun n q a0 a1 b0 b1 => ?_) (fun q b0 b1 => ?_) (fun q b0 b1 => ?_) (fun q b0 b1 => ?_)
      · rw [hI1 (c + 1) n (by omega)]
        simp only [ck_up, true_and]
        rw [ck_x_kn r1 a0 a1]
        simp only [ck_dMark, ck_N_kn a0 a1]
        try ((repeat' split) <;> first | rfl | omega)
      · rw [hI1 (c + 2) n (by omega)]
        simp only [ck_up, true_and]
        by_cases hn : n = m
        · rw [if_pos hn, if_pos hn]
        · rw [if_neg hn, if_neg hn, ck_x_lo r1 a0 a1]
          simp only [ck_dMark, ck_N_lo a0 a1]
      · by_cases hn : n = m
        · subst hn
          rw [if_pos rfl, hI2 q b0 (by omega)]
        · rw [if_neg hn, hI1 (c + 3) (n * 4 + q) (by omega)]
          simp only [ck_up]
          rw [if_neg (by omega), ck_x_hi r1 a0 a1 b0 b1]
          simp only [ck_dMark, ck_N_hi a0 a1 b0 b1]
      · rw [hI1 (c + 4) q (by omega)]
        simp only [ck_up, true_and]
        rw [ck_x_va r1 b0 b1]
        simp only [ck_dMark, ck_N_va b0 b1]
        try ((repeat' split) <;> first | rfl | omega)
      · rw [hI1 (c + 5) q (by omega)]
        simp only [ck_up, true_and]
        rw [ck_x_sz r1 b0 b1]
        simp only [ck_dMark, ck_N_sz b0 b1]
        try ((repeat' split) <;> first | rfl | omega)
      · rw [hI1 (c + 6) q (by omega)]
        simp only [ck_up, true_and]
        rw [ck_x_th r1 b0 b1]
        simp only [ck_dMark, ck_N_th b0 b1]
        try ((repeat' split) <;> first | rfl | omega)
