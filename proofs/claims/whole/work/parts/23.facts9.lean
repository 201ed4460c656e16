/-- what a while doesn't keep: the numbers nb, the arrays ab (as bits), the while k -/
def ck_dFcv (v nb ab k : Int) (f : ck_D) : ck_D := ck_N (fun n => if ck_and (ck_shr nb n) 1 = 0 then ck_kn f n else 1000000000) (ck_lo f) (ck_hi f) (fun q => if q < v ∧ ck_and (ck_shr ab q) 1 ≠ 0 then 65 + k * 4 + q else ck_va f q) (fun q => if q < v ∧ ck_and (ck_shr ab q) 1 ≠ 0 then 1000000000 else ck_sz f q) (ck_th f)
def ck_dFc (nb ab k : Int) (f : ck_D) : ck_D := ck_dFcv 4 nb ab k f
theorem ck_dFcv_s {v nb ab k : Int} {f : ck_D} (h0 : 0 ≤ v) (h4 : v < 4) (h : ¬ ck_and (ck_shr ab v) 1 = 0) : ck_dJv v k (ck_dFcv v nb ab k f) = ck_dFcv (v + 1) nb ab k f := by
  unfold ck_dJv ck_dFcv
  refine ck_N_ext (fun n a0 a1 => ?_) (fun n a0 a1 => ?_) (fun n q a0 a1 b0 b1 => ?_) (fun q b0 b1 => ?_) (fun q b0 b1 => ?_) (fun q b0 b1 => ?_)
  · rw [ck_N_kn a0 a1]
  · rw [ck_N_lo a0 a1]
  · rw [ck_N_hi a0 a1 b0 b1]
  · rw [ck_N_va b0 b1]
    by_cases hq : q = v
    · subst hq
      rw [if_pos rfl, if_pos ⟨by omega, h⟩]
    · (repeat' split) <;> first | rfl | omega
  · rw [ck_N_sz b0 b1]
    by_cases hq : q = v
    · subst hq
      rw [if_pos rfl, if_pos ⟨by omega, h⟩]
    · (repeat' split) <;> first | rfl | omega
  · rw [ck_N_th b0 b1]
theorem ck_dFcv_n {v nb ab k : Int} {f : ck_D} (h : ck_and (ck_shr ab v) 1 = 0) : ck_dFcv v nb ab k f = ck_dFcv (v + 1) nb ab k f := by
  unfold ck_dFcv
  refine ck_N_ext (fun n a0 a1 => rfl) (fun n a0 a1 => rfl) (fun n q a0 a1 b0 b1 => rfl) (fun q b0 b1 => ?_) (fun q b0 b1 => ?_) (fun q b0 b1 => rfl)
  · by_cases hq : q = v
    · subst hq
      rw [if_neg (fun z => z.2 h), if_neg (fun z => z.2 h)]
    · (repeat' split) <;> first | rfl | omega
  · by_cases hq : q = v
    · subst hq
      rw [if_neg (fun z => z.2 h), if_neg (fun z => z.2 h)]
    · (repeat' split) <;> first | rfl | omega
theorem ck_dFcv_4 {v nb ab k : Int} {f : ck_D} (h : 4 ≤ v) : ck_dFcv v nb ab k f = ck_dFc nb ab k f := by
  unfold ck_dFc ck_dFcv
  refine ck_N_ext (fun n a0 a1 => rfl) (fun n a0 a1 => rfl) (fun n q a0 a1 b0 b1 => rfl) (fun q b0 b1 => ?_) (fun q b0 b1 => ?_) (fun q b0 b1 => rfl) <;> (repeat' split) <;> first | rfl | omega
theorem cx_forgetChanged {c nb ab k : Int} {σ : ck_M} {f : ck_D} (hf : ck_rd σ c = f) : ck_cal 2 cm_Fa_forgetChanged [.inr (c, 3, 0), .inl nb, .inl ab, .inl k] σ (fun q σ' => q = none ∧ ck_f6 σ σ' c ∧ ck_rd σ' c = ck_dFc nb ab k f) := by
  refine ck_cal_of ?_
  refine ck_go_run 2 (X1 := (3, [some (.inr (c, 3, 0)), some (.inl nb), some (.inl ab), some (.inl k), some (.inl 0)], [], σ)) (ps := []) rfl trivial ?_
  refine ck_for 3 (fun v => [some (.inr (c, 3, 0)), some (.inl nb), some (.inl ab), some (.inl k), some (.inl v)]) 10 (fun v s => 0 ≤ v ∧ v ≤ 10 ∧ (∀ b j, (b ≠ c + 1 ∨ j < 0 ∨ v ≤ j) → s b j = (σ) b j) ∧ ∀ q, 0 ≤ q → q < v → s (c + 1) q = (if ck_and (ck_shr nb q) 1 = 0 then ck_kn f q else 1000000000)) (fun v s hv hI kk => ?_) (fun v s hv hI => ?_) 0 _ ⟨by omega, by omega, fun _ _ _ => rfl, fun _ _ _ => by omega⟩
  · obtain ⟨h0, h4, hI1, hI2⟩ := hI
    refine ck_go_run 3 (X1 := (if v < 10 then 10 else 34, [some (.inr (c, 3, 0)), some (.inl nb), some (.inl ab), some (.inl k), some (.inl v)], [], s)) (ps := [ck_rg v, ck_rg 10]) rfl ⟨(ck_rgo (by omega) (by omega)), (ck_rgo (by omega) (by omega)), trivial⟩ ?_
    refine ck_go_t hv ?_
    refine ck_go_run 6 (X1 := (if ck_and (ck_shr nb v) 1 = 0 then 28 else 19, [some (.inr (c, 3, 0)), some (.inl nb), some (.inl ab), some (.inl k), some (.inl v)], [], s)) (ps := [ck_rg (ck_and (ck_shr nb v) 1)]) rfl ⟨ck_rg_and, trivial⟩ ?_
    refine ck_go_ite (fun h1 => ?_) (fun h1 => ?_)
    · refine ck_go_run 2 (X1 := (3, [some (.inr (c, 3, 0)), some (.inl nb), some (.inl ab), some (.inl k), some (.inl (v + 1))], [], s)) (ps := []) rfl trivial ?_
      exact kk _ ⟨by omega, by omega, ck_st0n (g := fun q => (if ck_and (ck_shr nb q) 1 = 0 then ck_kn f q else 1000000000)) hI1 hI2 (by rw [if_pos h1, ck_x_kn hf h0 hv]) h0⟩
    · refine ck_go_run 7 (X1 := (3, [some (.inr (c, 3, 0)), some (.inl nb), some (.inl ab), some (.inl k), some (.inl (v + 1))], [], ck_up s (c + 1) v 1000000000)) (ps := [0 ≤ v ∧ v < ((10 : Nat) : Int)]) rfl ⟨⟨by omega, by omega⟩, trivial⟩ ?_
      exact kk _ ⟨by omega, by omega, ck_st0 (g := fun q => (if ck_and (ck_shr nb q) 1 = 0 then ck_kn f q else 1000000000)) hI1 hI2 (by rw [if_neg h1]) h0⟩
  · obtain ⟨h0, h4, hI1, hI2⟩ := hI
    refine ck_go_run 3 (X1 := (if v < 10 then 10 else 34, [some (.inr (c, 3, 0)), some (.inl nb), some (.inl ab), some (.inl k), some (.inl v)], [], s)) (ps := [ck_rg v, ck_rg 10]) rfl ⟨(ck_rgo (by omega) (by omega)), (ck_rgo (by omega) (by omega)), trivial⟩ ?_
    refine ck_go_f (by omega) ?_
    refine ck_go_run 2 (X1 := (37, [some (.inr (c, 3, 0)), some (.inl nb), some (.inl ab), some (.inl k), some (.inl 0)], [], s)) (ps := []) rfl trivial ?_
    refine ck_for 37 (fun v2 => [some (.inr (c, 3, 0)), some (.inl nb), some (.inl ab), some (.inl k), some (.inl v2)]) 4 (fun v2 t => 0 ≤ v2 ∧ v2 ≤ 4 ∧ ck_f6 σ t c ∧ ck_rd t c = ck_dFcv v2 nb ab k f) (fun v2 t hv hI kk => ?_) (fun v2 t hv hI => ?_) 0 _ ⟨by omega, by omega, fun b j hb => by rw [hI1 b j (by omega)], by
      unfold ck_dFcv
      refine ck_N_ext (fun n a0 a1 => ?_) (fun n a0 a1 => ?_) (fun n q a0 a1 b0 b1 => ?_) (fun q b0 b1 => ?_) (fun q b0 b1 => ?_) (fun q b0 b1 => ?_)
      · rw [hI2 n a0 (by omega)]
      · rw [hI1 _ _ (by omega), ck_x_lo hf a0 a1]
      · rw [hI1 _ _ (by omega), ck_x_hi hf a0 a1 b0 b1]
      · rw [hI1 _ _ (by omega), ck_x_va hf b0 b1, if_neg (by omega)]
      · rw [hI1 _ _ (by omega), ck_x_sz hf b0 b1, if_neg (by omega)]
      · rw [hI1 _ _ (by omega), ck_x_th hf b0 b1]⟩
    · obtain ⟨k0, k4, kf, kr⟩ := hI
      refine ck_go_run 3 (X1 := (if v2 < 4 then 43 else 65, [some (.inr (c, 3, 0)), some (.inl nb), some (.inl ab), some (.inl k), some (.inl v2)], [], t)) (ps := [ck_rg v2, ck_rg 4]) rfl ⟨(ck_rgo (by omega) (by omega)), (ck_rgo (by omega) (by omega)), trivial⟩ ?_
      refine ck_go_t hv ?_
      refine ck_go_run 6 (X1 := (if ck_and (ck_shr ab v2) 1 = 0 then 59 else 52, [some (.inr (c, 3, 0)), some (.inl nb), some (.inl ab), some (.inl k), some (.inl v2)], [], t)) (ps := [ck_rg (ck_and (ck_shr ab v2) 1)]) rfl ⟨ck_rg_and, trivial⟩ ?_
      refine ck_go_ite (fun h2 => ?_) (fun h2 => ?_)
      · refine ck_go_run 2 (X1 := (37, [some (.inr (c, 3, 0)), some (.inl nb), some (.inl ab), some (.inl k), some (.inl (v2 + 1))], [], t)) (ps := []) rfl trivial ?_
        exact kk _ ⟨by omega, by omega, kf, by rw [kr, ck_dFcv_n h2]⟩
      · refine ck_go_run 3 (X1 := (56, [some (.inr (c, 3, 0)), some (.inl nb), some (.inl ab), some (.inl k), some (.inl v2)], [.inl k, .inl v2, .inr (c, 3, 0)], t)) (ps := []) rfl trivial ?_
        refine ck_go_cal (rest := []) (ck_cal_le (by decide) (cx_setJoinedValue (c := c) (r := v2) (k := k) (by omega) kr)) ⟨_, rfl, Or.inl ⟨_, rfl⟩, rfl, rfl, rfl, Nat.le_of_ble_eq_true rfl, fun _ => ⟨_, _, rfl⟩⟩ ?_
        rintro _ s1 ⟨rfl, gj, rj⟩
        try dsimp only at gj rj
        refine ck_go_run 2 (X1 := (37, [some (.inr (c, 3, 0)), some (.inl nb), some (.inl ab), some (.inl k), some (.inl (v2 + 1))], [], s1)) (ps := []) rfl trivial ?_
        exact kk _ ⟨by omega, by omega, ck_f6_tr kf gj, by rw [rj, ck_dFcv_s k0 hv h2]⟩
    · obtain ⟨k0, k4, kf, kr⟩ := hI
      refine ck_go_run 3 (X1 := (if v2 < 4 then 43 else 65, [some (.inr (c, 3, 0)), some (.inl nb), some (.inl ab), some (.inl k), some (.inl v2)], [], t)) (ps := [ck_rg v2, ck_rg 4]) rfl ⟨(ck_rgo (by omega) (by omega)), (ck_rgo (by omega) (by omega)), trivial⟩ ?_
      refine ck_go_f (by omega) ?_
      exact ck_eV ⟨rfl, kf, by rw [kr, ck_dFcv_4 hv]⟩ rfl rfl rfl
/-- the same bounds -/
def ck_sb (f g : ck_D) : Prop := (∀ n, 0 ≤ n → n < 10 → ck_lo f n = ck_lo g n) ∧ (∀ n r, 0 ≤ n → n < 10 → 0 ≤ r → r < 4 → ck_hi f n r = ck_hi g n r) ∧ ∀ r, 0 ≤ r → r < 4 → ck_th f r = ck_th g r
theorem cx_hasSameBounds {c e : Int} {σ : ck_M} {f g : ck_D} (hf : ck_rd σ c = f) (hB : ck_fb f) (hg : ck_rd σ e = g) (hG : ck_fb g) : ck_cal 1 cm_Fa_hasSameBounds [.inr (c, 3, 0), .inr (e, 3, 0)] σ (fun q σ' => σ' = σ ∧ ((q = some 1 ∧ ck_sb f g) ∨ (q = some 0 ∧ ¬ ck_sb f g))) := by
  refine ck_cal_of ?_
  refine ck_go_run 2 (X1 := (2, [some (.inr (c, 3, 0)), some (.inr (e, 3, 0)), some (.inl 0)], [], σ)) (ps := []) rfl trivial ?_
  refine ck_for 2 (fun v => [some (.inr (c, 3, 0)), some (.inr (e, 3, 0)), some (.inl v)]) 10 (fun v s => (0 ≤ v ∧ v ≤ 10) ∧ s = σ ∧ ∀ q, 0 ≤ q → q < v → ck_lo f q = ck_lo g q) (fun v s hv hI kk => ?_) (fun v s hv hI => ?_) 0 _ ⟨⟨by omega, by omega⟩, rfl, fun _ _ _ => by omega⟩
  · obtain ⟨⟨h0, hu⟩, hs, hI2⟩ := hI
    have e1 : s (c + 2) v = ck_lo f v := by rw [hs, ck_x_lo hf h0 hv]
    have e2 : s (e + 2) v = ck_lo g v := by rw [hs, ck_x_lo hg h0 hv]
    have b1 := hB.2.1 v
    have b2 := hG.2.1 v
    refine ck_go_run 3 (X1 := (if v < 10 then 8 else 31, [some (.inr (c, 3, 0)), some (.inr (e, 3, 0)), some (.inl v)], [], s)) (ps := [ck_rg v, ck_rg 10]) rfl ⟨(ck_rgo (by omega) (by omega)), (ck_rgo (by omega) (by omega)), trivial⟩ ?_
    refine ck_go_t hv ?_
    refine ck_go_run 9 (X1 := (if s (c + 2) v = s (e + 2) v then 25 else 23, [some (.inr (c, 3, 0)), some (.inr (e, 3, 0)), some (.inl v)], [], s)) (ps := [0 ≤ v ∧ v < ((10 : Nat) : Int), 0 ≤ v ∧ v < ((10 : Nat) : Int), ck_rg (s (c + 2) v), ck_rg (s (e + 2) v)]) rfl ⟨⟨by omega, by omega⟩, ⟨by omega, by omega⟩, (ck_rgo (by omega) (by omega)), (ck_rgo (by omega) (by omega)), trivial⟩ ?_
    refine ck_go_ite (fun h1 => ?_) (fun h1 => ?_)
    · refine ck_go_run 2 (X1 := (2, [some (.inr (c, 3, 0)), some (.inr (e, 3, 0)), some (.inl (v + 1))], [], s)) (ps := []) rfl trivial ?_
      exact kk _ ⟨⟨by omega, by omega⟩, hs, fun q z0 z1 => by
        by_cases hq : q = v
        · subst hq
          rw [← e1, ← e2]
          assumption
        · exact hI2 q z0 (by omega)⟩
    · refine ck_go_run 1 (X1 := (24, [some (.inr (c, 3, 0)), some (.inr (e, 3, 0)), some (.inl v)], [.inl 0], s)) (ps := []) rfl trivial ?_
      exact ck_eZ (Or.inl rfl) ⟨hs, Or.inr ⟨rfl, fun z => h1 (by rw [e1, e2]; exact z.1 v h0 hv)⟩⟩ rfl rfl rfl
  · obtain ⟨⟨h0, hu⟩, hs, hI2⟩ := hI
    refine ck_go_run 3 (X1 := (if v < 10 then 8 else 31, [some (.inr (c, 3, 0)), some (.inr (e, 3, 0)), some (.inl v)], [], s)) (ps := [ck_rg v, ck_rg 10]) rfl ⟨(ck_rgo (by omega) (by omega)), (ck_rgo (by omega) (by omega)), trivial⟩ ?_
    refine ck_go_f (by omega) ?_
    refine ck_go_run 2 (X1 := (33, [some (.inr (c, 3, 0)), some (.inr (e, 3, 0)), some (.inl 0)], [], s)) (ps := []) rfl trivial ?_
    refine ck_for 33 (fun v2 => [some (.inr (c, 3, 0)), some (.inr (e, 3, 0)), some (.inl v2)]) (((40 : Nat) : Int)) (fun v2 t => (0 ≤ v2 ∧ v2 ≤ ((40 : Nat) : Int)) ∧ t = σ ∧ ∀ q, 0 ≤ q → q < v2 → ck_hi f (q / 4) (q % 4) = ck_hi g (q / 4) (q % 4)) (fun v2 t hv hI kk => ?_) (fun v2 t hv hI => ?_) 0 _ ⟨⟨by omega, by omega⟩, hs, fun _ _ _ => by omega⟩
    · obtain ⟨⟨k0, hu⟩, ks, kI2⟩ := hI
      have e1 : t (c + 3) v2 = ck_hi f (v2 / 4) (v2 % 4) := by rw [ks, ck_x_hr hf k0 (by omega)]
      have e2 : t (e + 3) v2 = ck_hi g (v2 / 4) (v2 % 4) := by rw [ks, ck_x_hr hg k0 (by omega)]
      have b1 := hB.2.2.1 (v2 / 4) (v2 % 4)
      have b2 := hG.2.2.1 (v2 / 4) (v2 % 4)
      refine ck_go_run 5 (X1 := (if v2 < ((40 : Nat) : Int) then 42 else 65, [some (.inr (c, 3, 0)), some (.inr (e, 3, 0)), some (.inl v2)], [], t)) (ps := [ck_rg v2, ck_rg (((40 : Nat) : Int))]) rfl ⟨(ck_rgo (by omega) (by omega)), (ck_rgo (by omega) (by omega)), trivial⟩ ?_
      refine ck_go_t hv ?_
      refine ck_go_run 9 (X1 := (if t (c + 3) v2 = t (e + 3) v2 then 59 else 57, [some (.inr (c, 3, 0)), some (.inr (e, 3, 0)), some (.inl v2)], [], t)) (ps := [0 ≤ v2 ∧ v2 < ((40 : Nat) : Int), 0 ≤ v2 ∧ v2 < ((40 : Nat) : Int), ck_rg (t (c + 3) v2), ck_rg (t (e + 3) v2)]) rfl ⟨⟨by omega, by omega⟩, ⟨by omega, by omega⟩, (ck_rgo (by omega) (by omega)), (ck_rgo (by omega) (by omega)), trivial⟩ ?_
      refine ck_go_ite (fun h2 => ?_) (fun h2 => ?_)
      · refine ck_go_run 2 (X1 := (33, [some (.inr (c, 3, 0)), some (.inr (e, 3, 0)), some (.inl (v2 + 1))], [], t)) (ps := []) rfl trivial ?_
        exact kk _ ⟨⟨by omega, by omega⟩, ks, fun q z0 z1 => by
          by_cases hq : q = v2
          · subst hq
            rw [← e1, ← e2]
            assumption
          · exact kI2 q z0 (by omega)⟩
      · refine ck_go_run 1 (X1 := (58, [some (.inr (c, 3, 0)), some (.inr (e, 3, 0)), some (.inl v2)], [.inl 0], t)) (ps := []) rfl trivial ?_
        exact ck_eZ (Or.inl rfl) ⟨ks, Or.inr ⟨rfl, fun z => h2 (by rw [e1, e2]; exact z.2.1 _ _ (by omega) (by omega) (by omega) (by omega))⟩⟩ rfl rfl rfl
    · obtain ⟨⟨k0, hu⟩, ks, kI2⟩ := hI
      refine ck_go_run 5 (X1 := (if v2 < ((40 : Nat) : Int) then 42 else 65, [some (.inr (c, 3, 0)), some (.inr (e, 3, 0)), some (.inl v2)], [], t)) (ps := [ck_rg v2, ck_rg (((40 : Nat) : Int))]) rfl ⟨(ck_rgo (by omega) (by omega)), (ck_rgo (by omega) (by omega)), trivial⟩ ?_
      refine ck_go_f (by omega) ?_
      refine ck_go_run 2 (X1 := (67, [some (.inr (c, 3, 0)), some (.inr (e, 3, 0)), some (.inl 0)], [], t)) (ps := []) rfl trivial ?_
      refine ck_for 67 (fun v3 => [some (.inr (c, 3, 0)), some (.inr (e, 3, 0)), some (.inl v3)]) 4 (fun v3 w => (0 ≤ v3 ∧ v3 ≤ 4) ∧ w = σ ∧ ∀ q, 0 ≤ q → q < v3 → ck_th f q = ck_th g q) (fun v3 w hv hI kk => ?_) (fun v3 w hv hI => ?_) 0 _ ⟨⟨by omega, by omega⟩, ks, fun _ _ _ => by omega⟩
      · obtain ⟨⟨m0, hu⟩, mss, mI2⟩ := hI
        have e1 : w (c + 6) v3 = ck_th f v3 := by rw [mss, ck_x_th hf m0 hv]
        have e2 : w (e + 6) v3 = ck_th g v3 := by rw [mss, ck_x_th hg m0 hv]
        have b1 := hB.2.2.2.2.2 v3
        have b2 := hG.2.2.2.2.2 v3
        refine ck_go_run 3 (X1 := (if v3 < 4 then 72 else 95, [some (.inr (c, 3, 0)), some (.inr (e, 3, 0)), some (.inl v3)], [], w)) (ps := [ck_rg v3, ck_rg 4]) rfl ⟨(ck_rgo (by omega) (by omega)), (ck_rgo (by omega) (by omega)), trivial⟩ ?_
        refine ck_go_t hv ?_
        refine ck_go_run 9 (X1 := (if w (c + 6) v3 = w (e + 6) v3 then 89 else 87, [some (.inr (c, 3, 0)), some (.inr (e, 3, 0)), some (.inl v3)], [], w)) (ps := [0 ≤ v3 ∧ v3 < ((4 : Nat) : Int), 0 ≤ v3 ∧ v3 < ((4 : Nat) : Int), ck_rg (w (c + 6) v3), ck_rg (w (e + 6) v3)]) rfl ⟨⟨by omega, by omega⟩, ⟨by omega, by omega⟩, (ck_rgo (by omega) (by omega)), (ck_rgo (by omega) (by omega)), trivial⟩ ?_
        refine ck_go_ite (fun h3 => ?_) (fun h3 => ?_)
        · refine ck_go_run 2 (X1 := (67, [some (.inr (c, 3, 0)), some (.inr (e, 3, 0)), some (.inl (v3 + 1))], [], w)) (ps := []) rfl trivial ?_
          exact kk _ ⟨⟨by omega, by omega⟩, mss, fun q z0 z1 => by
            by_cases hq : q = v3
            · subst hq
              rw [← e1, ← e2]
              assumption
            · exact mI2 q z0 (by omega)⟩
        · refine ck_go_run 1 (X1 := (88, [some (.inr (c, 3, 0)), some (.inr (e, 3, 0)), some (.inl v3)], [.inl 0], w)) (ps := []) rfl trivial ?_
          exact ck_eZ (Or.inl rfl) ⟨mss, Or.inr ⟨rfl, fun z => h3 (by rw [e1, e2]; exact z.2.2 v3 m0 hv)⟩⟩ rfl rfl rfl
      · obtain ⟨⟨m0, hu⟩, mss, mI2⟩ := hI
        refine ck_go_run 3 (X1 := (if v3 < 4 then 72 else 95, [some (.inr (c, 3, 0)), some (.inr (e, 3, 0)), some (.inl v3)], [], w)) (ps := [ck_rg v3, ck_rg 4]) rfl ⟨(ck_rgo (by omega) (by omega)), (ck_rgo (by omega) (by omega)), trivial⟩ ?_
        refine ck_go_f (by omega) ?_
        refine ck_go_run 1 (X1 := (96, [some (.inr (c, 3, 0)), some (.inr (e, 3, 0)), some (.inl v3)], [.inl 1], w)) (ps := []) rfl trivial ?_
        exact ck_eZ (Or.inr rfl) ⟨mss, Or.inl ⟨rfl, fun n z0 z1 => hI2 n z0 (by omega), fun n r z0 z1 z2 z3 => by
          have h9 := kI2 (n * 4 + r) (by omega) (by omega)
          rw [show (n * 4 + r) / 4 = n by omega, show (n * 4 + r) % 4 = r by omega] at h9
          exact h9, fun r z0 z1 => mI2 r z0 (by omega)⟩⟩ rfl rfl rfl
