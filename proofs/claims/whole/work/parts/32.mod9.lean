/-- statements between k and e change the number n; the array r -/
def ck_cn (σ : ck_M) (k e n : Int) : Prop := ∃ j, k < j ∧ j < e ∧ σ 481 j < 5 ∧ σ 482 j = n
def ck_ca (σ : ck_M) (k e r : Int) : Prop := ∃ j, k < j ∧ j < e ∧ 6 ≤ σ 481 j ∧ σ 481 j ≤ 8 ∧ σ 482 j = r
/-- what a while doesn't keep -/
def ck_qFc (nb ab k : Int) (f : ck_Q) : ck_Q := ck_P (fun n => if ck_and (ck_shr nb n) 1 = 0 then ck_K f n else 0) (ck_I f) (ck_L f) (fun q => if ck_and (ck_shr ab q) 1 = 0 then ck_V f q else 100 + 4 * k + q) (ck_T f) (fun q => if ck_and (ck_shr ab q) 1 = 0 then ck_G f q else 1000000000) (ck_H f)
theorem ck_cn_s {σ : ck_M} {k v n : Int} (hk : k < v) : ck_cn σ k (v + 1) n ↔ ck_cn σ k v n ∨ (σ 481 v < 5 ∧ σ 482 v = n) := by
  constructor
  · rintro ⟨j, h1, h2, h3, h4⟩
    by_cases hj : j = v
    · subst hj
      exact Or.inr ⟨h3, h4⟩
    · exact Or.inl ⟨j, h1, by omega, h3, h4⟩
  · rintro (⟨j, h1, h2, h3, h4⟩ | ⟨h3, h4⟩)
    · exact ⟨j, h1, by omega, h3, h4⟩
    · exact ⟨v, hk, by omega, h3, h4⟩
theorem ck_ca_s {σ : ck_M} {k v r : Int} (hk : k < v) : ck_ca σ k (v + 1) r ↔ ck_ca σ k v r ∨ (6 ≤ σ 481 v ∧ σ 481 v ≤ 8 ∧ σ 482 v = r) := by
  constructor
  · rintro ⟨j, h1, h2, h3, h4, h5⟩
    by_cases hj : j = v
    · subst hj
      exact Or.inr ⟨h3, h4, h5⟩
    · exact Or.inl ⟨j, h1, by omega, h3, h4, h5⟩
  · rintro (⟨j, h1, h2, h3, h4, h5⟩ | ⟨h3, h4, h5⟩)
    · exact ⟨j, h1, by omega, h3, h4, h5⟩
    · exact ⟨v, hk, by omega, h3, h4, h5⟩
theorem ck_cn_0 {σ : ck_M} {k n : Int} : ¬ ck_cn σ k (k + 1) n := by rintro ⟨j, h1, h2, -⟩; omega
theorem ck_ca_0 {σ : ck_M} {k n : Int} : ¬ ck_ca σ k (k + 1) n := by rintro ⟨j, h1, h2, -⟩; omega
/-- loosened so far -/
def ck_lo2 (σ s : ck_M) (k v : Int) (f : ck_Q) : Prop := (∀ b j, b ≠ 490 → s b j = σ b j) ∧ (∀ n, 0 ≤ n → n < 10 → (ck_cn σ k v n → s 490 (0 + n) = 0) ∧ (¬ ck_cn σ k v n → s 490 (0 + n) = ck_K f n)) ∧ (∀ r, 0 ≤ r → r < 4 → (ck_ca σ k v r → s 490 (30 + r) = 100 + 4 * k + r ∧ s 490 (38 + r) = 1000000000) ∧ (¬ ck_ca σ k v r → s 490 (30 + r) = ck_V f r ∧ s 490 (38 + r) = ck_G f r)) ∧ (∀ n, 0 ≤ n → n < 10 → s 490 (10 + n) = ck_I f n ∧ s 490 (20 + n) = ck_L f n) ∧ (∀ r, 0 ≤ r → r < 4 → s 490 (34 + r) = ck_T f r) ∧ ∀ n r, 0 ≤ n → n < 10 → 0 ≤ r → r < 4 → s 490 (42 + 4 * n + r) = ck_H f n r
theorem ck_lo2_0 {σ : ck_M} {k : Int} {f : ck_Q} (hf : ck_mv (σ 490) = f) : ck_lo2 σ σ k (k + 1) f :=
  ⟨fun _ _ _ => rfl, fun n h0 h1 => ⟨fun h => absurd h ck_cn_0, fun _ => ck_y_K hf h0 h1⟩, fun r h0 h1 => ⟨fun h => absurd h ck_ca_0, fun _ => ⟨ck_y_V hf h0 h1, ck_y_G hf h0 h1⟩⟩, fun n h0 h1 => ⟨ck_y_I hf h0 h1, ck_y_L hf h0 h1⟩, fun r h0 h1 => ck_y_T hf h0 h1, fun n r h0 h1 h2 h3 => ck_y_H hf h0 h1 h2 h3⟩
theorem ck_lo2_n {σ s : ck_M} {k v x : Int} {f : ck_Q} (hk : k < v) (h : ck_lo2 σ s k v f) (h5 : σ 481 v < 5) (h0 : 0 ≤ σ 481 v) (hx : σ 482 v = x) (hx0 : 0 ≤ x) (hx1 : x < 10) : ck_lo2 σ (ck_up s 490 (0 + x) 0) k (v + 1) f := by
  obtain ⟨a1, a2, a3, a4, a5, a6⟩ := h
  have up : ∀ j, j ≠ 0 + x → ck_up s 490 (0 + x) 0 490 j = s 490 j := fun j hj => by unfold ck_up; rw [if_neg (fun q => hj q.2)]
  refine ⟨fun b j hb => ?_, fun n z0 z1 => ?_, fun r z0 z1 => ?_, fun n z0 z1 => ?_, fun r z0 z1 => ?_, fun n r z0 z1 z2 z3 => ?_⟩
  · unfold ck_up
    rw [if_neg (fun q => hb q.1)]
    exact a1 b j hb
  · rw [ck_cn_s hk]
    by_cases hn : n = x
    · subst hn
      have e : ck_up s 490 (0 + n) 0 490 (0 + n) = 0 := by unfold ck_up; rw [if_pos ⟨rfl, rfl⟩]
      exact ⟨fun _ => e, fun q => absurd (Or.inr ⟨h5, hx⟩) q⟩
    · rw [up (0 + n) (by omega)]
      refine ⟨fun q => (a2 n z0 z1).1 (q.resolve_right (fun z => hn ?_)), fun q => (a2 n z0 z1).2 (fun z => q (Or.inl z))⟩
      rw [← hx]; exact z.2.symm
  · rw [ck_ca_s hk]
    rw [up (30 + r) (by omega), up (38 + r) (by omega)]
    exact ⟨fun q => (a3 r z0 z1).1 (q.resolve_right (fun z => by omega)), fun q => (a3 r z0 z1).2 (fun z => q (Or.inl z))⟩
  · rw [up (10 + n) (by omega), up (20 + n) (by omega)]
    exact a4 n z0 z1
  · rw [up (34 + r) (by omega)]
    exact a5 r z0 z1
  · rw [up (42 + 4 * n + r) (by omega)]
    exact a6 n r z0 z1 z2 z3
theorem ck_lo2_a {σ s : ck_M} {k v x : Int} {f : ck_Q} (hk : k < v) (h : ck_lo2 σ s k v f) (h6 : 6 ≤ σ 481 v) (h8 : σ 481 v ≤ 8) (hx : σ 482 v = x) (hx0 : 0 ≤ x) (hx1 : x < 4) : ck_lo2 σ (ck_up (ck_up s 490 (30 + x) (100 + 4 * k + x)) 490 (38 + x) 1000000000) k (v + 1) f := by
  obtain ⟨a1, a2, a3, a4, a5, a6⟩ := h
  have up : ∀ j, j ≠ 30 + x → j ≠ 38 + x → ck_up (ck_up s 490 (30 + x) (100 + 4 * k + x)) 490 (38 + x) 1000000000 490 j = s 490 j := fun j hj hj2 => by unfold ck_up; rw [if_neg (fun q => hj2 q.2), if_neg (fun q => hj q.2)]
  refine ⟨fun b j hb => ?_, fun n z0 z1 => ?_, fun r z0 z1 => ?_, fun n z0 z1 => ?_, fun r z0 z1 => ?_, fun n r z0 z1 z2 z3 => ?_⟩
  · unfold ck_up
    rw [if_neg (fun q => hb q.1), if_neg (fun q => hb q.1)]
    exact a1 b j hb
  · rw [ck_cn_s hk, up (0 + n) (by omega) (by omega)]
    exact ⟨fun q => (a2 n z0 z1).1 (q.resolve_right (fun z => by omega)), fun q => (a2 n z0 z1).2 (fun z => q (Or.inl z))⟩
  · rw [ck_ca_s hk]
    by_cases hn : r = x
    · subst hn
      have e : ck_up (ck_up s 490 (30 + r) (100 + 4 * k + r)) 490 (38 + r) 1000000000 490 (30 + r) = 100 + 4 * k + r := by unfold ck_up; rw [if_neg (by omega), if_pos ⟨rfl, rfl⟩]
      have e2 : ck_up (ck_up s 490 (30 + r) (100 + 4 * k + r)) 490 (38 + r) 1000000000 490 (38 + r) = 1000000000 := by unfold ck_up; rw [if_pos ⟨rfl, rfl⟩]
      exact ⟨fun _ => ⟨e, e2⟩, fun q => absurd (Or.inr ⟨h6, h8, hx⟩) q⟩
    · rw [up (30 + r) (by omega) (by omega), up (38 + r) (by omega) (by omega)]
      refine ⟨fun q => (a3 r z0 z1).1 (q.resolve_right (fun z => hn ?_)), fun q => (a3 r z0 z1).2 (fun z => q (Or.inl z))⟩
      rw [← hx]; exact z.2.2.symm
  · rw [up (10 + n) (by omega) (by omega), up (20 + n) (by omega) (by omega)]
    exact a4 n z0 z1
  · rw [up (34 + r) (by omega) (by omega)]
    exact a5 r z0 z1
  · rw [up (42 + 4 * n + r) (by omega) (by omega)]
    exact a6 n r z0 z1 z2 z3
theorem ck_lo2_o {σ s : ck_M} {k v : Int} {f : ck_Q} (hk : k < v) (h : ck_lo2 σ s k v f) (h5 : ¬ σ 481 v < 5) (h6 : ¬ (6 ≤ σ 481 v ∧ σ 481 v ≤ 8)) : ck_lo2 σ s k (v + 1) f := by
  obtain ⟨a1, a2, a3, a4⟩ := h
  refine ⟨a1, fun n z0 z1 => ?_, fun r z0 z1 => ?_, a4⟩
  · rw [ck_cn_s hk]
    exact ⟨fun q => (a2 n z0 z1).1 (q.resolve_right (fun z => h5 z.1)), fun q => (a2 n z0 z1).2 (fun z => q (Or.inl z))⟩
  · rw [ck_ca_s hk]
    exact ⟨fun q => (a3 r z0 z1).1 (q.resolve_right (fun z => h6 ⟨z.1, z.2.1⟩)), fun q => (a3 r z0 z1).2 (fun z => q (Or.inl z))⟩
theorem ck_lo2_e {σ s : ck_M} {k e nb ab : Int} {f : ck_Q} (h : ck_lo2 σ s k e f) (hN : ∀ n, 0 ≤ n → n < 10 → (ck_and (ck_shr nb n) 1 = 0 ↔ ¬ ck_cn σ k e n)) (hA : ∀ r, 0 ≤ r → r < 4 → (ck_and (ck_shr ab r) 1 = 0 ↔ ¬ ck_ca σ k e r)) : ck_mv (s 490) = ck_qFc nb ab k f := by
  obtain ⟨a1, a2, a3, a4, a5, a6⟩ := h
  unfold ck_qFc
  refine ck_P_ext (fun n a0 a1 => ?_) (fun n a0 a1 => ?_) (fun n a0 a1 => ?_) (fun q b0 b1 => ?_) (fun q b0 b1 => ?_) (fun q b0 b1 => ?_) (fun n q a0 a1 b0 b1 => ?_)
  · by_cases hb : ck_and (ck_shr nb n) 1 = 0
    · rw [if_pos hb]
      exact (a2 n a0 a1).2 ((hN n a0 a1).mp hb)
    · rw [if_neg hb]
      exact (a2 n a0 a1).1 (Classical.byContradiction fun z => hb ((hN n a0 a1).mpr z))
  · exact (a4 n a0 a1).1
  · exact (a4 n a0 a1).2
  · by_cases hb : ck_and (ck_shr ab q) 1 = 0
    · rw [if_pos hb]
      exact ((a3 q b0 b1).2 ((hA q b0 b1).mp hb)).1
    · rw [if_neg hb]
      exact ((a3 q b0 b1).1 (Classical.byContradiction fun z => hb ((hA q b0 b1).mpr z))).1
  · exact a5 q b0 b1
  · by_cases hb : ck_and (ck_shr ab q) 1 = 0
    · rw [if_pos hb]
      exact ((a3 q b0 b1).2 ((hA q b0 b1).mp hb)).2
    · rw [if_neg hb]
      exact ((a3 q b0 b1).1 (Classical.byContradiction fun z => hb ((hA q b0 b1).mpr z))).2
  · exact a6 n q a0 a1 b0 b1
theorem cx_loosen {k e nb ab : Int} (hk : 0 ≤ k ∧ k < 64) (he : k < e ∧ e < 64) {σ : ck_M} (hE : σ 486 k = e) (hS : ∀ j, k < j → j < e → (0 ≤ σ 481 j ∧ σ 481 j ≤ 13) ∧ (0 ≤ σ 482 j ∧ σ 482 j < 10) ∧ (6 ≤ σ 481 j ∧ σ 481 j ≤ 8 → σ 482 j < 4)) (hN : ∀ n, 0 ≤ n → n < 10 → (ck_and (ck_shr nb n) 1 = 0 ↔ ¬ ck_cn σ k e n)) (hA : ∀ r, 0 ≤ r → r < 4 → (ck_and (ck_shr ab r) 1 = 0 ↔ ¬ ck_ca σ k e r)) {f : ck_Q} (hf : ck_mv (σ 490) = f) : ck_cal 1 cm_Mo_loosen [.inr (480, 3, 6), .inl k] σ (fun q σ' => q = none ∧ ck_f1 σ σ' 490 ∧ ck_mv (σ' 490) = ck_qFc nb ab k f) := by
  refine ck_cal_of ?_
  refine ck_go_run 4 (X1 := (4, [some (.inr (480, 3, 6)), some (.inl k), some (.inl (k + 1))], [], σ)) (ps := []) rfl trivial ?_
  refine ck_for 4 (fun v => [some (.inr (480, 3, 6)), some (.inl k), some (.inl v)]) e (fun v s => k < v ∧ v ≤ e ∧ ck_lo2 σ s k v f) (fun v s hv hI kk => ?_) (fun v s hv hI => ?_) (k + 1) _ ⟨by omega, by omega, ck_lo2_0 hf⟩
  · obtain ⟨h0, h4, hI⟩ := hI
    have eE : s 486 k = e := by rw [hI.1 _ _ (by decide), hE]
    have eS : s 481 v = σ 481 v := hI.1 _ _ (by decide)
    have eX : s 482 v = σ 482 v := hI.1 _ _ (by decide)
    have w1 := hS v h0 hv
    rw [← eS, ← eX] at w1
    refine ck_go_run 6 (X1 := (if v < s 486 k then 14 else 112, [some (.inr (480, 3, 6)), some (.inl k), some (.inl v)], [], s)) (ps := [0 ≤ k ∧ k < ((64 : Nat) : Int), ck_rg v, ck_rg (s 486 k)]) rfl ⟨⟨by omega, by omega⟩, (ck_rgo (by omega) (by omega)), (ck_rgo (by omega) (by omega)), trivial⟩ ?_
    refine ck_go_t (by omega) ?_
    refine ck_go_run 6 (X1 := (if s 481 v < 5 then 24 else 38, [some (.inr (480, 3, 6)), some (.inl k), some (.inl v)], [], s)) (ps := [0 ≤ v ∧ v < ((64 : Nat) : Int), ck_rg (s 481 v), ck_rg 5]) rfl ⟨⟨by omega, by omega⟩, (ck_rgo (by omega) (by omega)), (ck_rgo (by omega) (by omega)), trivial⟩ ?_
    refine ck_go_ite (fun h1 => ?_) (fun h1 => ?_)
    · refine ck_go_run 10 (X1 := (38, [some (.inr (480, 3, 6)), some (.inl k), some (.inl v)], [], ck_up s 490 (0 + (s 482 v)) 0)) (ps := [0 ≤ v ∧ v < ((64 : Nat) : Int), 0 ≤ 0 + (s 482 v) ∧ 0 + (s 482 v) < ((82 : Nat) : Int)]) rfl ⟨⟨by omega, by omega⟩, ⟨by omega, by omega⟩, trivial⟩ ?_
      obtain ⟨t, ht⟩ : ∃ z, z = ck_up s 490 (0 + (s 482 v)) 0 := ⟨_, rfl⟩
      rw [← ht]
      have tS : t 481 v = s 481 v := by rw [ht]; try (simp only [ck_up]; rw [if_neg (by omega)])
      have tX : t 482 v = s 482 v := by rw [ht]; try (simp only [ck_up]; rw [if_neg (by omega)])
      refine ck_go_run 6 (X1 := (if t 481 v < 6 then 106 else 49, [some (.inr (480, 3, 6)), some (.inl k), some (.inl v)], [], t)) (ps := [0 ≤ v ∧ v < ((64 : Nat) : Int), ck_rg (t 481 v), ck_rg 6]) rfl ⟨⟨by omega, by omega⟩, (ck_rgo (by omega) (by omega)), (ck_rgo (by omega) (by omega)), trivial⟩ ?_
      refine ck_go_ite (fun h2 => ?_) (fun h2 => ?_)
      · refine ck_go_run 2 (X1 := (4, [some (.inr (480, 3, 6)), some (.inl k), some (.inl (v + 1))], [], t)) (ps := []) rfl trivial ?_
        exact kk _ ⟨by omega, by omega, (by
          first
          | (exfalso; omega)
          | (rw [ht]; exact ck_lo2_n h0 hI (by omega) (by omega) eX.symm (by omega) (by omega))
          | (rw [ht]; exact ck_lo2_o h0 hI (by omega) (by omega)))⟩
      · refine ck_go_run 6 (X1 := (if 8 < t 481 v then 60 else 63, [some (.inr (480, 3, 6)), some (.inl k), some (.inl v)], [], t)) (ps := [0 ≤ v ∧ v < ((64 : Nat) : Int), ck_rg (t 481 v), ck_rg 8]) rfl ⟨⟨by omega, by omega⟩, (ck_rgo (by omega) (by omega)), (ck_rgo (by omega) (by omega)), trivial⟩ ?_
        refine ck_go_ite (fun h3 => ?_) (fun h3 => ?_)
        · refine ck_go_run 3 (X1 := (4, [some (.inr (480, 3, 6)), some (.inl k), some (.inl (v + 1))], [], t)) (ps := []) rfl trivial ?_
          exact kk _ ⟨by omega, by omega, (by
            first
            | (exfalso; omega)
            | (rw [ht]; exact ck_lo2_n h0 hI (by omega) (by omega) eX.symm (by omega) (by omega))
            | (rw [ht]; exact ck_lo2_o h0 hI (by omega) (by omega)))⟩
        · refine ck_go_run 19 (X1 := (90, [some (.inr (480, 3, 6)), some (.inl k), some (.inl v)], [], ck_up t 490 (30 + (t 482 v)) ((100 + (4 * k)) + (t 482 v)))) (ps := [0 ≤ v ∧ v < ((64 : Nat) : Int), 0 ≤ v ∧ v < ((64 : Nat) : Int), 0 ≤ 30 + (t 482 v) ∧ 30 + (t 482 v) < ((82 : Nat) : Int)]) rfl ⟨⟨by omega, by omega⟩, ⟨by omega, by omega⟩, ⟨by omega, by omega⟩, trivial⟩ ?_
          obtain ⟨t2, ht2⟩ : ∃ z, z = ck_up t 490 (30 + (t 482 v)) ((100 + (4 * k)) + (t 482 v)) := ⟨_, rfl⟩
          rw [← ht2]
          have t2X : t2 482 v = s 482 v := by rw [ht2]; simp only [ck_up]; rw [if_neg (by omega)]; exact tX
          refine ck_go_run 12 (X1 := (4, [some (.inr (480, 3, 6)), some (.inl k), some (.inl (v + 1))], [], ck_up t2 490 (38 + (t2 482 v)) 1000000000)) (ps := [0 ≤ v ∧ v < ((64 : Nat) : Int), 0 ≤ 38 + (t2 482 v) ∧ 38 + (t2 482 v) < ((82 : Nat) : Int)]) rfl ⟨⟨by omega, by omega⟩, ⟨by omega, by omega⟩, trivial⟩ ?_
          exact kk _ ⟨by omega, by omega, (by
            first
            | (exfalso; omega)
            | (rw [t2X, ht2, tX, ht]; exact ck_lo2_a h0 hI (by omega) (by omega) eX.symm (by omega) (by omega)))⟩
    · obtain ⟨t, ht⟩ : ∃ z, z = s := ⟨_, rfl⟩
      rw [← ht]
      have tS : t 481 v = s 481 v := by rw [ht]; try (simp only [ck_up]; rw [if_neg (by omega)])
      have tX : t 482 v = s 482 v := by rw [ht]; try (simp only [ck_up]; rw [if_neg (by omega)])
      refine ck_go_run 6 (X1 := (if t 481 v < 6 then 106 else 49, [some (.inr (480, 3, 6)), some (.inl k), some (.inl v)], [], t)) (ps := [0 ≤ v ∧ v < ((64 : Nat) : Int), ck_rg (t 481 v), ck_rg 6]) rfl ⟨⟨by omega, by omega⟩, (ck_rgo (by omega) (by omega)), (ck_rgo (by omega) (by omega)), trivial⟩ ?_
      refine ck_go_ite (fun h4 => ?_) (fun h4 => ?_)
      · refine ck_go_run 2 (X1 := (4, [some (.inr (480, 3, 6)), some (.inl k), some (.inl (v + 1))], [], t)) (ps := []) rfl trivial ?_
        exact kk _ ⟨by omega, by omega, (by
          first
          | (exfalso; omega)
          | (rw [ht]; exact ck_lo2_n h0 hI (by omega) (by omega) eX.symm (by omega) (by omega))
          | (rw [ht]; exact ck_lo2_o h0 hI (by omega) (by omega)))⟩
      · refine ck_go_run 6 (X1 := (if 8 < t 481 v then 60 else 63, [some (.inr (480, 3, 6)), some (.inl k), some (.inl v)], [], t)) (ps := [0 ≤ v ∧ v < ((64 : Nat) : Int), ck_rg (t 481 v), ck_rg 8]) rfl ⟨⟨by omega, by omega⟩, (ck_rgo (by omega) (by omega)), (ck_rgo (by omega) (by omega)), trivial⟩ ?_
        refine ck_go_ite (fun h5 => ?_) (fun h5 => ?_)
        · refine ck_go_run 3 (X1 := (4, [some (.inr (480, 3, 6)), some (.inl k), some (.inl (v + 1))], [], t)) (ps := []) rfl trivial ?_
          exact kk _ ⟨by omega, by omega, (by
            first
            | (exfalso; omega)
            | (rw [ht]; exact ck_lo2_n h0 hI (by omega) (by omega) eX.symm (by omega) (by omega))
            | (rw [ht]; exact ck_lo2_o h0 hI (by omega) (by omega)))⟩
        · refine ck_go_run 19 (X1 := (90, [some (.inr (480, 3, 6)), some (.inl k), some (.inl v)], [], ck_up t 490 (30 + (t 482 v)) ((100 + (4 * k)) + (t 482 v)))) (ps := [0 ≤ v ∧ v < ((64 : Nat) : Int), 0 ≤ v ∧ v < ((64 : Nat) : Int), 0 ≤ 30 + (t 482 v) ∧ 30 + (t 482 v) < ((82 : Nat) : Int)]) rfl ⟨⟨by omega, by omega⟩, ⟨by omega, by omega⟩, ⟨by omega, by omega⟩, trivial⟩ ?_
          obtain ⟨t2, ht2⟩ : ∃ z, z = ck_up t 490 (30 + (t 482 v)) ((100 + (4 * k)) + (t 482 v)) := ⟨_, rfl⟩
          rw [← ht2]
          have t2X : t2 482 v = s 482 v := by rw [ht2]; simp only [ck_up]; rw [if_neg (by omega)]; exact tX
          refine ck_go_run 12 (X1 := (4, [some (.inr (480, 3, 6)), some (.inl k), some (.inl (v + 1))], [], ck_up t2 490 (38 + (t2 482 v)) 1000000000)) (ps := [0 ≤ v ∧ v < ((64 : Nat) : Int), 0 ≤ 38 + (t2 482 v) ∧ 38 + (t2 482 v) < ((82 : Nat) : Int)]) rfl ⟨⟨by omega, by omega⟩, ⟨by omega, by omega⟩, trivial⟩ ?_
          exact kk _ ⟨by omega, by omega, (by
            first
            | (exfalso; omega)
            | (rw [t2X, ht2, tX, ht]; exact ck_lo2_a h0 hI (by omega) (by omega) eX.symm (by omega) (by omega)))⟩
  · obtain ⟨h0, h4, hI⟩ := hI
    have eE : s 486 k = e := by rw [hI.1 _ _ (by decide), hE]
    refine ck_go_run 6 (X1 := (if v < s 486 k then 14 else 112, [some (.inr (480, 3, 6)), some (.inl k), some (.inl v)], [], s)) (ps := [0 ≤ k ∧ k < ((64 : Nat) : Int), ck_rg v, ck_rg (s 486 k)]) rfl ⟨⟨by omega, by omega⟩, (ck_rgo (by omega) (by omega)), (ck_rgo (by omega) (by omega)), trivial⟩ ?_
    refine ck_go_f (by omega) ?_
    obtain rfl : v = e := by omega
    exact ck_eV ⟨rfl, hI.1, ck_lo2_e hI hN hA⟩ rfl rfl rfl
