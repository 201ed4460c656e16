set_option maxHeartbeats 20000000 in
set_option maxRecDepth 4000 in
theorem cx_join {a o k : Int} (ha : a ≠ 490) (ho : 0 ≤ o ∧ o + 82 ≤ 5248) {σ : ck_M} {f g : ck_Q} (hf : ck_mv (σ 490) = f) (hB : ck_qb f) (hg : ck_mv (fun j => σ a (o + j)) = g) (hG : ck_qb g) : ck_cal 2 cm_Mo_join [.inr (480, 3, 6), .inr (a, 0, 5248), .inl o, .inl k] σ (fun q σ' => q = none ∧ ck_f1 σ σ' 490 ∧ ck_mv (σ' 490) = ck_qJ g k f) := by
  refine ck_cal_of ?_
  refine ck_go_run 2 (X1 := (3, [some (.inr (480, 3, 6)), some (.inr (a, 0, 5248)), some (.inl o), some (.inl k), some (.inl 0), none, none], [], σ)) (ps := []) rfl trivial ?_
  refine ck_forU 3 (fun v u => [some (.inr (480, 3, 6)), some (.inr (a, 0, 5248)), some (.inl o), some (.inl k), some (.inl v), u.1, u.2.1]) 10 (fun v s => 0 ≤ v ∧ v ≤ 10 ∧ ck_f1 σ s 490 ∧ ck_mv (s 490) = ck_qJn v v v 0 g f) (fun v u s hv hI kk => ?_) (fun v u s hv hI => ?_) 0 (none, none, none) _ ⟨by omega, by omega, fun _ _ _ => rfl, ck_qJn_0 hf⟩
  · obtain ⟨h0, h4, hf1, hr⟩ := hI
    have e1 : s 490 (0 + v) = ck_K f v := by
      rw [ck_y_K hr h0 hv]
      simp only [ck_qJn, ck_P_K h0 hv]
      try (rw [if_neg (by omega)])
    have e2 : s a (o + 0 + v) = ck_K g v := by
      rw [hf1 a _ ha, show o + 0 + v = o + (0 + v) by omega]
      exact ck_y_K hg h0 hv
    have e3 : s 490 (10 + v) = ck_I f v := by
      rw [ck_y_I hr h0 hv]
      simp only [ck_qJn, ck_P_I h0 hv]
      try (rw [if_neg (by omega)])
    have e4 : s a (o + 10 + v) = ck_I g v := by
      rw [hf1 a _ ha, show o + 10 + v = o + (10 + v) by omega]
      exact ck_y_I hg h0 hv
    have b1 := hB.1 v
    have b2 := hG.1 v
    have b3 := hB.2.1 v
    have b4 := hG.2.1 v
    refine ck_go_run 3 (X1 := (if v < 10 then 10 else 185, [some (.inr (480, 3, 6)), some (.inr (a, 0, 5248)), some (.inl o), some (.inl k), some (.inl v), u.1, u.2.1], [], s)) (ps := [ck_rg v, ck_rg 10]) rfl ⟨(ck_rgo (by omega) (by omega)), (ck_rgo (by omega) (by omega)), trivial⟩ ?_
    refine ck_go_t hv ?_
    refine ck_mid 83 (fun u => [some (.inr (480, 3, 6)), some (.inr (a, 0, 5248)), some (.inl o), some (.inl k), some (.inl v), u.1, u.2.1]) (fun s2 => ck_f1 σ s2 490 ∧ ck_mv (s2 490) = ck_qJn (v + 1) v v 0 g f) (fun u s2 hJ => ?_) (fun jj => ?_)
    · obtain ⟨mf, mr⟩ := hJ
      have e5 : s2 490 (20 + v) = ck_L f v := by
        rw [ck_y_L mr h0 hv]
        simp only [ck_qJn, ck_P_L h0 hv]
        try (rw [if_neg (by omega)])
      have e6 : s2 a (o + 20 + v) = ck_L g v := by
        rw [mf a _ ha, show o + 20 + v = o + (20 + v) by omega]
        exact ck_y_L hg h0 hv
      have b5 := hB.2.2.1 v
      have b6 := hG.2.2.1 v
      refine ck_go_run 19 (X1 := (112, [some (.inr (480, 3, 6)), some (.inr (a, 0, 5248)), some (.inl o), some (.inl k), some (.inl v), u.1, u.2.1], [.inl 0, .inl (s2 a ((o + 20) + v)), .inl (s2 490 (20 + v)), .inl (20 + v), .inr (490, 0, 82)], s2)) (ps := [0 ≤ 20 + v ∧ 20 + v < ((82 : Nat) : Int), 0 ≤ (o + 20) + v ∧ (o + 20) + v < ((5248 : Nat) : Int)]) rfl ⟨⟨by omega, by omega⟩, ⟨by omega, by omega⟩, trivial⟩ ?_
      refine ck_go_cal (rest := [.inl (20 + v), .inr (490, 0, 82)]) (ck_cal_le (by decide) (cx_worst (a := s2 490 (20 + v)) (b := s2 a ((o + 20) + v)) (g := 0) (by omega) (by omega) (Or.inl rfl) _)) ⟨_, rfl, Or.inr ⟨_, rfl⟩, rfl, rfl, rfl, Nat.le_of_ble_eq_true rfl, fun h => absurd h (by decide)⟩ ?_
      rintro _ s' ⟨rfl, e'⟩
      rw [e']
      clear e' s'
      refine ck_go_run 3 (X1 := (119, [some (.inr (480, 3, 6)), some (.inr (a, 0, 5248)), some (.inl o), some (.inl k), some (.inl v), u.1, some (.inl 0)], [], ck_up s2 490 (20 + v) (ck_wo (s2 490 (20 + v)) (s2 a ((o + 20) + v)) 0))) (ps := [0 ≤ 20 + v ∧ 20 + v < ((82 : Nat) : Int)]) rfl ⟨⟨by omega, by omega⟩, trivial⟩ ?_
      refine ck_for 119 (fun w => [some (.inr (480, 3, 6)), some (.inr (a, 0, 5248)), some (.inl o), some (.inl k), some (.inl v), u.1, some (.inl w)]) 4 (fun w t => 0 ≤ w ∧ w ≤ 4 ∧ ck_f1 σ t 490 ∧ ck_mv (t 490) = ck_qJn (v + 1) (v + 1) v w g f) (fun w t hv hI kk => ?_) (fun w t hv hI => ?_) 0 _ ⟨by omega, by omega, ck_f1_up mf, by
        rw [ck_u_L mr h0 (by omega), e5, e6]
        exact ck_qJn_L⟩
      · obtain ⟨k0, k4, jf, jr⟩ := hI
        have e7 : t 490 (42 + 4 * v + w) = ck_H f v w := by
          rw [ck_y_H jr h0 (by omega) k0 hv]
          simp only [ck_qJn, ck_P_H h0 (show v < 10 by omega) k0 hv]
          rw [if_neg (by omega)]
        have e8 : t a (o + 42 + 4 * v + w) = ck_H g v w := by
          rw [jf a _ ha, show o + 42 + 4 * v + w = o + (42 + 4 * v + w) by omega]
          exact ck_y_H hg h0 (by omega) k0 hv
        have b7 := hB.2.2.2.2.2.2 v w
        have b8 := hG.2.2.2.2.2.2 v w
        refine ck_go_run 3 (X1 := (if w < 4 then 125 else 179, [some (.inr (480, 3, 6)), some (.inr (a, 0, 5248)), some (.inl o), some (.inl k), some (.inl v), u.1, some (.inl w)], [], t)) (ps := [ck_rg w, ck_rg 4]) rfl ⟨(ck_rgo (by omega) (by omega)), (ck_rgo (by omega) (by omega)), trivial⟩ ?_
        refine ck_go_t hv ?_
        refine ck_go_run 31 (X1 := (169, [some (.inr (480, 3, 6)), some (.inr (a, 0, 5248)), some (.inl o), some (.inl k), some (.inl v), u.1, some (.inl w)], [.inl 1, .inl (t a (((o + 42) + (4 * v)) + w)), .inl (t 490 ((42 + (4 * v)) + w)), .inl ((42 + (4 * v)) + w), .inr (490, 0, 82)], t)) (ps := [0 ≤ (42 + (4 * v)) + w ∧ (42 + (4 * v)) + w < ((82 : Nat) : Int), 0 ≤ ((o + 42) + (4 * v)) + w ∧ ((o + 42) + (4 * v)) + w < ((5248 : Nat) : Int)]) rfl ⟨⟨by omega, by omega⟩, ⟨by omega, by omega⟩, trivial⟩ ?_
        refine ck_go_cal (rest := [.inl ((42 + (4 * v)) + w), .inr (490, 0, 82)]) (ck_cal_le (by decide) (cx_worst (a := t 490 ((42 + (4 * v)) + w)) (b := t a (((o + 42) + (4 * v)) + w)) (g := 1) (by omega) (by omega) (Or.inr rfl) _)) ⟨_, rfl, Or.inr ⟨_, rfl⟩, rfl, rfl, rfl, Nat.le_of_ble_eq_true rfl, fun h => absurd h (by decide)⟩ ?_
        rintro _ s' ⟨rfl, e'⟩
        rw [e']
        clear e' s'
        refine ck_go_run 3 (X1 := (119, [some (.inr (480, 3, 6)), some (.inr (a, 0, 5248)), some (.inl o), some (.inl k), some (.inl v), u.1, some (.inl (w + 1))], [], ck_up t 490 ((42 + (4 * v)) + w) (ck_wo (t 490 ((42 + (4 * v)) + w)) (t a (((o + 42) + (4 * v)) + w)) 1))) (ps := [0 ≤ (42 + (4 * v)) + w ∧ (42 + (4 * v)) + w < ((82 : Nat) : Int)]) rfl ⟨⟨by omega, by omega⟩, trivial⟩ ?_
        exact kk _ ⟨by omega, by omega, ck_f1_up jf, by
          rw [ck_u_H jr h0 (by omega) k0 hv, e7, e8]
          exact ck_qJn_H⟩
      · obtain ⟨k0, k4, jf, jr⟩ := hI
        refine ck_go_run 3 (X1 := (if w < 4 then 125 else 179, [some (.inr (480, 3, 6)), some (.inr (a, 0, 5248)), some (.inl o), some (.inl k), some (.inl v), u.1, some (.inl w)], [], t)) (ps := [ck_rg w, ck_rg 4]) rfl ⟨(ck_rgo (by omega) (by omega)), (ck_rgo (by omega) (by omega)), trivial⟩ ?_
        refine ck_go_f (by omega) ?_
        refine ck_go_run 2 (X1 := (3, [some (.inr (480, 3, 6)), some (.inr (a, 0, 5248)), some (.inl o), some (.inl k), some (.inl (v + 1)), u.1, some (.inl w)], [], t)) (ps := []) rfl trivial ?_
        exact kk (u.1, some (.inl w), none) _ ⟨by omega, by omega, jf, by rw [jr, ck_qJn_n hv]⟩
    · refine ck_go_run 8 (X1 := (if s 490 (0 + v) = 1 then 23 else 61, [some (.inr (480, 3, 6)), some (.inr (a, 0, 5248)), some (.inl o), some (.inl k), some (.inl v), u.1, u.2.1], [], s)) (ps := [0 ≤ 0 + v ∧ 0 + v < ((82 : Nat) : Int), ck_rg (s 490 (0 + v)), ck_rg 1]) rfl ⟨⟨by omega, by omega⟩, (ck_rgo (by omega) (by omega)), (ck_rgo (by omega) (by omega)), trivial⟩ ?_
      refine ck_go_ite (fun h1 => ?_) (fun h1 => ?_)
      · refine ck_go_run 9 (X1 := (if s a ((o + 0) + v) = 1 then 35 else 61, [some (.inr (480, 3, 6)), some (.inr (a, 0, 5248)), some (.inl o), some (.inl k), some (.inl v), u.1, u.2.1], [], s)) (ps := [0 ≤ (o + 0) + v ∧ (o + 0) + v < ((5248 : Nat) : Int), ck_rg (s a ((o + 0) + v)), ck_rg 1]) rfl ⟨⟨by omega, by omega⟩, (ck_rgo (by omega) (by omega)), (ck_rgo (by omega) (by omega)), trivial⟩ ?_
        refine ck_go_ite (fun h2 => ?_) (fun h2 => ?_)
        · refine ck_go_run 14 (X1 := (if s 490 (10 + v) = s a ((o + 10) + v) then 57 else 61, [some (.inr (480, 3, 6)), some (.inr (a, 0, 5248)), some (.inl o), some (.inl k), some (.inl v), u.1, u.2.1], [], s)) (ps := [0 ≤ 10 + v ∧ 10 + v < ((82 : Nat) : Int), 0 ≤ (o + 10) + v ∧ (o + 10) + v < ((5248 : Nat) : Int), ck_rg (s 490 (10 + v)), ck_rg (s a ((o + 10) + v))]) rfl ⟨⟨by omega, by omega⟩, ⟨by omega, by omega⟩, (ck_rgo (by omega) (by omega)), (ck_rgo (by omega) (by omega)), trivial⟩ ?_
          refine ck_go_ite (fun h3 => ?_) (fun h3 => ?_)
          · refine ck_go_run 10 (X1 := (if 1 = 0 then 81 else 77, [some (.inr (480, 3, 6)), some (.inr (a, 0, 5248)), some (.inl o), some (.inl k), some (.inl v), some (.inl 1), u.2.1], [.inl (0 + v), .inr (490, 0, 82)], s)) (ps := [ck_rg 1]) rfl ⟨(ck_rgo (by omega) (by omega)), trivial⟩ ?_
            refine ck_go_f (by decide) ?_
            refine ck_go_run 3 (X1 := (83, [some (.inr (480, 3, 6)), some (.inr (a, 0, 5248)), some (.inl o), some (.inl k), some (.inl v), some (.inl 1), u.2.1], [], ck_up s 490 (0 + v) 1)) (ps := [0 ≤ 0 + v ∧ 0 + v < ((82 : Nat) : Int)]) rfl ⟨⟨by omega, by omega⟩, trivial⟩ ?_
            exact jj (some (.inl 1), u.2.1, none) _ ⟨ck_f1_up hf1, by
              rw [ck_u_K hr h0 hv]
              exact ck_qJn_Kx (by
                unfold ck_jK
                rw [if_pos (by omega)])⟩
          · refine ck_go_run 9 (X1 := (if 0 = 0 then 81 else 77, [some (.inr (480, 3, 6)), some (.inr (a, 0, 5248)), some (.inl o), some (.inl k), some (.inl v), some (.inl 0), u.2.1], [.inl (0 + v), .inr (490, 0, 82)], s)) (ps := [ck_rg 0]) rfl ⟨(ck_rgo (by omega) (by omega)), trivial⟩ ?_
            refine ck_go_t (by decide) ?_
            refine ck_go_run 2 (X1 := (83, [some (.inr (480, 3, 6)), some (.inr (a, 0, 5248)), some (.inl o), some (.inl k), some (.inl v), some (.inl 0), u.2.1], [], ck_up s 490 (0 + v) 0)) (ps := [0 ≤ 0 + v ∧ 0 + v < ((82 : Nat) : Int)]) rfl ⟨⟨by omega, by omega⟩, trivial⟩ ?_
            exact jj (some (.inl 0), u.2.1, none) _ ⟨ck_f1_up hf1, by
              rw [ck_u_K hr h0 hv]
              exact ck_qJn_Kx (by
                unfold ck_jK
                rw [if_neg (by omega)])⟩
        · refine ck_go_run 9 (X1 := (if 0 = 0 then 81 else 77, [some (.inr (480, 3, 6)), some (.inr (a, 0, 5248)), some (.inl o), some (.inl k), some (.inl v), some (.inl 0), u.2.1], [.inl (0 + v), .inr (490, 0, 82)], s)) (ps := [ck_rg 0]) rfl ⟨(ck_rgo (by omega) (by omega)), trivial⟩ ?_
          refine ck_go_t (by decide) ?_
          refine ck_go_run 2 (X1 := (83, [some (.inr (480, 3, 6)), some (.inr (a, 0, 5248)), some (.inl o), some (.inl k), some (.inl v), some (.inl 0), u.2.1], [], ck_up s 490 (0 + v) 0)) (ps := [0 ≤ 0 + v ∧ 0 + v < ((82 : Nat) : Int)]) rfl ⟨⟨by omega, by omega⟩, trivial⟩ ?_
          exact jj (some (.inl 0), u.2.1, none) _ ⟨ck_f1_up hf1, by
            rw [ck_u_K hr h0 hv]
            exact ck_qJn_Kx (by
              unfold ck_jK
              rw [if_neg (by omega)])⟩
      · refine ck_go_run 9 (X1 := (if 0 = 0 then 81 else 77, [some (.inr (480, 3, 6)), some (.inr (a, 0, 5248)), some (.inl o), some (.inl k), some (.inl v), some (.inl 0), u.2.1], [.inl (0 + v), .inr (490, 0, 82)], s)) (ps := [ck_rg 0]) rfl ⟨(ck_rgo (by omega) (by omega)), trivial⟩ ?_
        refine ck_go_t (by decide) ?_
        refine ck_go_run 2 (X1 := (83, [some (.inr (480, 3, 6)), some (.inr (a, 0, 5248)), some (.inl o), some (.inl k), some (.inl v), some (.inl 0), u.2.1], [], ck_up s 490 (0 + v) 0)) (ps := [0 ≤ 0 + v ∧ 0 + v < ((82 : Nat) : Int)]) rfl ⟨⟨by omega, by omega⟩, trivial⟩ ?_
        exact jj (some (.inl 0), u.2.1, none) _ ⟨ck_f1_up hf1, by
          rw [ck_u_K hr h0 hv]
          exact ck_qJn_Kx (by
            unfold ck_jK
            rw [if_neg (by omega)])⟩
  · obtain ⟨h0, h4, hf1, hr⟩ := hI
    refine ck_go_run 3 (X1 := (if v < 10 then 10 else 185, [some (.inr (480, 3, 6)), some (.inr (a, 0, 5248)), some (.inl o), some (.inl k), some (.inl v), u.1, u.2.1], [], s)) (ps := [ck_rg v, ck_rg 10]) rfl ⟨(ck_rgo (by omega) (by omega)), (ck_rgo (by omega) (by omega)), trivial⟩ ?_
    refine ck_go_f (by omega) ?_
    refine ck_go_run 2 (X1 := (188, [some (.inr (480, 3, 6)), some (.inr (a, 0, 5248)), some (.inl o), some (.inl k), some (.inl 0), u.1, u.2.1], [], s)) (ps := []) rfl trivial ?_
    refine ck_forU 188 (fun y u => [some (.inr (480, 3, 6)), some (.inr (a, 0, 5248)), some (.inl o), some (.inl k), some (.inl y), u.1, u.2.1]) 4 (fun y z => 0 ≤ y ∧ y ≤ 4 ∧ ck_f1 σ z 490 ∧ ck_mv (z 490) = ck_qJr y g k f) (fun y u z hv hI kk => ?_) (fun y u z hv hI => ?_) 0 (u.1, u.2.1, none) _ ⟨by omega, by omega, hf1, by rw [hr, ck_qJn_9 hv]⟩
    · obtain ⟨n0, n4, nf, nr⟩ := hI
      have c1 : z 490 (30 + y) = ck_V f y := by
        rw [ck_y_V nr n0 hv]
        simp only [ck_qJr, ck_P_V n0 hv]
        rw [if_neg (by omega)]
      have c2 : z a (o + 30 + y) = ck_V g y := by
        rw [nf a _ ha, show o + 30 + y = o + (30 + y) by omega]
        exact ck_y_V hg n0 hv
      have c3 : z 490 (34 + y) = ck_T f y := by
        rw [ck_y_T nr n0 hv]
        simp only [ck_qJr, ck_P_T n0 hv]
        rw [if_neg (by omega)]
      have c4 : z a (o + 34 + y) = ck_T g y := by
        rw [nf a _ ha, show o + 34 + y = o + (34 + y) by omega]
        exact ck_y_T hg n0 hv
      have c5 : z 490 (38 + y) = ck_G f y := by
        rw [ck_y_G nr n0 hv]
        simp only [ck_qJr, ck_P_G n0 hv]
        rw [if_neg (by omega)]
      have d1 := hB.2.2.2.1 y
      have d2 := hG.2.2.2.1 y
      have d3 := hB.2.2.2.2.1 y
      have d4 := hG.2.2.2.2.1 y
      refine ck_go_run 3 (X1 := (if y < 4 then 194 else 338, [some (.inr (480, 3, 6)), some (.inr (a, 0, 5248)), some (.inl o), some (.inl k), some (.inl y), u.1, u.2.1], [], z)) (ps := [ck_rg y, ck_rg 4]) rfl ⟨(ck_rgo (by omega) (by omega)), (ck_rgo (by omega) (by omega)), trivial⟩ ?_
      refine ck_go_t hv ?_
      refine ck_go_run 14 (X1 := (if z 490 (30 + y) = z a ((o + 30) + y) then 216 else 220, [some (.inr (480, 3, 6)), some (.inr (a, 0, 5248)), some (.inl o), some (.inl k), some (.inl y), u.1, u.2.1], [], z)) (ps := [0 ≤ 30 + y ∧ 30 + y < ((82 : Nat) : Int), 0 ≤ (o + 30) + y ∧ (o + 30) + y < ((5248 : Nat) : Int), ck_rg (z 490 (30 + y)), ck_rg (z a ((o + 30) + y))]) rfl ⟨⟨by omega, by omega⟩, ⟨by omega, by omega⟩, (ck_rgo (by omega) (by omega)), (ck_rgo (by omega) (by omega)), trivial⟩ ?_
      refine ck_go_ite (fun h4 => ?_) (fun h4 => ?_)
      · refine ck_go_run 16 (X1 := (if z 490 (34 + y) = 1 then 246 else 263, [some (.inr (480, 3, 6)), some (.inr (a, 0, 5248)), some (.inl o), some (.inl k), some (.inl y), some (.inl 1), u.2.1], [.inl (34 + y), .inr (490, 0, 82)], z)) (ps := [0 ≤ 34 + y ∧ 34 + y < ((82 : Nat) : Int), ck_rg (z 490 (34 + y)), ck_rg 1]) rfl ⟨⟨by omega, by omega⟩, (ck_rgo (by omega) (by omega)), (ck_rgo (by omega) (by omega)), trivial⟩ ?_
        refine ck_go_ite (fun h5 => ?_) (fun h5 => ?_)
        · refine ck_go_run 9 (X1 := (if z a ((o + 34) + y) = 1 then 259 else 263, [some (.inr (480, 3, 6)), some (.inr (a, 0, 5248)), some (.inl o), some (.inl k), some (.inl y), some (.inl 1), u.2.1], [.inl (34 + y), .inr (490, 0, 82)], z)) (ps := [0 ≤ (o + 34) + y ∧ (o + 34) + y < ((5248 : Nat) : Int), ck_rg (z a ((o + 34) + y)), ck_rg 1]) rfl ⟨⟨by omega, by omega⟩, (ck_rgo (by omega) (by omega)), (ck_rgo (by omega) (by omega)), trivial⟩ ?_
          refine ck_go_ite (fun h6 => ?_) (fun h6 => ?_)
          · refine ck_go_run 10 (X1 := (if 1 = 0 then 292 else 279, [some (.inr (480, 3, 6)), some (.inr (a, 0, 5248)), some (.inl o), some (.inl k), some (.inl y), some (.inl 1), u.2.1], [.inl (38 + y), .inr (490, 0, 82)], ck_up z 490 (34 + y) 1)) (ps := [0 ≤ 34 + y ∧ 34 + y < ((82 : Nat) : Int), ck_rg 1]) rfl ⟨⟨by omega, by omega⟩, (ck_rgo (by omega) (by omega)), trivial⟩ ?_
            refine ck_go_f (by decide) ?_
            refine ck_go_run 15 (X1 := (if 1 = 0 then 322 else 309, [some (.inr (480, 3, 6)), some (.inr (a, 0, 5248)), some (.inl o), some (.inl k), some (.inl y), some (.inl 1), u.2.1], [.inl (30 + y), .inr (490, 0, 82)], ck_up (ck_up z 490 (34 + y) 1) 490 (38 + y) ((ck_up z 490 (34 + y) 1) 490 (38 + y)))) (ps := [0 ≤ 38 + y ∧ 38 + y < ((82 : Nat) : Int), 0 ≤ 38 + y ∧ 38 + y < ((82 : Nat) : Int), ck_rg 1]) rfl ⟨⟨by omega, by omega⟩, ⟨by omega, by omega⟩, (ck_rgo (by omega) (by omega)), trivial⟩ ?_
            refine ck_go_f (by decide) ?_
            refine ck_go_run 10 (X1 := (188, [some (.inr (480, 3, 6)), some (.inr (a, 0, 5248)), some (.inl o), some (.inl k), some (.inl (y + 1)), some (.inl 1), u.2.1], [], ck_up (ck_up (ck_up z 490 (34 + y) 1) 490 (38 + y) ((ck_up z 490 (34 + y) 1) 490 (38 + y))) 490 (30 + y) ((ck_up (ck_up z 490 (34 + y) 1) 490 (38 + y) ((ck_up z 490 (34 + y) 1) 490 (38 + y))) 490 (30 + y)))) (ps := [0 ≤ 30 + y ∧ 30 + y < ((82 : Nat) : Int), 0 ≤ 30 + y ∧ 30 + y < ((82 : Nat) : Int)]) rfl ⟨⟨by omega, by omega⟩, ⟨by omega, by omega⟩, trivial⟩ ?_
            exact kk (some (.inl 1), u.2.1, none) _ ⟨by omega, by omega, ck_f1_up (ck_f1_up (ck_f1_up nf)), ck_qJr_s n0 hv (by
              rw [ck_u_V (ck_u_G (ck_u_T nr n0 hv) n0 hv) n0 hv]
              refine ck_P_ext (fun n a0 a1 => ?_) (fun n a0 a1 => ?_) (fun n a0 a1 => ?_) (fun q b0 b1 => ?_) (fun q b0 b1 => ?_) (fun q b0 b1 => ?_) (fun n q a0 a1 b0 b1 => ?_)
              · rw [ck_P_K a0 a1, ck_P_K a0 a1]
              · rw [ck_P_I a0 a1, ck_P_I a0 a1]
              · rw [ck_P_L a0 a1, ck_P_L a0 a1]
              · rw [ck_P_V b0 b1, ck_P_V b0 b1]
              · rw [ck_P_T b0 b1, ck_P_T b0 b1]
              · rw [ck_P_G b0 b1, ck_P_G b0 b1]
              · rw [ck_P_H a0 a1 b0 b1, ck_P_H a0 a1 b0 b1]) (by rw [if_pos (by omega)]) (by
              rw [if_pos (show ck_V f y = ck_V g y by omega)]
              rw [← c5]
              simp only [ck_up, true_and]
              rw [if_neg (by omega)]) (by
              rw [if_pos (show ck_V f y = ck_V g y by omega)]
              rw [← c1]
              simp only [ck_up, true_and]
              rw [if_neg (by omega), if_neg (by omega)])⟩
          · refine ck_go_run 9 (X1 := (if 1 = 0 then 292 else 279, [some (.inr (480, 3, 6)), some (.inr (a, 0, 5248)), some (.inl o), some (.inl k), some (.inl y), some (.inl 1), u.2.1], [.inl (38 + y), .inr (490, 0, 82)], ck_up z 490 (34 + y) 0)) (ps := [0 ≤ 34 + y ∧ 34 + y < ((82 : Nat) : Int), ck_rg 1]) rfl ⟨⟨by omega, by omega⟩, (ck_rgo (by omega) (by omega)), trivial⟩ ?_
            refine ck_go_f (by decide) ?_
            refine ck_go_run 15 (X1 := (if 1 = 0 then 322 else 309, [some (.inr (480, 3, 6)), some (.inr (a, 0, 5248)), some (.inl o), some (.inl k), some (.inl y), some (.inl 1), u.2.1], [.inl (30 + y), .inr (490, 0, 82)], ck_up (ck_up z 490 (34 + y) 0) 490 (38 + y) ((ck_up z 490 (34 + y) 0) 490 (38 + y)))) (ps := [0 ≤ 38 + y ∧ 38 + y < ((82 : Nat) : Int), 0 ≤ 38 + y ∧ 38 + y < ((82 : Nat) : Int), ck_rg 1]) rfl ⟨⟨by omega, by omega⟩, ⟨by omega, by omega⟩, (ck_rgo (by omega) (by omega)), trivial⟩ ?_
            refine ck_go_f (by decide) ?_
            refine ck_go_run 10 (X1 := (188, [some (.inr (480, 3, 6)), some (.inr (a, 0, 5248)), some (.inl o), some (.inl k), some (.inl (y + 1)), some (.inl 1), u.2.1], [], ck_up (ck_up (ck_up z 490 (34 + y) 0) 490 (38 + y) ((ck_up z 490 (34 + y) 0) 490 (38 + y))) 490 (30 + y) ((ck_up (ck_up z 490 (34 + y) 0) 490 (38 + y) ((ck_up z 490 (34 + y) 0) 490 (38 + y))) 490 (30 + y)))) (ps := [0 ≤ 30 + y ∧ 30 + y < ((82 : Nat) : Int), 0 ≤ 30 + y ∧ 30 + y < ((82 : Nat) : Int)]) rfl ⟨⟨by omega, by omega⟩, ⟨by omega, by omega⟩, trivial⟩ ?_
            exact kk (some (.inl 1), u.2.1, none) _ ⟨by omega, by omega, ck_f1_up (ck_f1_up (ck_f1_up nf)), ck_qJr_s n0 hv (by
              rw [ck_u_V (ck_u_G (ck_u_T nr n0 hv) n0 hv) n0 hv]
              refine ck_P_ext (fun n a0 a1 => ?_) (fun n a0 a1 => ?_) (fun n a0 a1 => ?_) (fun q b0 b1 => ?_) (fun q b0 b1 => ?_) (fun q b0 b1 => ?_) (fun n q a0 a1 b0 b1 => ?_)
              · rw [ck_P_K a0 a1, ck_P_K a0 a1]
              · rw [ck_P_I a0 a1, ck_P_I a0 a1]
              · rw [ck_P_L a0 a1, ck_P_L a0 a1]
              · rw [ck_P_V b0 b1, ck_P_V b0 b1]
              · rw [ck_P_T b0 b1, ck_P_T b0 b1]
              · rw [ck_P_G b0 b1, ck_P_G b0 b1]
              · rw [ck_P_H a0 a1 b0 b1, ck_P_H a0 a1 b0 b1]) (by rw [if_neg (by omega)]) (by
              rw [if_pos (show ck_V f y = ck_V g y by omega)]
              rw [← c5]
              simp only [ck_up, true_and]
              rw [if_neg (by omega)]) (by
              rw [if_pos (show ck_V f y = ck_V g y by omega)]
              rw [← c1]
              simp only [ck_up, true_and]
              rw [if_neg (by omega), if_neg (by omega)])⟩
        · refine ck_go_run 9 (X1 := (if 1 = 0 then 292 else 279, [some (.inr (480, 3, 6)), some (.inr (a, 0, 5248)), some (.inl o), some (.inl k), some (.inl y), some (.inl 1), u.2.1], [.inl (38 + y), .inr (490, 0, 82)], ck_up z 490 (34 + y) 0)) (ps := [0 ≤ 34 + y ∧ 34 + y < ((82 : Nat) : Int), ck_rg 1]) rfl ⟨⟨by omega, by omega⟩, (ck_rgo (by omega) (by omega)), trivial⟩ ?_
          refine ck_go_f (by decide) ?_
          refine ck_go_run 15 (X1 := (if 1 = 0 then 322 else 309, [some (.inr (480, 3, 6)), some (.inr (a, 0, 5248)), some (.inl o), some (.inl k), some (.inl y), some (.inl 1), u.2.1], [.inl (30 + y), .inr (490, 0, 82)], ck_up (ck_up z 490 (34 + y) 0) 490 (38 + y) ((ck_up z 490 (34 + y) 0) 490 (38 + y)))) (ps := [0 ≤ 38 + y ∧ 38 + y < ((82 : Nat) : Int), 0 ≤ 38 + y ∧ 38 + y < ((82 : Nat) : Int), ck_rg 1]) rfl ⟨⟨by omega, by omega⟩, ⟨by omega, by omega⟩, (ck_rgo (by omega) (by omega)), trivial⟩ ?_
          refine ck_go_f (by decide) ?_
          refine ck_go_run 10 (X1 := (188, [some (.inr (480, 3, 6)), some (.inr (a, 0, 5248)), some (.inl o), some (.inl k), some (.inl (y + 1)), some (.inl 1), u.2.1], [], ck_up (ck_up (ck_up z 490 (34 + y) 0) 490 (38 + y) ((ck_up z 490 (34 + y) 0) 490 (38 + y))) 490 (30 + y) ((ck_up (ck_up z 490 (34 + y) 0) 490 (38 + y) ((ck_up z 490 (34 + y) 0) 490 (38 + y))) 490 (30 + y)))) (ps := [0 ≤ 30 + y ∧ 30 + y < ((82 : Nat) : Int), 0 ≤ 30 + y ∧ 30 + y < ((82 : Nat) : Int)]) rfl ⟨⟨by omega, by omega⟩, ⟨by omega, by omega⟩, trivial⟩ ?_
          exact kk (some (.inl 1), u.2.1, none) _ ⟨by omega, by omega, ck_f1_up (ck_f1_up (ck_f1_up nf)), ck_qJr_s n0 hv (by
            rw [ck_u_V (ck_u_G (ck_u_T nr n0 hv) n0 hv) n0 hv]
            refine ck_P_ext (fun n a0 a1 => ?_) (fun n a0 a1 => ?_) (fun n a0 a1 => ?_) (fun q b0 b1 => ?_) (fun q b0 b1 => ?_) (fun q b0 b1 => ?_) (fun n q a0 a1 b0 b1 => ?_)
            · rw [ck_P_K a0 a1, ck_P_K a0 a1]
            · rw [ck_P_I a0 a1, ck_P_I a0 a1]
            · rw [ck_P_L a0 a1, ck_P_L a0 a1]
            · rw [ck_P_V b0 b1, ck_P_V b0 b1]
            · rw [ck_P_T b0 b1, ck_P_T b0 b1]
            · rw [ck_P_G b0 b1, ck_P_G b0 b1]
            · rw [ck_P_H a0 a1 b0 b1, ck_P_H a0 a1 b0 b1]) (by rw [if_neg (by omega)]) (by
            rw [if_pos (show ck_V f y = ck_V g y by omega)]
            rw [← c5]
            simp only [ck_up, true_and]
            rw [if_neg (by omega)]) (by
            rw [if_pos (show ck_V f y = ck_V g y by omega)]
            rw [← c1]
            simp only [ck_up, true_and]
            rw [if_neg (by omega), if_neg (by omega)])⟩
      · refine ck_go_run 15 (X1 := (if z 490 (34 + y) = 1 then 246 else 263, [some (.inr (480, 3, 6)), some (.inr (a, 0, 5248)), some (.inl o), some (.inl k), some (.inl y), some (.inl 0), u.2.1], [.inl (34 + y), .inr (490, 0, 82)], z)) (ps := [0 ≤ 34 + y ∧ 34 + y < ((82 : Nat) : Int), ck_rg (z 490 (34 + y)), ck_rg 1]) rfl ⟨⟨by omega, by omega⟩, (ck_rgo (by omega) (by omega)), (ck_rgo (by omega) (by omega)), trivial⟩ ?_
        refine ck_go_ite (fun h7 => ?_) (fun h7 => ?_)
        · refine ck_go_run 9 (X1 := (if z a ((o + 34) + y) = 1 then 259 else 263, [some (.inr (480, 3, 6)), some (.inr (a, 0, 5248)), some (.inl o), some (.inl k), some (.inl y), some (.inl 0), u.2.1], [.inl (34 + y), .inr (490, 0, 82)], z)) (ps := [0 ≤ (o + 34) + y ∧ (o + 34) + y < ((5248 : Nat) : Int), ck_rg (z a ((o + 34) + y)), ck_rg 1]) rfl ⟨⟨by omega, by omega⟩, (ck_rgo (by omega) (by omega)), (ck_rgo (by omega) (by omega)), trivial⟩ ?_
          refine ck_go_ite (fun h8 => ?_) (fun h8 => ?_)
          · refine ck_go_run 10 (X1 := (if 0 = 0 then 292 else 279, [some (.inr (480, 3, 6)), some (.inr (a, 0, 5248)), some (.inl o), some (.inl k), some (.inl y), some (.inl 0), u.2.1], [.inl (38 + y), .inr (490, 0, 82)], ck_up z 490 (34 + y) 1)) (ps := [0 ≤ 34 + y ∧ 34 + y < ((82 : Nat) : Int), ck_rg 0]) rfl ⟨⟨by omega, by omega⟩, (ck_rgo (by omega) (by omega)), trivial⟩ ?_
            refine ck_go_t (by decide) ?_
            refine ck_go_run 9 (X1 := (if 0 = 0 then 322 else 309, [some (.inr (480, 3, 6)), some (.inr (a, 0, 5248)), some (.inl o), some (.inl k), some (.inl y), some (.inl 0), u.2.1], [.inl (30 + y), .inr (490, 0, 82)], ck_up (ck_up z 490 (34 + y) 1) 490 (38 + y) 1000000000)) (ps := [0 ≤ 38 + y ∧ 38 + y < ((82 : Nat) : Int), ck_rg 0]) rfl ⟨⟨by omega, by omega⟩, (ck_rgo (by omega) (by omega)), trivial⟩ ?_
            refine ck_go_t (by decide) ?_
            refine ck_go_run 10 (X1 := (188, [some (.inr (480, 3, 6)), some (.inr (a, 0, 5248)), some (.inl o), some (.inl k), some (.inl (y + 1)), some (.inl 0), u.2.1], [], ck_up (ck_up (ck_up z 490 (34 + y) 1) 490 (38 + y) 1000000000) 490 (30 + y) ((100 + (4 * k)) + y))) (ps := [0 ≤ 30 + y ∧ 30 + y < ((82 : Nat) : Int)]) rfl ⟨⟨by omega, by omega⟩, trivial⟩ ?_
            exact kk (some (.inl 0), u.2.1, none) _ ⟨by omega, by omega, ck_f1_up (ck_f1_up (ck_f1_up nf)), ck_qJr_s n0 hv (by
              rw [ck_u_V (ck_u_G (ck_u_T nr n0 hv) n0 hv) n0 hv]
              refine ck_P_ext (fun n a0 a1 => ?_) (fun n a0 a1 => ?_) (fun n a0 a1 => ?_) (fun q b0 b1 => ?_) (fun q b0 b1 => ?_) (fun q b0 b1 => ?_) (fun n q a0 a1 b0 b1 => ?_)
              · rw [ck_P_K a0 a1, ck_P_K a0 a1]
              · rw [ck_P_I a0 a1, ck_P_I a0 a1]
              · rw [ck_P_L a0 a1, ck_P_L a0 a1]
              · rw [ck_P_V b0 b1, ck_P_V b0 b1]
              · rw [ck_P_T b0 b1, ck_P_T b0 b1]
              · rw [ck_P_G b0 b1, ck_P_G b0 b1]
              · rw [ck_P_H a0 a1 b0 b1, ck_P_H a0 a1 b0 b1]) (by rw [if_pos (by omega)]) (by
              rw [if_neg (show ¬ ck_V f y = ck_V g y by omega)]) (by
              rw [if_neg (show ¬ ck_V f y = ck_V g y by omega)])⟩
          · refine ck_go_run 9 (X1 := (if 0 = 0 then 292 else 279, [some (.inr (480, 3, 6)), some (.inr (a, 0, 5248)), some (.inl o), some (.inl k), some (.inl y), some (.inl 0), u.2.1], [.inl (38 + y), .inr (490, 0, 82)], ck_up z 490 (34 + y) 0)) (ps := [0 ≤ 34 + y ∧ 34 + y < ((82 : Nat) : Int), ck_rg 0]) rfl ⟨⟨by omega, by omega⟩, (ck_rgo (by omega) (by omega)), trivial⟩ ?_
            refine ck_go_t (by decide) ?_
            refine ck_go_run 9 (X1 := (if 0 = 0 then 322 else 309, [some (.inr (480, 3, 6)), some (.inr (a, 0, 5248)), some (.inl o), some (.inl k), some (.inl y), some (.inl 0), u.2.1], [.inl (30 + y), .inr (490, 0, 82)], ck_up (ck_up z 490 (34 + y) 0) 490 (38 + y) 1000000000)) (ps := [0 ≤ 38 + y ∧ 38 + y < ((82 : Nat) : Int), ck_rg 0]) rfl ⟨⟨by omega, by omega⟩, (ck_rgo (by omega) (by omega)), trivial⟩ ?_
            refine ck_go_t (by decide) ?_
            refine ck_go_run 10 (X1 := (188, [some (.inr (480, 3, 6)), some (.inr (a, 0, 5248)), some (.inl o), some (.inl k), some (.inl (y + 1)), some (.inl 0), u.2.1], [], ck_up (ck_up (ck_up z 490 (34 + y) 0) 490 (38 + y) 1000000000) 490 (30 + y) ((100 + (4 * k)) + y))) (ps := [0 ≤ 30 + y ∧ 30 + y < ((82 : Nat) : Int)]) rfl ⟨⟨by omega, by omega⟩, trivial⟩ ?_
            exact kk (some (.inl 0), u.2.1, none) _ ⟨by omega, by omega, ck_f1_up (ck_f1_up (ck_f1_up nf)), ck_qJr_s n0 hv (by
              rw [ck_u_V (ck_u_G (ck_u_T nr n0 hv) n0 hv) n0 hv]
              refine ck_P_ext (fun n a0 a1 => ?_) (fun n a0 a1 => ?_) (fun n a0 a1 => ?_) (fun q b0 b1 => ?_) (fun q b0 b1 => ?_) (fun q b0 b1 => ?_) (fun n q a0 a1 b0 b1 => ?_)
              · rw [ck_P_K a0 a1, ck_P_K a0 a1]
              · rw [ck_P_I a0 a1, ck_P_I a0 a1]
              · rw [ck_P_L a0 a1, ck_P_L a0 a1]
              · rw [ck_P_V b0 b1, ck_P_V b0 b1]
              · rw [ck_P_T b0 b1, ck_P_T b0 b1]
              · rw [ck_P_G b0 b1, ck_P_G b0 b1]
              · rw [ck_P_H a0 a1 b0 b1, ck_P_H a0 a1 b0 b1]) (by rw [if_neg (by omega)]) (by
              rw [if_neg (show ¬ ck_V f y = ck_V g y by omega)]) (by
              rw [if_neg (show ¬ ck_V f y = ck_V g y by omega)])⟩
        · refine ck_go_run 9 (X1 := (if 0 = 0 then 292 else 279, [some (.inr (480, 3, 6)), some (.inr (a, 0, 5248)), some (.inl o), some (.inl k), some (.inl y), some (.inl 0), u.2.1], [.inl (38 + y), .inr (490, 0, 82)], ck_up z 490 (34 + y) 0)) (ps := [0 ≤ 34 + y ∧ 34 + y < ((82 : Nat) : Int), ck_rg 0]) rfl ⟨⟨by omega, by omega⟩, (ck_rgo (by omega) (by omega)), trivial⟩ ?_
          refine ck_go_t (by decide) ?_
          refine ck_go_run 9 (X1 := (if 0 = 0 then 322 else 309, [some (.inr (480, 3, 6)), some (.inr (a, 0, 5248)), some (.inl o), some (.inl k), some (.inl y), some (.inl 0), u.2.1], [.inl (30 + y), .inr (490, 0, 82)], ck_up (ck_up z 490 (34 + y) 0) 490 (38 + y) 1000000000)) (ps := [0 ≤ 38 + y ∧ 38 + y < ((82 : Nat) : Int), ck_rg 0]) rfl ⟨⟨by omega, by omega⟩, (ck_rgo (by omega) (by omega)), trivial⟩ ?_
          refine ck_go_t (by decide) ?_
          refine ck_go_run 10 (X1 := (188, [some (.inr (480, 3, 6)), some (.inr (a, 0, 5248)), some (.inl o), some (.inl k), some (.inl (y + 1)), some (.inl 0), u.2.1], [], ck_up (ck_up (ck_up z 490 (34 + y) 0) 490 (38 + y) 1000000000) 490 (30 + y) ((100 + (4 * k)) + y))) (ps := [0 ≤ 30 + y ∧ 30 + y < ((82 : Nat) : Int)]) rfl ⟨⟨by omega, by omega⟩, trivial⟩ ?_
          exact kk (some (.inl 0), u.2.1, none) _ ⟨by omega, by omega, ck_f1_up (ck_f1_up (ck_f1_up nf)), ck_qJr_s n0 hv (by
            rw [ck_u_V (ck_u_G (ck_u_T nr n0 hv) n0 hv) n0 hv]
            refine ck_P_ext (fun n a0 a1 => ?_) (fun n a0 a1 => ?_) (fun n a0 a1 => ?_) (fun q b0 b1 => ?_) (fun q b0 b1 => ?_) (fun q b0 b1 => ?_) (fun n q a0 a1 b0 b1 => ?_)
            · rw [ck_P_K a0 a1, ck_P_K a0 a1]
            · rw [ck_P_I a0 a1, ck_P_I a0 a1]
            · rw [ck_P_L a0 a1, ck_P_L a0 a1]
            · rw [ck_P_V b0 b1, ck_P_V b0 b1]
            · rw [ck_P_T b0 b1, ck_P_T b0 b1]
            · rw [ck_P_G b0 b1, ck_P_G b0 b1]
            · rw [ck_P_H a0 a1 b0 b1, ck_P_H a0 a1 b0 b1]) (by rw [if_neg (by omega)]) (by
            rw [if_neg (show ¬ ck_V f y = ck_V g y by omega)]) (by
            rw [if_neg (show ¬ ck_V f y = ck_V g y by omega)])⟩
    · obtain ⟨n0, n4, nf, nr⟩ := hI
      refine ck_go_run 3 (X1 := (if y < 4 then 194 else 338, [some (.inr (480, 3, 6)), some (.inr (a, 0, 5248)), some (.inl o), some (.inl k), some (.inl y), u.1, u.2.1], [], z)) (ps := [ck_rg y, ck_rg 4]) rfl ⟨(ck_rgo (by omega) (by omega)), (ck_rgo (by omega) (by omega)), trivial⟩ ?_
      refine ck_go_f (by omega) ?_
      exact ck_eV ⟨rfl, nf, by rw [nr, ck_qJr_4 hv]⟩ rfl rfl rfl
