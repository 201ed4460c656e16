/-- what comes to the while k, out of w -/
def ck_wv (σ : ck_M) (k : Int) (w : ck_D) : ck_D := ck_dFc (σ 13 k) (σ 14 k) k (if σ 18 (σ 12 k) = 0 then w else ck_dJb (ck_B σ (σ 12 k)) w)
def ck_ar0 (σ : ck_M) (k : Int) : ck_D := if k = 0 then ck_dFirst else ck_fl σ (k - 1)
/-- what comes to statement k -/
def ck_arr (σ : ck_M) (k : Int) : ck_D := if σ 6 k = 12 then ck_wv σ k (ck_ar0 σ k) else ck_ar0 σ k
theorem cx_joinWhile {k : Int} (hk : 0 ≤ k ∧ k < 64) {σ : ck_M} {w : ck_D} (he : 0 ≤ σ 12 k ∧ σ 12 k < 64) (hr : ck_rg (σ 18 (σ 12 k))) (hw : ck_rd σ 473 = w) (hB : ck_fb w) (hG : ¬ σ 18 (σ 12 k) = 0 → ck_fb (ck_B σ (σ 12 k))) : ck_cal 3 cm_Fi_joinWhile [.inr (4, 3, 1), .inl k] σ (fun q σ' => q = none ∧ ck_f6 σ σ' 473 ∧ ck_rd σ' 473 = ck_wv σ k w) := by
  refine ck_cal_of ?_
  obtain ⟨rq1, rq2⟩ := id hr
  refine ck_go_run 11 (X1 := (if σ 18 (σ 12 k) = 0 then 32 else 19, [some (.inr (4, 3, 1)), some (.inl k), some (.inl (σ 12 k))], [], σ)) (ps := [0 ≤ k ∧ k < ((64 : Nat) : Int), 0 ≤ σ 12 k ∧ σ 12 k < ((64 : Nat) : Int), ck_rg (σ 18 (σ 12 k))]) rfl ⟨⟨by omega, by omega⟩, ⟨by omega, by omega⟩, (ck_rgo (by omega) (by omega)), trivial⟩ ?_
  refine ck_go_ite (fun h1 => ?_) (fun h1 => ?_)
  · refine ck_go_run 13 (X1 := (55, [some (.inr (4, 3, 1)), some (.inl k), some (.inl (σ 12 k))], [.inl k, .inl (σ 14 k), .inl (σ 13 k), .inr (473, 3, 0)], σ)) (ps := [0 ≤ k ∧ k < ((64 : Nat) : Int), 0 ≤ k ∧ k < ((64 : Nat) : Int)]) rfl ⟨⟨by omega, by omega⟩, ⟨by omega, by omega⟩, trivial⟩ ?_
    refine ck_go_cal (rest := []) (ck_cal_le (by decide) (cx_forgetChanged (σ := σ) (c := 473) (nb := σ 13 k) (ab := σ 14 k) (k := k) hw)) ⟨_, rfl, Or.inl ⟨_, rfl⟩, rfl, rfl, rfl, Nat.le_of_ble_eq_true rfl, fun _ => ⟨_, _, rfl⟩⟩ ?_
    rintro _ s1 ⟨rfl, g1, r1⟩
    try dsimp only at g1 r1
    exact ck_eV ⟨rfl, g1, by rw [r1]; unfold ck_wv; rw [if_pos h1]⟩ rfl rfl rfl
  · refine ck_go_run 6 (X1 := (29, [some (.inr (4, 3, 1)), some (.inl k), some (.inl (σ 12 k))], [.inr (25 + 7 * (σ 12 k), 3, 0), .inr (473, 3, 0)], σ)) (ps := [0 ≤ σ 12 k ∧ σ 12 k < ((64 : Nat) : Int)]) rfl ⟨⟨by omega, by omega⟩, trivial⟩ ?_
    refine ck_go_cal (rest := []) (ck_cal_le (by decide) (cx_joinBounds (σ := σ) (c := 473) (e := 25 + 7 * (σ 12 k)) (by omega) hw hB rfl (hG h1))) ⟨_, rfl, Or.inl ⟨_, rfl⟩, rfl, rfl, rfl, Nat.le_of_ble_eq_true rfl, fun _ => ⟨_, _, rfl⟩⟩ ?_
    rintro _ s2 ⟨rfl, g2, r2⟩
    try dsimp only at g2 r2
    refine ck_go_run 13 (X1 := (55, [some (.inr (4, 3, 1)), some (.inl k), some (.inl (σ 12 k))], [.inl k, .inl (s2 14 k), .inl (s2 13 k), .inr (473, 3, 0)], s2)) (ps := [0 ≤ k ∧ k < ((64 : Nat) : Int), 0 ≤ k ∧ k < ((64 : Nat) : Int)]) rfl ⟨⟨by omega, by omega⟩, ⟨by omega, by omega⟩, trivial⟩ ?_
    refine ck_go_cal (rest := []) (ck_cal_le (by decide) (cx_forgetChanged (σ := s2) (c := 473) (nb := s2 13 k) (ab := s2 14 k) (k := k) r2)) ⟨_, rfl, Or.inl ⟨_, rfl⟩, rfl, rfl, rfl, Nat.le_of_ble_eq_true rfl, fun _ => ⟨_, _, rfl⟩⟩ ?_
    rintro _ s3 ⟨rfl, g3, r3⟩
    try dsimp only at g3 r3
    exact ck_eV ⟨rfl, ck_f6_tr g2 g3, by rw [r3, g2 _ _ (by decide), g2 _ _ (by decide)]; unfold ck_wv; rw [if_neg h1]⟩ rfl rfl rfl
theorem ck_wv_f6 {a b : ck_M} (h : ck_f6 a b 473) {k : Int} (he : 0 ≤ a 12 k ∧ a 12 k < 64) (w : ck_D) : ck_wv b k w = ck_wv a k w := by
  unfold ck_wv
  rw [h 13 k (by omega), h 14 k (by omega), h 12 k (by omega), h 18 _ (by omega), ck_B_f6 h he.1 he.2]
theorem cx_hsb {c e : Int} {σ : ck_M} {f g : ck_D} (hf : ck_rd σ c = f) (hB : ck_fb f) (hg : ck_rd σ e = g) (hG : ck_fb g) : ck_cal 1 cm_Fa_hasSameBounds [.inr (c, 3, 0), .inr (e, 3, 0)] σ (fun q σ' => ∃ x, q = some x ∧ σ' = σ ∧ (x = 0 ∨ x = 1) ∧ (x = 1 → ck_sb f g) ∧ (x = 0 → ¬ ck_sb f g)) := by
  refine ck_cal_mono (cx_hasSameBounds hf hB hg hG) ?_
  rintro r σ' ⟨h1, ⟨h2, h3⟩ | ⟨h2, h3⟩⟩
  · exact ⟨1, h2, h1, Or.inr rfl, fun _ => h3, fun z => absurd z (by decide)⟩
  · exact ⟨0, h2, h1, Or.inl rfl, fun z => absurd z (by decide), fun _ => h3⟩
set_option maxHeartbeats 4000000 in
theorem cx_arrive {k : Int} (hk : 0 ≤ k ∧ k < 64) {σ : ck_M} (hS : ck_rg (σ 6 k)) (hR : ck_rg (σ 18 k)) (hfol : ¬ k = 0 → ck_cal 4 cm_Fi_follow [.inr (4, 3, 1), .inl (k - 1)] σ (fun q σ' => q = none ∧ ck_f6 σ σ' 473 ∧ ck_rd σ' 473 = ck_fl σ (k - 1))) (h0 : ck_fb (ck_ar0 σ k)) (hA : ck_fb (ck_arr σ k)) (hBk : ¬ σ 18 k = 0 → ck_fb (ck_B σ k)) (hW : σ 6 k = 12 → (0 ≤ σ 12 k ∧ σ 12 k < 64) ∧ ck_rg (σ 18 (σ 12 k)) ∧ (¬ σ 18 (σ 12 k) = 0 → ck_fb (ck_B σ (σ 12 k)))) : ck_cal 5 cm_Fi_arrive [.inr (4, 3, 1), .inl k] σ (fun q σ' => (¬ σ 18 k = 0 ∧ ck_sb (ck_B σ k) (ck_arr σ k) → q = some 0 ∧ ck_f6 σ σ' 473) ∧ (¬ (¬ σ 18 k = 0 ∧ ck_sb (ck_B σ k) (ck_arr σ k)) → q = some 1 ∧ (∀ b j, (b ≠ 18 ∨ j ≠ k) → (b ≤ 25 + 7 * k ∨ 25 + 7 * k + 6 < b) → (b ≤ 473 ∨ 479 < b) → σ' b j = σ b j) ∧ σ' 18 k = 1 ∧ ck_B σ' k = ck_arr σ k)) := by
  refine ck_cal_of ?_
  refine ck_mid 21 (fun u => [some (.inr (4, 3, 1)), some (.inl k)]) (fun t1 => ck_f6 σ t1 473 ∧ ck_rd t1 473 = ck_ar0 σ k) (fun u t1 hJ => ?_) (fun jj => ?_)
  · obtain ⟨f1, e1⟩ := hJ
    have et : t1 6 k = σ 6 k := f1 _ _ (by decide)
    obtain ⟨v1, v2⟩ := id hS
    rw [← et] at v1 v2
    refine ck_mid 40 (fun u => [some (.inr (4, 3, 1)), some (.inl k)]) (fun t2 => ck_f6 σ t2 473 ∧ ck_rd t2 473 = ck_arr σ k) (fun u t2 hJ => ?_) (fun jj => ?_)
    · obtain ⟨f2, e2⟩ := hJ
      have er : t2 18 k = σ 18 k := f2 _ _ (by decide)
      obtain ⟨w1, w2⟩ := id hR
      rw [← er] at w1 w2
      refine ck_go_run 5 (X1 := (if t2 18 k = 0 then 67 else 49, [some (.inr (4, 3, 1)), some (.inl k)], [], t2)) (ps := [0 ≤ k ∧ k < ((64 : Nat) : Int), ck_rg (t2 18 k)]) rfl ⟨⟨by omega, by omega⟩, (ck_rgo (by omega) (by omega)), trivial⟩ ?_
      refine ck_go_ite (fun h1 => ?_) (fun h1 => ?_)
      · refine ck_go_run 6 (X1 := (77, [some (.inr (4, 3, 1)), some (.inl k)], [.inr (473, 3, 0), .inr (25 + 7 * k, 3, 0)], t2)) (ps := [0 ≤ k ∧ k < ((64 : Nat) : Int)]) rfl ⟨⟨by omega, by omega⟩, trivial⟩ ?_
        refine ck_go_cal (rest := []) (ck_cal_le (by decide) (cx_copy (σ := t2) (c := 25 + 7 * k) (e := 473) (by omega) e2 hA)) ⟨_, rfl, Or.inl ⟨_, rfl⟩, rfl, rfl, rfl, Nat.le_of_ble_eq_true rfl, fun _ => ⟨_, _, rfl⟩⟩ ?_
        rintro _ s1 ⟨rfl, g1, r1⟩
        try dsimp only at g1 r1
        refine ck_go_run 6 (X1 := (88, [some (.inr (4, 3, 1)), some (.inl k)], [.inl 1], ck_up s1 18 k 1)) (ps := [0 ≤ k ∧ k < ((64 : Nat) : Int), 1 = 0 ∨ 1 = 1]) rfl ⟨⟨by omega, by omega⟩, Or.inr rfl, trivial⟩ ?_
        refine ck_eZ (Or.inr rfl) ⟨fun z => ?_, fun _ => ⟨rfl, fun b j z1 z2 z3 => ?_, ?_, ?_⟩⟩ rfl rfl rfl
        · exfalso
          first | exact hx0 (by omega) z.2 | exact z.1 (by rw [← er]; assumption)
        · simp only [ck_up]
          rw [if_neg (by omega), g1 b j (by omega)]
          exact f2 b j (by omega)
        · simp only [ck_up, and_self, if_true]
        · rw [← r1]
          refine ck_N_ext (fun n a0 a1 => ?_) (fun n a0 a1 => ?_) (fun n q a0 a1 b0 b1 => ?_) (fun q b0 b1 => ?_) (fun q b0 b1 => ?_) (fun q b0 b1 => ?_) <;> (simp only [ck_up]; rw [if_neg (by omega)])
      · refine ck_go_run 6 (X1 := (59, [some (.inr (4, 3, 1)), some (.inl k)], [.inr (473, 3, 0), .inr (25 + 7 * k, 3, 0)], t2)) (ps := [0 ≤ k ∧ k < ((64 : Nat) : Int)]) rfl ⟨⟨by omega, by omega⟩, trivial⟩ ?_
        refine ck_go_cal (rest := []) (ck_cal_le (by decide) (cx_hsb (σ := t2) (c := 25 + 7 * k) (e := 473) (f := ck_B σ k) (g := ck_arr σ k) (ck_B_f6 f2 hk.1 hk.2) (hBk (by rw [← er]; exact h1)) e2 hA)) ⟨_, rfl, Or.inl ⟨_, rfl⟩, rfl, rfl, rfl, Nat.le_of_ble_eq_true rfl, fun _ => ⟨_, _, rfl⟩⟩ ?_
        rintro _ s' ⟨x, rfl, e', hx, hx1, hx0⟩
        rw [e']
        clear e' s'
        refine ck_go_run 1 (X1 := (if x = 0 then 67 else 65, [some (.inr (4, 3, 1)), some (.inl k)], [], t2)) (ps := [ck_rg x]) rfl ⟨(ck_rgo (by omega) (by omega)), trivial⟩ ?_
        refine ck_go_ite (fun h2 => ?_) (fun h2 => ?_)
        · refine ck_go_run 6 (X1 := (77, [some (.inr (4, 3, 1)), some (.inl k)], [.inr (473, 3, 0), .inr (25 + 7 * k, 3, 0)], t2)) (ps := [0 ≤ k ∧ k < ((64 : Nat) : Int)]) rfl ⟨⟨by omega, by omega⟩, trivial⟩ ?_
          refine ck_go_cal (rest := []) (ck_cal_le (by decide) (cx_copy (σ := t2) (c := 25 + 7 * k) (e := 473) (by omega) e2 hA)) ⟨_, rfl, Or.inl ⟨_, rfl⟩, rfl, rfl, rfl, Nat.le_of_ble_eq_true rfl, fun _ => ⟨_, _, rfl⟩⟩ ?_
          rintro _ s2 ⟨rfl, g2, r2⟩
          try dsimp only at g2 r2
          refine ck_go_run 6 (X1 := (88, [some (.inr (4, 3, 1)), some (.inl k)], [.inl 1], ck_up s2 18 k 1)) (ps := [0 ≤ k ∧ k < ((64 : Nat) : Int), 1 = 0 ∨ 1 = 1]) rfl ⟨⟨by omega, by omega⟩, Or.inr rfl, trivial⟩ ?_
          refine ck_eZ (Or.inr rfl) ⟨fun z => ?_, fun _ => ⟨rfl, fun b j z1 z2 z3 => ?_, ?_, ?_⟩⟩ rfl rfl rfl
          · exfalso
            first | exact hx0 (by omega) z.2 | exact z.1 (by rw [← er]; assumption)
          · simp only [ck_up]
            rw [if_neg (by omega), g2 b j (by omega)]
            exact f2 b j (by omega)
          · simp only [ck_up, and_self, if_true]
          · rw [← r2]
            refine ck_N_ext (fun n a0 a1 => ?_) (fun n a0 a1 => ?_) (fun n q a0 a1 b0 b1 => ?_) (fun q b0 b1 => ?_) (fun q b0 b1 => ?_) (fun q b0 b1 => ?_) <;> (simp only [ck_up]; rw [if_neg (by omega)])
        · refine ck_go_run 1 (X1 := (66, [some (.inr (4, 3, 1)), some (.inl k)], [.inl 0], t2)) (ps := []) rfl trivial ?_
          exact ck_eZ (Or.inl rfl) ⟨fun _ => ⟨rfl, f2⟩, fun z => absurd ⟨by rw [← er]; assumption, hx1 (by omega)⟩ z⟩ rfl rfl rfl
    · refine ck_go_run 7 (X1 := (if t1 6 k = 12 then 35 else 40, [some (.inr (4, 3, 1)), some (.inl k)], [], t1)) (ps := [0 ≤ k ∧ k < ((64 : Nat) : Int), ck_rg (t1 6 k), ck_rg 12]) rfl ⟨⟨by omega, by omega⟩, (ck_rgo (by omega) (by omega)), (ck_rgo (by omega) (by omega)), trivial⟩ ?_
      refine ck_go_ite (fun hT => ?_) (fun hT => ?_)
      · rw [et] at hT
        refine ck_go_run 2 (X1 := (37, [some (.inr (4, 3, 1)), some (.inl k)], [.inl k, .inr (4, 3, 1)], t1)) (ps := []) rfl trivial ?_
        refine ck_go_cal (rest := []) (ck_cal_le (by decide) (cx_joinWhile (σ := t1) (k := k) hk (by rw [f1 _ _ (by decide)]; exact (hW hT).1) (by rw [f1 _ _ (by decide), f1 _ _ (by decide)]; exact (hW hT).2.1) e1 h0 (fun z => by rw [f1 12 _ (by decide)] at z ⊢; rw [f1 18 _ (by decide)] at z; rw [ck_B_f6 f1 (hW hT).1.1 (hW hT).1.2]; exact (hW hT).2.2 z))) ⟨_, rfl, Or.inl ⟨_, rfl⟩, rfl, rfl, rfl, Nat.le_of_ble_eq_true rfl, fun _ => ⟨_, _, rfl⟩⟩ ?_
        rintro _ s3 ⟨rfl, g3, r3⟩
        try dsimp only at g3 r3
        exact jj (none, none, none) _ ⟨ck_f6_tr f1 g3, by rw [r3, ck_wv_f6 f1 (hW hT).1]; unfold ck_arr; rw [if_pos hT]⟩
      · exact jj (none, none, none) _ ⟨f1, by rw [e1]; unfold ck_arr; rw [if_neg (by rw [← et]; exact hT)]⟩
  · refine ck_go_run 2 (X1 := (if k = 0 then 4 else 14, [some (.inr (4, 3, 1)), some (.inl k)], [], σ)) (ps := [ck_rg k]) rfl ⟨(ck_rgo (by omega) (by omega)), trivial⟩ ?_
    refine ck_go_ite (fun h4 => ?_) (fun h4 => ?_)
    · refine ck_go_run 2 (X1 := (8, [some (.inr (4, 3, 1)), some (.inl k)], [.inr (473, 3, 0)], σ)) (ps := []) rfl trivial ?_
      refine ck_go_cal (rest := []) (ck_cal_le (by decide) (cx_setFirst (σ := σ) (c := 473))) ⟨_, rfl, Or.inl ⟨_, rfl⟩, rfl, rfl, rfl, Nat.le_of_ble_eq_true rfl, fun _ => ⟨_, _, rfl⟩⟩ ?_
      rintro _ s4 ⟨rfl, g4, r4⟩
      try dsimp only at g4 r4
      refine ck_go_run 1 (X1 := (21, [some (.inr (4, 3, 1)), some (.inl k)], [], s4)) (ps := []) rfl trivial ?_
      exact jj (none, none, none) _ ⟨g4, by rw [r4]; unfold ck_ar0; first | rw [if_pos (by assumption)] | rw [if_neg (by assumption)]⟩
    · refine ck_go_run 4 (X1 := (18, [some (.inr (4, 3, 1)), some (.inl k)], [.inl (k - 1), .inr (4, 3, 1)], σ)) (ps := []) rfl trivial ?_
      refine ck_go_cal (rest := []) (ck_cal_le (by decide) (hfol (by assumption))) ⟨_, rfl, Or.inl ⟨_, rfl⟩, rfl, rfl, rfl, Nat.le_of_ble_eq_true rfl, fun _ => ⟨_, _, rfl⟩⟩ ?_
      rintro _ s5 ⟨rfl, g5, r5⟩
      try dsimp only at g5 r5
      exact jj (none, none, none) _ ⟨g5, by rw [r5]; unfold ck_ar0; first | rw [if_pos (by assumption)] | rw [if_neg (by assumption)]⟩
theorem cx_forgetAll {σ : ck_M} : ck_cal 1 cm_Fi_forgetAll [.inr (4, 3, 1)] σ (fun q σ' => q = none ∧ σ' = ck_up σ 4 6 0) := by
  refine ck_cal_of ?_
  refine ck_go_run 3 (X1 := (5, [some (.inr (4, 3, 1))], [], ck_up σ 4 6 0)) (ps := [0 = 0 ∨ 0 = 1]) rfl ⟨Or.inl rfl, trivial⟩ ?_
  exact ck_eV ⟨rfl, rfl⟩ rfl rfl rfl
theorem cx_markAllDue {n : Int} (hn : 0 ≤ n ∧ n ≤ 64) {σ : ck_M} (hN : σ 5 10 = n) : ck_cal 1 cm_Fi_markAllDue [.inr (4, 3, 1)] σ (fun q σ' => q = none ∧ ∀ b j, σ' b j = if 0 ≤ j ∧ j < n ∧ b = 18 then 0 else if 0 ≤ j ∧ j < n ∧ b = 19 then 1 else σ b j) := by
  refine ck_cal_of ?_
  refine ck_go_run 2 (X1 := (2, [some (.inr (4, 3, 1)), some (.inl 0)], [], σ)) (ps := []) rfl trivial ?_
  refine ck_for 2 (fun v => [some (.inr (4, 3, 1)), some (.inl v)]) n (fun v s => (0 ≤ v ∧ v ≤ n) ∧ ∀ b j, s b j = if 0 ≤ j ∧ j < v ∧ b = 18 then 0 else if 0 ≤ j ∧ j < v ∧ b = 19 then 1 else σ b j) (fun v s hv hI kk => ?_) (fun v s hv hI => ?_) 0 _ ⟨⟨by omega, by omega⟩, fun b j => by rw [if_neg (by omega), if_neg (by omega)]⟩
  · obtain ⟨⟨h0, h4⟩, hI⟩ := hI
    have eN : s 5 10 = n := by rw [hI, if_neg (by omega), if_neg (by omega), hN]
    refine ck_go_run 5 (X1 := (if v < s 5 10 then 13 else 33, [some (.inr (4, 3, 1)), some (.inl v)], [], s)) (ps := [ck_rg v, ck_rg (s 5 10)]) rfl ⟨(ck_rgo (by omega) (by omega)), (ck_rgo (by omega) (by omega)), trivial⟩ ?_
    refine ck_go_t (by omega) ?_
    refine ck_go_run 12 (X1 := (2, [some (.inr (4, 3, 1)), some (.inl (v + 1))], [], ck_up (ck_up s 18 v 0) 19 v 1)) (ps := [0 ≤ v ∧ v < ((64 : Nat) : Int), 0 = 0 ∨ 0 = 1, 0 ≤ v ∧ v < ((65 : Nat) : Int), 1 = 0 ∨ 1 = 1]) rfl ⟨⟨by omega, by omega⟩, Or.inl rfl, ⟨by omega, by omega⟩, Or.inr rfl, trivial⟩ ?_
    exact kk _ ⟨⟨by omega, by omega⟩, fun b j => by
      simp only [ck_up, hI]
      (repeat' split) <;> first | rfl | omega⟩
  · obtain ⟨⟨h0, h4⟩, hI⟩ := hI
    have eN : s 5 10 = n := by rw [hI, if_neg (by omega), if_neg (by omega), hN]
    refine ck_go_run 5 (X1 := (if v < s 5 10 then 13 else 33, [some (.inr (4, 3, 1)), some (.inl v)], [], s)) (ps := [ck_rg v, ck_rg (s 5 10)]) rfl ⟨(ck_rgo (by omega) (by omega)), (ck_rgo (by omega) (by omega)), trivial⟩ ?_
    refine ck_go_f (by omega) ?_
    obtain rfl : v = n := by omega
    exact ck_eV ⟨rfl, hI⟩ rfl rfl rfl
/-- which checks of a statement are needless, by what is known before it -/
def ck_nix (f : ck_D) (a n : Int) : Int := (if ck_th f a = 0 then 0 else 1) + (if 0 ≤ ck_lo f n then 2 else 0) + (if ck_hi f n a ≤ -1 then 4 else 0)
def ck_ndl (t x y z : Int) (f : ck_D) : Int := if t = 3 then (if ck_th f y = 0 then 0 else 1) else if t = 4 then ck_nix f y z else if t = 5 then ck_nix f x y else 0
theorem cx_nix {c a n : Int} (ha : 0 ≤ a ∧ a < 4) (hn : 0 ≤ n ∧ n < 10) {σ : ck_M} {f : ck_D} (hf : ck_rd σ c = f) (hB : ck_fb f) : ck_cal 1 cm_Fi_findNeedlessOfIndex [.inr (c, 3, 0), .inl a, .inl n] σ (fun q σ' => q = some (ck_nix f a n) ∧ σ' = σ) := by
  refine ck_cal_of ?_
  have eT : σ (c + 6) a = ck_th f a := ck_x_th hf ha.1 ha.2
  have eL : σ (c + 2) n = ck_lo f n := ck_x_lo hf hn.1 hn.2
  have eH : σ (c + 3) (n * 4 + a) = ck_hi f n a := ck_x_hi hf hn.1 hn.2 ha.1 ha.2
  have bT := hB.2.2.2.2.2 a
  have bL := hB.2.1 n
  have bH := hB.2.2.1 n a
  refine ck_go_run 5 (X1 := (if σ (c + 6) a = 0 then 13 else 9, [some (.inr (c, 3, 0)), some (.inl a), some (.inl n), none], [], σ)) (ps := [0 ≤ a ∧ a < ((4 : Nat) : Int), ck_rg (σ (c + 6) a)]) rfl ⟨⟨by omega, by omega⟩, (ck_rgo (by omega) (by omega)), trivial⟩ ?_
  refine ck_go_ite (fun h1 => ?_) (fun h1 => ?_)
  · refine ck_go_run 7 (X1 := (if σ (c + 2) n < 0 then 27 else 24, [some (.inr (c, 3, 0)), some (.inl a), some (.inl n), some (.inl 0)], [], σ)) (ps := [0 ≤ n ∧ n < ((10 : Nat) : Int), ck_rg (σ (c + 2) n)]) rfl ⟨⟨by omega, by omega⟩, (ck_rgo (by omega) (by omega)), trivial⟩ ?_
    refine ck_go_ite (fun h2 => ?_) (fun h2 => ?_)
    · refine ck_go_run 10 (X1 := (if (-1) < σ (c + 3) ((n * 4) + a) then 44 else 41, [some (.inr (c, 3, 0)), some (.inl a), some (.inl n), some (.inl 0)], [], σ)) (ps := [0 ≤ (n * 4) + a ∧ (n * 4) + a < ((40 : Nat) : Int), ck_rg (σ (c + 3) ((n * 4) + a)), ck_rg ((-1))]) rfl ⟨⟨by omega, by omega⟩, (ck_rgo (by omega) (by omega)), (ck_rgo (by omega) (by omega)), trivial⟩ ?_
      refine ck_go_ite (fun h3 => ?_) (fun h3 => ?_)
      · refine ck_go_run 1 (X1 := (45, [some (.inr (c, 3, 0)), some (.inl a), some (.inl n), some (.inl 0)], [.inl 0], σ)) (ps := []) rfl trivial ?_
        refine ck_eI ⟨?_, rfl⟩ rfl rfl rfl
        unfold ck_nix
        rw [← eT, ← eL, ← eH]
        congr 1
        (repeat' split) <;> omega
      · refine ck_go_run 2 (X1 := (45, [some (.inr (c, 3, 0)), some (.inl a), some (.inl n), some (.inl (0 + 4))], [.inl (0 + 4)], σ)) (ps := []) rfl trivial ?_
        refine ck_eI ⟨?_, rfl⟩ rfl rfl rfl
        unfold ck_nix
        rw [← eT, ← eL, ← eH]
        congr 1
        (repeat' split) <;> omega
    · refine ck_go_run 11 (X1 := (if (-1) < σ (c + 3) ((n * 4) + a) then 44 else 41, [some (.inr (c, 3, 0)), some (.inl a), some (.inl n), some (.inl (0 + 2))], [], σ)) (ps := [0 ≤ (n * 4) + a ∧ (n * 4) + a < ((40 : Nat) : Int), ck_rg (σ (c + 3) ((n * 4) + a)), ck_rg ((-1))]) rfl ⟨⟨by omega, by omega⟩, (ck_rgo (by omega) (by omega)), (ck_rgo (by omega) (by omega)), trivial⟩ ?_
      refine ck_go_ite (fun h4 => ?_) (fun h4 => ?_)
      · refine ck_go_run 1 (X1 := (45, [some (.inr (c, 3, 0)), some (.inl a), some (.inl n), some (.inl (0 + 2))], [.inl (0 + 2)], σ)) (ps := []) rfl trivial ?_
        refine ck_eI ⟨?_, rfl⟩ rfl rfl rfl
        unfold ck_nix
        rw [← eT, ← eL, ← eH]
        congr 1
        (repeat' split) <;> omega
      · refine ck_go_run 2 (X1 := (45, [some (.inr (c, 3, 0)), some (.inl a), some (.inl n), some (.inl ((0 + 2) + 4))], [.inl ((0 + 2) + 4)], σ)) (ps := []) rfl trivial ?_
        refine ck_eI ⟨?_, rfl⟩ rfl rfl rfl
        unfold ck_nix
        rw [← eT, ← eL, ← eH]
        congr 1
        (repeat' split) <;> omega
  · refine ck_go_run 8 (X1 := (if σ (c + 2) n < 0 then 27 else 24, [some (.inr (c, 3, 0)), some (.inl a), some (.inl n), some (.inl 1)], [], σ)) (ps := [0 ≤ n ∧ n < ((10 : Nat) : Int), ck_rg (σ (c + 2) n)]) rfl ⟨⟨by omega, by omega⟩, (ck_rgo (by omega) (by omega)), trivial⟩ ?_
    refine ck_go_ite (fun h5 => ?_) (fun h5 => ?_)
    · refine ck_go_run 10 (X1 := (if (-1) < σ (c + 3) ((n * 4) + a) then 44 else 41, [some (.inr (c, 3, 0)), some (.inl a), some (.inl n), some (.inl 1)], [], σ)) (ps := [0 ≤ (n * 4) + a ∧ (n * 4) + a < ((40 : Nat) : Int), ck_rg (σ (c + 3) ((n * 4) + a)), ck_rg ((-1))]) rfl ⟨⟨by omega, by omega⟩, (ck_rgo (by omega) (by omega)), (ck_rgo (by omega) (by omega)), trivial⟩ ?_
      refine ck_go_ite (fun h6 => ?_) (fun h6 => ?_)
      · refine ck_go_run 1 (X1 := (45, [some (.inr (c, 3, 0)), some (.inl a), some (.inl n), some (.inl 1)], [.inl 1], σ)) (ps := []) rfl trivial ?_
        refine ck_eI ⟨?_, rfl⟩ rfl rfl rfl
        unfold ck_nix
        rw [← eT, ← eL, ← eH]
        congr 1
        (repeat' split) <;> omega
      · refine ck_go_run 2 (X1 := (45, [some (.inr (c, 3, 0)), some (.inl a), some (.inl n), some (.inl (1 + 4))], [.inl (1 + 4)], σ)) (ps := []) rfl trivial ?_
        refine ck_eI ⟨?_, rfl⟩ rfl rfl rfl
        unfold ck_nix
        rw [← eT, ← eL, ← eH]
        congr 1
        (repeat' split) <;> omega
    · refine ck_go_run 11 (X1 := (if (-1) < σ (c + 3) ((n * 4) + a) then 44 else 41, [some (.inr (c, 3, 0)), some (.inl a), some (.inl n), some (.inl (1 + 2))], [], σ)) (ps := [0 ≤ (n * 4) + a ∧ (n * 4) + a < ((40 : Nat) : Int), ck_rg (σ (c + 3) ((n * 4) + a)), ck_rg ((-1))]) rfl ⟨⟨by omega, by omega⟩, (ck_rgo (by omega) (by omega)), (ck_rgo (by omega) (by omega)), trivial⟩ ?_
      refine ck_go_ite (fun h7 => ?_) (fun h7 => ?_)
      · refine ck_go_run 1 (X1 := (45, [some (.inr (c, 3, 0)), some (.inl a), some (.inl n), some (.inl (1 + 2))], [.inl (1 + 2)], σ)) (ps := []) rfl trivial ?_
        refine ck_eI ⟨?_, rfl⟩ rfl rfl rfl
        unfold ck_nix
        rw [← eT, ← eL, ← eH]
        congr 1
        (repeat' split) <;> omega
      · refine ck_go_run 2 (X1 := (45, [some (.inr (c, 3, 0)), some (.inl a), some (.inl n), some (.inl ((1 + 2) + 4))], [.inl ((1 + 2) + 4)], σ)) (ps := []) rfl trivial ?_
        refine ck_eI ⟨?_, rfl⟩ rfl rfl rfl
        unfold ck_nix
        rw [← eT, ← eL, ← eH]
        congr 1
        (repeat' split) <;> omega
theorem cx_findNeedless3 {k : Int} (hk : 0 ≤ k ∧ k < 64) {σ : ck_M} (hO : ck_sOk (σ 6 k) (σ 7 k) (σ 8 k) (σ 9 k)) (hB : ck_fb (ck_B σ k)) (hT : σ 6 k = 3) : ck_cal 2 cm_Fi_findNeedless [.inr (4, 3, 1), .inl k] σ (fun q σ' => q = some (ck_ndl (σ 6 k) (σ 7 k) (σ 8 k) (σ 9 k) (ck_B σ k)) ∧ σ' = σ) := by
  refine ck_cal_of ?_
  have hR : ck_rg (σ 6 k) := ck_rgo (by omega) (by omega)
  have eT : σ (25 + 7 * k + 6) (σ 8 k) = ck_th (ck_B σ k) (σ 8 k) := ck_x_th rfl (by unfold ck_sOk at hO; omega) (by unfold ck_sOk at hO; omega)
  have bT := hB.2.2.2.2.2 (σ 8 k)
  have hi : 0 ≤ σ 8 k ∧ σ 8 k < 4 := by unfold ck_sOk at hO; omega
  refine ck_go_run 23 (X1 := (ck_sw 3 (σ 6 k) 104 [64, 80, 96], [some (.inr (4, 3, 1)), some (.inl k), some (.inr (25 + 7 * k, 3, 0)), some (.inl (σ 7 k)), some (.inl (σ 8 k))], [], σ)) (ps := [0 ≤ k ∧ k < ((64 : Nat) : Int), 0 ≤ k ∧ k < ((64 : Nat) : Int), 0 ≤ k ∧ k < ((64 : Nat) : Int), 0 ≤ k ∧ k < ((64 : Nat) : Int), ck_rg (σ 6 k)]) rfl ⟨⟨by omega, by omega⟩, ⟨by omega, by omega⟩, ⟨by omega, by omega⟩, ⟨by omega, by omega⟩, (ck_rgo (by omega) (by omega)), trivial⟩ ?_
  have hsw := hT
  · rw [hsw]
    refine ck_go_pc (q := 64) rfl ?_
    refine ck_go_run 5 (X1 := (if σ (25 + 7 * k + 6) (σ 8 k) = 0 then 78 else 74, [some (.inr (4, 3, 1)), some (.inl k), some (.inr (25 + 7 * k, 3, 0)), some (.inl (σ 7 k)), some (.inl (σ 8 k))], [], σ)) (ps := [0 ≤ σ 8 k ∧ σ 8 k < ((4 : Nat) : Int), ck_rg (σ (25 + 7 * k + 6) (σ 8 k))]) rfl ⟨⟨by omega, by omega⟩, (ck_rgo (by omega) (by omega)), trivial⟩ ?_
    refine ck_go_ite (fun h1 => ?_) (fun h1 => ?_)
    · refine ck_go_run 1 (X1 := (79, [some (.inr (4, 3, 1)), some (.inl k), some (.inr (25 + 7 * k, 3, 0)), some (.inl (σ 7 k)), some (.inl (σ 8 k))], [.inl 0], σ)) (ps := []) rfl trivial ?_
      exact ck_eI ⟨by unfold ck_ndl; rw [if_pos rfl, ← eT, if_pos (by assumption)], rfl⟩ rfl rfl rfl
    · refine ck_go_run 2 (X1 := (79, [some (.inr (4, 3, 1)), some (.inl k), some (.inr (25 + 7 * k, 3, 0)), some (.inl (σ 7 k)), some (.inl (σ 8 k))], [.inl 1], σ)) (ps := []) rfl trivial ?_
      exact ck_eI ⟨by unfold ck_ndl; rw [if_pos rfl, ← eT, if_neg (by assumption)], rfl⟩ rfl rfl rfl
theorem cx_findNeedless4 {k : Int} (hk : 0 ≤ k ∧ k < 64) {σ : ck_M} (hO : ck_sOk (σ 6 k) (σ 7 k) (σ 8 k) (σ 9 k)) (hB : ck_fb (ck_B σ k)) (hT : σ 6 k = 4) : ck_cal 2 cm_Fi_findNeedless [.inr (4, 3, 1), .inl k] σ (fun q σ' => q = some (ck_ndl (σ 6 k) (σ 7 k) (σ 8 k) (σ 9 k) (ck_B σ k)) ∧ σ' = σ) := by
  refine ck_cal_of ?_
  have hR : ck_rg (σ 6 k) := ck_rgo (by omega) (by omega)
  refine ck_go_run 23 (X1 := (ck_sw 3 (σ 6 k) 104 [64, 80, 96], [some (.inr (4, 3, 1)), some (.inl k), some (.inr (25 + 7 * k, 3, 0)), some (.inl (σ 7 k)), some (.inl (σ 8 k))], [], σ)) (ps := [0 ≤ k ∧ k < ((64 : Nat) : Int), 0 ≤ k ∧ k < ((64 : Nat) : Int), 0 ≤ k ∧ k < ((64 : Nat) : Int), 0 ≤ k ∧ k < ((64 : Nat) : Int), ck_rg (σ 6 k)]) rfl ⟨⟨by omega, by omega⟩, ⟨by omega, by omega⟩, ⟨by omega, by omega⟩, ⟨by omega, by omega⟩, (ck_rgo (by omega) (by omega)), trivial⟩ ?_
  have hsw := hT
  · rw [hsw]
    refine ck_go_pc (q := 80) rfl ?_
    refine ck_go_run 7 (X1 := (92, [some (.inr (4, 3, 1)), some (.inl k), some (.inr (25 + 7 * k, 3, 0)), some (.inl (σ 7 k)), some (.inl (σ 8 k))], [.inl (σ 9 k), .inl (σ 8 k), .inr (25 + 7 * k, 3, 0)], σ)) (ps := [0 ≤ k ∧ k < ((64 : Nat) : Int)]) rfl ⟨⟨by omega, by omega⟩, trivial⟩ ?_
    refine ck_go_cal (rest := []) (ck_cal_le (by decide) (cx_nix (σ := σ) (c := 25 + 7 * k) (a := σ 8 k) (n := σ 9 k) (by unfold ck_sOk at hO; omega) (by unfold ck_sOk at hO; omega) rfl hB)) ⟨_, rfl, Or.inr ⟨_, rfl⟩, rfl, rfl, rfl, Nat.le_of_ble_eq_true rfl, fun h => absurd h (by decide)⟩ ?_
    rintro _ s' ⟨rfl, e'⟩
    rw [e']
    clear e' s'
    exact ck_eI ⟨rfl, rfl⟩ rfl rfl rfl
theorem cx_findNeedless5 {k : Int} (hk : 0 ≤ k ∧ k < 64) {σ : ck_M} (hO : ck_sOk (σ 6 k) (σ 7 k) (σ 8 k) (σ 9 k)) (hB : ck_fb (ck_B σ k)) (hT : σ 6 k = 5) : ck_cal 2 cm_Fi_findNeedless [.inr (4, 3, 1), .inl k] σ (fun q σ' => q = some (ck_ndl (σ 6 k) (σ 7 k) (σ 8 k) (σ 9 k) (ck_B σ k)) ∧ σ' = σ) := by
  refine ck_cal_of ?_
  have hR : ck_rg (σ 6 k) := ck_rgo (by omega) (by omega)
  refine ck_go_run 23 (X1 := (ck_sw 3 (σ 6 k) 104 [64, 80, 96], [some (.inr (4, 3, 1)), some (.inl k), some (.inr (25 + 7 * k, 3, 0)), some (.inl (σ 7 k)), some (.inl (σ 8 k))], [], σ)) (ps := [0 ≤ k ∧ k < ((64 : Nat) : Int), 0 ≤ k ∧ k < ((64 : Nat) : Int), 0 ≤ k ∧ k < ((64 : Nat) : Int), 0 ≤ k ∧ k < ((64 : Nat) : Int), ck_rg (σ 6 k)]) rfl ⟨⟨by omega, by omega⟩, ⟨by omega, by omega⟩, ⟨by omega, by omega⟩, ⟨by omega, by omega⟩, (ck_rgo (by omega) (by omega)), trivial⟩ ?_
  have hsw := hT
  · rw [hsw]
    refine ck_go_pc (q := 96) rfl ?_
    refine ck_go_run 3 (X1 := (100, [some (.inr (4, 3, 1)), some (.inl k), some (.inr (25 + 7 * k, 3, 0)), some (.inl (σ 7 k)), some (.inl (σ 8 k))], [.inl (σ 8 k), .inl (σ 7 k), .inr (25 + 7 * k, 3, 0)], σ)) (ps := []) rfl trivial ?_
    refine ck_go_cal (rest := []) (ck_cal_le (by decide) (cx_nix (σ := σ) (c := 25 + 7 * k) (a := σ 7 k) (n := σ 8 k) (by unfold ck_sOk at hO; omega) (by unfold ck_sOk at hO; omega) rfl hB)) ⟨_, rfl, Or.inr ⟨_, rfl⟩, rfl, rfl, rfl, Nat.le_of_ble_eq_true rfl, fun h => absurd h (by decide)⟩ ?_
    rintro _ s' ⟨rfl, e'⟩
    rw [e']
    clear e' s'
    exact ck_eI ⟨rfl, rfl⟩ rfl rfl rfl
theorem cx_findNeedless0 {k : Int} (hk : 0 ≤ k ∧ k < 64) {σ : ck_M} (hR : ck_rg (σ 6 k)) (hT : σ 6 k < 3 ∨ 5 < σ 6 k) : ck_cal 2 cm_Fi_findNeedless [.inr (4, 3, 1), .inl k] σ (fun q σ' => q = some (ck_ndl (σ 6 k) (σ 7 k) (σ 8 k) (σ 9 k) (ck_B σ k)) ∧ σ' = σ) := by
  refine ck_cal_of ?_
  obtain ⟨r1, r2⟩ := id hR
  refine ck_go_run 23 (X1 := (ck_sw 3 (σ 6 k) 104 [64, 80, 96], [some (.inr (4, 3, 1)), some (.inl k), some (.inr (25 + 7 * k, 3, 0)), some (.inl (σ 7 k)), some (.inl (σ 8 k))], [], σ)) (ps := [0 ≤ k ∧ k < ((64 : Nat) : Int), 0 ≤ k ∧ k < ((64 : Nat) : Int), 0 ≤ k ∧ k < ((64 : Nat) : Int), 0 ≤ k ∧ k < ((64 : Nat) : Int), ck_rg (σ 6 k)]) rfl ⟨⟨by omega, by omega⟩, ⟨by omega, by omega⟩, ⟨by omega, by omega⟩, ⟨by omega, by omega⟩, (ck_rgo (by omega) (by omega)), trivial⟩ ?_
  · refine ck_go_pc (q := 104) (by
      unfold ck_sw
      rcases hT with h | h
      · rw [if_pos h]
      · rw [if_neg (by omega), List.getElem?_eq_none (by show 3 ≤ _; omega)]
        rfl) ?_
    refine ck_go_run 1 (X1 := (105, [some (.inr (4, 3, 1)), some (.inl k), some (.inr (25 + 7 * k, 3, 0)), some (.inl (σ 7 k)), some (.inl (σ 8 k))], [.inl 0], σ)) (ps := []) rfl trivial ?_
    exact ck_eI ⟨by unfold ck_ndl; rw [if_neg (by omega), if_neg (by omega), if_neg (by omega)], rfl⟩ rfl rfl rfl
theorem cx_findNeedless {k : Int} (hk : 0 ≤ k ∧ k < 64) {σ : ck_M} (hO : ck_sOk (σ 6 k) (σ 7 k) (σ 8 k) (σ 9 k)) (hB : ck_fb (ck_B σ k)) : ck_cal 2 cm_Fi_findNeedless [.inr (4, 3, 1), .inl k] σ (fun q σ' => q = some (ck_ndl (σ 6 k) (σ 7 k) (σ 8 k) (σ 9 k) (ck_B σ k)) ∧ σ' = σ) := by
  by_cases h3 : σ 6 k = 3
  · exact cx_findNeedless3 hk hO hB h3
  · by_cases h4 : σ 6 k = 4
    · exact cx_findNeedless4 hk hO hB h4
    · by_cases h5 : σ 6 k = 5
      · exact cx_findNeedless5 hk hO hB h5
      · exact cx_findNeedless0 hk (by unfold ck_sOk at hO; exact ck_rgo (by omega) (by omega)) (by omega)
