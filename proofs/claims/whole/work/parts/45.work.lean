theorem cx_work1 {σ : ck_M} (hw : σ 4 6 = 1) : ck_cal 7 cm_Fi_work [.inr (4, 3, 1)] σ (fun q σ' => q = none ∧ σ' = σ) := by
  refine ck_cal_of ?_
  refine ck_go_run 3 (X1 := (if σ 4 6 = 0 then 8 else 7, [some (.inr (4, 3, 1)), none, none, none], [], σ)) (ps := [ck_rg (σ 4 6)]) rfl ⟨(ck_rgo (by omega) (by omega)), trivial⟩ ?_
  refine ck_go_f (by omega) ?_
  exact ck_eV ⟨rfl, rfl⟩ rfl rfl rfl
set_option maxHeartbeats 4000000 in
theorem cx_work0 {σ : ck_M} {n : Int} {X : Int → ck_D} (hw : σ 4 6 = 0) (hp : co_pg σ n) (hN : σ 5 10 = n) (hX : co_sol σ n X) : ck_cal 7 cm_Fi_work [.inr (4, 3, 1)] σ (fun q σ' => q = none ∧ (∀ b j, ¬ (b = 4 ∧ j = 6) → (b < 17 ∨ 19 < b) → (b < 25 ∨ 479 < b) → σ' b j = σ b j) ∧ σ' 4 6 = 1 ∧ co_sol σ n (ck_B σ') ∧ (∀ j, 0 ≤ j → j < n → co_wb j (ck_B σ' j) ∧ co_le (ck_B σ' j) (X j)) ∧ ∀ j, 0 ≤ j → j < n → σ' 17 j = ck_ndl (σ 6 j) (σ 7 j) (σ 8 j) (σ 9 j) (ck_B σ' j)) := by
  refine ck_cal_of ?_
  refine ck_go_run 3 (X1 := (if σ 4 6 = 0 then 8 else 7, [some (.inr (4, 3, 1)), none, none, none], [], σ)) (ps := [ck_rg (σ 4 6)]) rfl ⟨(ck_rgo (by omega) (by omega)), trivial⟩ ?_
  refine ck_go_t hw ?_
  refine ck_go_run 1 (X1 := (9, [some (.inr (4, 3, 1)), none, none, none], [.inr (4, 3, 1)], σ)) (ps := []) rfl trivial ?_
  refine ck_go_cal (rest := []) (ck_cal_le (by decide) (cx_markAllDue hp.1 hN)) ⟨_, rfl, Or.inl ⟨_, rfl⟩, rfl, rfl, rfl, Nat.le_of_ble_eq_true rfl, fun _ => ⟨_, _, rfl⟩⟩ ?_
  rintro _ s1 ⟨rfl, g1⟩
  refine ck_go_run 4 (X1 := (16, [some (.inr (4, 3, 1)), some (.inl 0), some (.inl 0), none], [], s1)) (ps := []) rfl trivial ?_
  refine ck_whl 16 (fun (u : Int × Int × Option ck_PV) => [some (.inr (4, 3, 1)), some (.inl u.2.1), some (.inl u.1), u.2.2]) (fun u s => co_WI σ n X u.1 u.2.1 s) (fun u s => (2000000000 - u.1).toNat) (fun u s hI kk => ?_) (0, 0, none) _ (co_W_init hp g1)
  obtain ⟨v, a, u⟩ := u
  dsimp only at hI kk
  have hv := co_WI_v hp hI
  have e5 : s 5 10 = n := (hI.2.1 5 10 (by decide) (by decide)).trans hN
  have epr := co_fr_pr hI.2.1
  have h0 : 0 ≤ a := hI.2.2.1.1.1
  have han : a ≤ n := hI.2.2.1.1.2
  have hps : co_pg s n := by
    have z : co_pg (co_pr σ) n := hp
    rw [← epr] at z
    exact z
  have hXs : co_sol s n X := by
    have z : co_sol (co_pr σ) n X := hX
    rw [← epr] at z
    exact z
  have hIs : co_wI s n X (ck_B s) (s 18) (s 19) a := by
    have z := hI.2.2.1
    rw [← epr] at z
    exact z
  have hn := hp.1
  have hv0 := hI.1
  refine ck_go_run 5 (X1 := (if a < s 5 10 then 27 else 85, [some (.inr (4, 3, 1)), some (.inl a), some (.inl v), u], [], s)) (ps := [ck_rg a, ck_rg (s 5 10)]) rfl ⟨(ck_rgo (by omega) (by omega)), (ck_rgo (by omega) (by omega)), trivial⟩ ?_
  refine ck_go_ite (fun h1 => ?_) (fun h1 => ?_)
  · have hlt : a < n := by omega
    refine ck_go_run 3 (X1 := (if v < 2000000000 then 33 else 85, [some (.inr (4, 3, 1)), some (.inl a), some (.inl v), u], [], s)) (ps := [ck_rg v, ck_rg 2000000000]) rfl ⟨(ck_rgo (by omega) (by omega)), (ck_rgo (by omega) (by omega)), trivial⟩ ?_
    refine ck_go_t hv ?_
    have hd01 := hI.2.2.1.2.2.1 a h0 hlt
    refine ck_go_run 5 (X1 := (if s 19 a = 0 then 54 else 42, [some (.inr (4, 3, 1)), some (.inl a), some (.inl v), u], [], s)) (ps := [0 ≤ a ∧ a < ((65 : Nat) : Int), ck_rg (s 19 a)]) rfl ⟨⟨by omega, by omega⟩, (ck_rgo (by omega) (by omega)), trivial⟩ ?_
    refine ck_go_ite (fun h2 => ?_) (fun h2 => ?_)
    · refine ck_go_run 7 (X1 := (63, [some (.inr (4, 3, 1)), some (.inl a), some (.inl v), some (.inl 0)], [], ck_up s 19 a 0)) (ps := [0 ≤ a ∧ a < ((65 : Nat) : Int), 0 = 0 ∨ 0 = 1]) rfl ⟨⟨by omega, by omega⟩, Or.inl rfl, trivial⟩ ?_
      obtain ⟨t, et⟩ : ∃ z, z = ck_up s 19 a 0 := ⟨_, rfl⟩
      rw [← et]
      have t0 : t 19 a = 0 := by rw [et]; exact if_pos ⟨rfl, rfl⟩
      have t1 : ∀ b j, ¬ (b = 19 ∧ j = a) → t b j = s b j := fun b j z => by rw [et]; exact if_neg z
      refine ck_go_run 2 (X1 := (if 0 = 0 then 75 else 67, [some (.inr (4, 3, 1)), some (.inl a), some (.inl v), some (.inl 0)], [], t)) (ps := [ck_rg 0]) rfl ⟨(ck_rgo (by omega) (by omega)), trivial⟩ ?_
      refine ck_go_t (by decide) ?_
      refine ck_go_run 6 (X1 := (16, [some (.inr (4, 3, 1)), some (.inl (a + 1)), some (.inl (v + 1)), some (.inl 0)], [], t)) (ps := []) rfl trivial ?_
      exact kk (v + 1, a + 1, some (.inl 0)) _ (co_W_stay hp hX hI hlt (Or.inl (by assumption)) (fun b j z _ => t1 b j z) t0) (by omega)
    · refine ck_go_run 2 (X1 := (44, [some (.inr (4, 3, 1)), some (.inl a), some (.inl v), u], [.inl a, .inr (4, 3, 1)], s)) (ps := []) rfl trivial ?_
      refine ck_go_cal (rest := []) (ck_cal_le (by decide) (cx_arr (s := s) (n := n) (k := a) hps hXs hIs hlt)) ⟨_, rfl, Or.inl ⟨_, rfl⟩, rfl, rfl, rfl, Nat.le_of_ble_eq_true rfl, fun _ => ⟨_, _, rfl⟩⟩ ?_
      rintro _ s2 ⟨x, rfl, hq⟩
      have hx : x = 0 ∨ x = 1 := by
        rcases hq with ⟨e, -⟩ | ⟨e, -⟩
        · exact Or.inl e
        · exact Or.inr e
      refine ck_go_run 1 (X1 := (if x = 0 then 54 else 50, [some (.inr (4, 3, 1)), some (.inl a), some (.inl v), u], [], s2)) (ps := [ck_rg x]) rfl ⟨(ck_rgo (by omega) (by omega)), trivial⟩ ?_
      refine ck_go_ite (fun h3 => ?_) (fun h3 => ?_)
      · refine ck_go_run 7 (X1 := (63, [some (.inr (4, 3, 1)), some (.inl a), some (.inl v), some (.inl 0)], [], ck_up s2 19 a 0)) (ps := [0 ≤ a ∧ a < ((65 : Nat) : Int), 0 = 0 ∨ 0 = 1]) rfl ⟨⟨by omega, by omega⟩, Or.inl rfl, trivial⟩ ?_
        obtain ⟨t, et⟩ : ∃ z, z = ck_up s2 19 a 0 := ⟨_, rfl⟩
        rw [← et]
        have t0 : t 19 a = 0 := by rw [et]; exact if_pos ⟨rfl, rfl⟩
        have t1 : ∀ b j, ¬ (b = 19 ∧ j = a) → t b j = s2 b j := fun b j z => by rw [et]; exact if_neg z
        refine ck_go_run 2 (X1 := (if 0 = 0 then 75 else 67, [some (.inr (4, 3, 1)), some (.inl a), some (.inl v), some (.inl 0)], [], t)) (ps := [ck_rg 0]) rfl ⟨(ck_rgo (by omega) (by omega)), trivial⟩ ?_
        refine ck_go_t (by decide) ?_
        refine ck_go_run 6 (X1 := (16, [some (.inr (4, 3, 1)), some (.inl (a + 1)), some (.inl (v + 1)), some (.inl 0)], [], t)) (ps := []) rfl trivial ?_
        exact kk (v + 1, a + 1, some (.inl 0)) _ (co_W_stay hp hX hI hlt (Or.inr (by
          rcases hq with ⟨-, e, -⟩ | ⟨e, -⟩
          · exact e
          · omega)) (fun b j z z2 => (t1 b j z).trans (by
          rcases hq with ⟨-, -, e⟩ | ⟨e, -⟩
          · exact e b j (by omega)
          · omega)) t0) (by omega)
      · refine ck_go_run 8 (X1 := (63, [some (.inr (4, 3, 1)), some (.inl a), some (.inl v), some (.inl 1)], [], ck_up s2 19 a 0)) (ps := [0 ≤ a ∧ a < ((65 : Nat) : Int), 0 = 0 ∨ 0 = 1]) rfl ⟨⟨by omega, by omega⟩, Or.inl rfl, trivial⟩ ?_
        obtain ⟨t, et⟩ : ∃ z, z = ck_up s2 19 a 0 := ⟨_, rfl⟩
        rw [← et]
        have t0 : t 19 a = 0 := by rw [et]; exact if_pos ⟨rfl, rfl⟩
        have t1 : ∀ b j, ¬ (b = 19 ∧ j = a) → t b j = s2 b j := fun b j z => by rw [et]; exact if_neg z
        obtain ⟨hm, q1, q2, q3⟩ : ¬ (¬ s 18 a = 0 ∧ ck_sb (ck_B s a) (ck_arr s a)) ∧ (∀ b j, (b ≠ 18 ∨ j ≠ a) → (b ≤ 25 + 7 * a ∨ 25 + 7 * a + 6 < b) → (b ≤ 473 ∨ 479 < b) → s2 b j = s b j) ∧ s2 18 a = 1 ∧ ck_B s2 a = ck_arr s a := by
          rcases hq with ⟨e, -⟩ | ⟨-, e⟩
          · omega
          · exact e
        have tp : ∀ b j, 6 ≤ b → b ≤ 14 → t b j = s b j := fun b j z1 z2 => (t1 b j (by omega)).trans (q1 b j (by omega) (by omega) (by omega))
        have c6 := tp 6 a (by decide) (by decide)
        have c10 := tp 10 a (by decide) (by decide)
        have c11 := tp 11 a (by decide) (by decide)
        have c12 := tp 12 a (by decide) (by decide)
        have c6h := tp 6 (s 10 a) (by decide) (by decide)
        rw [← c10] at c6h
        have fS := hps.2.1 a h0 hlt
        have fH := hps.2.2.1 a h0 hlt
        have fE := hps.2.2.2.1 a h0 hlt
        have fT : 0 ≤ t 6 a ∧ t 6 a ≤ 13 := by unfold ck_sOk at fS; omega
        have hn := hps.1
        have fP : t 6 a = 9 ∨ t 6 a = 12 → (0 ≤ t 12 a ∧ t 12 a < 64) ∧ (-1 ≤ t 11 a ∧ t 11 a < 64) := fun z => by
          have := fH (by omega)
          omega
        have fQ : t 6 a = 11 → (0 ≤ t 10 a ∧ t 10 a < 64) ∧ 0 ≤ t 6 (t 10 a) ∧ t 6 (t 10 a) ≤ 13 := fun z => by
          have := fE (by omega)
          have := this.2.2 (by omega)
          rw [c6h, c10]
          omega
        refine ck_go_run 2 (X1 := (if 1 = 0 then 75 else 67, [some (.inr (4, 3, 1)), some (.inl a), some (.inl v), some (.inl 1)], [], t)) (ps := [ck_rg 1]) rfl ⟨(ck_rgo (by omega) (by omega)), trivial⟩ ?_
        refine ck_go_f (by decide) ?_
        refine ck_go_run 2 (X1 := (69, [some (.inr (4, 3, 1)), some (.inl a), some (.inl v), some (.inl 1)], [.inl a, .inr (4, 3, 1)], t)) (ps := []) rfl trivial ?_
        refine ck_go_cal (rest := []) (ck_cal_le (by decide) (cx_passOn (σ := t) (k := a) (by omega) fT fP fQ)) ⟨_, rfl, Or.inl ⟨_, rfl⟩, rfl, rfl, rfl, Nat.le_of_ble_eq_true rfl, fun _ => ⟨_, _, rfl⟩⟩ ?_
        rintro _ s3 ⟨rfl, g3, r3⟩
        refine ck_go_run 4 (X1 := (16, [some (.inr (4, 3, 1)), some (.inl ((if t 6 a = 11 ∧ t 6 (t 10 a) = 12 then t 10 a else a + 1))), some (.inl (v + 1)), some (.inl 1)], [], s3)) (ps := []) rfl trivial ?_
        exact kk (v + 1, (if t 6 a = 11 ∧ t 6 (t 10 a) = 12 then t 10 a else a + 1), some (.inl 1)) _ (by
          have ek : (if t 6 a = 11 ∧ t 6 (t 10 a) = 12 then t 10 a else a + 1) = (if s 6 a = 11 ∧ s 6 (s 10 a) = 12 then s 10 a else a + 1) := by rw [c6h, c6, c10]
          rw [ek]
          have edu : ∀ j, ck_du t a j = ck_du s a j := fun j => by unfold ck_du; rw [c6h, c6, c10, c11, c12]
          refine co_W_move hp hX hI hlt (by assumption) hm q1 q2 q3 (t := s3) (fun b j z => (g3 b j z).trans (t1 b j (by omega))) (fun j => ⟨fun z => (r3 j).1 (by rw [edu]; exact z), fun z => ?_⟩)
          rw [(r3 j).2 (by rw [edu]; exact z)]
          split
          · rename_i e; rw [e]; exact t0
          · exact t1 19 j (by omega)) (by omega)
  · have ean : a = n := by omega
    have hI0 := hI
    have hend : (∀ k, 0 ≤ k → k < n → co_wb k (ck_B s k) ∧ co_le (ck_B s k) (X k)) ∧ co_sol s n (ck_B s) := co_w_end hps (by rw [ean] at hIs; exact hIs)
    refine ck_go_run 2 (X1 := (87, [some (.inr (4, 3, 1)), some (.inl a), some (.inl 0), u], [], s)) (ps := []) rfl trivial ?_
    refine ck_for 87 (fun w => [some (.inr (4, 3, 1)), some (.inl a), some (.inl w), u]) n (fun w z => (0 ≤ w ∧ w ≤ n) ∧ (∀ b j, b ≠ 17 → z b j = s b j) ∧ ∀ j, 0 ≤ j → j < w → z 17 j = ck_ndl (σ 6 j) (σ 7 j) (σ 8 j) (σ 9 j) (ck_B s j)) (fun w z hv hI kk => ?_) (fun w z hv hI => ?_) 0 _ ⟨⟨by omega, by omega⟩, fun _ _ _ => rfl, fun j c d => by omega⟩
    · obtain ⟨hw0, hz, hc⟩ := hI
      have e5z : z 5 10 = n := (hz 5 10 (by decide)).trans e5
      have eBz : ∀ j, 0 ≤ j → j < n → ck_B z j = ck_B s j := fun j _ _ => co_B_eq (fun b i _ _ => hz b i (by omega))
      refine ck_go_run 5 (X1 := (if w < z 5 10 then 98 else 115, [some (.inr (4, 3, 1)), some (.inl a), some (.inl w), u], [], z)) (ps := [ck_rg w, ck_rg (z 5 10)]) rfl ⟨(ck_rgo (by omega) (by omega)), (ck_rgo (by omega) (by omega)), trivial⟩ ?_
      refine ck_go_t (by omega) ?_
      refine ck_go_run 5 (X1 := (105, [some (.inr (4, 3, 1)), some (.inl a), some (.inl w), u], [.inl w, .inr (4, 3, 1), .inl w, .inr (17, 0, 64)], z)) (ps := []) rfl trivial ?_
      refine ck_go_cal (rest := [.inl w, .inr (17, 0, 64)]) (ck_cal_le (by decide) (cx_findNeedless (k := w) (by omega) (σ := z) (by rw [hz 6 w (by decide), hz 7 w (by decide), hz 8 w (by decide), hz 9 w (by decide)]; exact hps.2.1 w hw0.1 (by omega)) (by rw [eBz w hw0.1 (by omega)]; exact co_wb_fb ⟨hw0.1, by omega⟩ (hend.1 w hw0.1 (by omega)).1))) ⟨_, rfl, Or.inl ⟨_, rfl⟩, rfl, rfl, rfl, Nat.le_of_ble_eq_true rfl, fun _ => ⟨_, _, rfl⟩⟩ ?_
      rintro _ s' ⟨rfl, e'⟩
      rw [e']
      clear e' s'
      refine ck_go_run 3 (X1 := (87, [some (.inr (4, 3, 1)), some (.inl a), some (.inl (w + 1)), u], [], ck_up z 17 w (ck_ndl (z 6 w) (z 7 w) (z 8 w) (z 9 w) (ck_B z w)))) (ps := [0 ≤ w ∧ w < ((64 : Nat) : Int)]) rfl ⟨⟨by omega, by omega⟩, trivial⟩ ?_
      exact kk _ ⟨⟨by omega, by omega⟩, fun b j q => by
        simp only [ck_up]
        rw [if_neg (by omega)]
        exact hz b j q, fun j c d => by
        simp only [ck_up, true_and]
        split
        · rename_i e
          rw [e, eBz w hw0.1 (by omega), hz 6 w (by decide), hz 7 w (by decide), hz 8 w (by decide), hz 9 w (by decide), hI0.2.1 6 w (by decide) (by decide), hI0.2.1 7 w (by decide) (by decide), hI0.2.1 8 w (by decide) (by decide), hI0.2.1 9 w (by decide) (by decide)]
        · exact hc j c (by omega)⟩
    · obtain ⟨hw0, hz, hc⟩ := hI
      have e5z : z 5 10 = n := (hz 5 10 (by decide)).trans e5
      have eBz : ∀ j, 0 ≤ j → j < n → ck_B z j = ck_B s j := fun j _ _ => co_B_eq (fun b i _ _ => hz b i (by omega))
      refine ck_go_run 5 (X1 := (if w < z 5 10 then 98 else 115, [some (.inr (4, 3, 1)), some (.inl a), some (.inl w), u], [], z)) (ps := [ck_rg w, ck_rg (z 5 10)]) rfl ⟨(ck_rgo (by omega) (by omega)), (ck_rgo (by omega) (by omega)), trivial⟩ ?_
      refine ck_go_f (by omega) ?_
      refine ck_go_run 3 (X1 := (120, [some (.inr (4, 3, 1)), some (.inl a), some (.inl w), u], [], ck_up z 4 6 1)) (ps := [1 = 0 ∨ 1 = 1]) rfl ⟨Or.inr rfl, trivial⟩ ?_
      have ewn : w = n := by omega
      refine ck_eV ⟨rfl, fun b j q1 q2 q3 => ?_, ?_, ?_, fun j c d => ?_, fun j c d => ?_⟩ rfl rfl rfl
      · simp only [ck_up]
        rw [if_neg (by omega), hz b j (by omega)]
        exact hI0.2.1 b j (by omega) (by omega)
      · simp only [ck_up, and_self, if_true]
      · have eB : ∀ j, 0 ≤ j → j < n → ck_B (ck_up z 4 6 1) j = ck_B s j := fun j a b => (co_B_eq (fun b i _ _ => if_neg (by omega))).trans (eBz j a b)
        intro j c d
        rw [eB j c d]
        refine (hend.2 j c d).trans ?_
        rw [← co_pr_A σ, ← epr]
        exact (co_A_cong2 hps c d eB).symm
      · have eB : ck_B (ck_up z 4 6 1) j = ck_B s j := (co_B_eq (fun b i _ _ => if_neg (by omega))).trans (eBz j c d)
        rw [eB]
        exact hend.1 j c d
      · have eB : ck_B (ck_up z 4 6 1) j = ck_B s j := (co_B_eq (fun b i _ _ => if_neg (by omega))).trans (eBz j c d)
        rw [eB]
        simp only [ck_up]
        rw [if_neg (by omega)]
        exact hc j c (by omega)
