/-! ## The class's run: its parts -/
theorem co_xor16 {x : Int} (h0 : 0 ≤ x) (h1 : x < 2147483648) : 0 ≤ ck_xor x 16 ∧ ck_xor x 16 < 2147483648 := by
  unfold ck_xor
  have e : (Int32.ofInt x).toInt = x := Int32.toInt_ofInt_of_le (by omega) (by omega)
  have m1 : (Int32.ofInt x).toBitVec.msb = false := by
    rw [BitVec.msb_eq_toInt, Int32.toInt_toBitVec, e]
    exact decide_eq_false (by omega)
  have m2 : (Int32.ofInt 16).toBitVec.msb = false := by decide
  have m3 : (Int32.ofInt x ^^^ Int32.ofInt 16).toBitVec.msb = false := by
    rw [Int32.toBitVec_xor, BitVec.msb_xor, m1, m2]
    rfl
  rw [BitVec.msb_eq_toInt, Int32.toInt_toBitVec] at m3
  have := of_decide_eq_false m3
  have h3 := Int32.toInt_lt (Int32.ofInt x ^^^ Int32.ofInt 16)
  omega
def co_ccn (nd b : Int) (s : ck_M) : ck_M := if 0 < ck_and nd b then ck_up s 1 13 (s 1 13 + 1) else ck_up s 1 12 (s 1 12 + 1)
theorem co_ccn_o {s : ck_M} (nd q : Int) {b j : Int} (h : b ≠ 1 ∨ (j ≠ 12 ∧ j ≠ 13)) : co_ccn nd q s b j = s b j := by
  unfold co_ccn
  split
  · exact if_neg (by omega)
  · exact if_neg (by omega)
theorem co_cl_cnt {s m : ck_M} (h : co_cl s m) (nd b : Int) : co_cl (co_ccn nd b s) (co_cnt nd b m) := by
  unfold co_ccn co_cnt
  split
  · have e : s 1 13 = m 480 24 := h.2.2.2.2.2.1.2.2.2.2.1
    rw [e]
    exact co_cl_sv h _
  · have e : s 1 12 = m 480 23 := h.2.2.2.2.2.1.2.2.2.1
    rw [e]
    exact co_cl_md h _
/-- what the class's run leaves as it is -/
def co_cf (s t : ck_M) : Prop := ∀ b j, b ≠ 2 → (b < 20 ∨ 24 < b) → (b ≠ 1 ∨ j < 9) → t b j = s b j
theorem co_cf_r (s : ck_M) : co_cf s s := fun _ _ _ _ _ => rfl
theorem co_cf_tr {a b c : ck_M} (h : co_cf a b) (h2 : co_cf b c) : co_cf a c := fun x j q r u => (h2 x j q r u).trans (h x j q r u)
theorem cx_floorMod {x : Int} (hx : 0 ≤ x ∧ x < 2147483648) (σ : ck_M) : ck_cal 1 cm_Jm_floorMod [.inl x, .inl 16] σ (fun q σ' => q = some (x % 16) ∧ σ' = σ) := by
  refine ck_cal_of ?_
  have er : ck_rem x 16 = x % 16 := co_rem hx (by decide)
  have ex := co_xor16 hx.1 hx.2
  refine ck_go_run 8 (X1 := (if ck_xor x 16 < 0 then 10 else 18, [some (.inl x), some (.inl 16), some (.inl (ck_rem x 16))], [], σ)) (ps := [ck_rg 16 ∧ 16 ≠ 0, ck_rg (ck_xor x 16)]) rfl ⟨⟨ck_rgo (by omega) (by omega), by omega⟩, (ck_rgo (by omega) (by omega)), trivial⟩ ?_
  refine ck_go_f (by omega) ?_
  refine ck_go_run 1 (X1 := (19, [some (.inl x), some (.inl 16), some (.inl (ck_rem x 16))], [.inl (ck_rem x 16)], σ)) (ps := []) rfl trivial ?_
  exact ck_eI ⟨by rw [er], rfl⟩ rfl rfl rfl
theorem cx_sumOrStop {a b : Int} (h : -2000000 ≤ a + b ∧ a + b ≤ 2000000) (σ : ck_M) : ck_cal 1 cm_Ma_sumOrStop [.inr (1, 3, 3), .inl a, .inl b] σ (fun q σ' => q = some (a + b) ∧ σ' = if co_nb (a + b) then σ else ck_up σ 1 9 5) := by
  refine ck_cal_of ?_
  refine ck_go_run 7 (X1 := (if a + b < (-1000000) then 16 else 10, [some (.inr (1, 3, 3)), some (.inl a), some (.inl b), some (.inl (a + b))], [], σ)) (ps := [ck_rg (a + b), ck_rg ((-1000000))]) rfl ⟨(ck_rgo (by omega) (by omega)), (ck_rgo (by omega) (by omega)), trivial⟩ ?_
  refine ck_go_ite (fun h1 => ?_) (fun h1 => ?_)
  · refine ck_go_run 4 (X1 := (22, [some (.inr (1, 3, 3)), some (.inl a), some (.inl b), some (.inl (a + b))], [.inl (a + b)], ck_up σ 1 9 5)) (ps := []) rfl trivial ?_
    exact ck_eI ⟨rfl, by rw [if_neg (by omega)]⟩ rfl rfl rfl
  · refine ck_go_run 3 (X1 := (if 1000000 < a + b then 16 else 21, [some (.inr (1, 3, 3)), some (.inl a), some (.inl b), some (.inl (a + b))], [], σ)) (ps := [ck_rg (a + b), ck_rg 1000000]) rfl ⟨(ck_rgo (by omega) (by omega)), (ck_rgo (by omega) (by omega)), trivial⟩ ?_
    refine ck_go_ite (fun h2 => ?_) (fun h2 => ?_)
    · refine ck_go_run 4 (X1 := (22, [some (.inr (1, 3, 3)), some (.inl a), some (.inl b), some (.inl (a + b))], [.inl (a + b)], ck_up σ 1 9 5)) (ps := []) rfl trivial ?_
      exact ck_eI ⟨rfl, by rw [if_neg (by omega)]⟩ rfl rfl rfl
    · refine ck_go_run 1 (X1 := (22, [some (.inr (1, 3, 3)), some (.inl a), some (.inl b), some (.inl (a + b))], [.inl (a + b)], σ)) (ps := []) rfl trivial ?_
      exact ck_eI ⟨rfl, by rw [if_pos (by omega)]⟩ rfl rfl rfl
theorem cx_isBelow {x y z v : Int} {σ : ck_M} (hx : 0 ≤ x ∧ x < 10) (hy : 0 ≤ y ∧ y ≤ 10) (hz : -100 ≤ z ∧ z ≤ 100) (hN : ∀ j, 0 ≤ j → j < 10 → co_nb (σ 20 j)) (hv : (if y = 10 then 0 else σ 20 y) + z = v) : ck_cal 2 cm_Ma_isBelow [.inr (1, 3, 3), .inl x, .inl y, .inl z] σ (fun q σ' => ∃ w, q = some w ∧ ((w = 1 ∧ σ 20 x < v) ∨ (w = 0 ∧ ¬ σ 20 x < v)) ∧ σ' = if co_nb v then σ else ck_up σ 1 9 5) := by
  refine ck_cal_of ?_
  have hxn := hN x hx.1 hx.2
  refine ck_go_run 4 (X1 := (if y = 10 then 7 else 11, [some (.inr (1, 3, 3)), some (.inl x), some (.inl y), some (.inl z), none], [.inr (1, 3, 3)], σ)) (ps := [ck_rg y, ck_rg 10]) rfl ⟨(ck_rgo (by omega) (by omega)), (ck_rgo (by omega) (by omega)), trivial⟩ ?_
  refine ck_go_ite (fun h1 => ?_) (fun h1 => ?_)
  · refine ck_go_run 3 (X1 := (18, [some (.inr (1, 3, 3)), some (.inl x), some (.inl y), some (.inl z), none], [.inl z, .inl 0, .inr (1, 3, 3)], σ)) (ps := []) rfl trivial ?_
    refine ck_go_cal (rest := []) (ck_cal_le (by decide) (cx_sumOrStop (a := 0) (b := z) (by omega) _)) ⟨_, rfl, Or.inl ⟨_, rfl⟩, rfl, rfl, rfl, Nat.le_of_ble_eq_true rfl, fun _ => ⟨_, _, rfl⟩⟩ ?_
    rintro _ s1 ⟨rfl, e1⟩
    have f1 : s1 20 x = σ 20 x := by
      rw [e1]
      split
      · rfl
      · exact if_neg (by omega)
    refine ck_go_run 7 (X1 := (if s1 20 x < 0 + z then 34 else 38, [some (.inr (1, 3, 3)), some (.inl x), some (.inl y), some (.inl z), some (.inl (0 + z))], [], s1)) (ps := [0 ≤ x ∧ x < ((10 : Nat) : Int), ck_rg (s1 20 x), ck_rg (0 + z)]) rfl ⟨⟨by omega, by omega⟩, (ck_rgo (by omega) (by omega)), (ck_rgo (by omega) (by omega)), trivial⟩ ?_
    refine ck_go_ite (fun h2 => ?_) (fun h2 => ?_)
    · refine ck_go_run 2 (X1 := (39, [some (.inr (1, 3, 3)), some (.inl x), some (.inl y), some (.inl z), some (.inl (0 + z))], [.inl 1], s1)) (ps := []) rfl trivial ?_
      refine ck_eZ (by decide) ⟨1, rfl, ?_, ?_⟩ rfl rfl rfl
      · have hv := hv
        first | rw [if_pos (by assumption)] at hv | rw [if_neg (by assumption)] at hv
        omega
      · have hv := hv
        first | rw [if_pos (by assumption)] at hv | rw [if_neg (by assumption)] at hv
        rw [← hv]
        exact e1
    · refine ck_go_run 1 (X1 := (39, [some (.inr (1, 3, 3)), some (.inl x), some (.inl y), some (.inl z), some (.inl (0 + z))], [.inl 0], s1)) (ps := []) rfl trivial ?_
      refine ck_eZ (by decide) ⟨0, rfl, ?_, ?_⟩ rfl rfl rfl
      · have hv := hv
        first | rw [if_pos (by assumption)] at hv | rw [if_neg (by assumption)] at hv
        omega
      · have hv := hv
        first | rw [if_pos (by assumption)] at hv | rw [if_neg (by assumption)] at hv
        rw [← hv]
        exact e1
  · have hyn := hN y hy.1 (by omega)
    refine ck_go_run 5 (X1 := (18, [some (.inr (1, 3, 3)), some (.inl x), some (.inl y), some (.inl z), none], [.inl z, .inl (σ 20 y), .inr (1, 3, 3)], σ)) (ps := [0 ≤ y ∧ y < ((10 : Nat) : Int)]) rfl ⟨⟨by omega, by omega⟩, trivial⟩ ?_
    refine ck_go_cal (rest := []) (ck_cal_le (by decide) (cx_sumOrStop (a := σ 20 y) (b := z) (by omega) _)) ⟨_, rfl, Or.inl ⟨_, rfl⟩, rfl, rfl, rfl, Nat.le_of_ble_eq_true rfl, fun _ => ⟨_, _, rfl⟩⟩ ?_
    rintro _ s2 ⟨rfl, e2⟩
    have f2 : s2 20 x = σ 20 x := by
      rw [e2]
      split
      · rfl
      · exact if_neg (by omega)
    refine ck_go_run 7 (X1 := (if s2 20 x < (σ 20 y) + z then 34 else 38, [some (.inr (1, 3, 3)), some (.inl x), some (.inl y), some (.inl z), some (.inl ((σ 20 y) + z))], [], s2)) (ps := [0 ≤ x ∧ x < ((10 : Nat) : Int), ck_rg (s2 20 x), ck_rg ((σ 20 y) + z)]) rfl ⟨⟨by omega, by omega⟩, (ck_rgo (by omega) (by omega)), (ck_rgo (by omega) (by omega)), trivial⟩ ?_
    refine ck_go_ite (fun h3 => ?_) (fun h3 => ?_)
    · refine ck_go_run 2 (X1 := (39, [some (.inr (1, 3, 3)), some (.inl x), some (.inl y), some (.inl z), some (.inl ((σ 20 y) + z))], [.inl 1], s2)) (ps := []) rfl trivial ?_
      refine ck_eZ (by decide) ⟨1, rfl, ?_, ?_⟩ rfl rfl rfl
      · have hv := hv
        first | rw [if_pos (by assumption)] at hv | rw [if_neg (by assumption)] at hv
        omega
      · have hv := hv
        first | rw [if_pos (by assumption)] at hv | rw [if_neg (by assumption)] at hv
        rw [← hv]
        exact e2
    · refine ck_go_run 1 (X1 := (39, [some (.inr (1, 3, 3)), some (.inl x), some (.inl y), some (.inl z), some (.inl ((σ 20 y) + z))], [.inl 0], s2)) (ps := []) rfl trivial ?_
      refine ck_eZ (by decide) ⟨0, rfl, ?_, ?_⟩ rfl rfl rfl
      · have hv := hv
        first | rw [if_pos (by assumption)] at hv | rw [if_neg (by assumption)] at hv
        omega
      · have hv := hv
        first | rw [if_pos (by assumption)] at hv | rw [if_neg (by assumption)] at hv
        rw [← hv]
        exact e2
theorem cx_behind {k v : Int} {σ : ck_M} (hk : 0 ≤ k ∧ k < 64) (hr : ck_rg (σ 11 k)) (hv : (if σ 11 k = -1 then σ 12 k else σ 11 k) + 1 = v) : ck_cal 1 cm_Ma_behindFailedIf [.inr (1, 3, 3), .inl k] σ (fun q σ' => q = some v ∧ σ' = σ) := by
  refine ck_cal_of ?_
  unfold ck_rg at hr
  refine ck_go_run 9 (X1 := (if σ 11 k = (-1) then 15 else 27, [some (.inr (1, 3, 3)), some (.inl k), some (.inl (σ 11 k))], [], σ)) (ps := [0 ≤ k ∧ k < ((64 : Nat) : Int), ck_rg (σ 11 k), ck_rg ((-1))]) rfl ⟨⟨by omega, by omega⟩, (ck_rgo (by omega) (by omega)), (ck_rgo (by omega) (by omega)), trivial⟩ ?_
  refine ck_go_ite (fun h1 => ?_) (fun h1 => ?_)
  · refine ck_go_run 8 (X1 := (30, [some (.inr (1, 3, 3)), some (.inl k), some (.inl (σ 11 k))], [.inl ((σ 12 k) + 1)], σ)) (ps := [0 ≤ k ∧ k < ((64 : Nat) : Int)]) rfl ⟨⟨by omega, by omega⟩, trivial⟩ ?_
    refine ck_eI ⟨?_, rfl⟩ rfl rfl rfl
    first | rw [if_pos (by assumption)] at hv | rw [if_neg (by assumption)] at hv
    rw [hv]
  · refine ck_go_run 3 (X1 := (30, [some (.inr (1, 3, 3)), some (.inl k), some (.inl (σ 11 k))], [.inl ((σ 11 k) + 1)], σ)) (ps := []) rfl trivial ?_
    refine ck_eI ⟨?_, rfl⟩ rfl rfl rfl
    first | rw [if_pos (by assumption)] at hv | rw [if_neg (by assumption)] at hv
    rw [hv]
theorem cx_lengthOf {r L : Int} {σ : ck_M} (hr : 0 ≤ r ∧ r < 4) (hR : σ 21 r = -1 ∨ (0 ≤ σ 21 r ∧ σ 21 r < 40)) (hL : (if σ 21 r = -1 then -1 else σ 22 (σ 21 r)) = L) : ck_cal 1 cm_Ma_lengthOf [.inr (1, 3, 3), .inl r] σ (fun q σ' => q = some L ∧ σ' = σ) := by
  refine ck_cal_of ?_
  refine ck_go_run 8 (X1 := (if σ 21 r = (-1) then 12 else 16, [some (.inr (1, 3, 3)), some (.inl r), some (.inl (σ 21 r))], [], σ)) (ps := [0 ≤ r ∧ r < ((4 : Nat) : Int), ck_rg (σ 21 r), ck_rg ((-1))]) rfl ⟨⟨by omega, by omega⟩, (ck_rgo (by omega) (by omega)), (ck_rgo (by omega) (by omega)), trivial⟩ ?_
  refine ck_go_ite (fun h1 => ?_) (fun h1 => ?_)
  · refine ck_go_run 2 (X1 := (22, [some (.inr (1, 3, 3)), some (.inl r), some (.inl (σ 21 r))], [.inl ((-1))], σ)) (ps := []) rfl trivial ?_
    refine ck_eI ⟨?_, rfl⟩ rfl rfl rfl
    first | rw [if_pos (by assumption)] at hL | rw [if_neg (by assumption)] at hL
    rw [hL]
  · refine ck_go_run 4 (X1 := (22, [some (.inr (1, 3, 3)), some (.inl r), some (.inl (σ 21 r))], [.inl (σ 22 (σ 21 r))], σ)) (ps := [0 ≤ σ 21 r ∧ σ 21 r < ((40 : Nat) : Int)]) rfl ⟨⟨by omega, by omega⟩, trivial⟩ ?_
    refine ck_eI ⟨?_, rfl⟩ rfl rfl rfl
    first | rw [if_pos (by assumption)] at hL | rw [if_neg (by assumption)] at hL
    rw [hL]
theorem cx_hasPlace {r i L : Int} {σ : ck_M} (hr : 0 ≤ r ∧ r < 4) (hR : σ 21 r = -1 ∨ (0 ≤ σ 21 r ∧ σ 21 r < 40)) (hL : (if σ 21 r = -1 then -1 else σ 22 (σ 21 r)) = L) (hL2 : -1 ≤ L ∧ L ≤ 40) (hi : ck_rg i) : ck_cal 2 cm_Ma_hasPlace [.inr (1, 3, 3), .inl r, .inl i] σ (fun q σ' => (∃ w, q = some w ∧ ((w = 1 ∧ 0 ≤ i ∧ i < L) ∨ (w = 0 ∧ ¬ (0 ≤ i ∧ i < L)))) ∧ σ' = σ) := by
  refine ck_cal_of ?_
  unfold ck_rg at hi
  refine ck_go_run 2 (X1 := (if i < 0 then 17 else 4, [some (.inr (1, 3, 3)), some (.inl r), some (.inl i)], [], σ)) (ps := [ck_rg i]) rfl ⟨(ck_rgo (by omega) (by omega)), trivial⟩ ?_
  refine ck_go_ite (fun h1 => ?_) (fun h1 => ?_)
  · refine ck_go_run 1 (X1 := (18, [some (.inr (1, 3, 3)), some (.inl r), some (.inl i)], [.inl 0], σ)) (ps := []) rfl trivial ?_
    exact ck_eZ (by decide) ⟨⟨0, rfl, by omega⟩, rfl⟩ rfl rfl rfl
  · refine ck_go_run 3 (X1 := (7, [some (.inr (1, 3, 3)), some (.inl r), some (.inl i)], [.inl r, .inr (1, 3, 3), .inl i], σ)) (ps := []) rfl trivial ?_
    refine ck_go_cal (rest := [.inl i]) (ck_cal_le (by decide) (cx_lengthOf (σ := σ) (r := r) (L := L) hr hR hL)) ⟨_, rfl, Or.inl ⟨_, rfl⟩, rfl, rfl, rfl, Nat.le_of_ble_eq_true rfl, fun _ => ⟨_, _, rfl⟩⟩ ?_
    rintro _ s' ⟨rfl, e'⟩
    rw [e']
    clear e' s'
    refine ck_go_run 1 (X1 := (if i < L then 13 else 17, [some (.inr (1, 3, 3)), some (.inl r), some (.inl i)], [], σ)) (ps := [ck_rg i, ck_rg L]) rfl ⟨(ck_rgo (by omega) (by omega)), (ck_rgo (by omega) (by omega)), trivial⟩ ?_
    refine ck_go_ite (fun h2 => ?_) (fun h2 => ?_)
    · refine ck_go_run 2 (X1 := (18, [some (.inr (1, 3, 3)), some (.inl r), some (.inl i)], [.inl 1], σ)) (ps := []) rfl trivial ?_
      exact ck_eZ (by decide) ⟨⟨1, rfl, by omega⟩, rfl⟩ rfl rfl rfl
    · refine ck_go_run 1 (X1 := (18, [some (.inr (1, 3, 3)), some (.inl r), some (.inl i)], [.inl 0], σ)) (ps := []) rfl trivial ?_
      exact ck_eZ (by decide) ⟨⟨0, rfl, by omega⟩, rfl⟩ rfl rfl rfl
theorem cx_placeOf {r i L : Int} {σ : ck_M} (hr : 0 ≤ r ∧ r < 4) (hR : σ 21 r = -1 ∨ (0 ≤ σ 21 r ∧ σ 21 r < 40)) (hL : (if σ 21 r = -1 then -1 else σ 22 (σ 21 r)) = L) (hL2 : -1 ≤ L ∧ L ≤ 40) (hi : ck_rg i) : ck_cal 3 cm_Ma_placeOf [.inr (1, 3, 3), .inl r, .inl i] σ (fun q σ' => q = some (if 0 ≤ i ∧ i < L then σ 23 (40 * σ 21 r + i) else 1000000000) ∧ σ' = σ) := by
  refine ck_cal_of ?_
  have hLr : σ 21 r = -1 → L = -1 := fun z => by rw [if_pos z] at hL; exact hL.symm
  have hi2 := hi
  unfold ck_rg at hi2
  refine ck_go_run 3 (X1 := (3, [some (.inr (1, 3, 3)), some (.inl r), some (.inl i)], [.inl i, .inl r, .inr (1, 3, 3)], σ)) (ps := []) rfl trivial ?_
  refine ck_go_cal (rest := []) (ck_cal_le (by decide) (cx_hasPlace (σ := σ) (r := r) (i := i) hr hR hL hL2 hi)) ⟨_, rfl, Or.inl ⟨_, rfl⟩, rfl, rfl, rfl, Nat.le_of_ble_eq_true rfl, fun _ => ⟨_, _, rfl⟩⟩ ?_
  rintro _ s' ⟨⟨w, rfl, hw⟩, e'⟩
  rw [e']
  clear e' s'
  refine ck_go_run 1 (X1 := (if w = 0 then 28 else 9, [some (.inr (1, 3, 3)), some (.inl r), some (.inl i)], [], σ)) (ps := [ck_rg w]) rfl ⟨(ck_rgo (by omega) (by omega)), trivial⟩ ?_
  refine ck_go_ite (fun h1 => ?_) (fun h1 => ?_)
  · refine ck_go_run 1 (X1 := (30, [some (.inr (1, 3, 3)), some (.inl r), some (.inl i)], [.inl 1000000000], σ)) (ps := []) rfl trivial ?_
    refine ck_eI ⟨?_, rfl⟩ rfl rfl rfl
    first | rw [if_neg (by omega)] | rw [if_pos (by omega), Int.mul_comm]
  · refine ck_go_run 12 (X1 := (30, [some (.inr (1, 3, 3)), some (.inl r), some (.inl i)], [.inl (σ 23 (((σ 21 r) * 40) + i))], σ)) (ps := [0 ≤ r ∧ r < ((4 : Nat) : Int), 0 ≤ ((σ 21 r) * 40) + i ∧ ((σ 21 r) * 40) + i < ((1600 : Nat) : Int)]) rfl ⟨⟨by omega, by omega⟩, ⟨by omega, by omega⟩, trivial⟩ ?_
    refine ck_eI ⟨?_, rfl⟩ rfl rfl rfl
    first | rw [if_neg (by omega)] | rw [if_pos (by omega), Int.mul_comm]
theorem cx_store {r i L v : Int} {σ : ck_M} (hr : 0 ≤ r ∧ r < 4) (hR : σ 21 r = -1 ∨ (0 ≤ σ 21 r ∧ σ 21 r < 40)) (hL : (if σ 21 r = -1 then -1 else σ 22 (σ 21 r)) = L) (hL2 : -1 ≤ L ∧ L ≤ 40) (hi : ck_rg i) : ck_cal 3 cm_Ma_store [.inr (1, 3, 3), .inl r, .inl i, .inl v] σ (fun q σ' => q = none ∧ σ' = if 0 ≤ i ∧ i < L then ck_up σ 23 (40 * σ 21 r + i) v else σ) := by
  refine ck_cal_of ?_
  have hLr : σ 21 r = -1 → L = -1 := fun z => by rw [if_pos z] at hL; exact hL.symm
  have hi2 := hi
  unfold ck_rg at hi2
  refine ck_go_run 3 (X1 := (3, [some (.inr (1, 3, 3)), some (.inl r), some (.inl i), some (.inl v)], [.inl i, .inl r, .inr (1, 3, 3)], σ)) (ps := []) rfl trivial ?_
  refine ck_go_cal (rest := []) (ck_cal_le (by decide) (cx_hasPlace (σ := σ) (r := r) (i := i) hr hR hL hL2 hi)) ⟨_, rfl, Or.inl ⟨_, rfl⟩, rfl, rfl, rfl, Nat.le_of_ble_eq_true rfl, fun _ => ⟨_, _, rfl⟩⟩ ?_
  rintro _ s' ⟨⟨w, rfl, hw⟩, e'⟩
  rw [e']
  clear e' s'
  refine ck_go_run 1 (X1 := (if w = 0 then 26 else 9, [some (.inr (1, 3, 3)), some (.inl r), some (.inl i), some (.inl v)], [], σ)) (ps := [ck_rg w]) rfl ⟨(ck_rgo (by omega) (by omega)), trivial⟩ ?_
  refine ck_go_ite (fun h1 => ?_) (fun h1 => ?_)
  · refine ck_eV ⟨rfl, ?_⟩ rfl rfl rfl
    rw [if_neg (by omega)]
  · refine ck_go_run 12 (X1 := (26, [some (.inr (1, 3, 3)), some (.inl r), some (.inl i), some (.inl v)], [], ck_up σ 23 (((σ 21 r) * 40) + i) v)) (ps := [0 ≤ r ∧ r < ((4 : Nat) : Int), 0 ≤ ((σ 21 r) * 40) + i ∧ ((σ 21 r) * 40) + i < ((1600 : Nat) : Int)]) rfl ⟨⟨by omega, by omega⟩, ⟨by omega, by omega⟩, trivial⟩ ?_
    refine ck_eV ⟨rfl, ?_⟩ rfl rfl rfl
    rw [if_pos (by omega), Int.mul_comm 40]
theorem cx_passes {k b h w nd : Int} {σ : ck_M} (hk : 0 ≤ k ∧ k < 64) (hb : b = 1 ∨ b = 2 ∨ b = 4) (h01 : h = 0 ∨ h = 1) (hn : σ 17 k = nd) (hn7 : 0 ≤ nd ∧ nd ≤ 7) (hl : 0 < ck_and nd b → h = 1) : ck_cal 1 cm_Ma_passes [.inr (1, 3, 3), .inl k, .inl b, .inl h, .inl w] σ (fun q σ' => q = some h ∧ σ' = if h = 0 then ck_up (co_ccn nd b σ) 1 9 w else co_ccn nd b σ) := by
  refine ck_cal_of ?_
  subst hn
  have ha := co_andr hn7 hb
  refine ck_go_run 8 (X1 := (if ck_and (σ 17 k) b = 0 then 26 else 14, [some (.inr (1, 3, 3)), some (.inl k), some (.inl b), some (.inl h), some (.inl w)], [], σ)) (ps := [0 ≤ k ∧ k < ((64 : Nat) : Int), ck_rg (ck_and (σ 17 k) b)]) rfl ⟨⟨by omega, by omega⟩, (ck_rgo (by omega) (by omega)), trivial⟩ ?_
  refine ck_go_ite (fun h1 => ?_) (fun h1 => ?_)
  · refine ck_go_run 8 (X1 := (if h = 0 then 40 else 46, [some (.inr (1, 3, 3)), some (.inl k), some (.inl b), some (.inl h), some (.inl w)], [], ck_up σ 1 12 ((σ 1 12) + 1))) (ps := [ck_rg h]) rfl ⟨(ck_rgo (by omega) (by omega)), trivial⟩ ?_
    refine ck_go_ite (fun h2 => ?_) (fun h2 => ?_)
    · refine ck_go_run 4 (X1 := (47, [some (.inr (1, 3, 3)), some (.inl k), some (.inl b), some (.inl h), some (.inl w)], [.inl h], ck_up (ck_up σ 1 12 ((σ 1 12) + 1)) 1 9 w)) (ps := []) rfl trivial ?_
      refine ck_eZ (by omega) ⟨rfl, ?_⟩ rfl rfl rfl
      rw [if_pos (by omega)]
      unfold co_ccn
      rw [if_neg (by omega)]
    · refine ck_go_run 1 (X1 := (47, [some (.inr (1, 3, 3)), some (.inl k), some (.inl b), some (.inl h), some (.inl w)], [.inl h], ck_up σ 1 12 ((σ 1 12) + 1))) (ps := []) rfl trivial ?_
      refine ck_eZ (by omega) ⟨rfl, ?_⟩ rfl rfl rfl
      rw [if_neg (by omega)]
      unfold co_ccn
      rw [if_neg (by omega)]
  · refine ck_go_run 7 (X1 := (25, [some (.inr (1, 3, 3)), some (.inl k), some (.inl b), some (.inl h), some (.inl w)], [.inl 1], ck_up σ 1 13 ((σ 1 13) + 1))) (ps := []) rfl trivial ?_
    refine ck_eZ (by omega) ⟨by rw [hl (by omega)], ?_⟩ rfl rfl rfl
    rw [if_neg (by have := hl (by omega); omega)]
    unfold co_ccn
    rw [if_pos (by omega)]
theorem cx_passesAll {k r i L nd c : Int} {σ m : ck_M} (hk : 0 ≤ k ∧ k < 64) (hcl : co_cl σ m) (hmd : co_md c m) (hr : 0 ≤ r ∧ r < 4) (hi : co_nb i) (hn : σ 17 k = nd) (hn7 : 0 ≤ nd ∧ nd ≤ 7) (hlo : co_lc nd r i m) (hL : (if σ 21 r = -1 then -1 else σ 22 (σ 21 r)) = L) : ck_cal 2 cm_Ma_passesAll [.inr (1, 3, 3), .inl k, .inl r, .inl i] σ (fun q σ' => ∃ v, q = some v ∧ v = (co_chs nd r i m).1 ∧ (v = 0 ∨ v = 1) ∧ co_cl σ' (co_chs nd r i m).2 ∧ co_cf σ σ') := by
  refine ck_cal_of ?_
  have hRm := hmd.2.2.1 r hr.1 hr.2
  have h26 := hmd.2.1
  have eR : σ 21 r = m 497 r := hcl.2.1 r hr.1 hr.2
  have hR : σ 21 r = -1 ∨ (0 ≤ σ 21 r ∧ σ 21 r < 40) := by omega
  have hLm : (m 497 r = -1 ∧ L = -1) ∨ (m 497 r ≠ -1 ∧ L = m 498 (m 497 r) ∧ 0 ≤ L ∧ L ≤ 40) := by
    by_cases z : σ 21 r = -1
    · rw [if_pos z] at hL
      exact Or.inl ⟨by omega, hL.symm⟩
    · rw [if_neg z, eR, hcl.2.2.1 _ (by omega) (by omega)] at hL
      have := hmd.2.2.2.1 (m 497 r) (by omega) (by omega)
      exact Or.inr ⟨by omega, hL.symm, by omega, by omega⟩
  refine ck_go_run 2 (X1 := (2, [some (.inr (1, 3, 3)), some (.inl k), some (.inl r), some (.inl i), none], [.inl r, .inr (1, 3, 3)], σ)) (ps := []) rfl trivial ?_
  refine ck_go_cal (rest := []) (ck_cal_le (by decide) (cx_lengthOf (σ := σ) (r := r) (L := L) hr hR hL)) ⟨_, rfl, Or.inl ⟨_, rfl⟩, rfl, rfl, rfl, Nat.le_of_ble_eq_true rfl, fun _ => ⟨_, _, rfl⟩⟩ ?_
  rintro _ s' ⟨rfl, e'⟩
  rw [e']
  clear e' s'
  refine ck_go_run 7 (X1 := (if L = (-1) then 20 else 16, [some (.inr (1, 3, 3)), some (.inl k), some (.inl r), some (.inl i), some (.inl L)], [.inl 1, .inl k, .inr (1, 3, 3)], σ)) (ps := [ck_rg L, ck_rg ((-1))]) rfl ⟨(ck_rgo (by omega) (by omega)), (ck_rgo (by omega) (by omega)), trivial⟩ ?_
  refine ck_go_ite (fun h1 => ?_) (fun h1 => ?_)
  · refine ck_go_run 2 (X1 := (22, [some (.inr (1, 3, 3)), some (.inl k), some (.inl r), some (.inl i), some (.inl L)], [.inl 2, .inl 0, .inl 1, .inl k, .inr (1, 3, 3)], σ)) (ps := []) rfl trivial ?_
    refine ck_go_cal (rest := []) (ck_cal_le (by decide) (cx_passes (σ := σ) hk (by decide) (by decide) hn hn7 (fun z => absurd (hlo.1 z) (by omega)))) ⟨_, rfl, Or.inl ⟨_, rfl⟩, rfl, rfl, rfl, Nat.le_of_ble_eq_true rfl, fun _ => ⟨_, _, rfl⟩⟩ ?_
    rintro _ s1 ⟨rfl, e1⟩
    rw [if_pos rfl] at e1
    have c1 : co_cl s1 (co_stp (co_cnt nd 1 m) 1) := by
      rw [e1]
      exact co_cl_how (co_cl_cnt hcl nd 1) _
    have f1 : co_cf σ s1 := by
      intro b j z1 z2 z3
      rw [e1]
      exact (if_neg (by omega)).trans ((co_ccn_o _ _ (by omega)).trans rfl)
    have g1 : s1 17 k = nd := by
      rw [f1 17 k (by decide) (by decide) (Or.inl (by decide))]
      exact hn
    refine ck_go_run 1 (X1 := (if 0 = 0 then 72 else 28, [some (.inr (1, 3, 3)), some (.inl k), some (.inl r), some (.inl i), some (.inl L)], [], s1)) (ps := [ck_rg 0]) rfl ⟨(ck_rgo (by omega) (by omega)), trivial⟩ ?_
    refine ck_go_t (by decide) ?_
    refine ck_go_run 1 (X1 := (73, [some (.inr (1, 3, 3)), some (.inl k), some (.inl r), some (.inl i), some (.inl L)], [.inl 0], s1)) (ps := []) rfl trivial ?_
    refine ck_eZ (by decide) ⟨0, rfl, ?_, by decide, ?_, f1⟩ rfl rfl rfl
    · unfold co_chs
      rw [if_pos (by omega)]
    · unfold co_chs
      rw [if_pos (by omega)]
      exact c1
  · refine ck_go_run 3 (X1 := (22, [some (.inr (1, 3, 3)), some (.inl k), some (.inl r), some (.inl i), some (.inl L)], [.inl 2, .inl 1, .inl 1, .inl k, .inr (1, 3, 3)], σ)) (ps := []) rfl trivial ?_
    refine ck_go_cal (rest := []) (ck_cal_le (by decide) (cx_passes (σ := σ) hk (by decide) (by decide) hn hn7 (fun _ => rfl))) ⟨_, rfl, Or.inl ⟨_, rfl⟩, rfl, rfl, rfl, Nat.le_of_ble_eq_true rfl, fun _ => ⟨_, _, rfl⟩⟩ ?_
    rintro _ s2 ⟨rfl, e2⟩
    rw [if_neg (by decide)] at e2
    have c2 : co_cl s2 (co_cnt nd 1 m) := by
      rw [e2]
      exact co_cl_cnt hcl nd 1
    have f2 : co_cf σ s2 := by
      intro b j z1 z2 z3
      rw [e2]
      exact (co_ccn_o _ _ (by omega)).trans rfl
    have g2 : s2 17 k = nd := by
      rw [f2 17 k (by decide) (by decide) (Or.inl (by decide))]
      exact hn
    refine ck_go_run 1 (X1 := (if 1 = 0 then 72 else 28, [some (.inr (1, 3, 3)), some (.inl k), some (.inl r), some (.inl i), some (.inl L)], [], s2)) (ps := [ck_rg 1]) rfl ⟨(ck_rgo (by omega) (by omega)), trivial⟩ ?_
    refine ck_go_f (by decide) ?_
    refine ck_go_run 5 (X1 := (if i < 0 then 39 else 35, [some (.inr (1, 3, 3)), some (.inl k), some (.inl r), some (.inl i), some (.inl L)], [.inl 2, .inl k, .inr (1, 3, 3)], s2)) (ps := [ck_rg i]) rfl ⟨(ck_rgo (by omega) (by omega)), trivial⟩ ?_
    refine ck_go_ite (fun h2 => ?_) (fun h2 => ?_)
    · refine ck_go_run 2 (X1 := (41, [some (.inr (1, 3, 3)), some (.inl k), some (.inl r), some (.inl i), some (.inl L)], [.inl 3, .inl 0, .inl 2, .inl k, .inr (1, 3, 3)], s2)) (ps := []) rfl trivial ?_
      refine ck_go_cal (rest := []) (ck_cal_le (by decide) (cx_passes (σ := s2) hk (by decide) (by decide) g2 hn7 (fun z => absurd (hlo.2.1 z) (by omega)))) ⟨_, rfl, Or.inl ⟨_, rfl⟩, rfl, rfl, rfl, Nat.le_of_ble_eq_true rfl, fun _ => ⟨_, _, rfl⟩⟩ ?_
      rintro _ s3 ⟨rfl, e3⟩
      rw [if_pos rfl] at e3
      have c3 : co_cl s3 (co_stp (co_cnt nd 2 (co_cnt nd 1 m)) 2) := by
        rw [e3]
        exact co_cl_how (co_cl_cnt c2 nd 2) _
      have f3 : co_cf σ s3 := by
        intro b j z1 z2 z3
        rw [e3]
        exact (if_neg (by omega)).trans ((co_ccn_o _ _ (by omega)).trans (f2 b j z1 z2 z3))
      have g3 : s3 17 k = nd := by
        rw [f3 17 k (by decide) (by decide) (Or.inl (by decide))]
        exact hn
      refine ck_go_run 1 (X1 := (if 0 = 0 then 72 else 47, [some (.inr (1, 3, 3)), some (.inl k), some (.inl r), some (.inl i), some (.inl L)], [], s3)) (ps := [ck_rg 0]) rfl ⟨(ck_rgo (by omega) (by omega)), trivial⟩ ?_
      refine ck_go_t (by decide) ?_
      refine ck_go_run 1 (X1 := (73, [some (.inr (1, 3, 3)), some (.inl k), some (.inl r), some (.inl i), some (.inl L)], [.inl 0], s3)) (ps := []) rfl trivial ?_
      refine ck_eZ (by decide) ⟨0, rfl, ?_, by decide, ?_, f3⟩ rfl rfl rfl
      · unfold co_chs
        rw [if_neg (by omega), if_pos (by omega)]
      · unfold co_chs
        rw [if_neg (by omega), if_pos (by omega)]
        exact c3
    · refine ck_go_run 3 (X1 := (41, [some (.inr (1, 3, 3)), some (.inl k), some (.inl r), some (.inl i), some (.inl L)], [.inl 3, .inl 1, .inl 2, .inl k, .inr (1, 3, 3)], s2)) (ps := []) rfl trivial ?_
      refine ck_go_cal (rest := []) (ck_cal_le (by decide) (cx_passes (σ := s2) hk (by decide) (by decide) g2 hn7 (fun _ => rfl))) ⟨_, rfl, Or.inl ⟨_, rfl⟩, rfl, rfl, rfl, Nat.le_of_ble_eq_true rfl, fun _ => ⟨_, _, rfl⟩⟩ ?_
      rintro _ s4 ⟨rfl, e4⟩
      rw [if_neg (by decide)] at e4
      have c4 : co_cl s4 (co_cnt nd 2 (co_cnt nd 1 m)) := by
        rw [e4]
        exact co_cl_cnt c2 nd 2
      have f4 : co_cf σ s4 := by
        intro b j z1 z2 z3
        rw [e4]
        exact (co_ccn_o _ _ (by omega)).trans (f2 b j z1 z2 z3)
      have g4 : s4 17 k = nd := by
        rw [f4 17 k (by decide) (by decide) (Or.inl (by decide))]
        exact hn
      refine ck_go_run 1 (X1 := (if 1 = 0 then 72 else 47, [some (.inr (1, 3, 3)), some (.inl k), some (.inl r), some (.inl i), some (.inl L)], [], s4)) (ps := [ck_rg 1]) rfl ⟨(ck_rgo (by omega) (by omega)), trivial⟩ ?_
      refine ck_go_f (by decide) ?_
      refine ck_go_run 6 (X1 := (if i < L then 56 else 60, [some (.inr (1, 3, 3)), some (.inl k), some (.inl r), some (.inl i), some (.inl L)], [.inl 4, .inl k, .inr (1, 3, 3)], s4)) (ps := [ck_rg i, ck_rg L]) rfl ⟨(ck_rgo (by omega) (by omega)), (ck_rgo (by omega) (by omega)), trivial⟩ ?_
      refine ck_go_ite (fun h3 => ?_) (fun h3 => ?_)
      · refine ck_go_run 3 (X1 := (62, [some (.inr (1, 3, 3)), some (.inl k), some (.inl r), some (.inl i), some (.inl L)], [.inl 4, .inl 1, .inl 4, .inl k, .inr (1, 3, 3)], s4)) (ps := []) rfl trivial ?_
        refine ck_go_cal (rest := []) (ck_cal_le (by decide) (cx_passes (σ := s4) hk (by decide) (by decide) g4 hn7 (fun _ => rfl))) ⟨_, rfl, Or.inl ⟨_, rfl⟩, rfl, rfl, rfl, Nat.le_of_ble_eq_true rfl, fun _ => ⟨_, _, rfl⟩⟩ ?_
        rintro _ s5 ⟨rfl, e5⟩
        rw [if_neg (by decide)] at e5
        have c5 : co_cl s5 (co_cnt nd 4 (co_cnt nd 2 (co_cnt nd 1 m))) := by
          rw [e5]
          exact co_cl_cnt c4 nd 4
        have f5 : co_cf σ s5 := by
          intro b j z1 z2 z3
          rw [e5]
          exact (co_ccn_o _ _ (by omega)).trans (f4 b j z1 z2 z3)
        have g5 : s5 17 k = nd := by
          rw [f5 17 k (by decide) (by decide) (Or.inl (by decide))]
          exact hn
        refine ck_go_run 1 (X1 := (if 1 = 0 then 72 else 68, [some (.inr (1, 3, 3)), some (.inl k), some (.inl r), some (.inl i), some (.inl L)], [], s5)) (ps := [ck_rg 1]) rfl ⟨(ck_rgo (by omega) (by omega)), trivial⟩ ?_
        refine ck_go_f (by decide) ?_
        refine ck_go_run 2 (X1 := (73, [some (.inr (1, 3, 3)), some (.inl k), some (.inl r), some (.inl i), some (.inl L)], [.inl 1], s5)) (ps := []) rfl trivial ?_
        refine ck_eZ (by decide) ⟨1, rfl, ?_, by decide, ?_, f5⟩ rfl rfl rfl
        · unfold co_chs
          rw [if_neg (by omega), if_neg (by omega), if_pos (by omega)]
        · unfold co_chs
          rw [if_neg (by omega), if_neg (by omega), if_pos (by omega)]
          exact c5
      · refine ck_go_run 2 (X1 := (62, [some (.inr (1, 3, 3)), some (.inl k), some (.inl r), some (.inl i), some (.inl L)], [.inl 4, .inl 0, .inl 4, .inl k, .inr (1, 3, 3)], s4)) (ps := []) rfl trivial ?_
        refine ck_go_cal (rest := []) (ck_cal_le (by decide) (cx_passes (σ := s4) hk (by decide) (by decide) g4 hn7 (fun z => absurd (hlo.2.2 z (by omega)) (by omega)))) ⟨_, rfl, Or.inl ⟨_, rfl⟩, rfl, rfl, rfl, Nat.le_of_ble_eq_true rfl, fun _ => ⟨_, _, rfl⟩⟩ ?_
        rintro _ s6 ⟨rfl, e6⟩
        rw [if_pos rfl] at e6
        have c6 : co_cl s6 (co_stp (co_cnt nd 4 (co_cnt nd 2 (co_cnt nd 1 m))) 3) := by
          rw [e6]
          exact co_cl_how (co_cl_cnt c4 nd 4) _
        have f6 : co_cf σ s6 := by
          intro b j z1 z2 z3
          rw [e6]
          exact (if_neg (by omega)).trans ((co_ccn_o _ _ (by omega)).trans (f4 b j z1 z2 z3))
        have g6 : s6 17 k = nd := by
          rw [f6 17 k (by decide) (by decide) (Or.inl (by decide))]
          exact hn
        refine ck_go_run 1 (X1 := (if 0 = 0 then 72 else 68, [some (.inr (1, 3, 3)), some (.inl k), some (.inl r), some (.inl i), some (.inl L)], [], s6)) (ps := [ck_rg 0]) rfl ⟨(ck_rgo (by omega) (by omega)), trivial⟩ ?_
        refine ck_go_t (by decide) ?_
        refine ck_go_run 1 (X1 := (73, [some (.inr (1, 3, 3)), some (.inl k), some (.inl r), some (.inl i), some (.inl L)], [.inl 0], s6)) (ps := []) rfl trivial ?_
        refine ck_eZ (by decide) ⟨0, rfl, ?_, by decide, ?_, f6⟩ rfl rfl rfl
        · unfold co_chs
          rw [if_neg (by omega), if_neg (by omega), if_neg (by omega)]
        · unfold co_chs
          rw [if_neg (by omega), if_neg (by omega), if_neg (by omega)]
          exact c6
theorem cx_takeNext {σ : ck_M} (h1 : 0 ≤ σ 2 1 ∧ σ 2 1 < 64) (h2 : 0 ≤ σ 2 2 ∧ σ 2 2 ≤ 64) : ck_cal 1 cm_In_takeNext [.inr (2, 3, 2)] σ (fun q σ' => ∃ v, q = some v ∧ ((σ 2 2 = 0 ∧ v = 0 ∧ σ' = σ) ∨ (σ 2 2 ≠ 0 ∧ v = σ 3 (σ 2 1) ∧ σ' = ck_up (ck_up σ 2 1 ((σ 2 1 + 1) % 64)) 2 2 (σ 2 2 - 1)))) := by
  refine ck_cal_of ?_
  have er : ck_rem (σ 2 1 + 1) 64 = (σ 2 1 + 1) % 64 := co_rem (by omega) (by decide)
  refine ck_go_run 3 (X1 := (if σ 2 2 = 0 then 7 else 9, [some (.inr (2, 3, 2)), none], [], σ)) (ps := [ck_rg (σ 2 2)]) rfl ⟨(ck_rgo (by omega) (by omega)), trivial⟩ ?_
  refine ck_go_ite (fun h1 => ?_) (fun h1 => ?_)
  · refine ck_go_run 1 (X1 := (8, [some (.inr (2, 3, 2)), none], [.inl 0], σ)) (ps := []) rfl trivial ?_
    refine ck_eI ⟨0, rfl, Or.inl ⟨by omega, rfl, rfl⟩⟩ rfl rfl rfl
  · refine ck_go_run 21 (X1 := (43, [some (.inr (2, 3, 2)), some (.inl (σ 3 (σ 2 1)))], [.inl (σ 3 (σ 2 1))], ck_up (ck_up σ 2 1 (ck_rem ((σ 2 1) + 1) 64)) 2 2 ((σ 2 2) - 1))) (ps := [0 ≤ σ 2 1 ∧ σ 2 1 < ((64 : Nat) : Int), ck_rg 64 ∧ 64 ≠ 0]) rfl ⟨⟨by omega, by omega⟩, ⟨ck_rgo (by omega) (by omega), by omega⟩, trivial⟩ ?_
    refine ck_eI ⟨_, rfl, Or.inr ⟨by omega, rfl, ?_⟩⟩ rfl rfl rfl
    rw [er]
theorem co_cl_mkm {σ s m : ck_M} {r l : Int} (h : co_cl σ m) (e15 : σ 1 15 = m 480 26) (h26 : 0 ≤ m 480 26 ∧ m 480 26 < 40) (hc : ∀ b j, s b j = if b = 23 ∧ 40 * σ 1 15 ≤ j ∧ j < 40 * σ 1 15 + l then 0 else if b = 22 ∧ j = σ 1 15 then l else if b = 21 ∧ j = r then σ 1 15 else σ b j) : co_cl (ck_up s 1 15 (s 1 15 + 1)) (co_mkm m r l) := by
  obtain ⟨h1, h2, h3, h4, h5, ⟨g1, g2, g3, g4, g5, g6, g7⟩, h7, h8, h9⟩ := h
  have o : ∀ b j, b ≠ 21 → b ≠ 22 → b ≠ 23 → s b j = σ b j := fun b j z1 z2 z3 => by
    rw [hc, if_neg (by omega), if_neg (by omega), if_neg (by omega)]
  have u : ∀ b j, b ≠ 1 → ck_up s 1 15 (s 1 15 + 1) b j = s b j := fun b j z => if_neg (by omega)
  have u1 : ∀ j, j ≠ 15 → ck_up s 1 15 (s 1 15 + 1) 1 j = s 1 j := fun j z => if_neg (by omega)
  refine ⟨fun j a b => ?_, fun j a b => ?_, fun j a b => ?_, fun j a b => ?_, fun j a b => ?_, ⟨?_, ?_, ?_, ?_, ?_, ?_, ?_⟩, ?_, ?_, fun i a b => ?_⟩
  · rw [u _ _ (by decide), o _ _ (by decide) (by decide) (by decide)]; exact h1 j a b
  · have e : co_mkm m r l 497 j = if (497 : Int) = 497 ∧ j = r then m 480 26 else m 497 j := rfl
    rw [u _ _ (by decide), hc, if_neg (by omega), if_neg (by omega), e]
    by_cases q : j = r
    · rw [if_pos ⟨rfl, q⟩, if_pos ⟨rfl, q⟩, e15]
    · rw [if_neg (fun w => q w.2), if_neg (fun w => q w.2)]; exact h2 j a b
  · have e : co_mkm m r l 498 j = if (498 : Int) = 498 ∧ j = m 480 26 then l else m 498 j := rfl
    rw [u _ _ (by decide), hc, if_neg (by omega), e, e15]
    by_cases q : j = m 480 26
    · rw [if_pos ⟨rfl, q⟩, if_pos ⟨rfl, q⟩]
    · rw [if_neg (fun w => q w.2), if_neg (by omega), if_neg (fun w => q w.2)]; exact h3 j a b
  · have e : co_mkm m r l 499 j = if (499 : Int) = 499 ∧ 40 * m 480 26 ≤ j ∧ j < 40 * m 480 26 + l then 0 else m 499 j := rfl
    rw [u _ _ (by decide), hc, e, e15]
    by_cases q : 40 * m 480 26 ≤ j ∧ j < 40 * m 480 26 + l
    · rw [if_pos ⟨rfl, q⟩, if_pos ⟨rfl, q⟩]
    · rw [if_neg (fun w => q w.2), if_neg (by omega), if_neg (by omega), if_neg (fun w => q w.2)]; exact h4 j a b
  · rw [u _ _ (by decide), o _ _ (by decide) (by decide) (by decide)]; exact h5 j a b
  · rw [u1 _ (by decide), o _ _ (by decide) (by decide) (by decide)]; exact g1
  · rw [u1 _ (by decide), o _ _ (by decide) (by decide) (by decide)]; exact g2
  · rw [u1 _ (by decide), o _ _ (by decide) (by decide) (by decide)]; exact g3
  · rw [u1 _ (by decide), o _ _ (by decide) (by decide) (by decide)]; exact g4
  · rw [u1 _ (by decide), o _ _ (by decide) (by decide) (by decide)]; exact g5
  · rw [u1 _ (by decide), o _ _ (by decide) (by decide) (by decide)]; exact g6
  · have e : ck_up s 1 15 (s 1 15 + 1) 1 15 = s 1 15 + 1 := rfl
    rw [e, o _ _ (by decide) (by decide) (by decide), e15]
    rfl
  · rw [u _ _ (by decide), o _ _ (by decide) (by decide) (by decide)]; exact h7
  · rw [u _ _ (by decide), o _ _ (by decide) (by decide) (by decide)]; exact h8
  · rw [u _ _ (by decide), u _ _ (by decide), o _ _ (by decide) (by decide) (by decide), o _ _ (by decide) (by decide) (by decide)]; exact h9 i a b
theorem cx_makeArray {r l c : Int} {σ m : ck_M} (hr : 0 ≤ r ∧ r < 4) (hl : co_nb l) (hcl : co_cl σ m) (hmd : co_md c m) : ck_cal 1 cm_Ma_makeArray [.inr (1, 3, 3), .inl r, .inl l] σ (fun q σ' => q = none ∧ co_cl σ' (co_mk m r l).2 ∧ co_cf σ σ') := by
  refine ck_cal_of ?_
  have h26 := hmd.2.1
  have e15 : σ 1 15 = m 480 26 := hcl.2.2.2.2.2.1.2.2.2.2.2.2
  refine ck_go_run 2 (X1 := (if l < 0 then 19 else 4, [some (.inr (1, 3, 3)), some (.inl r), some (.inl l), none], [], σ)) (ps := [ck_rg l]) rfl ⟨(ck_rgo (by omega) (by omega)), trivial⟩ ?_
  refine ck_go_ite (fun h1 => ?_) (fun h1 => ?_)
  · refine ck_go_run 3 (X1 := (25, [some (.inr (1, 3, 3)), some (.inl r), some (.inl l), none], [], ck_up σ 1 9 6)) (ps := []) rfl trivial ?_
    refine ck_eV ⟨rfl, ?_, ?_⟩ rfl rfl rfl
    · unfold co_mk
      rw [if_neg (by omega)]
      exact co_cl_how hcl _
    · exact fun b j z1 z2 z3 => if_neg (by omega)
  · refine ck_go_run 3 (X1 := (if 40 < l then 19 else 10, [some (.inr (1, 3, 3)), some (.inl r), some (.inl l), none], [], σ)) (ps := [ck_rg l, ck_rg 40]) rfl ⟨(ck_rgo (by omega) (by omega)), (ck_rgo (by omega) (by omega)), trivial⟩ ?_
    refine ck_go_ite (fun h2 => ?_) (fun h2 => ?_)
    · refine ck_go_run 3 (X1 := (25, [some (.inr (1, 3, 3)), some (.inl r), some (.inl l), none], [], ck_up σ 1 9 6)) (ps := []) rfl trivial ?_
      refine ck_eV ⟨rfl, ?_, ?_⟩ rfl rfl rfl
      · unfold co_mk
        rw [if_neg (by omega)]
        exact co_cl_how hcl _
      · exact fun b j z1 z2 z3 => if_neg (by omega)
    · refine ck_go_run 4 (X1 := (if σ 1 15 = 40 then 19 else 26, [some (.inr (1, 3, 3)), some (.inl r), some (.inl l), none], [], σ)) (ps := [ck_rg (σ 1 15), ck_rg 40]) rfl ⟨(ck_rgo (by omega) (by omega)), (ck_rgo (by omega) (by omega)), trivial⟩ ?_
      refine ck_go_ite (fun h3 => ?_) (fun h3 => ?_)
      · refine ck_go_run 3 (X1 := (25, [some (.inr (1, 3, 3)), some (.inl r), some (.inl l), none], [], ck_up σ 1 9 6)) (ps := []) rfl trivial ?_
        refine ck_eV ⟨rfl, ?_, ?_⟩ rfl rfl rfl
        · unfold co_mk
          rw [if_neg (by omega)]
          exact co_cl_how hcl _
        · exact fun b j z1 z2 z3 => if_neg (by omega)
      · refine ck_go_run 14 (X1 := (48, [some (.inr (1, 3, 3)), some (.inl r), some (.inl l), some (.inl 0)], [], ck_up (ck_up σ 21 r (σ 1 15)) 22 (σ 1 15) l)) (ps := [0 ≤ r ∧ r < ((4 : Nat) : Int), 0 ≤ σ 1 15 ∧ σ 1 15 < ((40 : Nat) : Int)]) rfl ⟨⟨by omega, by omega⟩, ⟨by omega, by omega⟩, trivial⟩ ?_
        refine ck_for 48 (fun v => [some (.inr (1, 3, 3)), some (.inl r), some (.inl l), some (.inl v)]) l (fun v s => (0 ≤ v ∧ v ≤ l) ∧ ∀ b j, s b j = if b = 23 ∧ 40 * σ 1 15 ≤ j ∧ j < 40 * σ 1 15 + v then 0 else if b = 22 ∧ j = σ 1 15 then l else if b = 21 ∧ j = r then σ 1 15 else σ b j) (fun v s hv hI kk => ?_) (fun v s hv hI => ?_) 0 _ ⟨⟨by omega, by omega⟩, fun b j => by
          rw [if_neg (by omega)]
          rfl⟩
        · obtain ⟨⟨v0, v1⟩, hc⟩ := hI
          have w2 : s 1 15 = σ 1 15 := by rw [hc, if_neg (by omega), if_neg (by omega), if_neg (by omega)]
          refine ck_go_run 3 (X1 := (if v < l then 53 else 74, [some (.inr (1, 3, 3)), some (.inl r), some (.inl l), some (.inl v)], [], s)) (ps := [ck_rg v, ck_rg l]) rfl ⟨(ck_rgo (by omega) (by omega)), (ck_rgo (by omega) (by omega)), trivial⟩ ?_
          refine ck_go_t hv ?_
          refine ck_go_run 12 (X1 := (48, [some (.inr (1, 3, 3)), some (.inl r), some (.inl l), some (.inl (v + 1))], [], ck_up s 23 (((s 1 15) * 40) + v) 0)) (ps := [0 ≤ ((s 1 15) * 40) + v ∧ ((s 1 15) * 40) + v < ((1600 : Nat) : Int)]) rfl ⟨⟨by omega, by omega⟩, trivial⟩ ?_
          exact kk _ ⟨⟨by omega, by omega⟩, fun b j => by
            unfold ck_up
            rw [w2, hc, Int.mul_comm (σ 1 15) 40]
            by_cases q : b = 23 ∧ j = 40 * σ 1 15 + v
            · rw [if_pos q, if_pos (by omega)]
            · rw [if_neg q]
              by_cases q2 : b = 23 ∧ 40 * σ 1 15 ≤ j ∧ j < 40 * σ 1 15 + v
              · rw [if_pos q2, if_pos (by omega)]
              · rw [if_neg q2, if_neg (show ¬ (b = 23 ∧ 40 * σ 1 15 ≤ j ∧ j < 40 * σ 1 15 + (v + 1)) by omega)]⟩
        · obtain ⟨⟨v0, v1⟩, hc⟩ := hI
          have w2 : s 1 15 = σ 1 15 := by rw [hc, if_neg (by omega), if_neg (by omega), if_neg (by omega)]
          refine ck_go_run 3 (X1 := (if v < l then 53 else 74, [some (.inr (1, 3, 3)), some (.inl r), some (.inl l), some (.inl v)], [], s)) (ps := [ck_rg v, ck_rg l]) rfl ⟨(ck_rgo (by omega) (by omega)), (ck_rgo (by omega) (by omega)), trivial⟩ ?_
          refine ck_go_f (by omega) ?_
          refine ck_go_run 6 (X1 := (84, [some (.inr (1, 3, 3)), some (.inl r), some (.inl l), some (.inl v)], [], ck_up s 1 15 ((s 1 15) + 1))) (ps := []) rfl trivial ?_
          have ev : v = l := by omega
          rw [ev] at hc
          have e0 : ∀ b j, ck_up s 1 15 (s 1 15 + 1) b j = if b = 1 ∧ j = 15 then s 1 15 + 1 else s b j := fun b j => rfl
          refine ck_eV ⟨rfl, ?_, ?_⟩ rfl rfl rfl
          · unfold co_mk
            rw [if_pos (by omega)]
            exact co_cl_mkm hcl e15 (by omega) hc
          · intro b j z1 z2 z3
            rw [e0, if_neg (by omega), hc, if_neg (by omega), if_neg (by omega), if_neg (by omega)]
