def ck_sa (A B : Int) : Int := if A = B ∧ A ≠ 0 then 1 else 0
theorem ck_rg_sa {A B : Int} : ck_rg (ck_sa A B) := by unfold ck_sa; split <;> exact ⟨by decide, by decide⟩
theorem cx_same {c r a A B : Int} (hr : 0 ≤ r ∧ r < 4) (ha : 0 ≤ a ∧ a < 4) {σ : ck_M} (e1 : σ (c + 4) r = A) (e2 : σ (c + 4) a = B) (h1 : ck_rg A) (h2 : ck_rg B) : ck_cal 1 cm_Fa_isSameArray [.inr (c, 3, 0), .inl r, .inl a] σ (fun q σ' => q = some (ck_sa A B) ∧ σ' = σ) := by
  subst e1 e2
  exact cx_isSameArray hr ha h1 h2
def ck_hc (A B v : Int) : Int := if A = 0 then 1000000000 else ck_bH (if B = 1000000000 then v else v - B)
theorem cx_hoc {c v r A B : Int} (hr : 0 ≤ r ∧ r < 4) {σ : ck_M} (e1 : σ (c + 4) r = A) (e2 : σ (c + 5) r = B) (hv : -1000000000 ≤ v ∧ v ≤ 1000000000) (h1 : -1000000000 ≤ A ∧ A ≤ 1000000000) (h2 : -1000000000 ≤ B ∧ B ≤ 1000000000) : ck_cal 2 cm_Fa_highOfConstant [.inr (c, 3, 0), .inl v, .inl r] σ (fun q σ' => q = some (ck_hc A B v) ∧ σ' = σ) := by
  subst e1 e2
  exact cx_highOfConstant hr hv h1 h2
theorem ck_hoc_eq (f : ck_D) (v r : Int) : ck_hoc f v r = ck_hc (ck_va f r) (ck_sz f r) v := rfl
/-- one more of a row's places -/
theorem ck_st1 {s M : ck_M} {a base v x : Int} {g : Int → Int} (hI1 : ∀ b j, (b ≠ a ∨ j < base ∨ base + v ≤ j) → s b j = M b j) (hI2 : ∀ q, 0 ≤ q → q < v → s a (base + q) = g q) (hx : x = g v) (hv : 0 ≤ v) : (∀ b j, (b ≠ a ∨ j < base ∨ base + (v + 1) ≤ j) → ck_up s a (base + v) x b j = M b j) ∧ ∀ q, 0 ≤ q → q < v + 1 → ck_up s a (base + v) x a (base + q) = g q := by
  refine ⟨fun b j h => ?_, fun q h0 h1 => ?_⟩
  · unfold ck_up
    rw [if_neg (by omega)]
    exact hI1 b j (by omega)
  · unfold ck_up
    by_cases hq : q = v
    · subst hq
      rw [if_pos ⟨rfl, rfl⟩, hx]
    · rw [if_neg (by omega)]
      exact hI2 q h0 (by omega)
theorem ck_st0 {s M : ck_M} {a v x : Int} {g : Int → Int} (hI1 : ∀ b j, (b ≠ a ∨ j < 0 ∨ v ≤ j) → s b j = M b j) (hI2 : ∀ q, 0 ≤ q → q < v → s a q = g q) (hx : x = g v) (hv : 0 ≤ v) : (∀ b j, (b ≠ a ∨ j < 0 ∨ v + 1 ≤ j) → ck_up s a v x b j = M b j) ∧ ∀ q, 0 ≤ q → q < v + 1 → ck_up s a v x a q = g q := by
  refine ⟨fun b j h => ?_, fun q h0 h1 => ?_⟩
  · unfold ck_up
    rw [if_neg (by omega)]
    exact hI1 b j (by omega)
  · unfold ck_up
    by_cases hq : q = v
    · subst hq
      rw [if_pos ⟨rfl, rfl⟩, hx]
    · rw [if_neg (by omega)]
      exact hI2 q h0 (by omega)
theorem ck_st4 {s M : ck_M} {a r v x : Int} {g : Int → Int} (hI1 : ∀ b j, (b ≠ a ∨ j < r ∨ v * 4 + r ≤ j ∨ (j - r) % 4 ≠ 0) → s b j = M b j) (hI2 : ∀ q, 0 ≤ q → q < v → s a (q * 4 + r) = g q) (hx : x = g v) (hv : 0 ≤ v) : (∀ b j, (b ≠ a ∨ j < r ∨ (v + 1) * 4 + r ≤ j ∨ (j - r) % 4 ≠ 0) → ck_up s a (v * 4 + r) x b j = M b j) ∧ ∀ q, 0 ≤ q → q < v + 1 → ck_up s a (v * 4 + r) x a (q * 4 + r) = g q := by
  refine ⟨fun b j h => ?_, fun q h0 h1 => ?_⟩
  · unfold ck_up
    rw [if_neg (by omega)]
    exact hI1 b j (by omega)
  · unfold ck_up
    by_cases hq : q = v
    · subst hq
      rw [if_pos ⟨rfl, rfl⟩, hx]
    · rw [if_neg (by omega)]
      exact hI2 q h0 (by omega)
def ck_dAny (x : Int) (f : ck_D) : ck_D := ck_N (fun n => if n = x then 1000000000 else ck_kn f n) (fun n => if n = x then -1000000000 else ck_lo f n) (fun n q => if n = x then 1000000000 else ck_hi f n q) (ck_va f) (ck_sz f) (ck_th f)
theorem cx_setAnything {c x : Int} (hx : 0 ≤ x ∧ x < 10) {σ : ck_M} : ck_cal 1 cm_Fa_setAnything [.inr (c, 3, 0), .inl x] σ (fun q σ' => q = none ∧ ck_f6 σ σ' c ∧ ck_rd σ' c = ck_dAny x (ck_rd σ c)) := by
  refine ck_cal_of ?_
  refine ck_go_run 12 (X1 := (18, [some (.inr (c, 3, 0)), some (.inl x), some (.inl 0)], [], ck_up (ck_up σ (c + 1) x 1000000000) (c + 2) x ((-1000000000)))) (ps := [0 ≤ x ∧ x < ((10 : Nat) : Int), 0 ≤ x ∧ x < ((10 : Nat) : Int)]) rfl ⟨⟨by omega, by omega⟩, ⟨by omega, by omega⟩, trivial⟩ ?_
  refine ck_for 18 (fun v => [some (.inr (c, 3, 0)), some (.inl x), some (.inl v)]) 4 (fun v s => 0 ≤ v ∧ v ≤ 4 ∧ (∀ b j, (b ≠ c + 3 ∨ j < x * 4 ∨ x * 4 + v ≤ j) → s b j = (ck_up (ck_up σ (c + 1) x 1000000000) (c + 2) x ((-1000000000))) b j) ∧ ∀ q, 0 ≤ q → q < v → s (c + 3) (x * 4 + q) = 1000000000) (fun v s hv hI k => ?_) (fun v s hv hI => ?_) 0 _ ⟨by omega, by omega, fun _ _ _ => rfl, fun _ _ _ => by omega⟩
  · obtain ⟨h0, h4, hI1, hI2⟩ := hI
    refine ck_go_run 3 (X1 := (if v < 4 then 23 else 41, [some (.inr (c, 3, 0)), some (.inl x), some (.inl v)], [], s)) (ps := [ck_rg v, ck_rg 4]) rfl ⟨(ck_rgo (by omega) (by omega)), (ck_rgo (by omega) (by omega)), trivial⟩ ?_
    refine ck_go_t hv ?_
    refine ck_go_run 11 (X1 := (18, [some (.inr (c, 3, 0)), some (.inl x), some (.inl (v + 1))], [], ck_up s (c + 3) ((x * 4) + v) 1000000000)) (ps := [0 ≤ (x * 4) + v ∧ (x * 4) + v < ((40 : Nat) : Int)]) rfl ⟨⟨by omega, by omega⟩, trivial⟩ ?_
    exact k _ ⟨by omega, by omega, ck_st1 (g := fun q => 1000000000) hI1 hI2 rfl h0⟩
  · obtain ⟨h0, h4, hI1, hI2⟩ := hI
    refine ck_go_run 3 (X1 := (if v < 4 then 23 else 41, [some (.inr (c, 3, 0)), some (.inl x), some (.inl v)], [], s)) (ps := [ck_rg v, ck_rg 4]) rfl ⟨(ck_rgo (by omega) (by omega)), (ck_rgo (by omega) (by omega)), trivial⟩ ?_
    refine ck_go_f (by omega) ?_
    refine ck_eV ⟨rfl, ?_, ?_⟩ rfl rfl rfl
    · intro b j hb
      rw [hI1 b j (by omega)]
      simp only [ck_up]
      (repeat' split) <;> first | rfl | omega
    · unfold ck_dAny
      refine ck_N_ext (fun n a0 a1 => ?_) (fun n a0 a1 => ?_) (fun n q a0 a1 b0 b1 => ?_) (fun q b0 b1 => ?_) (fun q b0 b1 => ?_) (fun q b0 b1 => ?_)
      · rw [ck_r_kn a0 a1, hI1 (c + 1) n (by omega)]
        simp only [ck_up, true_and]
        (repeat' split) <;> first | rfl | omega
      · rw [ck_r_lo a0 a1, hI1 (c + 2) n (by omega)]
        simp only [ck_up, true_and]
        (repeat' split) <;> first | rfl | omega
      · by_cases hn : n = x
        · subst hn
          rw [if_pos rfl, hI2 q b0 (by omega)]
        · rw [if_neg hn, ck_r_hi a0 a1 b0 b1, hI1 (c + 3) (n * 4 + q) (by omega)]
          simp only [ck_up]
          (repeat' split) <;> first | rfl | omega
      · rw [ck_r_va b0 b1, hI1 (c + 4) q (by omega)]
        simp only [ck_up, true_and]
        (repeat' split) <;> first | rfl | omega
      · rw [ck_r_sz b0 b1, hI1 (c + 5) q (by omega)]
        simp only [ck_up, true_and]
        (repeat' split) <;> first | rfl | omega
      · rw [ck_r_th b0 b1, hI1 (c + 6) q (by omega)]
        simp only [ck_up, true_and]
        (repeat' split) <;> first | rfl | omega
