theorem cx_keep' {a k k' : Int} (e : k' = k) (ha : a ≠ 490) (hk : 0 ≤ k ∧ k < 64) {σ : ck_M} : ck_cal 1 cm_Mo_keep [.inr (480, 3, 6), .inr (a, 0, 5248), .inl k'] σ (fun q σ' => q = none ∧ ck_kp σ σ' a k) := by
  subst e
  exact cx_keep ha hk
theorem cx_take' {a k k' : Int} (e : k' = k) (ha : a ≠ 490) (hk : 0 ≤ k ∧ k < 64) {σ : ck_M} : ck_cal 1 cm_Mo_take [.inr (480, 3, 6), .inr (a, 0, 5248), .inl k'] σ (fun q σ' => q = none ∧ ck_f1 σ σ' 490 ∧ ck_mv (σ' 490) = ck_rw σ a k) := by
  subst e
  refine ck_cal_mono (cx_take ha hk) ?_
  rintro q s ⟨h1, h2, h3⟩
  exact ⟨h1, h2, co_mv_eq.mpr h3⟩
theorem cx_tell' {k : Int} (hk : 0 ≤ k ∧ k < 64) {σ : ck_M} (hW1 : ck_qb (ck_rw σ 491 k)) (hW2 : ck_qb (ck_mv (σ 490))) : ck_cal 2 cm_Mo_tell [.inr (480, 3, 6), .inl k] σ (fun q σ' => ∃ x, q = some x ∧ ck_kp σ σ' 491 k ∧ ((x = 0 ∧ ∀ q, 0 ≤ q → q < 82 → σ 491 (82 * k + q) = σ 490 q) ∨ (x = 1 ∧ ¬ ∀ q, 0 ≤ q → q < 82 → σ 491 (82 * k + q) = σ 490 q))) := by
  refine ck_cal_mono (cx_tell hk (fun q a b => ?_) (fun q a b => ?_)) ?_
  · have := co_mv_rg hW1 q a b
    exact ck_rgo (by omega) (by omega)
  · have := co_mv_rg hW2 q a b
    exact ck_rgo (by omega) (by omega)
  · rintro q s ⟨h1, ⟨h2, h3⟩ | ⟨h2, h3⟩⟩
    · exact ⟨0, h2, h1, Or.inl ⟨rfl, h3⟩⟩
    · exact ⟨1, h2, h1, Or.inr ⟨rfl, h3⟩⟩
theorem cx_close' {h h' k : Int} (e : h' = h) (hh : 0 ≤ h ∧ h < 64) {σ : ck_M} (hS : ck_rg (σ 481 h)) (hO : ck_rg (σ 485 h)) {f : ck_Q} (hf : ck_mv (σ 490) = f) (hB : ck_qb f) (hG492 : ck_qb (ck_rw σ 492 h)) (hG493 : ck_qb (ck_rw σ 493 h)) : ck_cal 3 cm_Mo_close [.inr (480, 3, 6), .inl h', .inl k] σ (fun q σ' => q = none ∧ (σ 481 h = 12 → (∀ b j, b ≠ 490 → (b ≠ 495 ∨ j ≠ h) → (b ≠ 494 ∨ j < 82 * h ∨ 82 * h + 82 ≤ j) → σ' b j = σ b j) ∧ σ' 495 h = 1 ∧ (∀ q, 0 ≤ q → q < 82 → σ' 494 (82 * h + q) = σ 490 q) ∧ ck_mv (σ' 490) = ck_rw σ 492 h) ∧ (σ 481 h ≠ 12 → σ 485 h = -1 → ck_f1 σ σ' 490 ∧ ck_mv (σ' 490) = ck_qJ (ck_rw σ 492 h) k f) ∧ (σ 481 h ≠ 12 → σ 485 h ≠ -1 → ck_f1 σ σ' 490 ∧ ck_mv (σ' 490) = ck_qJ (ck_rw σ 493 h) k f)) := by
  subst e
  exact cx_close hh hS hO hf hB hG492 hG493
theorem cx_loosen' {p s : ck_M} {n k : Int} (hp : co_pg p n) (hm : co_pm s p n) (h0 : 0 ≤ k) (h1 : k < n) (ht : p 6 k = 12) {f : ck_Q} (hf : ck_mv (s 490) = f) : ck_cal 1 cm_Mo_loosen [.inr (480, 3, 6), .inl k] s (fun q σ' => q = none ∧ ck_f1 s σ' 490 ∧ ck_mv (σ' 490) = ck_qFc (p 13 k) (p 14 k) k f) := by
  have hn := hp.1
  have q := (hp.2.2.1 k h0 h1 (Or.inr ht)).1
  have e1 : ∀ j, 0 ≤ j → j < n → s 481 j = p 6 j := fun j a b => (hm.2 j a b).1.1
  have e2 : ∀ j, 0 ≤ j → j < n → s 482 j = p 7 j := fun j a b => (hm.2 j a b).1.2.1
  refine cx_loosen (e := p 12 k) ⟨h0, by omega⟩ ⟨q.1, by omega⟩ ((hm.2 k h0 h1).2.1 (Or.inr ht)) (fun j a b => ?_) (fun m m0 m1 => ?_) (fun m m0 m1 => ?_) hf
  · rw [e1 j (by omega) (by omega), e2 j (by omega) (by omega)]
    have hs := hp.2.1 j (by omega) (by omega)
    unfold ck_sOk at hs
    by_cases hx : p 6 j = 10 ∨ p 6 j = 11
    · have z := ((hm.2 j (by omega) (by omega)).2.2 hx).2
      rw [e2 j (by omega) (by omega)] at z
      omega
    · omega
  · rw [(hp.2.2.2.2.2 k h0 h1 ht).1 m m0 m1]
    refine not_congr ⟨fun z => ?_, fun z => ?_⟩
    · obtain ⟨j, z1, z2, z3, z4⟩ := z
      exact ⟨j, z1, z2, by rw [e1 j (by omega) (by omega)]; exact z3, by rw [e2 j (by omega) (by omega)]; exact z4⟩
    · obtain ⟨j, z1, z2, z3, z4⟩ := z
      rw [e1 j (by omega) (by omega)] at z3
      rw [e2 j (by omega) (by omega)] at z4
      exact ⟨j, z1, z2, z3, z4⟩
  · rw [(hp.2.2.2.2.2 k h0 h1 ht).2 m m0 m1]
    refine not_congr ⟨fun z => ?_, fun z => ?_⟩
    · obtain ⟨j, z1, z2, z3, z4, z5⟩ := z
      exact ⟨j, z1, z2, by rw [e1 j (by omega) (by omega)]; exact z3, by rw [e1 j (by omega) (by omega)]; exact z4, by rw [e2 j (by omega) (by omega)]; exact z5⟩
    · obtain ⟨j, z1, z2, z3, z4, z5⟩ := z
      rw [e1 j (by omega) (by omega)] at z3 z4
      rw [e2 j (by omega) (by omega)] at z5
      exact ⟨j, z1, z2, z3, z4, z5⟩
theorem co_mv_self (w : Int → Int) : ck_mv w = ck_P (ck_K (ck_mv w)) (ck_I (ck_mv w)) (ck_L (ck_mv w)) (ck_V (ck_mv w)) (ck_T (ck_mv w)) (ck_G (ck_mv w)) (ck_H (ck_mv w)) := ck_P_ext (fun n a b => ck_y_K rfl a b) (fun n a b => ck_y_I rfl a b) (fun n a b => ck_y_L rfl a b) (fun n a b => ck_y_V rfl a b) (fun n a b => ck_y_T rfl a b) (fun n a b => ck_y_G rfl a b) (fun n r a b c d => ck_y_H rfl a b c d)
/-- the first row: all numbers known to be 0, all arrays null up to v -/
def co_r0 (v : Int) (f : ck_Q) : Prop := (∀ n, 0 ≤ n → n < 10 → ck_K f n = 1 ∧ ck_I f n = 0 ∧ ck_L f n = 0) ∧ ∀ r, 0 ≤ r → r < v → r < 4 → (ck_V f r = 0 ∧ ck_T f r = 0 ∧ ck_G f r = 1000000000) ∧ ∀ n, 0 ≤ n → n < 10 → ck_H f n r = 1000000000
theorem co_r0_s {v : Int} (v0 : 0 ≤ v) (v1 : v < 4) {f : ck_Q} (h : co_r0 v f) : co_r0 (v + 1) (ck_qNull v f) := by
  obtain ⟨h1, h2⟩ := h
  unfold ck_qNull
  refine ⟨fun n a b => ?_, fun r a b c => ⟨?_, fun n d e => ?_⟩⟩
  · rw [ck_P_K a b, ck_P_I a b, ck_P_L a b]; exact h1 n a b
  · rw [ck_P_V a c, ck_P_T a c, ck_P_G a c]
    by_cases e : r = v
    · rw [if_pos e, if_pos e, if_pos e]; exact ⟨rfl, rfl, rfl⟩
    · rw [if_neg e, if_neg e, if_neg e]; exact (h2 r a (by omega) c).1
  · rw [ck_P_H d e a c]
    by_cases e : r = v
    · rw [if_pos e]
    · rw [if_neg e]; exact (h2 r a (by omega) c).2 n d (by assumption)
theorem co_r0_e {w : Int → Int} (h : co_r0 4 (ck_mv w)) (p : ck_M) (i : Nat) : ck_mv w = co_W p i 0 := by
  obtain ⟨h1, h2⟩ := h
  have e : co_W p i 0 = co_enc ck_dFirst (fun _ => 0) := by
    unfold co_W co_A0
    rw [if_pos rfl, co_J_0]
  rw [e, co_mv_self]
  unfold co_enc ck_dFirst
  refine ck_P_ext (fun n a b => ?_) (fun n a b => ?_) (fun n a b => ?_) (fun r a b => ?_) (fun r a b => ?_) (fun r a b => ?_) (fun n r a b c d => ?_)
  · rw [ck_N_kn a b, (h1 n a b).1]; rfl
  · rw [(h1 n a b).2.1]
  · rw [ck_N_lo a b, (h1 n a b).2.2]; rfl
  · rw [ck_N_va a b, (h2 r a b b).1.1]; rfl
  · rw [ck_N_th a b, (h2 r a b b).1.2.1]
  · rw [ck_N_sz a b, (h2 r a b b).1.2.2]
  · rw [ck_N_hi a b c d, (h2 r c d d).2 n a b]
