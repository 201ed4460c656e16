theorem co_bm {x : Int} (h0 : 0 ≤ x) (h1 : x < 2147483648) : x.bmod 4294967296 = x := by
  unfold Int.bmod
  have : x % 4294967296 = x := Int.emod_eq_of_lt h0 (by omega)
  simp only
  omega
theorem co_rem {x y : Int} (hx : 0 ≤ x ∧ x < 2147483648) (hy : 0 < y ∧ y < 2147483648) : ck_rem x y = x % y := by
  unfold ck_rem
  have ex : (Int32.ofInt x).toInt = x := Int32.toInt_ofInt_of_le (by omega) (by omega)
  have ey : (Int32.ofInt y).toInt = y := Int32.toInt_ofInt_of_le (by omega) (by omega)
  have q0 : 0 ≤ x / y := Int.ediv_nonneg hx.1 (by omega)
  have q1 : x / y * y ≤ x := Int.ediv_mul_le x (by omega)
  have q2 : x / y ≤ x := Int.ediv_le_self y hx.1
  have q3 : 0 ≤ x / y * y := Int.mul_nonneg q0 (by omega)
  have q4 : 0 ≤ x % y := Int.emod_nonneg x (by omega)
  have q5 := Int.mul_ediv_add_emod x y
  have ed : (Int32.ofInt x / Int32.ofInt y).toInt = x / y := by
    rw [Int32.toInt_div, ex, ey, Int.tdiv_eq_ediv_of_nonneg hx.1]
    exact co_bm q0 (by omega)
  have em : (Int32.ofInt x / Int32.ofInt y * Int32.ofInt y).toInt = x / y * y := by
    rw [Int32.toInt_mul, ed, ey]
    exact co_bm q3 (by omega)
  rw [Int32.toInt_sub, ex, em]
  have q6 : x - x / y * y = x % y := by
    rw [Int.mul_comm] at q5
    omega
  rw [q6]
  have q7 : x % y < y := Int.emod_lt_of_pos x hy.1
  exact co_bm q4 (by omega)
/-! ## The class's run beside the reference's -/
def co_cq (s m : ck_M) : Prop := s 2 2 = m 480 12 ∧ (0 ≤ s 2 1 ∧ s 2 1 < 64) ∧ ∀ i, 0 ≤ i → i < m 480 12 → s 3 ((s 2 1 + i) % 64) = m 489 i
def co_cl (s m : ck_M) : Prop := (∀ j, 0 ≤ j → j < 10 → s 20 j = m 496 j) ∧ (∀ j, 0 ≤ j → j < 4 → s 21 j = m 497 j) ∧ (∀ j, 0 ≤ j → j < 40 → s 22 j = m 498 j) ∧ (∀ j, 0 ≤ j → j < 1600 → s 23 j = m 499 j) ∧ (∀ j, 0 ≤ j → j < 16 → s 24 j = m 500 j) ∧ (s 1 9 = m 480 21 ∧ s 1 10 = m 480 20 ∧ s 1 11 = m 480 22 ∧ s 1 12 = m 480 23 ∧ s 1 13 = m 480 24 ∧ s 1 14 = m 480 25 ∧ s 1 15 = m 480 26) ∧ co_cq s m
theorem co_up_eq {s m : ck_M} {a b x v j : Int} (h : s a j = m b j) : ck_up s a x v a j = ck_up m b x v b j := by
  unfold ck_up
  by_cases q : j = x
  · rw [if_pos ⟨rfl, q⟩, if_pos ⟨rfl, q⟩]
  · rw [if_neg (fun w => q w.2), if_neg (fun w => q w.2)]
    exact h
section COCL
variable {s m : ck_M}
theorem co_cl_num (h : co_cl s m) (x v : Int) : co_cl (ck_up s 20 x v) (ck_up m 496 x v) := ⟨fun j a b => co_up_eq (h.1 j a b), h.2⟩
theorem co_cl_arr (h : co_cl s m) (x v : Int) : co_cl (ck_up s 21 x v) (ck_up m 497 x v) := ⟨h.1, fun j a b => co_up_eq (h.2.1 j a b), h.2.2⟩
theorem co_cl_len (h : co_cl s m) (x v : Int) : co_cl (ck_up s 22 x v) (ck_up m 498 x v) := ⟨h.1, h.2.1, fun j a b => co_up_eq (h.2.2.1 j a b), h.2.2.2⟩
theorem co_cl_plc (h : co_cl s m) (x v : Int) : co_cl (ck_up s 23 x v) (ck_up m 499 x v) := ⟨h.1, h.2.1, h.2.2.1, fun j a b => co_up_eq (h.2.2.2.1 j a b), h.2.2.2.2⟩
theorem co_cl_kpt (h : co_cl s m) (x v : Int) : co_cl (ck_up s 24 x v) (ck_up m 500 x v) := ⟨h.1, h.2.1, h.2.2.1, h.2.2.2.1, fun j a b => co_up_eq (h.2.2.2.2.1 j a b), h.2.2.2.2.2⟩
theorem co_cl_how (h : co_cl s m) (v : Int) : co_cl (ck_up s 1 9 v) (ck_up m 480 21 v) := ⟨h.1, h.2.1, h.2.2.1, h.2.2.2.1, h.2.2.2.2.1, ⟨rfl, h.2.2.2.2.2.1.2⟩, h.2.2.2.2.2.2⟩
theorem co_cl_at (h : co_cl s m) (v : Int) : co_cl (ck_up s 1 10 v) (ck_up m 480 20 v) := ⟨h.1, h.2.1, h.2.2.1, h.2.2.2.1, h.2.2.2.2.1, ⟨h.2.2.2.2.2.1.1, rfl, h.2.2.2.2.2.1.2.2⟩, h.2.2.2.2.2.2⟩
theorem co_cl_dn (h : co_cl s m) (v : Int) : co_cl (ck_up s 1 11 v) (ck_up m 480 22 v) := ⟨h.1, h.2.1, h.2.2.1, h.2.2.2.1, h.2.2.2.2.1, ⟨h.2.2.2.2.2.1.1, h.2.2.2.2.2.1.2.1, rfl, h.2.2.2.2.2.1.2.2.2⟩, h.2.2.2.2.2.2⟩
theorem co_cl_md (h : co_cl s m) (v : Int) : co_cl (ck_up s 1 12 v) (ck_up m 480 23 v) := ⟨h.1, h.2.1, h.2.2.1, h.2.2.2.1, h.2.2.2.2.1, ⟨h.2.2.2.2.2.1.1, h.2.2.2.2.2.1.2.1, h.2.2.2.2.2.1.2.2.1, rfl, h.2.2.2.2.2.1.2.2.2.2⟩, h.2.2.2.2.2.2⟩
theorem co_cl_sv (h : co_cl s m) (v : Int) : co_cl (ck_up s 1 13 v) (ck_up m 480 24 v) := ⟨h.1, h.2.1, h.2.2.1, h.2.2.2.1, h.2.2.2.2.1, ⟨h.2.2.2.2.2.1.1, h.2.2.2.2.2.1.2.1, h.2.2.2.2.2.1.2.2.1, h.2.2.2.2.2.1.2.2.2.1, rfl, h.2.2.2.2.2.1.2.2.2.2.2⟩, h.2.2.2.2.2.2⟩
theorem co_cl_ot (h : co_cl s m) (v : Int) : co_cl (ck_up s 1 14 v) (ck_up m 480 25 v) := ⟨h.1, h.2.1, h.2.2.1, h.2.2.2.1, h.2.2.2.2.1, ⟨h.2.2.2.2.2.1.1, h.2.2.2.2.2.1.2.1, h.2.2.2.2.2.1.2.2.1, h.2.2.2.2.2.1.2.2.2.1, h.2.2.2.2.2.1.2.2.2.2.1, rfl, h.2.2.2.2.2.1.2.2.2.2.2.2⟩, h.2.2.2.2.2.2⟩
theorem co_cl_mk (h : co_cl s m) (v : Int) : co_cl (ck_up s 1 15 v) (ck_up m 480 26 v) := ⟨h.1, h.2.1, h.2.2.1, h.2.2.2.1, h.2.2.2.2.1, ⟨h.2.2.2.2.2.1.1, h.2.2.2.2.2.1.2.1, h.2.2.2.2.2.1.2.2.1, h.2.2.2.2.2.1.2.2.2.1, h.2.2.2.2.2.1.2.2.2.2.1, h.2.2.2.2.2.1.2.2.2.2.2.1, rfl⟩, h.2.2.2.2.2.2⟩
theorem co_cl_in0 (h : co_cl s m) (h0 : m 480 12 = 0) (x : Int) : co_cl (ck_up s 20 x 0) (co_inp m x) := by
  obtain ⟨h1, h2, h3, h4, h5, h6, h7, h8, h9⟩ := h
  have e12 : co_inp m x 480 12 = if 0 < m 480 12 then m 480 12 - 1 else 0 := rfl
  rw [if_neg (by omega)] at e12
  refine ⟨fun j a b => ?_, h2, h3, h4, h5, h6, ?_, h8, fun i a b => ?_⟩
  · have e : co_inp m x 496 j = if (496 : Int) = 496 ∧ j = x then (if 0 < m 480 12 then m 489 0 else 0) else m 496 j := rfl
    rw [e, if_neg (show ¬ 0 < m 480 12 by omega)]
    exact co_up_eq (h1 j a b)
  · rw [e12]
    show s 2 2 = 0
    omega
  · rw [e12] at b
    omega
theorem co_cl_in1 (h : co_cl s m) (h0 : 0 < m 480 12) (h64 : m 480 12 ≤ 64) (x : Int) : co_cl (ck_up (ck_up (ck_up s 2 1 ((s 2 1 + 1) % 64)) 2 2 (s 2 2 - 1)) 20 x (s 3 (s 2 1))) (co_inp m x) := by
  obtain ⟨h1, h2, h3, h4, h5, h6, h7, h8, h9⟩ := h
  have e12 : co_inp m x 480 12 = if 0 < m 480 12 then m 480 12 - 1 else 0 := rfl
  rw [if_pos h0] at e12
  have e0 : s 3 (s 2 1) = m 489 0 := by
    have := h9 0 (Int.le_refl _) h0
    rw [Int.add_zero, Int.emod_eq_of_lt h8.1 h8.2] at this
    exact this
  refine ⟨fun j a b => ?_, h2, h3, h4, h5, h6, ?_, ?_, fun i a b => ?_⟩
  · have e : co_inp m x 496 j = if (496 : Int) = 496 ∧ j = x then (if 0 < m 480 12 then m 489 0 else 0) else m 496 j := rfl
    rw [e, if_pos h0, e0]
    exact co_up_eq (s := ck_up (ck_up s 2 1 ((s 2 1 + 1) % 64)) 2 2 (s 2 2 - 1)) (h1 j a b)
  · rw [e12]
    show s 2 2 - 1 = _
    omega
  · show 0 ≤ (s 2 1 + 1) % 64 ∧ (s 2 1 + 1) % 64 < 64
    omega
  · rw [e12] at b
    show s 3 (((s 2 1 + 1) % 64 + i) % 64) = _
    have e : co_inp m x 489 i = if (489 : Int) = 489 ∧ 0 ≤ i ∧ i < m 480 12 - 1 then m 489 (i + 1) else m 489 i := rfl
    rw [e, if_pos ⟨rfl, a, b⟩]
    have := h9 (i + 1) (by omega) (by omega)
    have e2 : ((s 2 1 + 1) % 64 + i) % 64 = (s 2 1 + (i + 1)) % 64 := by omega
    rw [e2]
    exact this
end COCL
