/-! ## The run reads and writes the reference's cells alone -/
def co_mg (w m : ck_M) : ck_M := fun b j => if b < 480 then w b j else m b j
section COG
variable {w m : ck_M}
theorem co_mg_hi {b : Int} (h : 480 ≤ b) (j : Int) : co_mg w m b j = m b j := if_neg (by omega)
theorem co_mg_up {a : Int} (h : 480 ≤ a) (i v : Int) : ck_up (co_mg w m) a i v = co_mg w (ck_up m a i v) := by
  funext b j
  unfold co_mg ck_up
  by_cases q : b = a ∧ j = i
  · rw [if_pos q, if_neg (by omega), if_pos q]
  · rw [if_neg q, if_neg q]
theorem co_mg_stp (v : Int) : co_stp (co_mg w m) v = co_mg w (co_stp m v) := co_mg_up (by decide) _ _
theorem co_mg_cnt (nd b : Int) : co_cnt nd b (co_mg w m) = co_mg w (co_cnt nd b m) := by
  unfold co_cnt
  rw [co_mg_hi (by decide), co_mg_hi (by decide)]
  split
  · exact co_mg_up (by decide) _ _
  · exact co_mg_up (by decide) _ _
def co_mr (w : ck_M) (q : Int × ck_M) : Int × ck_M := (q.1, co_mg w q.2)
theorem co_mr_ite {P : Prop} [Decidable P] {a b : Int × ck_M} : co_mr w (if P then a else b) = if P then co_mr w a else co_mr w b := by
  split <;> rfl
theorem co_mg_chs (nd r i : Int) : co_chs nd r i (co_mg w m) = co_mr w (co_chs nd r i m) := by
  unfold co_chs
  rw [co_mg_hi (b := 497) (by decide), co_mg_hi (b := 498) (by decide), co_mr_ite, co_mr_ite, co_mr_ite]
  simp only [co_mg_cnt, co_mg_stp]
  rfl
theorem co_mg_inp (x : Int) : co_inp (co_mg w m) x = co_mg w (co_inp m x) := by
  funext b j
  have e : co_mg w (co_inp m x) b j = if b < 480 then w b j else co_inp m x b j := rfl
  rw [e]
  by_cases q : b < 480
  · rw [if_pos q]
    unfold co_inp
    rw [if_neg (by omega), if_neg (by omega), if_neg (by omega)]
    exact if_pos q
  · rw [if_neg q]
    unfold co_inp
    rw [co_mg_hi (b := 480) (by decide), co_mg_hi (b := 489) (by decide), co_mg_hi (b := 489) (by decide), co_mg_hi (b := b) (by omega)]
theorem co_mg_mk (r l : Int) : co_mk (co_mg w m) r l = co_mr w (co_mk m r l) := by
  unfold co_mk
  rw [co_mg_hi (b := 480) (by decide), co_mr_ite, co_mg_stp]
  have e : co_mkm (co_mg w m) r l = co_mg w (co_mkm m r l) := by
    funext b j
    have e : co_mg w (co_mkm m r l) b j = if b < 480 then w b j else co_mkm m r l b j := rfl
    rw [e]
    by_cases q : b < 480
    · rw [if_pos q]
      unfold co_mkm
      rw [if_neg (by omega), if_neg (by omega), if_neg (by omega), if_neg (by omega)]
      exact if_pos q
    · rw [if_neg q]
      unfold co_mkm
      rw [co_mg_hi (b := 480) (by decide), co_mg_hi (b := b) (by omega)]
  rw [e]
  rfl
theorem co_mg_act (t x y z nd : Int) : co_act t x y z nd (co_mg w m) = co_mr w (co_act t x y z nd m) := by
  unfold co_act
  simp only [co_mr_ite]
  simp only [co_mg_chs, co_mg_mk, co_mg_inp, co_mg_cnt, co_mg_stp, co_mg_hi (b := 480) (w := w) (m := m) (by decide), co_mg_hi (b := 496) (w := w) (m := m) (by decide), co_mg_hi (b := 497) (w := w) (m := m) (by decide), co_mg_hi (b := 498) (w := w) (m := m) (by decide), co_mg_hi (b := 499) (w := w) (m := m) (by decide), co_mg_up (show (480 : Int) ≤ 496 by decide), co_mg_up (show (480 : Int) ≤ 497 by decide), co_mg_up (show (480 : Int) ≤ 500 by decide), co_mg_up (show (480 : Int) ≤ 480 by decide), co_mg_up (show (480 : Int) ≤ 499 by decide), co_mr]
theorem co_mg_adv (n e : Int) : co_adv n (co_mg w m) e = co_mg w (co_adv n m e) := by
  unfold co_adv
  rw [co_mg_hi (b := 480) (by decide), co_mg_up (by decide), co_mg_up (by decide), co_mg_up (by decide)]
theorem co_mg_one (p : ck_M) (n : Int) (nd : Int → Int) : co_one p n nd (co_mg w m) = co_mr w (co_one p n nd m) := by
  unfold co_one
  rw [co_mg_hi (b := 480) (by decide)]
  have e : ∀ k, co_sm p (co_mg w m) k = co_sm p m k := fun k => by
    unfold co_sm
    rw [co_mg_hi (b := 496) (by decide)]
  unfold co_onk
  simp only [co_mr_ite]
  simp only [co_mg_act, co_mg_adv, co_mg_stp, e, co_mg_hi (b := 496) (w := w) (m := m) (by decide), co_mr]
theorem co_mg_rn (p : ck_M) (n : Int) (nd : Int → Int) : ∀ (i : Nat) (m : ck_M), co_rn p n nd i (co_mg w m) = co_mr w (co_rn p n nd i m) := by
  intro i
  induction i with
  | zero => intro m; rfl
  | succ i ih =>
    intro m
    unfold co_rn
    rw [co_mg_hi (b := 480) (by decide), co_mg_one]
    simp only [co_mr_ite]
    simp only [co_mr, ih]
end COG
/-- two memories of which the reference's cells are the same -/
theorem co_ag_mg {s m : ck_M} (h : ∀ b j, 480 ≤ b → s b j = m b j) : s = co_mg s m := by
  funext b j
  unfold co_mg
  split
  · rfl
  · exact h b j (by omega)
/-! ## A run, step by step -/
section CORN
variable {p : ck_M} {n : Int} {nd : Int → Int}
theorem co_rn_stop {i : Nat} {m : ck_M} (h : m 480 21 ≠ 0) : co_rn p n nd i m = (0, m) := by
  cases i with
  | zero => rfl
  | succ i => exact if_neg h
theorem co_rn_fail {i : Nat} {m : ck_M} (h : m 480 21 = 0) (h1 : (co_one p n nd m).1 = 0) : co_rn p n nd (i + 1) m = (0, (co_one p n nd m).2) := by
  refine (if_pos h).trans (if_pos h1)
theorem co_rn_go {i : Nat} {m : ck_M} (h : m 480 21 = 0) (h1 : (co_one p n nd m).1 = 1) : co_rn p n nd (i + 1) m = (1 + (co_rn p n nd i (co_one p n nd m).2).1, (co_rn p n nd i (co_one p n nd m).2).2) := by
  refine (if_pos h).trans (if_neg (by omega))
/-- v steps are done, and the memory is m -/
def co_rI (p : ck_M) (n : Int) (nd : Int → Int) (N : Int) (m0 : ck_M) (v : Int) (m : ck_M) : Prop := (0 ≤ v ∧ v ≤ N) ∧ co_rn p n nd N.toNat m0 = (v + (co_rn p n nd (N - v).toNat m).1, (co_rn p n nd (N - v).toNat m).2)
theorem co_rI_0 {N : Int} {m0 : ck_M} (h : 0 ≤ N) : co_rI p n nd N m0 0 m0 := by
  refine ⟨⟨Int.le_refl _, h⟩, ?_⟩
  rw [Int.sub_zero, Int.zero_add]
theorem co_rI_go {N v : Int} {m0 m : ck_M} (h : co_rI p n nd N m0 v m) (hv : v < N) (h0 : m 480 21 = 0) (h1 : (co_one p n nd m).1 = 1) : co_rI p n nd N m0 (v + 1) (co_one p n nd m).2 := by
  obtain ⟨a, b⟩ := h
  refine ⟨by omega, ?_⟩
  have e : (N - v).toNat = (N - (v + 1)).toNat + 1 := by omega
  rw [e, co_rn_go h0 h1] at b
  rw [b]
  simp only
  rw [Int.add_assoc]
theorem co_rI_fail {N v : Int} {m0 m : ck_M} (h : co_rI p n nd N m0 v m) (hv : v < N) (h0 : m 480 21 = 0) (h1 : (co_one p n nd m).1 = 0) : co_rn p n nd N.toNat m0 = (v, (co_one p n nd m).2) := by
  obtain ⟨a, b⟩ := h
  have e : (N - v).toNat = (N - (v + 1)).toNat + 1 := by omega
  rw [e, co_rn_fail h0 h1] at b
  rw [b]
  simp only
  rw [Int.add_zero]
theorem co_rI_stop {N v : Int} {m0 m : ck_M} (h : co_rI p n nd N m0 v m) (h0 : m 480 21 ≠ 0) : co_rn p n nd N.toNat m0 = (v, m) := by
  obtain ⟨a, b⟩ := h
  rw [co_rn_stop h0] at b
  rw [b]
  simp only
  rw [Int.add_zero]
theorem co_rI_end {N v : Int} {m0 m : ck_M} (h : co_rI p n nd N m0 v m) (h0 : N ≤ v) : co_rn p n nd N.toNat m0 = (v, m) := by
  obtain ⟨a, b⟩ := h
  have e : (N - v).toNat = 0 := by omega
  rw [e] at b
  rw [b]
  show (v + 0, m) = (v, m)
  rw [Int.add_zero]
end CORN
