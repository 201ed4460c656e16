/-! ## The run, as the reference makes it -/
abbrev co_nb (v : Int) : Prop := -1000000 ≤ v ∧ v ≤ 1000000
def co_stp (m : ck_M) (w : Int) : ck_M := ck_up m 480 21 (1 + w)
def co_cnt (nd b : Int) (m : ck_M) : ck_M := if 0 < ck_and nd b then ck_up m 480 24 (m 480 24 + 1) else ck_up m 480 23 (m 480 23 + 1)
def co_chs (nd r i : Int) (m : ck_M) : Int × ck_M := if m 497 r = -1 then (0, co_stp (co_cnt nd 1 m) 1) else if i < 0 then (0, co_stp (co_cnt nd 2 (co_cnt nd 1 m)) 2) else if i < m 498 (m 497 r) then (1, co_cnt nd 4 (co_cnt nd 2 (co_cnt nd 1 m))) else (0, co_stp (co_cnt nd 4 (co_cnt nd 2 (co_cnt nd 1 m))) 3)
def co_inp (m : ck_M) (x : Int) : ck_M := fun b j => if b = 496 ∧ j = x then (if 0 < m 480 12 then m 489 0 else 0) else if b = 489 ∧ 0 ≤ j ∧ j < m 480 12 - 1 then m 489 (j + 1) else if b = 480 ∧ j = 12 then (if 0 < m 480 12 then m 480 12 - 1 else 0) else m b j
def co_mkm (m : ck_M) (r l : Int) : ck_M := fun b j => if b = 480 ∧ j = 26 then m 480 26 + 1 else if b = 497 ∧ j = r then m 480 26 else if b = 499 ∧ 40 * m 480 26 ≤ j ∧ j < 40 * m 480 26 + l then 0 else if b = 498 ∧ j = m 480 26 then l else m b j
def co_mk (m : ck_M) (r l : Int) : Int × ck_M := if (0 ≤ l ∧ l ≤ 40) ∧ m 480 26 ≠ 40 then (1, co_mkm m r l) else (0, co_stp m 5)
def co_act (t x y z nd : Int) (m : ck_M) : Int × ck_M := if t = 0 then (1, ck_up m 496 x y) else if t = 1 then (if co_nb (m 496 y + z) then (1, ck_up m 496 x (m 496 y + z)) else (0, co_stp m 4)) else if t = 2 then (1, co_inp m x) else if t = 3 then (if m 497 y = -1 then (0, co_stp (co_cnt nd 1 m) 1) else (1, ck_up (co_cnt nd 1 m) 496 x (m 498 (m 497 y)))) else if t = 4 then (if (co_chs nd y (m 496 z) m).1 = 0 then co_chs nd y (m 496 z) m else (1, ck_up (co_chs nd y (m 496 z) m).2 496 x (m 499 (40 * m 497 y + m 496 z)))) else if t = 5 then (if (co_chs nd x (m 496 y) m).1 = 0 then co_chs nd x (m 496 y) m else (1, ck_up (co_chs nd x (m 496 y) m).2 499 (40 * m 497 x + m 496 y) (m 496 z))) else if t = 6 then co_mk m x (m 496 y) else if t = 7 then (1, ck_up m 497 x (-1)) else if t = 8 then (1, ck_up m 497 x (m 497 y)) else if t = 13 then (1, ck_up (ck_up m 500 (m 480 25 % 16) (m 496 x)) 480 25 (m 480 25 + 1)) else (1, m)
def co_adv (n : Int) (m : ck_M) (e : Int) : ck_M := ck_up (ck_up (ck_up m 480 20 e) 480 22 (m 480 22 + 1)) 480 21 (if e = n then 1 else 0)
def co_sm (p m : ck_M) (k : Int) : Int := (if p 8 k = 10 then 0 else m 496 (p 8 k)) + p 9 k
def co_onk (p : ck_M) (n : Int) (nd : Int → Int) (k : Int) (m : ck_M) : Int × ck_M := if p 6 k = 9 ∨ p 6 k = 12 then (if co_nb (co_sm p m k) then (1, co_adv n m (if m 496 (p 7 k) < co_sm p m k then k + 1 else (if p 11 k = -1 then p 12 k else p 11 k) + 1)) else (0, co_stp m 4)) else if p 6 k = 10 then (1, co_adv n m (p 12 (p 10 k) + 1)) else if p 6 k = 11 then (1, co_adv n m (if p 6 (p 10 k) = 12 then p 10 k else k + 1)) else if (co_act (p 6 k) (p 7 k) (p 8 k) (p 9 k) (nd k) m).1 = 0 then co_act (p 6 k) (p 7 k) (p 8 k) (p 9 k) (nd k) m else (1, co_adv n (co_act (p 6 k) (p 7 k) (p 8 k) (p 9 k) (nd k) m).2 (k + 1))
def co_one (p : ck_M) (n : Int) (nd : Int → Int) (m : ck_M) : Int × ck_M := co_onk p n nd (m 480 20) m
def co_rn (p : ck_M) (n : Int) (nd : Int → Int) : Nat → ck_M → Int × ck_M
  | 0, m => (0, m)
  | i + 1, m => if m 480 21 = 0 then (if (co_one p n nd m).1 = 0 then (0, (co_one p n nd m).2) else (1 + (co_rn p n nd i (co_one p n nd m).2).1, (co_rn p n nd i (co_one p n nd m).2).2)) else (0, m)
/-! ## What holds all along a run -/
def co_md (c : Int) (m : ck_M) : Prop := (∀ j, 0 ≤ j → j < 10 → co_nb (m 496 j)) ∧ (0 ≤ m 480 26 ∧ m 480 26 ≤ 40) ∧ (∀ r, 0 ≤ r → r < 4 → m 497 r = -1 ∨ (0 ≤ m 497 r ∧ m 497 r < m 480 26)) ∧ (∀ a, 0 ≤ a → a < m 480 26 → 0 ≤ m 498 a ∧ m 498 a ≤ 40) ∧ (∀ j, 0 ≤ j → j < 1600 → co_nb (m 499 j)) ∧ (∀ j, 0 ≤ j → j < 16 → co_nb (m 500 j)) ∧ ((0 ≤ m 480 12 ∧ m 480 12 ≤ 64) ∧ ∀ j, 0 ≤ j → j < m 480 12 → co_nb (m 489 j)) ∧ (0 ≤ m 480 22 ∧ m 480 22 ≤ c) ∧ (0 ≤ m 480 23 ∧ m 480 23 ≤ c) ∧ (0 ≤ m 480 24 ∧ m 480 24 ≤ c) ∧ (0 ≤ m 480 25 ∧ m 480 25 ≤ c)
def co_mi (p : ck_M) (n : Int) (X : Int → ck_D) (c : Int) (m : ck_M) : Prop := co_md c m ∧ (0 ≤ m 480 20 ∧ m 480 20 ≤ n) ∧ (0 ≤ m 480 21 ∧ m 480 21 ≤ 6) ∧ (m 480 21 = 0 → m 480 20 < n ∧ co_sd (X (m 480 20)) (m 496) (m 497) (m 498))
/-- what a run leaves as it is -/
def co_rf (m m' : ck_M) : Prop := ∀ b j, (b < 480 ∨ (480 < b ∧ b < 489) ∨ (489 < b ∧ b < 496) ∨ 500 < b ∨ (b = 480 ∧ (j < 12 ∨ (12 < j ∧ j < 20) ∨ 26 < j))) → m' b j = m b j
theorem co_rf_tr {a b c : ck_M} (h : co_rf a b) (h2 : co_rf b c) : co_rf a c := fun x j q => (h2 x j q).trans (h x j q)
section COM
variable {c : Int} {m : ck_M}
theorem co_md_up {c' : Int} (h : co_md c m) (hc : c ≤ c') : co_md c' m := by
  obtain ⟨h1, h2, h3, h4, h5, h6, h7, h8, h9, ha, hb⟩ := h
  exact ⟨h1, h2, h3, h4, h5, h6, h7, by omega, by omega, by omega, by omega⟩
theorem co_cnt_o (nd q : Int) {b j : Int} (h : b ≠ 480 ∨ (j ≠ 23 ∧ j ≠ 24)) : co_cnt nd q m b j = m b j := by
  unfold co_cnt
  split
  · exact if_neg (by omega)
  · exact if_neg (by omega)
theorem co_cnt_f (nd q b : Int) (h : b ≠ 480) : co_cnt nd q m b = m b := funext (fun _ => co_cnt_o nd q (Or.inl h))
theorem co_md_cnt (h : co_md c m) (nd q : Int) : co_md (c + 1) (co_cnt nd q m) := by
  obtain ⟨h1, h2, h3, h4, h5, h6, h7, h8, h9, ha, hb⟩ := h
  unfold co_md
  rw [co_cnt_f nd q 496 (by decide), co_cnt_f nd q 497 (by decide), co_cnt_f nd q 498 (by decide), co_cnt_f nd q 499 (by decide), co_cnt_f nd q 500 (by decide), co_cnt_f nd q 489 (by decide), co_cnt_o nd q (j := 26) (by omega), co_cnt_o nd q (j := 12) (by omega), co_cnt_o nd q (j := 22) (by omega), co_cnt_o nd q (j := 25) (by omega)]
  refine ⟨h1, h2, h3, h4, h5, h6, h7, by omega, ?_, ?_, by omega⟩
  · unfold co_cnt
    split
    · have : ck_up m 480 24 (m 480 24 + 1) 480 23 = m 480 23 := rfl
      omega
    · have : ck_up m 480 23 (m 480 23 + 1) 480 23 = m 480 23 + 1 := rfl
      omega
  · unfold co_cnt
    split
    · have : ck_up m 480 24 (m 480 24 + 1) 480 24 = m 480 24 + 1 := rfl
      omega
    · have : ck_up m 480 23 (m 480 23 + 1) 480 24 = m 480 24 := rfl
      omega
theorem co_md_stp (h : co_md c m) (w : Int) : co_md c (co_stp m w) := h
theorem co_md_num (h : co_md c m) {x v : Int} (hv : co_nb v) : co_md c (ck_up m 496 x v) := by
  obtain ⟨h1, h2⟩ := h
  refine ⟨fun j a b => ?_, h2⟩
  unfold ck_up
  split
  · exact hv
  · exact h1 j a b
theorem co_md_cell (h : co_md c m) {x v : Int} (hv : co_nb v) : co_md c (ck_up m 499 x v) := by
  obtain ⟨h1, h2, h3, h4, h5, h6⟩ := h
  refine ⟨h1, h2, h3, h4, fun j a b => ?_, h6⟩
  unfold ck_up
  split
  · exact hv
  · exact h5 j a b
theorem co_md_arr (h : co_md c m) {x v : Int} (hv : v = -1 ∨ (0 ≤ v ∧ v < m 480 26)) : co_md c (ck_up m 497 x v) := by
  obtain ⟨h1, h2, h3, h4⟩ := h
  refine ⟨h1, h2, fun j a b => ?_, h4⟩
  have e : ck_up m 497 x v 480 26 = m 480 26 := rfl
  rw [e]
  unfold ck_up
  split
  · exact hv
  · exact h3 j a b
theorem co_md_out (h : co_md c m) {i v : Int} (hv : co_nb v) : co_md (c + 1) (ck_up (ck_up m 500 i v) 480 25 (m 480 25 + 1)) := by
  obtain ⟨h1, h2, h3, h4, h5, h6, h7, h8, h9, ha, hb⟩ := h
  have e : ck_up (ck_up m 500 i v) 480 25 (m 480 25 + 1) 480 25 = m 480 25 + 1 := rfl
  refine ⟨h1, h2, h3, h4, h5, fun j a b => ?_, h7, ⟨h8.1, Int.le_trans h8.2 (by omega)⟩, ⟨h9.1, Int.le_trans h9.2 (by omega)⟩, ⟨ha.1, Int.le_trans ha.2 (by omega)⟩, by omega⟩
  have e2 : ck_up (ck_up m 500 i v) 480 25 (m 480 25 + 1) 500 j = if (500 : Int) = 500 ∧ j = i then v else m 500 j := rfl
  rw [e2]
  split
  · exact hv
  · exact h6 j a b
theorem co_md_inp (h : co_md c m) (x : Int) : co_md c (co_inp m x) := by
  obtain ⟨h1, h2, h3, h4, h5, h6, ⟨h7, h7'⟩, h8⟩ := h
  have e12 : co_inp m x 480 12 = if 0 < m 480 12 then m 480 12 - 1 else 0 := rfl
  have e496 : ∀ j, co_inp m x 496 j = if (496 : Int) = 496 ∧ j = x then (if 0 < m 480 12 then m 489 0 else 0) else m 496 j := fun j => rfl
  have e489 : ∀ j, co_inp m x 489 j = if (489 : Int) = 489 ∧ 0 ≤ j ∧ j < m 480 12 - 1 then m 489 (j + 1) else m 489 j := fun j => rfl
  refine ⟨fun j a b => ?_, h2, h3, h4, h5, h6, ⟨?_, fun j a b => ?_⟩, h8⟩
  · rw [e496]
    split
    · split
      · exact h7' 0 (by omega) (by omega)
      · exact ⟨by decide, by decide⟩
    · exact h1 j a b
  · rw [e12]; split <;> omega
  · rw [e12] at b
    rw [e489]
    split at b
    · rw [if_pos ⟨rfl, a, b⟩]
      exact h7' _ (by omega) (by omega)
    · omega
theorem co_md_mk (h : co_md c m) {r l : Int} (hl : 0 ≤ l ∧ l ≤ 40) (h26 : m 480 26 ≠ 40) : co_md c (co_mkm m r l) := by
  obtain ⟨h1, h2, h3, h4, h5, h6⟩ := h
  have e26 : co_mkm m r l 480 26 = m 480 26 + 1 := rfl
  have e497 : ∀ j, co_mkm m r l 497 j = if (497 : Int) = 497 ∧ j = r then m 480 26 else m 497 j := fun j => rfl
  have e498 : ∀ j, co_mkm m r l 498 j = if (498 : Int) = 498 ∧ j = m 480 26 then l else m 498 j := fun j => rfl
  have e499 : ∀ j, co_mkm m r l 499 j = if (499 : Int) = 499 ∧ 40 * m 480 26 ≤ j ∧ j < 40 * m 480 26 + l then 0 else m 499 j := fun j => rfl
  refine ⟨h1, by omega, fun j a b => ?_, fun j a b => ?_, fun j a b => ?_, h6⟩
  · rw [e26, e497]
    have := h3 j a b
    split <;> omega
  · rw [e26] at b
    rw [e498]
    split
    · exact hl
    · rename_i q
      exact h4 j a (by omega)
  · rw [e499]
    split
    · exact ⟨by decide, by decide⟩
    · exact h5 j a b
theorem co_md_ln (h : co_md c m) (r : Int) (a : 0 ≤ r) (b : r < 4) : 0 ≤ co_ln (m 497) (m 498) r := by
  obtain ⟨h1, h2, h3, h4, h5⟩ := h
  unfold co_ln
  split
  · exact Int.le_refl _
  · rename_i q
    have := h3 r a b
    exact (h4 _ (by omega) (by omega)).1
/-- what an act of a plain statement does -/
def co_aok (c : Int) (m : ck_M) (g : ck_D) (q : Int × ck_M) : Prop := co_md (c + 3) q.2 ∧ co_rf m q.2 ∧ q.2 480 20 = m 480 20 ∧ q.2 480 22 = m 480 22 ∧ ((q.1 = 1 ∧ q.2 480 21 = m 480 21 ∧ co_sd g (q.2 496) (q.2 497) (q.2 498)) ∨ (q.1 = 0 ∧ 2 ≤ q.2 480 21 ∧ q.2 480 21 ≤ 6))
theorem co_chs_ok (h : co_md c m) {nd r i : Int} (r0 : 0 ≤ r) (r1 : r < 4) : co_md (c + 3) (co_chs nd r i m).2 ∧ (∀ b j, b ≠ 480 ∨ (j ≠ 21 ∧ j ≠ 23 ∧ j ≠ 24) → (co_chs nd r i m).2 b j = m b j) ∧ (((co_chs nd r i m).1 = 1 ∧ (co_chs nd r i m).2 480 21 = m 480 21 ∧ m 497 r ≠ -1 ∧ 0 ≤ i ∧ i < m 498 (m 497 r)) ∨ ((co_chs nd r i m).1 = 0 ∧ 2 ≤ (co_chs nd r i m).2 480 21 ∧ (co_chs nd r i m).2 480 21 ≤ 6)) := by
  have c1 := co_md_cnt h nd 1
  have c2 := co_md_cnt c1 nd 2
  have c3 := co_md_cnt c2 nd 4
  unfold co_chs
  split
  · refine ⟨co_md_up c1 (by omega), fun b j q => ?_, Or.inr ⟨rfl, (by decide : (2 : Int) ≤ 1 + 1), (by decide : (1 : Int) + 1 ≤ 6)⟩⟩
    refine (if_neg (by omega)).trans (co_cnt_o _ _ (by omega))
  · split
    · refine ⟨co_md_up c2 (by omega), fun b j q => ?_, Or.inr ⟨rfl, (by decide : (2 : Int) ≤ 1 + 2), (by decide : (1 : Int) + 2 ≤ 6)⟩⟩
      refine (if_neg (by omega)).trans ((co_cnt_o _ _ (by omega)).trans (co_cnt_o _ _ (by omega)))
    · split
      · refine ⟨co_md_up c3 (by omega), fun b j q => (co_cnt_o _ _ (by omega)).trans ((co_cnt_o _ _ (by omega)).trans (co_cnt_o _ _ (by omega))), Or.inl ⟨rfl, ?_, by assumption, by omega, by assumption⟩⟩
        exact (co_cnt_o _ _ (by omega)).trans ((co_cnt_o _ _ (by omega)).trans (co_cnt_o _ _ (by omega)))
      · refine ⟨co_md_up c3 (by omega), fun b j q => ?_, Or.inr ⟨rfl, (by decide : (2 : Int) ≤ 1 + 3), (by decide : (1 : Int) + 3 ≤ 6)⟩⟩
        refine (if_neg (by omega)).trans ((co_cnt_o _ _ (by omega)).trans ((co_cnt_o _ _ (by omega)).trans (co_cnt_o _ _ (by omega))))
end COM
