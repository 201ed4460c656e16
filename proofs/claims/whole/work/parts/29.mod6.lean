theorem ck_mid {d : Nat} {md : ck_MD} {T : ck_F → Prop} {X : ck_F} (pc : Nat) (ls : (Option ck_PV × Option ck_PV × Option ck_PV) → ck_Ls) (J : ck_M → Prop) (h2 : ∀ u σ, J σ → ck_go d md (pc, ls u, [], σ) T) (h1 : (∀ u σ, J σ → ck_go d md (pc, ls u, [], σ) T) → ck_go d md X T) : ck_go d md X T := h1 h2
section CKU
variable {s : ck_M} {f : ck_Q} {n r x : Int}
theorem ck_u_K (h : ck_mv (s 490) = f) (h0 : 0 ≤ n) (h1 : n < 10) : ck_mv ((ck_up s 490 (0 + n) x) 490) = ck_P (fun m => if m = n then x else ck_K f m) (ck_I f) (ck_L f) (ck_V f) (ck_T f) (ck_G f) (ck_H f) := by
  refine ck_P_ext (fun n a0 a1 => ?_) (fun n a0 a1 => ?_) (fun n a0 a1 => ?_) (fun q b0 b1 => ?_) (fun q b0 b1 => ?_) (fun q b0 b1 => ?_) (fun n q a0 a1 b0 b1 => ?_)
  · rw [← ck_y_K h a0 a1]
    simp only [ck_up, true_and]
    (repeat' split) <;> first | rfl | omega
  · rw [← ck_y_I h a0 a1]
    simp only [ck_up, true_and]
    (repeat' split) <;> first | rfl | omega
  · rw [← ck_y_L h a0 a1]
    simp only [ck_up, true_and]
    (repeat' split) <;> first | rfl | omega
  · rw [← ck_y_V h b0 b1]
    simp only [ck_up, true_and]
    (repeat' split) <;> first | rfl | omega
  · rw [← ck_y_T h b0 b1]
    simp only [ck_up, true_and]
    (repeat' split) <;> first | rfl | omega
  · rw [← ck_y_G h b0 b1]
    simp only [ck_up, true_and]
    (repeat' split) <;> first | rfl | omega
  · rw [← ck_y_H h a0 a1 b0 b1]
    simp only [ck_up, true_and]
    (repeat' split) <;> first | rfl | omega
theorem ck_u_I (h : ck_mv (s 490) = f) (h0 : 0 ≤ n) (h1 : n < 10) : ck_mv ((ck_up s 490 (10 + n) x) 490) = ck_P (ck_K f) (fun m => if m = n then x else ck_I f m) (ck_L f) (ck_V f) (ck_T f) (ck_G f) (ck_H f) := by
  refine ck_P_ext (fun n a0 a1 => ?_) (fun n a0 a1 => ?_) (fun n a0 a1 => ?_) (fun q b0 b1 => ?_) (fun q b0 b1 => ?_) (fun q b0 b1 => ?_) (fun n q a0 a1 b0 b1 => ?_)
  · rw [← ck_y_K h a0 a1]
    simp only [ck_up, true_and]
    (repeat' split) <;> first | rfl | omega
  · rw [← ck_y_I h a0 a1]
    simp only [ck_up, true_and]
    (repeat' split) <;> first | rfl | omega
  · rw [← ck_y_L h a0 a1]
    simp only [ck_up, true_and]
    (repeat' split) <;> first | rfl | omega
  · rw [← ck_y_V h b0 b1]
    simp only [ck_up, true_and]
    (repeat' split) <;> first | rfl | omega
  · rw [← ck_y_T h b0 b1]
    simp only [ck_up, true_and]
    (repeat' split) <;> first | rfl | omega
  · rw [← ck_y_G h b0 b1]
    simp only [ck_up, true_and]
    (repeat' split) <;> first | rfl | omega
  · rw [← ck_y_H h a0 a1 b0 b1]
    simp only [ck_up, true_and]
    (repeat' split) <;> first | rfl | omega
theorem ck_u_L (h : ck_mv (s 490) = f) (h0 : 0 ≤ n) (h1 : n < 10) : ck_mv ((ck_up s 490 (20 + n) x) 490) = ck_P (ck_K f) (ck_I f) (fun m => if m = n then x else ck_L f m) (ck_V f) (ck_T f) (ck_G f) (ck_H f) := by
  refine ck_P_ext (fun n a0 a1 => ?_) (fun n a0 a1 => ?_) (fun n a0 a1 => ?_) (fun q b0 b1 => ?_) (fun q b0 b1 => ?_) (fun q b0 b1 => ?_) (fun n q a0 a1 b0 b1 => ?_)
  · rw [← ck_y_K h a0 a1]
    simp only [ck_up, true_and]
    (repeat' split) <;> first | rfl | omega
  · rw [← ck_y_I h a0 a1]
    simp only [ck_up, true_and]
    (repeat' split) <;> first | rfl | omega
  · rw [← ck_y_L h a0 a1]
    simp only [ck_up, true_and]
    (repeat' split) <;> first | rfl | omega
  · rw [← ck_y_V h b0 b1]
    simp only [ck_up, true_and]
    (repeat' split) <;> first | rfl | omega
  · rw [← ck_y_T h b0 b1]
    simp only [ck_up, true_and]
    (repeat' split) <;> first | rfl | omega
  · rw [← ck_y_G h b0 b1]
    simp only [ck_up, true_and]
    (repeat' split) <;> first | rfl | omega
  · rw [← ck_y_H h a0 a1 b0 b1]
    simp only [ck_up, true_and]
    (repeat' split) <;> first | rfl | omega
theorem ck_u_V (h : ck_mv (s 490) = f) (h0 : 0 ≤ r) (h1 : r < 4) : ck_mv ((ck_up s 490 (30 + r) x) 490) = ck_P (ck_K f) (ck_I f) (ck_L f) (fun m => if m = r then x else ck_V f m) (ck_T f) (ck_G f) (ck_H f) := by
  refine ck_P_ext (fun n a0 a1 => ?_) (fun n a0 a1 => ?_) (fun n a0 a1 => ?_) (fun q b0 b1 => ?_) (fun q b0 b1 => ?_) (fun q b0 b1 => ?_) (fun n q a0 a1 b0 b1 => ?_)
  · rw [← ck_y_K h a0 a1]
    simp only [ck_up, true_and]
    (repeat' split) <;> first | rfl | omega
  · rw [← ck_y_I h a0 a1]
    simp only [ck_up, true_and]
    (repeat' split) <;> first | rfl | omega
  · rw [← ck_y_L h a0 a1]
    simp only [ck_up, true_and]
    (repeat' split) <;> first | rfl | omega
  · rw [← ck_y_V h b0 b1]
    simp only [ck_up, true_and]
    (repeat' split) <;> first | rfl | omega
  · rw [← ck_y_T h b0 b1]
    simp only [ck_up, true_and]
    (repeat' split) <;> first | rfl | omega
  · rw [← ck_y_G h b0 b1]
    simp only [ck_up, true_and]
    (repeat' split) <;> first | rfl | omega
  · rw [← ck_y_H h a0 a1 b0 b1]
    simp only [ck_up, true_and]
    (repeat' split) <;> first | rfl | omega
theorem ck_u_T (h : ck_mv (s 490) = f) (h0 : 0 ≤ r) (h1 : r < 4) : ck_mv ((ck_up s 490 (34 + r) x) 490) = ck_P (ck_K f) (ck_I f) (ck_L f) (ck_V f) (fun m => if m = r then x else ck_T f m) (ck_G f) (ck_H f) := by
  refine ck_P_ext (fun n a0 a1 => ?_) (fun n a0 a1 => ?_) (fun n a0 a1 => ?_) (fun q b0 b1 => ?_) (fun q b0 b1 => ?_) (fun q b0 b1 => ?_) (fun n q a0 a1 b0 b1 => ?_)
  · rw [← ck_y_K h a0 a1]
    simp only [ck_up, true_and]
    (repeat' split) <;> first | rfl | omega
  · rw [← ck_y_I h a0 a1]
    simp only [ck_up, true_and]
    (repeat' split) <;> first | rfl | omega
  · rw [← ck_y_L h a0 a1]
    simp only [ck_up, true_and]
    (repeat' split) <;> first | rfl | omega
  · rw [← ck_y_V h b0 b1]
    simp only [ck_up, true_and]
    (repeat' split) <;> first | rfl | omega
  · rw [← ck_y_T h b0 b1]
    simp only [ck_up, true_and]
    (repeat' split) <;> first | rfl | omega
  · rw [← ck_y_G h b0 b1]
    simp only [ck_up, true_and]
    (repeat' split) <;> first | rfl | omega
  · rw [← ck_y_H h a0 a1 b0 b1]
    simp only [ck_up, true_and]
    (repeat' split) <;> first | rfl | omega
theorem ck_u_G (h : ck_mv (s 490) = f) (h0 : 0 ≤ r) (h1 : r < 4) : ck_mv ((ck_up s 490 (38 + r) x) 490) = ck_P (ck_K f) (ck_I f) (ck_L f) (ck_V f) (ck_T f) (fun m => if m = r then x else ck_G f m) (ck_H f) := by
  refine ck_P_ext (fun n a0 a1 => ?_) (fun n a0 a1 => ?_) (fun n a0 a1 => ?_) (fun q b0 b1 => ?_) (fun q b0 b1 => ?_) (fun q b0 b1 => ?_) (fun n q a0 a1 b0 b1 => ?_)
  · rw [← ck_y_K h a0 a1]
    simp only [ck_up, true_and]
    (repeat' split) <;> first | rfl | omega
  · rw [← ck_y_I h a0 a1]
    simp only [ck_up, true_and]
    (repeat' split) <;> first | rfl | omega
  · rw [← ck_y_L h a0 a1]
    simp only [ck_up, true_and]
    (repeat' split) <;> first | rfl | omega
  · rw [← ck_y_V h b0 b1]
    simp only [ck_up, true_and]
    (repeat' split) <;> first | rfl | omega
  · rw [← ck_y_T h b0 b1]
    simp only [ck_up, true_and]
    (repeat' split) <;> first | rfl | omega
  · rw [← ck_y_G h b0 b1]
    simp only [ck_up, true_and]
    (repeat' split) <;> first | rfl | omega
  · rw [← ck_y_H h a0 a1 b0 b1]
    simp only [ck_up, true_and]
    (repeat' split) <;> first | rfl | omega
theorem ck_u_H (h : ck_mv (s 490) = f) (h0 : 0 ≤ n) (h1 : n < 10) (h2 : 0 ≤ r) (h3 : r < 4) : ck_mv ((ck_up s 490 (42 + 4 * n + r) x) 490) = ck_P (ck_K f) (ck_I f) (ck_L f) (ck_V f) (ck_T f) (ck_G f) (fun m q => if m = n ∧ q = r then x else ck_H f m q) := by
  refine ck_P_ext (fun n a0 a1 => ?_) (fun n a0 a1 => ?_) (fun n a0 a1 => ?_) (fun q b0 b1 => ?_) (fun q b0 b1 => ?_) (fun q b0 b1 => ?_) (fun n q a0 a1 b0 b1 => ?_)
  · rw [← ck_y_K h a0 a1]
    simp only [ck_up, true_and]
    (repeat' split) <;> first | rfl | omega
  · rw [← ck_y_I h a0 a1]
    simp only [ck_up, true_and]
    (repeat' split) <;> first | rfl | omega
  · rw [← ck_y_L h a0 a1]
    simp only [ck_up, true_and]
    (repeat' split) <;> first | rfl | omega
  · rw [← ck_y_V h b0 b1]
    simp only [ck_up, true_and]
    (repeat' split) <;> first | rfl | omega
  · rw [← ck_y_T h b0 b1]
    simp only [ck_up, true_and]
    (repeat' split) <;> first | rfl | omega
  · rw [← ck_y_G h b0 b1]
    simp only [ck_up, true_and]
    (repeat' split) <;> first | rfl | omega
  · rw [← ck_y_H h a0 a1 b0 b1]
    simp only [ck_up, true_and]
    (repeat' split) <;> first | rfl | omega
end CKU
theorem ck_f1_up {σ s : ck_M} {a i x : Int} (h : ck_f1 σ s a) : ck_f1 σ (ck_up s a i x) a := by
  intro b j hb
  unfold ck_up
  rw [if_neg (by rintro ⟨q, -⟩; exact hb q)]
  exact h b j hb
def ck_jK (g f : ck_Q) (n : Int) : Int := if ck_K f n = 1 ∧ ck_K g n = 1 ∧ ck_I f n = ck_I g n then 1 else 0
def ck_qJn (a b h w : Int) (g f : ck_Q) : ck_Q := ck_P (fun n => if n < a then ck_jK g f n else ck_K f n) (ck_I f) (fun n => if n < b then ck_wo (ck_L f n) (ck_L g n) 0 else ck_L f n) (ck_V f) (ck_T f) (ck_G f) (fun n q => if n < h ∨ (n = h ∧ q < w) then ck_wo (ck_H f n q) (ck_H g n q) 1 else ck_H f n q)
def ck_qJr (v : Int) (g : ck_Q) (k : Int) (f : ck_Q) : ck_Q := ck_P (ck_jK g f) (ck_I f) (fun n => ck_wo (ck_L f n) (ck_L g n) 0) (fun q => if q < v then (if ck_V f q = ck_V g q then ck_V f q else 100 + 4 * k + q) else ck_V f q) (fun q => if q < v then (if ck_T f q = 1 ∧ ck_T g q = 1 then 1 else 0) else ck_T f q) (fun q => if q < v then (if ck_V f q = ck_V g q then ck_G f q else 1000000000) else ck_G f q) (fun n q => ck_wo (ck_H f n q) (ck_H g n q) 1)
/-- the join of a row with the row g, at the statement k -/
def ck_qJ (g : ck_Q) (k : Int) (f : ck_Q) : ck_Q := ck_qJr 4 g k f
theorem ck_qJn_K {v : Int} {f g : ck_Q} : ck_P (fun n => if n = v then ck_jK g f v else ck_K (ck_qJn v v v 0 g f) n) (ck_I (ck_qJn v v v 0 g f)) (ck_L (ck_qJn v v v 0 g f)) (ck_V (ck_qJn v v v 0 g f)) (ck_T (ck_qJn v v v 0 g f)) (ck_G (ck_qJn v v v 0 g f)) (ck_H (ck_qJn v v v 0 g f)) = ck_qJn (v + 1) v v 0 g f := by
  unfold ck_qJn
  refine ck_P_ext (fun n a0 a1 => ?_) (fun n a0 a1 => ?_) (fun n a0 a1 => ?_) (fun q b0 b1 => ?_) (fun q b0 b1 => ?_) (fun q b0 b1 => ?_) (fun n q a0 a1 b0 b1 => ?_)
  · rw [ck_P_K a0 a1]
    by_cases hn : n = v
    · subst hn
      rw [if_pos rfl, if_pos (by omega)]
    · (repeat' split) <;> first | rfl | omega
  · rw [ck_P_I a0 a1]
  · rw [ck_P_L a0 a1]
  · rw [ck_P_V b0 b1]
  · rw [ck_P_T b0 b1]
  · rw [ck_P_G b0 b1]
  · rw [ck_P_H a0 a1 b0 b1]
theorem ck_qJn_Kx {v x : Int} {f g : ck_Q} (hx : x = ck_jK g f v) : ck_P (fun n => if n = v then x else ck_K (ck_qJn v v v 0 g f) n) (ck_I (ck_qJn v v v 0 g f)) (ck_L (ck_qJn v v v 0 g f)) (ck_V (ck_qJn v v v 0 g f)) (ck_T (ck_qJn v v v 0 g f)) (ck_G (ck_qJn v v v 0 g f)) (ck_H (ck_qJn v v v 0 g f)) = ck_qJn (v + 1) v v 0 g f := by
  subst hx
  exact ck_qJn_K
theorem ck_qJn_L {v : Int} {f g : ck_Q} : ck_P (ck_K (ck_qJn (v + 1) v v 0 g f)) (ck_I (ck_qJn (v + 1) v v 0 g f)) (fun n => if n = v then ck_wo (ck_L f v) (ck_L g v) 0 else ck_L (ck_qJn (v + 1) v v 0 g f) n) (ck_V (ck_qJn (v + 1) v v 0 g f)) (ck_T (ck_qJn (v + 1) v v 0 g f)) (ck_G (ck_qJn (v + 1) v v 0 g f)) (ck_H (ck_qJn (v + 1) v v 0 g f)) = ck_qJn (v + 1) (v + 1) v 0 g f := by
  unfold ck_qJn
  refine ck_P_ext (fun n a0 a1 => ?_) (fun n a0 a1 => ?_) (fun n a0 a1 => ?_) (fun q b0 b1 => ?_) (fun q b0 b1 => ?_) (fun q b0 b1 => ?_) (fun n q a0 a1 b0 b1 => ?_)
  · rw [ck_P_K a0 a1]
  · rw [ck_P_I a0 a1]
  · rw [ck_P_L a0 a1]
    by_cases hn : n = v
    · subst hn
      rw [if_pos rfl, if_pos (by omega)]
    · (repeat' split) <;> first | rfl | omega
  · rw [ck_P_V b0 b1]
  · rw [ck_P_T b0 b1]
  · rw [ck_P_G b0 b1]
  · rw [ck_P_H a0 a1 b0 b1]
theorem ck_qJn_H {v w : Int} {f g : ck_Q} : ck_P (ck_K (ck_qJn (v + 1) (v + 1) v w g f)) (ck_I (ck_qJn (v + 1) (v + 1) v w g f)) (ck_L (ck_qJn (v + 1) (v + 1) v w g f)) (ck_V (ck_qJn (v + 1) (v + 1) v w g f)) (ck_T (ck_qJn (v + 1) (v + 1) v w g f)) (ck_G (ck_qJn (v + 1) (v + 1) v w g f)) (fun n q => if n = v ∧ q = w then ck_wo (ck_H f v w) (ck_H g v w) 1 else ck_H (ck_qJn (v + 1) (v + 1) v w g f) n q) = ck_qJn (v + 1) (v + 1) v (w + 1) g f := by
  unfold ck_qJn
  refine ck_P_ext (fun n a0 a1 => ?_) (fun n a0 a1 => ?_) (fun n a0 a1 => ?_) (fun q b0 b1 => ?_) (fun q b0 b1 => ?_) (fun q b0 b1 => ?_) (fun n q a0 a1 b0 b1 => ?_)
  · rw [ck_P_K a0 a1]
  · rw [ck_P_I a0 a1]
  · rw [ck_P_L a0 a1]
  · rw [ck_P_V b0 b1]
  · rw [ck_P_T b0 b1]
  · rw [ck_P_G b0 b1]
  · rw [ck_P_H a0 a1 b0 b1]
    by_cases hn : n = v ∧ q = w
    · obtain ⟨rfl, rfl⟩ := hn
      rw [if_pos ⟨rfl, rfl⟩, if_pos (by omega)]
    · rw [if_neg hn]
      (repeat' split) <;> first | rfl | omega
theorem ck_qJn_n {v w : Int} {f g : ck_Q} (h : 4 ≤ w) : ck_qJn (v + 1) (v + 1) v w g f = ck_qJn (v + 1) (v + 1) (v + 1) 0 g f := by
  unfold ck_qJn
  refine ck_P_ext (fun n a0 a1 => rfl) (fun n a0 a1 => rfl) (fun n a0 a1 => rfl) (fun q b0 b1 => rfl) (fun q b0 b1 => rfl) (fun q b0 b1 => rfl) (fun n q a0 a1 b0 b1 => ?_)
  (repeat' split) <;> first | rfl | omega
theorem ck_qJn_0 {f : ck_Q} {g : ck_Q} {w : Int → Int} (h : ck_mv w = f) : ck_mv w = ck_qJn 0 0 0 0 g f := by
  unfold ck_qJn
  refine ck_P_ext (fun n a0 a1 => ?_) (fun n a0 a1 => ?_) (fun n a0 a1 => ?_) (fun q b0 b1 => ?_) (fun q b0 b1 => ?_) (fun q b0 b1 => ?_) (fun n q a0 a1 b0 b1 => ?_)
  · rw [if_neg (by omega)]; exact ck_y_K h a0 a1
  · exact ck_y_I h a0 a1
  · rw [if_neg (by omega)]; exact ck_y_L h a0 a1
  · exact ck_y_V h b0 b1
  · exact ck_y_T h b0 b1
  · exact ck_y_G h b0 b1
  · rw [if_neg (by omega)]; exact ck_y_H h a0 a1 b0 b1
theorem ck_qJn_9 {v k : Int} {f g : ck_Q} (h : 10 ≤ v) : ck_qJn v v v 0 g f = ck_qJr 0 g k f := by
  unfold ck_qJn ck_qJr
  refine ck_P_ext (fun n a0 a1 => ?_) (fun n a0 a1 => rfl) (fun n a0 a1 => ?_) (fun q b0 b1 => ?_) (fun q b0 b1 => ?_) (fun q b0 b1 => ?_) (fun n q a0 a1 b0 b1 => ?_)
  · rw [if_pos (by omega)]
  · rw [if_pos (by omega)]
  · rw [if_neg (by omega)]
  · rw [if_neg (by omega)]
  · rw [if_neg (by omega)]
  · rw [if_pos (by omega)]
theorem ck_qJr_s {v k : Int} {f g : ck_Q} (h0 : 0 ≤ v) (h4 : v < 4) {w : Int → Int} {xT xG xV : Int} (h : ck_mv w = ck_P (ck_K (ck_qJr v g k f)) (ck_I (ck_qJr v g k f)) (ck_L (ck_qJr v g k f)) (fun q => if q = v then xV else ck_V (ck_qJr v g k f) q) (fun q => if q = v then xT else ck_T (ck_qJr v g k f) q) (fun q => if q = v then xG else ck_G (ck_qJr v g k f) q) (ck_H (ck_qJr v g k f))) (hT : xT = if ck_T f v = 1 ∧ ck_T g v = 1 then 1 else 0) (hG : xG = if ck_V f v = ck_V g v then ck_G f v else 1000000000) (hV : xV = if ck_V f v = ck_V g v then ck_V f v else 100 + 4 * k + v) : ck_mv w = ck_qJr (v + 1) g k f := by
  rw [h]
  subst hT hG hV
  unfold ck_qJr
  refine ck_P_ext (fun n a0 a1 => ?_) (fun n a0 a1 => ?_) (fun n a0 a1 => ?_) (fun q b0 b1 => ?_) (fun q b0 b1 => ?_) (fun q b0 b1 => ?_) (fun n q a0 a1 b0 b1 => ?_)
  · rw [ck_P_K a0 a1]
  · rw [ck_P_I a0 a1]
  · rw [ck_P_L a0 a1]
  · rw [ck_P_V b0 b1]
    by_cases hq : q = v
    · subst hq
      rw [if_pos rfl, if_pos (show q < q + 1 by omega)]
    · rw [if_neg hq]
      by_cases hq2 : q < v
      · rw [if_pos hq2, if_pos (show q < v + 1 by omega)]
      · rw [if_neg hq2, if_neg (show ¬ q < v + 1 by omega)]
  · rw [ck_P_T b0 b1]
    by_cases hq : q = v
    · subst hq
      rw [if_pos rfl, if_pos (show q < q + 1 by omega)]
    · rw [if_neg hq]
      by_cases hq2 : q < v
      · rw [if_pos hq2, if_pos (show q < v + 1 by omega)]
      · rw [if_neg hq2, if_neg (show ¬ q < v + 1 by omega)]
  · rw [ck_P_G b0 b1]
    by_cases hq : q = v
    · subst hq
      rw [if_pos rfl, if_pos (show q < q + 1 by omega)]
    · rw [if_neg hq]
      by_cases hq2 : q < v
      · rw [if_pos hq2, if_pos (show q < v + 1 by omega)]
      · rw [if_neg hq2, if_neg (show ¬ q < v + 1 by omega)]
  · rw [ck_P_H a0 a1 b0 b1]
theorem ck_qJr_4 {v k : Int} {f g : ck_Q} (h : 4 ≤ v) : ck_qJr v g k f = ck_qJ g k f := by
  unfold ck_qJ ck_qJr
  refine ck_P_ext (fun n a0 a1 => rfl) (fun n a0 a1 => rfl) (fun n a0 a1 => rfl) (fun q b0 b1 => ?_) (fun q b0 b1 => ?_) (fun q b0 b1 => ?_) (fun n q a0 a1 b0 b1 => rfl) <;> rw [if_pos (show q < v by omega), if_pos (show q < 4 by omega)]
