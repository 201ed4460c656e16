/-! ## A row of the reference: known, is, least, value, there, long, high -/
abbrev ck_Q : Type := (Int → Int) × (Int → Int) × (Int → Int) × (Int → Int) × (Int → Int) × (Int → Int) × (Int → Int → Int)
abbrev ck_K (f : ck_Q) : Int → Int := f.1
abbrev ck_I (f : ck_Q) : Int → Int := f.2.1
abbrev ck_L (f : ck_Q) : Int → Int := f.2.2.1
abbrev ck_V (f : ck_Q) : Int → Int := f.2.2.2.1
abbrev ck_T (f : ck_Q) : Int → Int := f.2.2.2.2.1
abbrev ck_G (f : ck_Q) : Int → Int := f.2.2.2.2.2.1
abbrev ck_H (f : ck_Q) : Int → Int → Int := f.2.2.2.2.2.2
def ck_P (k i l v t g : Int → Int) (h : Int → Int → Int) : ck_Q := (fun n => if 0 ≤ n ∧ n < 10 then k n else 0, fun n => if 0 ≤ n ∧ n < 10 then i n else 0, fun n => if 0 ≤ n ∧ n < 10 then l n else 0, fun r => if 0 ≤ r ∧ r < 4 then v r else 0, fun r => if 0 ≤ r ∧ r < 4 then t r else 0, fun r => if 0 ≤ r ∧ r < 4 then g r else 0, fun n r => if (0 ≤ n ∧ n < 10) ∧ 0 ≤ r ∧ r < 4 then h n r else 0)
theorem ck_P_ext {k i l v t g k' i' l' v' t' g' : Int → Int} {h h' : Int → Int → Int} (e1 : ∀ n, 0 ≤ n → n < 10 → k n = k' n) (e2 : ∀ n, 0 ≤ n → n < 10 → i n = i' n) (e3 : ∀ n, 0 ≤ n → n < 10 → l n = l' n) (e4 : ∀ r, 0 ≤ r → r < 4 → v r = v' r) (e5 : ∀ r, 0 ≤ r → r < 4 → t r = t' r) (e6 : ∀ r, 0 ≤ r → r < 4 → g r = g' r) (e7 : ∀ n r, 0 ≤ n → n < 10 → 0 ≤ r → r < 4 → h n r = h' n r) : ck_P k i l v t g h = ck_P k' i' l' v' t' g' h' := by
  unfold ck_P
  refine Prod.ext ?_ (Prod.ext ?_ (Prod.ext ?_ (Prod.ext ?_ (Prod.ext ?_ (Prod.ext ?_ ?_)))))
  · funext n
    by_cases hn : 0 ≤ n ∧ n < 10
    · simp only [if_pos hn]; exact e1 n hn.1 hn.2
    · simp only [if_neg hn]
  · funext n
    by_cases hn : 0 ≤ n ∧ n < 10
    · simp only [if_pos hn]; exact e2 n hn.1 hn.2
    · simp only [if_neg hn]
  · funext n
    by_cases hn : 0 ≤ n ∧ n < 10
    · simp only [if_pos hn]; exact e3 n hn.1 hn.2
    · simp only [if_neg hn]
  · funext r
    by_cases hn : 0 ≤ r ∧ r < 4
    · simp only [if_pos hn]; exact e4 r hn.1 hn.2
    · simp only [if_neg hn]
  · funext r
    by_cases hn : 0 ≤ r ∧ r < 4
    · simp only [if_pos hn]; exact e5 r hn.1 hn.2
    · simp only [if_neg hn]
  · funext r
    by_cases hn : 0 ≤ r ∧ r < 4
    · simp only [if_pos hn]; exact e6 r hn.1 hn.2
    · simp only [if_neg hn]
  · funext n r
    by_cases hn : (0 ≤ n ∧ n < 10) ∧ 0 ≤ r ∧ r < 4
    · simp only [if_pos hn]; exact e7 n r hn.1.1 hn.1.2 hn.2.1 hn.2.2
    · simp only [if_neg hn]
section CKP
variable {k i l v t g : Int → Int} {h : Int → Int → Int} {n r : Int}
theorem ck_P_K (h0 : 0 ≤ n) (h1 : n < 10) : ck_K (ck_P k i l v t g h) n = k n := if_pos ⟨h0, h1⟩
theorem ck_P_I (h0 : 0 ≤ n) (h1 : n < 10) : ck_I (ck_P k i l v t g h) n = i n := if_pos ⟨h0, h1⟩
theorem ck_P_L (h0 : 0 ≤ n) (h1 : n < 10) : ck_L (ck_P k i l v t g h) n = l n := if_pos ⟨h0, h1⟩
theorem ck_P_V (h0 : 0 ≤ r) (h1 : r < 4) : ck_V (ck_P k i l v t g h) r = v r := if_pos ⟨h0, h1⟩
theorem ck_P_T (h0 : 0 ≤ r) (h1 : r < 4) : ck_T (ck_P k i l v t g h) r = t r := if_pos ⟨h0, h1⟩
theorem ck_P_G (h0 : 0 ≤ r) (h1 : r < 4) : ck_G (ck_P k i l v t g h) r = g r := if_pos ⟨h0, h1⟩
theorem ck_P_H (h0 : 0 ≤ n) (h1 : n < 10) (h2 : 0 ≤ r) (h3 : r < 4) : ck_H (ck_P k i l v t g h) n r = h n r := if_pos ⟨⟨h0, h1⟩, h2, h3⟩
end CKP
/-- the row that 82 places hold -/
def ck_mv (w : Int → Int) : ck_Q := ck_P (fun n => w (0 + n)) (fun n => w (10 + n)) (fun n => w (20 + n)) (fun r => w (30 + r)) (fun r => w (34 + r)) (fun r => w (38 + r)) (fun n r => w (42 + 4 * n + r))
section CKY
variable {w : Int → Int} {f : ck_Q} {n r : Int}
theorem ck_y_K (h : ck_mv w = f) (h0 : 0 ≤ n) (h1 : n < 10) : w (0 + n) = ck_K f n := by rw [← h]; unfold ck_mv; rw [ck_P_K h0 h1]
theorem ck_y_I (h : ck_mv w = f) (h0 : 0 ≤ n) (h1 : n < 10) : w (10 + n) = ck_I f n := by rw [← h]; unfold ck_mv; rw [ck_P_I h0 h1]
theorem ck_y_L (h : ck_mv w = f) (h0 : 0 ≤ n) (h1 : n < 10) : w (20 + n) = ck_L f n := by rw [← h]; unfold ck_mv; rw [ck_P_L h0 h1]
theorem ck_y_V (h : ck_mv w = f) (h0 : 0 ≤ r) (h1 : r < 4) : w (30 + r) = ck_V f r := by rw [← h]; unfold ck_mv; rw [ck_P_V h0 h1]
theorem ck_y_T (h : ck_mv w = f) (h0 : 0 ≤ r) (h1 : r < 4) : w (34 + r) = ck_T f r := by rw [← h]; unfold ck_mv; rw [ck_P_T h0 h1]
theorem ck_y_G (h : ck_mv w = f) (h0 : 0 ≤ r) (h1 : r < 4) : w (38 + r) = ck_G f r := by rw [← h]; unfold ck_mv; rw [ck_P_G h0 h1]
theorem ck_y_H (h : ck_mv w = f) (h0 : 0 ≤ n) (h1 : n < 10) (h2 : 0 ≤ r) (h3 : r < 4) : w (42 + 4 * n + r) = ck_H f n r := by rw [← h]; unfold ck_mv; rw [ck_P_H h0 h1 h2 h3]
end CKY
/-- nothing but the cell a has changed -/
def ck_f1 (σ σ' : ck_M) (a : Int) : Prop := ∀ b j, b ≠ a → σ' b j = σ b j
theorem ck_f1_tr {a b d : ck_M} {c : Int} (h : ck_f1 a b c) (h2 : ck_f1 b d c) : ck_f1 a d c := fun x j hx => (h2 x j hx).trans (h x j hx)
def ck_qb (f : ck_Q) : Prop := (∀ n, -1000000000 ≤ ck_K f n ∧ ck_K f n ≤ 1000000000) ∧ (∀ n, -1000000000 ≤ ck_I f n ∧ ck_I f n ≤ 1000000000) ∧ (∀ n, -1000000000 ≤ ck_L f n ∧ ck_L f n ≤ 1000000000) ∧ (∀ r, -1000000000 ≤ ck_V f r ∧ ck_V f r ≤ 1000000000) ∧ (∀ r, -1000000000 ≤ ck_T f r ∧ ck_T f r ≤ 1000000000) ∧ (∀ r, -1000000000 ≤ ck_G f r ∧ ck_G f r ≤ 1000000000) ∧ ∀ n r, -1000000000 ≤ ck_H f n r ∧ ck_H f n r ≤ 1000000000
theorem ck_su1 {s M : ck_M} {a base v x : Int} {g : Int → Int} (hI1 : ∀ b j, (b ≠ a ∨ j < base ∨ base + v ≤ j) → s b j = M b j) (hI2 : ∀ q, 0 ≤ q → q < v → s a (base + q) = g q) (hx : x = g v) (hv : 0 ≤ v) : (∀ b j, (b ≠ a ∨ j < base ∨ base + (v + 1) ≤ j) → ck_up s a (base + v) x b j = M b j) ∧ ∀ q, 0 ≤ q → q < v + 1 → ck_up s a (base + v) x a (base + q) = g q := ck_st1 hI1 hI2 hx hv
theorem ck_su4 {s M : ck_M} {a r v x : Int} {g : Int → Int} (hI1 : ∀ b j, (b ≠ a ∨ j < 42 + r ∨ 42 + 4 * v + r ≤ j ∨ (j - 42 - r) % 4 ≠ 0) → s b j = M b j) (hI2 : ∀ q, 0 ≤ q → q < v → s a (42 + 4 * q + r) = g q) (hx : x = g v) (hv : 0 ≤ v) : (∀ b j, (b ≠ a ∨ j < 42 + r ∨ 42 + 4 * (v + 1) + r ≤ j ∨ (j - 42 - r) % 4 ≠ 0) → ck_up s a (42 + 4 * v + r) x b j = M b j) ∧ ∀ q, 0 ≤ q → q < v + 1 → ck_up s a (42 + 4 * v + r) x a (42 + 4 * q + r) = g q := by
  refine ⟨fun b j h => ?_, fun q h0 h1 => ?_⟩
  · unfold ck_up
    rw [if_neg (by omega)]
    exact hI1 b j (by omega)
  · unfold ck_up
    by_cases hq : q = v
    · subst hq
      rw [if_pos ⟨rfl, rfl⟩, hx]
    · rw [if_neg (by omega)]
      exact hI2 q h0 (by omega)
def ck_qAny (x : Int) (f : ck_Q) : ck_Q := ck_P (fun n => if n = x then 0 else ck_K f n) (ck_I f) (fun n => if n = x then 1000000000 else ck_L f n) (ck_V f) (ck_T f) (ck_G f) (fun n q => if n = x then 1000000000 else ck_H f n q)
theorem cx_forget {x : Int} (hx : 0 ≤ x ∧ x < 10) {σ : ck_M} {f : ck_Q} (hf : ck_mv (σ 490) = f) : ck_cal 1 cm_Mo_forget [.inr (480, 3, 6), .inl x] σ (fun q σ' => q = none ∧ ck_f1 σ σ' 490 ∧ ck_mv (σ' 490) = ck_qAny x f) := by
  refine ck_cal_of ?_
  refine ck_go_run 16 (X1 := (22, [some (.inr (480, 3, 6)), some (.inl x), some (.inl 0)], [], ck_up (ck_up σ 490 (0 + x) 0) 490 (20 + x) 1000000000)) (ps := [0 ≤ 0 + x ∧ 0 + x < ((82 : Nat) : Int), 0 ≤ 20 + x ∧ 20 + x < ((82 : Nat) : Int)]) rfl ⟨⟨by omega, by omega⟩, ⟨by omega, by omega⟩, trivial⟩ ?_
  refine ck_for 22 (fun v => [some (.inr (480, 3, 6)), some (.inl x), some (.inl v)]) 4 (fun v s => 0 ≤ v ∧ v ≤ 4 ∧ (∀ b j, (b ≠ 490 ∨ j < 42 + 4 * x ∨ 42 + 4 * x + v ≤ j) → s b j = (ck_up (ck_up σ 490 (0 + x) 0) 490 (20 + x) 1000000000) b j) ∧ ∀ q, 0 ≤ q → q < v → s 490 (42 + 4 * x + q) = 1000000000) (fun v s hv hI kk => ?_) (fun v s hv hI => ?_) 0 _ ⟨by omega, by omega, fun _ _ _ => rfl, fun _ _ _ => by omega⟩
  · obtain ⟨h0, h4, hI1, hI2⟩ := hI
    refine ck_go_run 3 (X1 := (if v < 4 then 27 else 48, [some (.inr (480, 3, 6)), some (.inl x), some (.inl v)], [], s)) (ps := [ck_rg v, ck_rg 4]) rfl ⟨(ck_rgo (by omega) (by omega)), (ck_rgo (by omega) (by omega)), trivial⟩ ?_
    refine ck_go_t hv ?_
    refine ck_go_run 13 (X1 := (22, [some (.inr (480, 3, 6)), some (.inl x), some (.inl (v + 1))], [], ck_up s 490 ((42 + (4 * x)) + v) 1000000000)) (ps := [0 ≤ (42 + (4 * x)) + v ∧ (42 + (4 * x)) + v < ((82 : Nat) : Int)]) rfl ⟨⟨by omega, by omega⟩, trivial⟩ ?_
    exact kk _ ⟨by omega, by omega, ck_st1 (base := 42 + 4 * x) (g := fun q => 1000000000) hI1 hI2 rfl h0⟩
  · obtain ⟨h0, h4, hI1, hI2⟩ := hI
    refine ck_go_run 3 (X1 := (if v < 4 then 27 else 48, [some (.inr (480, 3, 6)), some (.inl x), some (.inl v)], [], s)) (ps := [ck_rg v, ck_rg 4]) rfl ⟨(ck_rgo (by omega) (by omega)), (ck_rgo (by omega) (by omega)), trivial⟩ ?_
    refine ck_go_f (by omega) ?_
    refine ck_eV ⟨rfl, ?_, ?_⟩ rfl rfl rfl
    · intro b j hb
      rw [hI1 b j (by omega)]
      simp only [ck_up]
      (repeat' split) <;> first | rfl | omega
    · unfold ck_qAny
      refine ck_P_ext (fun n a0 a1 => ?_) (fun n a0 a1 => ?_) (fun n a0 a1 => ?_) (fun q b0 b1 => ?_) (fun q b0 b1 => ?_) (fun q b0 b1 => ?_) (fun n q a0 a1 b0 b1 => ?_)
      · rw [← ck_y_K hf a0 a1, hI1 490 (0 + n) (by omega)]
        simp only [ck_up, true_and]
        (repeat' split) <;> first | rfl | omega
      · rw [← ck_y_I hf a0 a1, hI1 490 (10 + n) (by omega)]
        simp only [ck_up, true_and]
        (repeat' split) <;> first | rfl | omega
      · rw [← ck_y_L hf a0 a1, hI1 490 (20 + n) (by omega)]
        simp only [ck_up, true_and]
        (repeat' split) <;> first | rfl | omega
      · rw [← ck_y_V hf b0 b1, hI1 490 (30 + q) (by omega)]
        simp only [ck_up, true_and]
        (repeat' split) <;> first | rfl | omega
      · rw [← ck_y_T hf b0 b1, hI1 490 (34 + q) (by omega)]
        simp only [ck_up, true_and]
        (repeat' split) <;> first | rfl | omega
      · rw [← ck_y_G hf b0 b1, hI1 490 (38 + q) (by omega)]
        simp only [ck_up, true_and]
        (repeat' split) <;> first | rfl | omega
      · by_cases hn : n = x
        · subst hn
          rw [if_pos rfl, hI2 q b0 (by omega)]
        · rw [if_neg hn, ← ck_y_H hf a0 a1 b0 b1, hI1 490 (42 + 4 * n + q) (by omega)]
          simp only [ck_up]
          (repeat' split) <;> first | rfl | omega
def ck_ag (A B v : Int) : Int := if A = 0 then 1000000000 else ck_mh (if B = 1000000000 then v else v - B)
theorem cx_against {k r : Int} (hr : 0 ≤ r ∧ r < 4) (hk : -1000000000 ≤ k ∧ k ≤ 1000000000) {σ : ck_M} (h1 : -1000000000 ≤ σ 490 (30 + r) ∧ σ 490 (30 + r) ≤ 1000000000) (h2 : -1000000000 ≤ σ 490 (38 + r) ∧ σ 490 (38 + r) ≤ 1000000000) : ck_cal 2 cm_Mo_against [.inr (480, 3, 6), .inl k, .inl r] σ (fun q σ' => q = some (ck_ag (σ 490 (30 + r)) (σ 490 (38 + r)) k) ∧ σ' = σ) := by
  refine ck_cal_of ?_
  refine ck_go_run 7 (X1 := (if σ 490 (30 + r) = 0 then 12 else 15, [some (.inr (480, 3, 6)), some (.inl k), some (.inl r)], [], σ)) (ps := [0 ≤ 30 + r ∧ 30 + r < ((82 : Nat) : Int), ck_rg (σ 490 (30 + r))]) rfl ⟨⟨by omega, by omega⟩, (ck_rgo (by omega) (by omega)), trivial⟩ ?_
  refine ck_go_ite (fun g1 => ?_) (fun g1 => ?_)
  · refine ck_go_run 1 (X1 := (14, [some (.inr (480, 3, 6)), some (.inl k), some (.inl r)], [.inl 1000000000], σ)) (ps := []) rfl trivial ?_
    exact ck_eI ⟨by unfold ck_ag; (repeat' split) <;> first | rfl | omega, rfl⟩ rfl rfl rfl
  · refine ck_go_run 8 (X1 := (if σ 490 (38 + r) = 1000000000 then 29 else 33, [some (.inr (480, 3, 6)), some (.inl k), some (.inl r)], [], σ)) (ps := [0 ≤ 38 + r ∧ 38 + r < ((82 : Nat) : Int), ck_rg (σ 490 (38 + r)), ck_rg 1000000000]) rfl ⟨⟨by omega, by omega⟩, (ck_rgo (by omega) (by omega)), (ck_rgo (by omega) (by omega)), trivial⟩ ?_
    refine ck_go_ite (fun g2 => ?_) (fun g2 => ?_)
    · refine ck_go_run 2 (X1 := (44, [some (.inr (480, 3, 6)), some (.inl k), some (.inl r)], [.inl k], σ)) (ps := []) rfl trivial ?_
      refine ck_go_cal (rest := []) (ck_cal_le (by decide) (cx_high (v := k) (by omega) _)) ⟨_, rfl, Or.inr ⟨_, rfl⟩, rfl, rfl, rfl, Nat.le_of_ble_eq_true rfl, fun h => absurd h (by decide)⟩ ?_
      rintro _ s' ⟨rfl, e'⟩
      rw [e']
      clear e' s'
      exact ck_eI ⟨by unfold ck_ag; (repeat' split) <;> first | rfl | omega, rfl⟩ rfl rfl rfl
    · refine ck_go_run 8 (X1 := (44, [some (.inr (480, 3, 6)), some (.inl k), some (.inl r)], [.inl (k - (σ 490 (38 + r)))], σ)) (ps := [0 ≤ 38 + r ∧ 38 + r < ((82 : Nat) : Int)]) rfl ⟨⟨by omega, by omega⟩, trivial⟩ ?_
      refine ck_go_cal (rest := []) (ck_cal_le (by decide) (cx_high (v := k - (σ 490 (38 + r))) (by omega) _)) ⟨_, rfl, Or.inr ⟨_, rfl⟩, rfl, rfl, rfl, Nat.le_of_ble_eq_true rfl, fun h => absurd h (by decide)⟩ ?_
      rintro _ s' ⟨rfl, e'⟩
      rw [e']
      clear e' s'
      exact ck_eI ⟨by unfold ck_ag; (repeat' split) <;> first | rfl | omega, rfl⟩ rfl rfl rfl
theorem cx_ag {k r A B : Int} (hr : 0 ≤ r ∧ r < 4) (hk : -1000000000 ≤ k ∧ k ≤ 1000000000) {σ : ck_M} (e1 : σ 490 (30 + r) = A) (e2 : σ 490 (38 + r) = B) (h1 : -1000000000 ≤ A ∧ A ≤ 1000000000) (h2 : -1000000000 ≤ B ∧ B ≤ 1000000000) : ck_cal 2 cm_Mo_against [.inr (480, 3, 6), .inl k, .inl r] σ (fun q σ' => q = some (ck_ag A B k) ∧ σ' = σ) := by
  subst e1 e2
  exact cx_against hr hk h1 h2
def ck_qNull (r : Int) (f : ck_Q) : ck_Q := ck_P (ck_K f) (ck_I f) (ck_L f) (fun q => if q = r then 0 else ck_V f q) (fun q => if q = r then 0 else ck_T f q) (fun q => if q = r then 1000000000 else ck_G f q) (fun n q => if q = r then 1000000000 else ck_H f n q)
theorem cx_nothing {r : Int} (hr : 0 ≤ r ∧ r < 4) {σ : ck_M} {f : ck_Q} (hf : ck_mv (σ 490) = f) : ck_cal 1 cm_Mo_nothing [.inr (480, 3, 6), .inl r] σ (fun q σ' => q = none ∧ ck_f1 σ σ' 490 ∧ ck_mv (σ' 490) = ck_qNull r f) := by
  refine ck_cal_of ?_
  refine ck_go_run 23 (X1 := (33, [some (.inr (480, 3, 6)), some (.inl r), some (.inl 0)], [], ck_up (ck_up (ck_up σ 490 (30 + r) 0) 490 (34 + r) 0) 490 (38 + r) 1000000000)) (ps := [0 ≤ 30 + r ∧ 30 + r < ((82 : Nat) : Int), 0 ≤ 34 + r ∧ 34 + r < ((82 : Nat) : Int), 0 ≤ 38 + r ∧ 38 + r < ((82 : Nat) : Int)]) rfl ⟨⟨by omega, by omega⟩, ⟨by omega, by omega⟩, ⟨by omega, by omega⟩, trivial⟩ ?_
  refine ck_for 33 (fun v => [some (.inr (480, 3, 6)), some (.inl r), some (.inl v)]) 10 (fun v s => 0 ≤ v ∧ v ≤ 10 ∧ (∀ b j, (b ≠ 490 ∨ j < 42 + r ∨ 42 + 4 * v + r ≤ j ∨ (j - 42 - r) % 4 ≠ 0) → s b j = (ck_up (ck_up (ck_up σ 490 (30 + r) 0) 490 (34 + r) 0) 490 (38 + r) 1000000000) b j) ∧ ∀ q, 0 ≤ q → q < v → s 490 (42 + 4 * q + r) = 1000000000) (fun v s hv hI kk => ?_) (fun v s hv hI => ?_) 0 _ ⟨by omega, by omega, fun _ _ _ => rfl, fun _ _ _ => by omega⟩
  · obtain ⟨h0, h4, hI1, hI2⟩ := hI
    refine ck_go_run 3 (X1 := (if v < 10 then 39 else 60, [some (.inr (480, 3, 6)), some (.inl r), some (.inl v)], [], s)) (ps := [ck_rg v, ck_rg 10]) rfl ⟨(ck_rgo (by omega) (by omega)), (ck_rgo (by omega) (by omega)), trivial⟩ ?_
    refine ck_go_t hv ?_
    refine ck_go_run 13 (X1 := (33, [some (.inr (480, 3, 6)), some (.inl r), some (.inl (v + 1))], [], ck_up s 490 ((42 + (4 * v)) + r) 1000000000)) (ps := [0 ≤ (42 + (4 * v)) + r ∧ (42 + (4 * v)) + r < ((82 : Nat) : Int)]) rfl ⟨⟨by omega, by omega⟩, trivial⟩ ?_
    exact kk _ ⟨by omega, by omega, ck_su4 (g := fun q => 1000000000) hI1 hI2 rfl h0⟩
  · obtain ⟨h0, h4, hI1, hI2⟩ := hI
    refine ck_go_run 3 (X1 := (if v < 10 then 39 else 60, [some (.inr (480, 3, 6)), some (.inl r), some (.inl v)], [], s)) (ps := [ck_rg v, ck_rg 10]) rfl ⟨(ck_rgo (by omega) (by omega)), (ck_rgo (by omega) (by omega)), trivial⟩ ?_
    refine ck_go_f (by omega) ?_
    refine ck_eV ⟨rfl, ?_, ?_⟩ rfl rfl rfl
    · intro b j hb
      rw [hI1 b j (by omega)]
      simp only [ck_up]
      (repeat' split) <;> first | rfl | omega
    · unfold ck_qNull
      refine ck_P_ext (fun n a0 a1 => ?_) (fun n a0 a1 => ?_) (fun n a0 a1 => ?_) (fun q b0 b1 => ?_) (fun q b0 b1 => ?_) (fun q b0 b1 => ?_) (fun n q a0 a1 b0 b1 => ?_)
      · rw [← ck_y_K hf a0 a1, hI1 490 (0 + n) (by omega)]
        simp only [ck_up, true_and]
        (repeat' split) <;> first | rfl | omega
      · rw [← ck_y_I hf a0 a1, hI1 490 (10 + n) (by omega)]
        simp only [ck_up, true_and]
        (repeat' split) <;> first | rfl | omega
      · rw [← ck_y_L hf a0 a1, hI1 490 (20 + n) (by omega)]
        simp only [ck_up, true_and]
        (repeat' split) <;> first | rfl | omega
      · rw [← ck_y_V hf b0 b1, hI1 490 (30 + q) (by omega)]
        simp only [ck_up, true_and]
        (repeat' split) <;> first | rfl | omega
      · rw [← ck_y_T hf b0 b1, hI1 490 (34 + q) (by omega)]
        simp only [ck_up, true_and]
        (repeat' split) <;> first | rfl | omega
      · rw [← ck_y_G hf b0 b1, hI1 490 (38 + q) (by omega)]
        simp only [ck_up, true_and]
        (repeat' split) <;> first | rfl | omega
      · by_cases hq : q = r
        · subst hq
          rw [if_pos rfl, hI2 n a0 (by omega)]
        · rw [if_neg hq, ← ck_y_H hf a0 a1 b0 b1, hI1 490 (42 + 4 * n + q) (by omega)]
          simp only [ck_up]
          (repeat' split) <;> first | rfl | omega
