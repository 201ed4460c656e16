/-! ## How large what is known before statement k can be -/
def co_wb (k : Int) (f : ck_D) : Prop := (∀ n, ck_kn f n = 1000000000 ∨ (-(100 * k) ≤ ck_kn f n ∧ ck_kn f n ≤ 100 * k)) ∧ (∀ n, ck_lo f n = -1000000000 ∨ (-200 ≤ ck_lo f n ∧ ck_lo f n ≤ 101 * k)) ∧ (∀ n r, ck_hi f n r = 1000000000 ∨ (-(201 * k) ≤ ck_hi f n r ∧ ck_hi f n r ≤ 200)) ∧ (∀ r, 0 ≤ ck_va f r ∧ ck_va f r < 69 + 4 * k) ∧ (∀ r, ck_sz f r = 1000000000 ∨ (-(100 * k) ≤ ck_sz f r ∧ ck_sz f r ≤ 100 * k)) ∧ ∀ r, ck_th f r = 0 ∨ ck_th f r = 1
theorem co_wb_N {j : Int} (hj : 0 ≤ j) {k l v z t : Int → Int} {h : Int → Int → Int} (e1 : ∀ n, 0 ≤ n → n < 10 → k n = 1000000000 ∨ (-(100 * j) ≤ k n ∧ k n ≤ 100 * j)) (e2 : ∀ n, 0 ≤ n → n < 10 → l n = -1000000000 ∨ (-200 ≤ l n ∧ l n ≤ 101 * j)) (e3 : ∀ n r, 0 ≤ n → n < 10 → 0 ≤ r → r < 4 → h n r = 1000000000 ∨ (-(201 * j) ≤ h n r ∧ h n r ≤ 200)) (e4 : ∀ r, 0 ≤ r → r < 4 → 0 ≤ v r ∧ v r < 69 + 4 * j) (e5 : ∀ r, 0 ≤ r → r < 4 → z r = 1000000000 ∨ (-(100 * j) ≤ z r ∧ z r ≤ 100 * j)) (e6 : ∀ r, 0 ≤ r → r < 4 → t r = 0 ∨ t r = 1) : co_wb j (ck_N k l h v z t) := by
  refine ⟨fun n => ?_, fun n => ?_, fun n r => ?_, fun r => ?_, fun r => ?_, fun r => ?_⟩
  · by_cases hn : 0 ≤ n ∧ n < 10
    · rw [ck_N_kn hn.1 hn.2]; exact e1 n hn.1 hn.2
    · have : ck_kn (ck_N k l h v z t) n = 0 := if_neg hn
      omega
  · by_cases hn : 0 ≤ n ∧ n < 10
    · rw [ck_N_lo hn.1 hn.2]; exact e2 n hn.1 hn.2
    · have : ck_lo (ck_N k l h v z t) n = 0 := if_neg hn
      omega
  · by_cases hn : (0 ≤ n ∧ n < 10) ∧ 0 ≤ r ∧ r < 4
    · rw [ck_N_hi hn.1.1 hn.1.2 hn.2.1 hn.2.2]; exact e3 n r hn.1.1 hn.1.2 hn.2.1 hn.2.2
    · have : ck_hi (ck_N k l h v z t) n r = 0 := if_neg hn
      omega
  · by_cases hn : 0 ≤ r ∧ r < 4
    · rw [ck_N_va hn.1 hn.2]; exact e4 r hn.1 hn.2
    · have : ck_va (ck_N k l h v z t) r = 0 := if_neg hn
      omega
  · by_cases hn : 0 ≤ r ∧ r < 4
    · rw [ck_N_sz hn.1 hn.2]; exact e5 r hn.1 hn.2
    · have : ck_sz (ck_N k l h v z t) r = 0 := if_neg hn
      omega
  · by_cases hn : 0 ≤ r ∧ r < 4
    · rw [ck_N_th hn.1 hn.2]; exact e6 r hn.1 hn.2
    · have : ck_th (ck_N k l h v z t) r = 0 := if_neg hn
      omega
theorem co_wb_up {j k : Int} (h : j ≤ k) {f : ck_D} (hf : co_wb j f) : co_wb k f := by
  obtain ⟨hk, hl, hh, hv, hz, ht⟩ := hf
  refine ⟨fun n => ?_, fun n => ?_, fun n r => ?_, fun r => ?_, fun r => ?_, ht⟩
  · have := hk n; omega
  · have := hl n; omega
  · have := hh n r; omega
  · have := hv r; omega
  · have := hz r; omega
theorem co_wb_fb {k : Int} (h : 0 ≤ k ∧ k ≤ 1000) {f : ck_D} (hf : co_wb k f) : ck_fb f := by
  obtain ⟨hk, hl, hh, hv, hz, ht⟩ := hf
  refine ⟨fun n => ?_, fun n => ?_, fun n r => ?_, fun r => ?_, fun r => ?_, fun r => ?_⟩
  · have := hk n; omega
  · have := hl n; omega
  · have := hh n r; omega
  · have := hv r; omega
  · have := hz r; omega
  · have := ht r; omega
theorem co_wb_dSet {k : Int} (hk0 : 0 ≤ k) {f : ck_D} (hf : co_wb k f) {x v : Int} (hv0 : -100 ≤ v ∧ v ≤ 100) : co_wb (k + 1) (ck_dSet x v f) := by
  obtain ⟨hk, hl, hh, hv, hz, ht⟩ := hf
  refine co_wb_N (by omega) (fun n _ _ => ?_) (fun n _ _ => ?_) (fun n q _ _ _ _ => ?_) (fun q _ _ => ?_) (fun q _ _ => ?_) (fun q _ _ => ?_)
  · skip
    have := hk n
    try unfold ck_hoc
    try unfold ck_bL
    try unfold ck_bH
    try unfold ck_mx
    try unfold ck_mn
    (repeat' split) <;> omega
  · skip
    have := hl n
    try unfold ck_hoc
    try unfold ck_bL
    try unfold ck_bH
    try unfold ck_mx
    try unfold ck_mn
    (repeat' split) <;> omega
  · skip
    have := hh n q
    have := hz q
    try unfold ck_hoc
    try unfold ck_bL
    try unfold ck_bH
    try unfold ck_mx
    try unfold ck_mn
    (repeat' split) <;> omega
  · skip
    have := hv q
    try unfold ck_hoc
    try unfold ck_bL
    try unfold ck_bH
    try unfold ck_mx
    try unfold ck_mn
    (repeat' split) <;> omega
  · skip
    have := hz q
    try unfold ck_hoc
    try unfold ck_bL
    try unfold ck_bH
    try unfold ck_mx
    try unfold ck_mn
    (repeat' split) <;> omega
  · skip
    have := ht q
    try unfold ck_hoc
    try unfold ck_bL
    try unfold ck_bH
    try unfold ck_mx
    try unfold ck_mn
    (repeat' split) <;> omega
theorem co_wb_dSum {k : Int} (hk0 : 0 ≤ k) {f : ck_D} (hf : co_wb k f) {x y z : Int} (hz0 : -100 ≤ z ∧ z ≤ 100) : co_wb (k + 1) (ck_dSum x y z f) := by
  obtain ⟨hk, hl, hh, hv, hz, ht⟩ := hf
  refine co_wb_N (by omega) (fun n _ _ => ?_) (fun n _ _ => ?_) (fun n q _ _ _ _ => ?_) (fun q _ _ => ?_) (fun q _ _ => ?_) (fun q _ _ => ?_)
  · skip
    have := hk n
    have := hk y
    try unfold ck_hoc
    try unfold ck_bL
    try unfold ck_bH
    try unfold ck_mx
    try unfold ck_mn
    (repeat' split) <;> omega
  · skip
    have := hl n
    have := hl y
    try unfold ck_hoc
    try unfold ck_bL
    try unfold ck_bH
    try unfold ck_mx
    try unfold ck_mn
    (repeat' split) <;> omega
  · skip
    have := hh n q
    have := hh y q
    have := hz q
    try unfold ck_hoc
    try unfold ck_bL
    try unfold ck_bH
    try unfold ck_mx
    try unfold ck_mn
    (repeat' split) <;> omega
  · skip
    have := hv q
    try unfold ck_hoc
    try unfold ck_bL
    try unfold ck_bH
    try unfold ck_mx
    try unfold ck_mn
    (repeat' split) <;> omega
  · skip
    have := hz q
    try unfold ck_hoc
    try unfold ck_bL
    try unfold ck_bH
    try unfold ck_mx
    try unfold ck_mn
    (repeat' split) <;> omega
  · skip
    have := ht q
    try unfold ck_hoc
    try unfold ck_bL
    try unfold ck_bH
    try unfold ck_mx
    try unfold ck_mn
    (repeat' split) <;> omega
theorem co_wb_dAny {k : Int} (hk0 : 0 ≤ k) {f : ck_D} (hf : co_wb k f) {x : Int} : co_wb (k + 1) (ck_dAny x f) := by
  obtain ⟨hk, hl, hh, hv, hz, ht⟩ := hf
  refine co_wb_N (by omega) (fun n _ _ => ?_) (fun n _ _ => ?_) (fun n q _ _ _ _ => ?_) (fun q _ _ => ?_) (fun q _ _ => ?_) (fun q _ _ => ?_)
  · skip
    have := hk n
    try unfold ck_hoc
    try unfold ck_bL
    try unfold ck_bH
    try unfold ck_mx
    try unfold ck_mn
    (repeat' split) <;> omega
  · skip
    have := hl n
    try unfold ck_hoc
    try unfold ck_bL
    try unfold ck_bH
    try unfold ck_mx
    try unfold ck_mn
    (repeat' split) <;> omega
  · skip
    have := hh n q
    have := hz q
    try unfold ck_hoc
    try unfold ck_bL
    try unfold ck_bH
    try unfold ck_mx
    try unfold ck_mn
    (repeat' split) <;> omega
  · skip
    have := hv q
    try unfold ck_hoc
    try unfold ck_bL
    try unfold ck_bH
    try unfold ck_mx
    try unfold ck_mn
    (repeat' split) <;> omega
  · skip
    have := hz q
    try unfold ck_hoc
    try unfold ck_bL
    try unfold ck_bH
    try unfold ck_mx
    try unfold ck_mn
    (repeat' split) <;> omega
  · skip
    have := ht q
    try unfold ck_hoc
    try unfold ck_bL
    try unfold ck_bH
    try unfold ck_mx
    try unfold ck_mn
    (repeat' split) <;> omega
theorem co_wb_dLen {k : Int} (hk0 : 0 ≤ k) {f : ck_D} (hf : co_wb k f) {x a : Int} : co_wb (k + 1) (ck_dLen x a f) := by
  obtain ⟨hk, hl, hh, hv, hz, ht⟩ := hf
  refine co_wb_N (by omega) (fun n _ _ => ?_) (fun n _ _ => ?_) (fun n q _ _ _ _ => ?_) (fun q _ _ => ?_) (fun q _ _ => ?_) (fun q _ _ => ?_)
  · skip
    have := hk n
    try unfold ck_hoc
    try unfold ck_bL
    try unfold ck_bH
    try unfold ck_mx
    try unfold ck_mn
    (repeat' split) <;> omega
  · skip
    have := hl n
    try unfold ck_hoc
    try unfold ck_bL
    try unfold ck_bH
    try unfold ck_mx
    try unfold ck_mn
    (repeat' split) <;> omega
  · skip
    have := hh n q
    have := hz q
    try unfold ck_hoc
    try unfold ck_bL
    try unfold ck_bH
    try unfold ck_mx
    try unfold ck_mn
    (repeat' split) <;> omega
  · skip
    have := hv q
    try unfold ck_hoc
    try unfold ck_bL
    try unfold ck_bH
    try unfold ck_mx
    try unfold ck_mn
    (repeat' split) <;> omega
  · skip
    have := hz q
    try unfold ck_hoc
    try unfold ck_bL
    try unfold ck_bH
    try unfold ck_mx
    try unfold ck_mn
    (repeat' split) <;> omega
  · skip
    have := ht q
    try unfold ck_hoc
    try unfold ck_bL
    try unfold ck_bH
    try unfold ck_mx
    try unfold ck_mn
    (repeat' split) <;> omega
theorem co_wb_dUse {k : Int} (hk0 : 0 ≤ k) {f : ck_D} (hf : co_wb k f) {a m : Int} : co_wb (k + 1) (ck_dUse a m f) := by
  obtain ⟨hk, hl, hh, hv, hz, ht⟩ := hf
  refine co_wb_N (by omega) (fun n _ _ => ?_) (fun n _ _ => ?_) (fun n q _ _ _ _ => ?_) (fun q _ _ => ?_) (fun q _ _ => ?_) (fun q _ _ => ?_)
  · skip
    have := hk n
    have := hk m
    try unfold ck_hoc
    try unfold ck_bL
    try unfold ck_bH
    try unfold ck_mx
    try unfold ck_mn
    (repeat' split) <;> omega
  · skip
    have := hl n
    have := hl m
    try unfold ck_hoc
    try unfold ck_bL
    try unfold ck_bH
    try unfold ck_mx
    try unfold ck_mn
    (repeat' split) <;> omega
  · skip
    have := hh n q
    have := hh m q
    have := hz q
    try unfold ck_hoc
    try unfold ck_bL
    try unfold ck_bH
    try unfold ck_mx
    try unfold ck_mn
    (repeat' split) <;> omega
  · skip
    have := hv q
    try unfold ck_hoc
    try unfold ck_bL
    try unfold ck_bH
    try unfold ck_mx
    try unfold ck_mn
    (repeat' split) <;> omega
  · skip
    have := hz q
    try unfold ck_hoc
    try unfold ck_bL
    try unfold ck_bH
    try unfold ck_mx
    try unfold ck_mn
    (repeat' split) <;> omega
  · skip
    have := ht q
    try unfold ck_hoc
    try unfold ck_bL
    try unfold ck_bH
    try unfold ck_mx
    try unfold ck_mn
    (repeat' split) <;> omega
theorem co_wb_dNew {k : Int} (hk0 : 0 ≤ k) {f : ck_D} (hf : co_wb k f) {a y : Int} (hk1 : k < 64) : co_wb (k + 1) (ck_dNew a y k f) := by
  obtain ⟨hk, hl, hh, hv, hz, ht⟩ := hf
  refine co_wb_N (by omega) (fun n _ _ => ?_) (fun n _ _ => ?_) (fun n q _ _ _ _ => ?_) (fun q _ _ => ?_) (fun q _ _ => ?_) (fun q _ _ => ?_)
  · skip
    have := hk n
    have := hk y
    try unfold ck_hoc
    try unfold ck_bL
    try unfold ck_bH
    try unfold ck_mx
    try unfold ck_mn
    (repeat' split) <;> omega
  · skip
    have := hl n
    have := hl y
    try unfold ck_hoc
    try unfold ck_bL
    try unfold ck_bH
    try unfold ck_mx
    try unfold ck_mn
    (repeat' split) <;> omega
  · skip
    have := hh n q
    have := hh y q
    have := hk n
    have := hk y
    have := hz q
    try unfold ck_hoc
    try unfold ck_bL
    try unfold ck_bH
    try unfold ck_mx
    try unfold ck_mn
    (repeat' split) <;> omega
  · skip
    have := hv q
    try unfold ck_hoc
    try unfold ck_bL
    try unfold ck_bH
    try unfold ck_mx
    try unfold ck_mn
    (repeat' split) <;> omega
  · skip
    have := hz q
    have := hk y
    try unfold ck_hoc
    try unfold ck_bL
    try unfold ck_bH
    try unfold ck_mx
    try unfold ck_mn
    (repeat' split) <;> omega
  · skip
    have := ht q
    try unfold ck_hoc
    try unfold ck_bL
    try unfold ck_bH
    try unfold ck_mx
    try unfold ck_mn
    (repeat' split) <;> omega
theorem co_wb_dNull {k : Int} (hk0 : 0 ≤ k) {f : ck_D} (hf : co_wb k f) {a : Int} : co_wb (k + 1) (ck_dNull a f) := by
  obtain ⟨hk, hl, hh, hv, hz, ht⟩ := hf
  refine co_wb_N (by omega) (fun n _ _ => ?_) (fun n _ _ => ?_) (fun n q _ _ _ _ => ?_) (fun q _ _ => ?_) (fun q _ _ => ?_) (fun q _ _ => ?_)
  · skip
    have := hk n
    try unfold ck_hoc
    try unfold ck_bL
    try unfold ck_bH
    try unfold ck_mx
    try unfold ck_mn
    (repeat' split) <;> omega
  · skip
    have := hl n
    try unfold ck_hoc
    try unfold ck_bL
    try unfold ck_bH
    try unfold ck_mx
    try unfold ck_mn
    (repeat' split) <;> omega
  · skip
    have := hh n q
    have := hz q
    try unfold ck_hoc
    try unfold ck_bL
    try unfold ck_bH
    try unfold ck_mx
    try unfold ck_mn
    (repeat' split) <;> omega
  · skip
    have := hv q
    try unfold ck_hoc
    try unfold ck_bL
    try unfold ck_bH
    try unfold ck_mx
    try unfold ck_mn
    (repeat' split) <;> omega
  · skip
    have := hz q
    try unfold ck_hoc
    try unfold ck_bL
    try unfold ck_bH
    try unfold ck_mx
    try unfold ck_mn
    (repeat' split) <;> omega
  · skip
    have := ht q
    try unfold ck_hoc
    try unfold ck_bL
    try unfold ck_bH
    try unfold ck_mx
    try unfold ck_mn
    (repeat' split) <;> omega
theorem co_wb_dLet {k : Int} (hk0 : 0 ≤ k) {f : ck_D} (hf : co_wb k f) {a e : Int} : co_wb (k + 1) (ck_dLet a e f) := by
  obtain ⟨hk, hl, hh, hv, hz, ht⟩ := hf
  refine co_wb_N (by omega) (fun n _ _ => ?_) (fun n _ _ => ?_) (fun n q _ _ _ _ => ?_) (fun q _ _ => ?_) (fun q _ _ => ?_) (fun q _ _ => ?_)
  · skip
    have := hk n
    try unfold ck_hoc
    try unfold ck_bL
    try unfold ck_bH
    try unfold ck_mx
    try unfold ck_mn
    (repeat' split) <;> omega
  · skip
    have := hl n
    try unfold ck_hoc
    try unfold ck_bL
    try unfold ck_bH
    try unfold ck_mx
    try unfold ck_mn
    (repeat' split) <;> omega
  · skip
    have := hh n q
    have := hh n e
    have := hz q
    try unfold ck_hoc
    try unfold ck_bL
    try unfold ck_bH
    try unfold ck_mx
    try unfold ck_mn
    (repeat' split) <;> omega
  · skip
    have := hv q
    have := hv e
    try unfold ck_hoc
    try unfold ck_bL
    try unfold ck_bH
    try unfold ck_mx
    try unfold ck_mn
    (repeat' split) <;> omega
  · skip
    have := hz q
    have := hz e
    try unfold ck_hoc
    try unfold ck_bL
    try unfold ck_bH
    try unfold ck_mx
    try unfold ck_mn
    (repeat' split) <;> omega
  · skip
    have := ht q
    have := ht e
    try unfold ck_hoc
    try unfold ck_bL
    try unfold ck_bH
    try unfold ck_mx
    try unfold ck_mn
    (repeat' split) <;> omega
theorem co_wb_dBel {k : Int} (hk0 : 0 ≤ k) {f : ck_D} (hf : co_wb k f) {x y z : Int} (hz0 : -100 ≤ z ∧ z ≤ 100) : co_wb (k + 1) (ck_dBel x y z f) := by
  obtain ⟨hk, hl, hh, hv, hz, ht⟩ := hf
  refine co_wb_N (by omega) (fun n _ _ => ?_) (fun n _ _ => ?_) (fun n q _ _ _ _ => ?_) (fun q _ _ => ?_) (fun q _ _ => ?_) (fun q _ _ => ?_)
  · skip
    have := hk n
    have := hk x
    have := hk y
    try unfold ck_hoc
    try unfold ck_bL
    try unfold ck_bH
    try unfold ck_mx
    try unfold ck_mn
    (repeat' split) <;> omega
  · skip
    have := hl n
    have := hl x
    have := hl y
    try unfold ck_hoc
    try unfold ck_bL
    try unfold ck_bH
    try unfold ck_mx
    try unfold ck_mn
    (repeat' split) <;> omega
  · skip
    have := hh n q
    have := hh x q
    have := hh y q
    have := hz q
    try unfold ck_hoc
    try unfold ck_bL
    try unfold ck_bH
    try unfold ck_mx
    try unfold ck_mn
    (repeat' split) <;> omega
  · skip
    have := hv q
    try unfold ck_hoc
    try unfold ck_bL
    try unfold ck_bH
    try unfold ck_mx
    try unfold ck_mn
    (repeat' split) <;> omega
  · skip
    have := hz q
    try unfold ck_hoc
    try unfold ck_bL
    try unfold ck_bH
    try unfold ck_mx
    try unfold ck_mn
    (repeat' split) <;> omega
  · skip
    have := ht q
    try unfold ck_hoc
    try unfold ck_bL
    try unfold ck_bH
    try unfold ck_mx
    try unfold ck_mn
    (repeat' split) <;> omega
theorem co_wb_dNot {k : Int} (hk0 : 0 ≤ k) {f : ck_D} (hf : co_wb k f) {x y z : Int} (hz0 : -100 ≤ z ∧ z ≤ 100) : co_wb (k + 1) (ck_dNot x y z f) := by
  obtain ⟨hk, hl, hh, hv, hz, ht⟩ := hf
  refine co_wb_N (by omega) (fun n _ _ => ?_) (fun n _ _ => ?_) (fun n q _ _ _ _ => ?_) (fun q _ _ => ?_) (fun q _ _ => ?_) (fun q _ _ => ?_)
  · skip
    have := hk n
    have := hk x
    have := hk y
    try unfold ck_hoc
    try unfold ck_bL
    try unfold ck_bH
    try unfold ck_mx
    try unfold ck_mn
    (repeat' split) <;> omega
  · skip
    have := hl n
    have := hl x
    have := hl y
    try unfold ck_hoc
    try unfold ck_bL
    try unfold ck_bH
    try unfold ck_mx
    try unfold ck_mn
    (repeat' split) <;> omega
  · skip
    have := hh n q
    have := hh x q
    have := hh y q
    have := hz q
    try unfold ck_hoc
    try unfold ck_bL
    try unfold ck_bH
    try unfold ck_mx
    try unfold ck_mn
    (repeat' split) <;> omega
  · skip
    have := hv q
    try unfold ck_hoc
    try unfold ck_bL
    try unfold ck_bH
    try unfold ck_mx
    try unfold ck_mn
    (repeat' split) <;> omega
  · skip
    have := hz q
    try unfold ck_hoc
    try unfold ck_bL
    try unfold ck_bH
    try unfold ck_mx
    try unfold ck_mn
    (repeat' split) <;> omega
  · skip
    have := ht q
    try unfold ck_hoc
    try unfold ck_bL
    try unfold ck_bH
    try unfold ck_mx
    try unfold ck_mn
    (repeat' split) <;> omega
theorem co_wb_dJw {k : Int} (hk0 : 0 ≤ k) {f g : ck_D} (hf : co_wb k f) (hg : co_wb k g) : co_wb (k + 1) (ck_dJw g k f) := by
  obtain ⟨hk, hl, hh, hv, hz, ht⟩ := hf
  obtain ⟨hk', hl', hh', hv', hz', ht'⟩ := hg
  refine co_wb_N (by omega) (fun n _ _ => ?_) (fun n _ _ => ?_) (fun n q _ _ _ _ => ?_) (fun q _ _ => ?_) (fun q _ _ => ?_) (fun q _ _ => ?_)
  · skip
    have := hk n
    have := hk' n
    try unfold ck_hoc
    try unfold ck_bL
    try unfold ck_bH
    try unfold ck_mx
    try unfold ck_mn
    (repeat' split) <;> omega
  · skip
    have := hl n
    have := hl' n
    try unfold ck_hoc
    try unfold ck_bL
    try unfold ck_bH
    try unfold ck_mx
    try unfold ck_mn
    (repeat' split) <;> omega
  · skip
    have := hh n q
    have := hh' n q
    have := hz q
    have := hz' q
    try unfold ck_hoc
    try unfold ck_bL
    try unfold ck_bH
    try unfold ck_mx
    try unfold ck_mn
    (repeat' split) <;> omega
  · skip
    have := hv q
    have := hv' q
    try unfold ck_hoc
    try unfold ck_bL
    try unfold ck_bH
    try unfold ck_mx
    try unfold ck_mn
    (repeat' split) <;> omega
  · skip
    have := hz q
    have := hz' q
    try unfold ck_hoc
    try unfold ck_bL
    try unfold ck_bH
    try unfold ck_mx
    try unfold ck_mn
    (repeat' split) <;> omega
  · skip
    have := ht q
    have := ht' q
    try unfold ck_hoc
    try unfold ck_bL
    try unfold ck_bH
    try unfold ck_mx
    try unfold ck_mn
    (repeat' split) <;> omega
theorem co_wb_dFc {k : Int} (hk0 : 0 ≤ k) {f : ck_D} (hf : co_wb k f) {nb ab : Int} : co_wb (k) (ck_dFc nb ab k f) := by
  obtain ⟨hk, hl, hh, hv, hz, ht⟩ := hf
  refine co_wb_N (by omega) (fun n _ _ => ?_) (fun n _ _ => ?_) (fun n q _ _ _ _ => ?_) (fun q _ _ => ?_) (fun q _ _ => ?_) (fun q _ _ => ?_)
  · skip
    have := hk n
    try unfold ck_hoc
    try unfold ck_bL
    try unfold ck_bH
    try unfold ck_mx
    try unfold ck_mn
    (repeat' split) <;> omega
  · skip
    have := hl n
    try unfold ck_hoc
    try unfold ck_bL
    try unfold ck_bH
    try unfold ck_mx
    try unfold ck_mn
    (repeat' split) <;> omega
  · skip
    have := hh n q
    have := hz q
    try unfold ck_hoc
    try unfold ck_bL
    try unfold ck_bH
    try unfold ck_mx
    try unfold ck_mn
    (repeat' split) <;> omega
  · skip
    have := hv q
    try unfold ck_hoc
    try unfold ck_bL
    try unfold ck_bH
    try unfold ck_mx
    try unfold ck_mn
    (repeat' split) <;> omega
  · skip
    have := hz q
    try unfold ck_hoc
    try unfold ck_bL
    try unfold ck_bH
    try unfold ck_mx
    try unfold ck_mn
    (repeat' split) <;> omega
  · skip
    have := ht q
    try unfold ck_hoc
    try unfold ck_bL
    try unfold ck_bH
    try unfold ck_mx
    try unfold ck_mn
    (repeat' split) <;> omega
theorem co_wb_dAny0 {k : Int} (hk0 : 0 ≤ k) {f : ck_D} (hf : co_wb k f) {x : Int} : co_wb (k) (ck_dAny x f) := by
  obtain ⟨hk, hl, hh, hv, hz, ht⟩ := hf
  refine co_wb_N (by omega) (fun n _ _ => ?_) (fun n _ _ => ?_) (fun n q _ _ _ _ => ?_) (fun q _ _ => ?_) (fun q _ _ => ?_) (fun q _ _ => ?_)
  · skip
    have := hk n
    try unfold ck_hoc
    try unfold ck_bL
    try unfold ck_bH
    try unfold ck_mx
    try unfold ck_mn
    (repeat' split) <;> omega
  · skip
    have := hl n
    try unfold ck_hoc
    try unfold ck_bL
    try unfold ck_bH
    try unfold ck_mx
    try unfold ck_mn
    (repeat' split) <;> omega
  · skip
    have := hh n q
    have := hz q
    try unfold ck_hoc
    try unfold ck_bL
    try unfold ck_bH
    try unfold ck_mx
    try unfold ck_mn
    (repeat' split) <;> omega
  · skip
    have := hv q
    try unfold ck_hoc
    try unfold ck_bL
    try unfold ck_bH
    try unfold ck_mx
    try unfold ck_mn
    (repeat' split) <;> omega
  · skip
    have := hz q
    try unfold ck_hoc
    try unfold ck_bL
    try unfold ck_bH
    try unfold ck_mx
    try unfold ck_mn
    (repeat' split) <;> omega
  · skip
    have := ht q
    try unfold ck_hoc
    try unfold ck_bL
    try unfold ck_bH
    try unfold ck_mx
    try unfold ck_mn
    (repeat' split) <;> omega
theorem co_wb_dJb {k m : Int} (hk0 : 0 ≤ k) {f g : ck_D} (hf : co_wb k f) (hg : co_wb m g) : co_wb k (ck_dJb g f) := by
  obtain ⟨hk, hl, hh, hv, hz, ht⟩ := hf
  obtain ⟨hk', hl', hh', hv', hz', ht'⟩ := hg
  refine co_wb_N (by omega) (fun n _ _ => hk n) (fun n _ _ => ?_) (fun n q _ _ _ _ => ?_) (fun q _ _ => hv q) (fun q _ _ => hz q) (fun q _ _ => ?_)
  · have := hl n
    have := hl' n
    unfold ck_mn
    split <;> omega
  · have := hh n q
    have := hh' n q
    unfold ck_mx
    split <;> omega
  · split <;> omega
theorem co_wb_first : co_wb 0 ck_dFirst := co_wb_N (by decide) (fun _ _ _ => by omega) (fun _ _ _ => by omega) (fun _ _ _ _ _ _ => by omega) (fun _ _ _ => by omega) (fun _ _ _ => by omega) (fun _ _ _ => by omega)
theorem co_wb_dEff {k : Int} (hk0 : 0 ≤ k ∧ k < 64) {f : ck_D} (hf : co_wb k f) {t x y z : Int} (hO : ck_sOk t x y z) : co_wb (k + 1) (ck_dEff t x y z k f) := by
  unfold ck_sOk at hO
  unfold ck_dEff
  split
  · exact co_wb_dSet hk0.1 hf (by omega)
  split
  · exact co_wb_dSum hk0.1 hf (by omega)
  split
  · exact co_wb_dAny hk0.1 hf
  split
  · exact co_wb_dLen hk0.1 hf
  split
  · have h2 : co_wb (k + 1) (ck_dUse y z f) := co_wb_dUse hk0.1 hf
    exact co_wb_dAny0 (by omega) h2
  split
  · exact co_wb_dUse hk0.1 hf
  split
  · exact co_wb_dNew hk0.1 hf hk0.2
  split
  · exact co_wb_dNull hk0.1 hf
  split
  · exact co_wb_dLet hk0.1 hf
  · exact co_wb_up (by omega) hf
