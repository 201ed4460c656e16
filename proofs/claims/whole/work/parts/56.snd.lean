/-! ## What is known is so: of numbers N, arrays R (-1: null), lengths L -/
def co_ln (R L : Int → Int) (r : Int) : Int := if R r = -1 then 0 else L (R r)
def co_sd (f : ck_D) (N R L : Int → Int) : Prop := (∀ m, 0 ≤ m → m < 10 → ck_kn f m = 1000000000 ∨ N m = ck_kn f m) ∧ (∀ m, 0 ≤ m → m < 10 → ck_lo f m ≤ N m) ∧ (∀ m r, 0 ≤ m → m < 10 → 0 ≤ r → r < 4 → N m ≤ co_ln R L r + ck_hi f m r) ∧ (∀ r, 0 ≤ r → r < 4 → ck_va f r = 0 → R r = -1) ∧ (∀ r, 0 ≤ r → r < 4 → ck_th f r = 0 ∨ R r ≠ -1) ∧ (∀ r s, 0 ≤ r → r < 4 → 0 ≤ s → s < 4 → ck_va f r = ck_va f s → ck_va f r = 0 ∨ R r = R s) ∧ ∀ r, 0 ≤ r → r < 4 → ck_sz f r = 1000000000 ∨ (R r ≠ -1 ∧ L (R r) = ck_sz f r)
theorem co_sd_N {k l v z t : Int → Int} {h : Int → Int → Int} {N R L : Int → Int} (e1 : ∀ m, 0 ≤ m → m < 10 → k m = 1000000000 ∨ N m = k m) (e2 : ∀ m, 0 ≤ m → m < 10 → l m ≤ N m) (e3 : ∀ m r, 0 ≤ m → m < 10 → 0 ≤ r → r < 4 → N m ≤ co_ln R L r + h m r) (e4 : ∀ r, 0 ≤ r → r < 4 → v r = 0 → R r = -1) (e5 : ∀ r, 0 ≤ r → r < 4 → t r = 0 ∨ R r ≠ -1) (e6 : ∀ r s, 0 ≤ r → r < 4 → 0 ≤ s → s < 4 → v r = v s → v r = 0 ∨ R r = R s) (e7 : ∀ r, 0 ≤ r → r < 4 → z r = 1000000000 ∨ (R r ≠ -1 ∧ L (R r) = z r)) : co_sd (ck_N k l h v z t) N R L := by
  refine ⟨fun m a b => ?_, fun m a b => ?_, fun m r a b c d => ?_, fun r a b => ?_, fun r a b => ?_, fun r s a b c d => ?_, fun r a b => ?_⟩
  · rw [ck_N_kn a b]; exact e1 m a b
  · rw [ck_N_lo a b]; exact e2 m a b
  · rw [ck_N_hi a b c d]; exact e3 m r a b c d
  · rw [ck_N_va a b]; exact e4 r a b
  · rw [ck_N_th a b]; exact e5 r a b
  · rw [ck_N_va a b, ck_N_va c d]; exact e6 r s a b c d
  · rw [ck_N_sz a b]; exact e7 r a b
theorem co_bL_le {v x : Int} (h : v ≤ x) (h2 : -1000000000 ≤ x) : ck_bL v ≤ x := by unfold ck_bL; split <;> omega
theorem co_le_bH {v x l : Int} (h : x ≤ l + v) (h2 : x ≤ l + 1000000000) : x ≤ l + ck_bH v := by unfold ck_bH; split <;> omega
theorem co_mx_le {a b x : Int} (h : a ≤ x) (h2 : b ≤ x) : ck_mx a b ≤ x := by unfold ck_mx; split <;> omega
theorem co_le_mn {a b x l : Int} (h : x ≤ l + a) (h2 : x ≤ l + b) : x ≤ l + ck_mn a b := by unfold ck_mn; split <;> omega
theorem co_mn_le {a b x : Int} (h : a ≤ x ∨ b ≤ x) : ck_mn a b ≤ x := by unfold ck_mn; split <;> omega
theorem co_le_mx {a b x l : Int} (h : x ≤ l + a ∨ x ≤ l + b) : x ≤ l + ck_mx a b := by unfold ck_mx; split <;> omega
section COS
variable {f g : ck_D} {N N' R R' L L' : Int → Int}
theorem co_ln_sz (h : co_sd f N R L) {r : Int} (a : 0 ≤ r) (b : r < 4) : ck_sz f r = 1000000000 ∨ co_ln R L r = ck_sz f r := by
  rcases h.2.2.2.2.2.2 r a b with q | ⟨q1, q2⟩
  · exact Or.inl q
  · refine Or.inr ?_
    unfold co_ln
    rw [if_neg q1, q2]
theorem co_hoc_ok (h : co_sd f N R L) {r v : Int} (a : 0 ≤ r) (b : r < 4) (hl : 0 ≤ co_ln R L r) (hv : v ≤ 1000000) : v ≤ co_ln R L r + ck_hoc f v r := by
  unfold ck_hoc
  have h1 := co_ln_sz h a b
  split
  · omega
  · refine co_le_bH ?_ (by omega)
    split <;> omega
theorem co_sd_set (h : co_sd f N R L) (hl : ∀ r, 0 ≤ r → r < 4 → 0 ≤ co_ln R L r) {x v : Int} (e : N' x = v) (e' : ∀ j, j ≠ x → N' j = N j) (hv : v ≤ 1000000) : co_sd (ck_dSet x v f) N' R L := by
  have h0 := h
  obtain ⟨hK, hL, hH, hZ, hT, hE, hS⟩ := h
  refine co_sd_N (fun m a b => ?_) (fun m a b => ?_) (fun m r a b c d => ?_) hZ hT hE hS
  · by_cases q : m = x
    · rw [if_pos q, q]; exact Or.inr e
    · rw [if_neg q, e' m q]; exact hK m a b
  · by_cases q : m = x
    · rw [if_pos q, q, e]; exact Int.le_refl _
    · rw [if_neg q, e' m q]; exact hL m a b
  · by_cases q : m = x
    · rw [if_pos q, q, e]; exact co_hoc_ok h0 c d (hl r c d) hv
    · rw [if_neg q, e' m q]; exact hH m r a b c d
theorem co_sd_sum (h : co_sd f N R L) (hl : ∀ r, 0 ≤ r → r < 4 → 0 ≤ co_ln R L r) {x y z : Int} (y0 : 0 ≤ y) (y1 : y < 10) (e : N' x = N y + z) (e' : ∀ j, j ≠ x → N' j = N j) (hv : -1000000 ≤ N y + z ∧ N y + z ≤ 1000000) : co_sd (ck_dSum x y z f) N' R L := by
  obtain ⟨hK, hL, hH, hZ, hT, hE, hS⟩ := h
  refine co_sd_N (fun m a b => ?_) (fun m a b => ?_) (fun m r a b c d => ?_) hZ hT hE hS
  · by_cases q : m = x
    · rw [if_pos q, q, e]
      have := hK y y0 y1
      split <;> omega
    · rw [if_neg q, e' m q]; exact hK m a b
  · by_cases q : m = x
    · rw [if_pos q, q, e]
      have := hL y y0 y1
      exact co_bL_le (by omega) (by omega)
    · rw [if_neg q, e' m q]; exact hL m a b
  · by_cases q : m = x
    · rw [if_pos q, q, e]
      have := hH y r y0 y1 c d
      have := hl r c d
      exact co_le_bH (by omega) (by omega)
    · rw [if_neg q, e' m q]; exact hH m r a b c d
theorem co_sd_any (h : co_sd f N R L) (hl : ∀ r, 0 ≤ r → r < 4 → 0 ≤ co_ln R L r) {x : Int} (e : -1000000 ≤ N' x ∧ N' x ≤ 1000000) (e' : ∀ j, j ≠ x → N' j = N j) : co_sd (ck_dAny x f) N' R L := by
  obtain ⟨hK, hL, hH, hZ, hT, hE, hS⟩ := h
  refine co_sd_N (fun m a b => ?_) (fun m a b => ?_) (fun m r a b c d => ?_) hZ hT hE hS
  · by_cases q : m = x
    · rw [if_pos q]; exact Or.inl rfl
    · rw [if_neg q, e' m q]; exact hK m a b
  · by_cases q : m = x
    · rw [if_pos q, q]; omega
    · rw [if_neg q, e' m q]; exact hL m a b
  · by_cases q : m = x
    · rw [if_pos q, q]
      have := hl r c d
      omega
    · rw [if_neg q, e' m q]; exact hH m r a b c d
theorem co_sd_mk (h : co_sd f N R L) {a r : Int} (a0 : 0 ≤ a) (a1 : a < 4) (ha : R a ≠ -1) (r0 : 0 ≤ r) (r1 : r < 4) : (if ck_va f r = ck_va f a ∧ ck_va f r ≠ 0 then 1 else ck_th f r) = 0 ∨ R r ≠ -1 := by
  obtain ⟨hK, hL, hH, hZ, hT, hE, hS⟩ := h
  by_cases q : ck_va f r = ck_va f a ∧ ck_va f r ≠ 0
  · rw [if_pos q]
    rcases hE r a r0 r1 a0 a1 q.1 with z | z
    · exact absurd z q.2
    · rw [z]; exact Or.inr ha
  · rw [if_neg q]; exact hT r r0 r1
theorem co_sd_same (h : co_sd f N R L) {a r : Int} (a0 : 0 ≤ a) (a1 : a < 4) (r0 : 0 ≤ r) (r1 : r < 4) (q : ck_va f r = ck_va f a ∧ ck_va f r ≠ 0) : co_ln R L r = co_ln R L a := by
  rcases h.2.2.2.2.2.1 r a r0 r1 a0 a1 q.1 with z | z
  · exact absurd z q.2
  · unfold co_ln; rw [z]
theorem co_sd_len (h : co_sd f N R L) (hl : ∀ r, 0 ≤ r → r < 4 → 0 ≤ co_ln R L r) {x a : Int} (a0 : 0 ≤ a) (a1 : a < 4) (ha : R a ≠ -1) (e : N' x = L (R a)) (e2 : N' x ≤ 1000000) (e' : ∀ j, j ≠ x → N' j = N j) : co_sd (ck_dLen x a f) N' R L := by
  have h0 := h
  have el : co_ln R L a = N' x := by unfold co_ln; rw [if_neg ha, e]
  obtain ⟨hK, hL, hH, hZ, hT, hE, hS⟩ := h
  refine co_sd_N (fun m a b => ?_) (fun m c b => ?_) (fun m r c1 b c d => ?_) hZ (fun r r0 r1 => co_sd_mk h0 a0 a1 ha r0 r1) hE hS
  · by_cases q : m = x
    · rw [if_pos q]; exact Or.inl rfl
    · rw [if_neg q, e' m q]; exact hK m a b
  · by_cases q : m = x
    · rw [if_pos q, q]
      have := hl a a0 a1
      omega
    · rw [if_neg q, e' m q]; exact hL m c b
  · by_cases q : m = x
    · rw [if_pos q, q]
      by_cases w : ck_va f r = ck_va f a ∧ ck_va f r ≠ 0
      · rw [if_pos w, co_sd_same h0 a0 a1 c d w]; omega
      · rw [if_neg w]
        have := hl r c d
        omega
    · rw [if_neg q, e' m q]; exact hH m r c1 b c d
theorem co_sd_use (h : co_sd f N R L) {a i : Int} (a0 : 0 ≤ a) (a1 : a < 4) (ha : R a ≠ -1) (i0 : 0 ≤ i) (i1 : i < 10) (n0 : 0 ≤ N i) (n1 : N i < L (R a)) : co_sd (ck_dUse a i f) N R L := by
  have h0 := h
  have el : co_ln R L a = L (R a) := by unfold co_ln; rw [if_neg ha]
  obtain ⟨hK, hL, hH, hZ, hT, hE, hS⟩ := h
  refine co_sd_N hK (fun m c b => ?_) (fun m r c1 b c d => ?_) hZ (fun r r0 r1 => co_sd_mk h0 a0 a1 ha r0 r1) hE hS
  · by_cases q : m = i
    · rw [if_pos q, q]
      exact co_mx_le (hL i i0 i1) n0
    · rw [if_neg q]; exact hL m c b
  · by_cases q : m = i
    · rw [if_pos q, q]
      by_cases w : ck_va f r = ck_va f a ∧ ck_va f r ≠ 0
      · rw [if_pos w]
        have := co_sd_same h0 a0 a1 c d w
        exact co_le_mn (hH i r i0 i1 c d) (by omega)
      · rw [if_neg w]; exact hH i r i0 i1 c d
    · rw [if_neg q]; exact hH m r c1 b c d
theorem co_sd_new (h : co_sd f N R L) {a y k u : Int} (y0 : 0 ≤ y) (y1 : y < 10) (n0 : 0 ≤ N y) (hN : ∀ m, 0 ≤ m → m < 10 → N m ≤ 1000000) (u0 : 0 ≤ u) (hR : ∀ r, 0 ≤ r → r < 4 → R r ≠ u) (eR : R' a = u) (eR' : ∀ r, r ≠ a → R' r = R r) (eL : L' u = N y) (eL' : ∀ j, j ≠ u → L' j = L j) (k0 : 0 ≤ k) (hv : ∀ r, 0 ≤ r → r < 4 → ck_va f r ≠ 1 + k) : co_sd (ck_dNew a y k f) N R' L' := by
  obtain ⟨hK, hL, hH, hZ, hT, hE, hS⟩ := h
  have ea : co_ln R' L' a = N y := by unfold co_ln; rw [eR, if_neg (by omega), eL]
  have eo : ∀ r, 0 ≤ r → r < 4 → r ≠ a → co_ln R' L' r = co_ln R L r := fun r r0 r1 q => by
    unfold co_ln
    rw [eR' r q, eL' _ (hR r r0 r1)]
  refine co_sd_N hK (fun m c b => ?_) (fun m r c1 b c d => ?_) (fun r c d => ?_) (fun r c d => ?_) (fun r s c d c' d' => ?_) (fun r c d => ?_)
  · by_cases q : m = y
    · rw [if_pos q, q]
      exact co_mx_le (hL y y0 y1) n0
    · rw [if_neg q]; exact hL m c b
  · have h1 := hN m c1 b
    by_cases q : r = a
    · rw [if_pos q, q, ea]
      by_cases w : m = y
      · rw [if_pos w, w]; omega
      · rw [if_neg w]
        have h2 := hK m c1 b
        have h3 := hK y y0 y1
        split
        · omega
        · refine co_le_bH ?_ (by omega)
          split <;> omega
    · rw [if_neg q, eo r c d q]; exact hH m r c1 b c d
  · by_cases q : r = a
    · rw [if_pos q]; intro z; omega
    · rw [if_neg q, eR' r q]; exact hZ r c d
  · by_cases q : r = a
    · rw [q, eR]; exact Or.inr (by omega)
    · rw [if_neg q, eR' r q]; exact hT r c d
  · by_cases q : r = a
    · by_cases w : s = a
      · rw [q, w]; exact fun _ => Or.inr rfl
      · rw [if_pos q, if_neg w]
        intro z
        exact absurd z.symm (hv s c' d')
    · by_cases w : s = a
      · rw [if_neg q, if_pos w]
        intro z
        exact absurd z (hv r c d)
      · rw [if_neg q, if_neg w, eR' r q, eR' s w]
        exact hE r s c d c' d'
  · by_cases q : r = a
    · rw [if_pos q, q, eR, eL]
      rcases hK y y0 y1 with z | z
      · exact Or.inl z
      · exact Or.inr ⟨by omega, z⟩
    · rw [if_neg q, eR' r q, eL' _ (hR r c d)]; exact hS r c d
theorem co_sd_null (h : co_sd f N R L) (hN : ∀ m, 0 ≤ m → m < 10 → N m ≤ 1000000) {a : Int} (eR : R' a = -1) (eR' : ∀ r, r ≠ a → R' r = R r) : co_sd (ck_dNull a f) N R' L := by
  obtain ⟨hK, hL, hH, hZ, hT, hE, hS⟩ := h
  have ea : co_ln R' L a = 0 := by unfold co_ln; rw [eR, if_pos rfl]
  have eo : ∀ r, r ≠ a → co_ln R' L r = co_ln R L r := fun r q => by
    unfold co_ln
    rw [eR' r q]
  refine co_sd_N hK hL (fun m r c1 b c d => ?_) (fun r c d => ?_) (fun r c d => ?_) (fun r s c d c' d' => ?_) (fun r c d => ?_)
  · have h1 := hN m c1 b
    by_cases q : r = a
    · rw [if_pos q, q, ea]; omega
    · rw [if_neg q, eo r q]; exact hH m r c1 b c d
  · by_cases q : r = a
    · rw [q]; exact fun _ => eR
    · rw [if_neg q, eR' r q]; exact hZ r c d
  · by_cases q : r = a
    · rw [if_pos q]; exact Or.inl rfl
    · rw [if_neg q, eR' r q]; exact hT r c d
  · by_cases q : r = a
    · rw [if_pos q]; exact fun _ => Or.inl rfl
    · rw [if_neg q]
      by_cases w : s = a
      · rw [if_pos w]; exact fun z => Or.inl z
      · rw [if_neg w, eR' r q, eR' s w]; exact hE r s c d c' d'
  · by_cases q : r = a
    · rw [if_pos q]; exact Or.inl rfl
    · rw [if_neg q, eR' r q]; exact hS r c d
theorem co_sd_let (h : co_sd f N R L) {a e : Int} (e0 : 0 ≤ e) (e1 : e < 4) (eR : R' a = R e) (eR' : ∀ r, r ≠ a → R' r = R r) : co_sd (ck_dLet a e f) N R' L := by
  obtain ⟨hK, hL, hH, hZ, hT, hE, hS⟩ := h
  have ea : co_ln R' L a = co_ln R L e := by unfold co_ln; rw [eR]
  have eo : ∀ r, r ≠ a → co_ln R' L r = co_ln R L r := fun r q => by
    unfold co_ln
    rw [eR' r q]
  refine co_sd_N hK hL (fun m r c1 b c d => ?_) (fun r c d => ?_) (fun r c d => ?_) (fun r s c d c' d' => ?_) (fun r c d => ?_)
  · by_cases q : r = a
    · rw [if_pos q, q, ea]; exact hH m e c1 b e0 e1
    · rw [if_neg q, eo r q]; exact hH m r c1 b c d
  · by_cases q : r = a
    · rw [if_pos q, q, eR]; exact hZ e e0 e1
    · rw [if_neg q, eR' r q]; exact hZ r c d
  · by_cases q : r = a
    · rw [if_pos q, q, eR]; exact hT e e0 e1
    · rw [if_neg q, eR' r q]; exact hT r c d
  · by_cases q : r = a
    · by_cases w : s = a
      · rw [q, w]; exact fun _ => Or.inr rfl
      · rw [if_pos q, if_neg w, q, eR, eR' s w]; exact hE e s e0 e1 c' d'
    · by_cases w : s = a
      · rw [if_neg q, if_pos w, w, eR, eR' r q]; exact hE r e c d e0 e1
      · rw [if_neg q, if_neg w, eR' r q, eR' s w]; exact hE r s c d c' d'
  · by_cases q : r = a
    · rw [if_pos q, q, eR]; exact hS e e0 e1
    · rw [if_neg q, eR' r q]; exact hS r c d
theorem co_sd_bel (h : co_sd f N R L) (hl : ∀ r, 0 ≤ r → r < 4 → 0 ≤ co_ln R L r) (hN : ∀ m, 0 ≤ m → m < 10 → -1000000 ≤ N m ∧ N m ≤ 1000000) {x y z : Int} (x0 : 0 ≤ x) (x1 : x < 10) (y0 : 0 ≤ y) (y1 : y ≤ 10) (hb : N x < (if y = 10 then 0 else N y) + z) : co_sd (ck_dBel x y z f) N R L := by
  have h0 := h
  obtain ⟨hK, hL, hH, hZ, hT, hE, hS⟩ := h
  refine co_sd_N hK (fun m c b => ?_) (fun m r c1 b c d => ?_) hZ hT hE hS
  · by_cases q : m = y
    · rw [if_pos q]
      rw [if_neg (by omega), ← q] at hb
      rw [← q]
      have h1 := hL m c b
      have h2 := hL x x0 x1
      have h3 := hN m c b
      exact co_mx_le h1 (co_bL_le (by omega) (by omega))
    · rw [if_neg q]; exact hL m c b
  · by_cases q : m = x
    · rw [if_pos q, q]
      have h1 := hH x r x0 x1 c d
      have h2 := hl r c d
      have h3 := hN x x0 x1
      refine co_le_mn h1 (co_le_bH ?_ (by omega))
      by_cases w : y = 10
      · rw [if_pos w] at hb ⊢
        have := co_hoc_ok h0 (v := 0) c d h2 (by decide)
        omega
      · rw [if_neg w] at hb ⊢
        have := hH y r y0 (by omega) c d
        omega
    · rw [if_neg q]; exact hH m r c1 b c d
theorem co_sd_not (h : co_sd f N R L) (hl : ∀ r, 0 ≤ r → r < 4 → 0 ≤ co_ln R L r) (hN : ∀ m, 0 ≤ m → m < 10 → -1000000 ≤ N m ∧ N m ≤ 1000000) {x y z : Int} (x0 : 0 ≤ x) (x1 : x < 10) (y0 : 0 ≤ y) (y1 : y ≤ 10) (hb : ¬ N x < (if y = 10 then 0 else N y) + z) : co_sd (ck_dNot x y z f) N R L := by
  obtain ⟨hK, hL, hH, hZ, hT, hE, hS⟩ := h
  refine co_sd_N hK (fun m c b => ?_) (fun m r c1 b c d => ?_) hZ hT hE hS
  · by_cases q : m = x
    · rw [if_pos q, q]
      have h1 := hL x x0 x1
      have h3 := hN x x0 x1
      refine co_mx_le h1 (co_bL_le ?_ (by omega))
      by_cases w : y = 10
      · rw [if_pos w] at hb ⊢
        omega
      · rw [if_neg w] at hb ⊢
        have := hL y y0 (by omega)
        omega
    · rw [if_neg q]; exact hL m c b
  · by_cases q : m = y
    · rw [if_pos q]
      rw [if_neg (by omega), ← q] at hb
      rw [← q]
      have h1 := hH m r c1 b c d
      have h2 := hl r c d
      have h3 := hN m c1 b
      have h4 := hH x r x0 x1 c d
      exact co_le_mn h1 (co_le_bH (by omega) (by omega))
    · rw [if_neg q]; exact hH m r c1 b c d
theorem co_sd_jwf (h : co_sd f N R L) {k : Int} (k0 : 0 ≤ k) (hv : ∀ r, 0 ≤ r → r < 4 → ck_va f r < 65 + k * 4) : co_sd (ck_dJw g k f) N R L := by
  obtain ⟨hK, hL, hH, hZ, hT, hE, hS⟩ := h
  refine co_sd_N (fun m a b => ?_) (fun m a b => co_mn_le (Or.inl (hL m a b))) (fun m r a b c d => co_le_mx (Or.inl (hH m r a b c d))) (fun r c d => ?_) (fun r c d => ?_) (fun r s c d c' d' => ?_) (fun r c d => ?_)
  · split
    · exact hK m a b
    · exact Or.inl rfl
  · split
    · intro z; omega
    · exact hZ r c d
  · split
    · exact Or.inl rfl
    · rename_i w
      have := hT r c d
      rcases this with z | z
      · exact absurd (Or.inl z) w
      · exact Or.inr z
  · have h1 := hv r c d
    have h2 := hv s c' d'
    by_cases q : r < 4 ∧ ck_va f r ≠ ck_va g r
    · rw [if_pos q]
      by_cases w : s < 4 ∧ ck_va f s ≠ ck_va g s
      · rw [if_pos w]
        intro z
        have : r = s := by omega
        rw [this]; exact Or.inr rfl
      · rw [if_neg w]; intro z; omega
    · rw [if_neg q]
      by_cases w : s < 4 ∧ ck_va f s ≠ ck_va g s
      · rw [if_pos w]; intro z; omega
      · rw [if_neg w]; exact hE r s c d c' d'
  · split
    · exact Or.inl rfl
    · exact hS r c d
theorem co_sd_jwg (h : co_sd g N R L) {k : Int} (k0 : 0 ≤ k) (hv : ∀ r, 0 ≤ r → r < 4 → ck_va g r < 65 + k * 4) (hz : ∀ r, 0 ≤ r → r < 4 → ck_va f r = ck_va g r → ck_sz f r = ck_sz g r) : co_sd (ck_dJw g k f) N R L := by
  obtain ⟨hK, hL, hH, hZ, hT, hE, hS⟩ := h
  refine co_sd_N (fun m a b => ?_) (fun m a b => co_mn_le (Or.inr (hL m a b))) (fun m r a b c d => co_le_mx (Or.inr (hH m r a b c d))) (fun r c d => ?_) (fun r c d => ?_) (fun r s c d c' d' => ?_) (fun r c d => ?_)
  · split
    · rename_i w
      rw [w]; exact hK m a b
    · exact Or.inl rfl
  · split
    · intro z; omega
    · intro z
      exact hZ r c d (by omega)
  · split
    · exact Or.inl rfl
    · rename_i w
      have := hT r c d
      rcases this with z | z
      · exact absurd (Or.inr z) w
      · exact Or.inr z
  · have h1 := hv r c d
    have h2 := hv s c' d'
    have h3 := hE r s c d c' d'
    by_cases q : r < 4 ∧ ck_va f r ≠ ck_va g r
    · rw [if_pos q]
      by_cases w : s < 4 ∧ ck_va f s ≠ ck_va g s
      · rw [if_pos w]
        intro z
        have : r = s := by omega
        rw [this]; exact Or.inr rfl
      · rw [if_neg w]; intro z; omega
    · have q' : ck_va f r = ck_va g r := by omega
      rw [if_neg q, q']
      by_cases w : s < 4 ∧ ck_va f s ≠ ck_va g s
      · rw [if_pos w]; intro z; omega
      · have w' : ck_va f s = ck_va g s := by omega
        rw [if_neg w, w']; exact h3
  · split
    · exact Or.inl rfl
    · rw [hz r c d (by omega)]; exact hS r c d
theorem co_sd_fcf (h : co_sd f N R L) {nb ab k : Int} (k0 : 0 ≤ k) (hv : ∀ r, 0 ≤ r → r < 4 → ck_va f r < 65 + k * 4) : co_sd (ck_dFc nb ab k (ck_dJb g f)) N R L := by
  obtain ⟨hK, hL, hH, hZ, hT, hE, hS⟩ := h
  refine co_sd_N (fun m a b => ?_) (fun m a b => ?_) (fun m r a b c d => ?_) (fun r c d => ?_) (fun r c d => ?_) (fun r s c d c' d' => ?_) (fun r c d => ?_)
  · split
    · rw [co_kn_dJb a b]; exact hK m a b
    · exact Or.inl rfl
  · unfold ck_dJb
    rw [ck_N_lo a b]
    exact co_mn_le (Or.inl (hL m a b))
  · unfold ck_dJb
    rw [ck_N_hi a b c d]
    exact co_le_mx (Or.inl (hH m r a b c d))
  · rw [co_va_dJb c d]
    split
    · intro z; omega
    · exact hZ r c d
  · unfold ck_dJb
    rw [ck_N_th c d]
    split
    · exact Or.inl rfl
    · rename_i w
      rcases hT r c d with z | z
      · exact absurd (Or.inl z) w
      · exact Or.inr z
  · rw [co_va_dJb c d, co_va_dJb c' d']
    have h1 := hv r c d
    have h2 := hv s c' d'
    have h3 := hE r s c d c' d'
    by_cases q : r < 4 ∧ ck_and (ck_shr ab r) 1 ≠ 0
    · rw [if_pos q]
      by_cases w : s < 4 ∧ ck_and (ck_shr ab s) 1 ≠ 0
      · rw [if_pos w]
        intro z
        have : r = s := by omega
        rw [this]; exact Or.inr rfl
      · rw [if_neg w]; intro z; omega
    · rw [if_neg q]
      by_cases w : s < 4 ∧ ck_and (ck_shr ab s) 1 ≠ 0
      · rw [if_pos w]; intro z; omega
      · rw [if_neg w]; exact h3
  · split
    · exact Or.inl rfl
    · unfold ck_dJb
      rw [ck_N_sz c d]
      exact hS r c d
theorem co_sd_fcg (h : co_sd g N R L) {nb ab k : Int} (k0 : 0 ≤ k) (hk : ∀ m, 0 ≤ m → m < 10 → ck_and (ck_shr nb m) 1 = 0 → ck_kn f m = ck_kn g m) (hw : ∀ r, 0 ≤ r → r < 4 → ck_and (ck_shr ab r) 1 = 0 → ck_va f r = ck_va g r ∧ ck_sz f r = ck_sz g r ∧ ck_va f r < 65 + k * 4) : co_sd (ck_dFc nb ab k (ck_dJb g f)) N R L := by
  obtain ⟨hK, hL, hH, hZ, hT, hE, hS⟩ := h
  refine co_sd_N (fun m a b => ?_) (fun m a b => ?_) (fun m r a b c d => ?_) (fun r c d => ?_) (fun r c d => ?_) (fun r s c d c' d' => ?_) (fun r c d => ?_)
  · split
    · rename_i w
      rw [co_kn_dJb a b, hk m a b w]; exact hK m a b
    · exact Or.inl rfl
  · unfold ck_dJb
    rw [ck_N_lo a b]
    exact co_mn_le (Or.inr (hL m a b))
  · unfold ck_dJb
    rw [ck_N_hi a b c d]
    exact co_le_mx (Or.inr (hH m r a b c d))
  · rw [co_va_dJb c d]
    by_cases q : r < 4 ∧ ck_and (ck_shr ab r) 1 ≠ 0
    · rw [if_pos q]; intro z; omega
    · rw [if_neg q, (hw r c d (by omega)).1]
      exact hZ r c d
  · unfold ck_dJb
    rw [ck_N_th c d]
    split
    · exact Or.inl rfl
    · rename_i w
      rcases hT r c d with z | z
      · exact absurd (Or.inr z) w
      · exact Or.inr z
  · rw [co_va_dJb c d, co_va_dJb c' d']
    have h3 := hE r s c d c' d'
    by_cases q : r < 4 ∧ ck_and (ck_shr ab r) 1 ≠ 0
    · rw [if_pos q]
      by_cases w : s < 4 ∧ ck_and (ck_shr ab s) 1 ≠ 0
      · rw [if_pos w]
        intro z
        have : r = s := by omega
        rw [this]; exact Or.inr rfl
      · rw [if_neg w]
        have := (hw s c' d' (by omega)).2.2
        intro z; omega
    · have hr := hw r c d (by omega)
      rw [if_neg q]
      by_cases w : s < 4 ∧ ck_and (ck_shr ab s) 1 ≠ 0
      · rw [if_pos w]
        have := hr.2.2
        intro z; omega
      · rw [if_neg w, hr.1, (hw s c' d' (by omega)).1]; exact h3
  · by_cases q : r < 4 ∧ ck_and (ck_shr ab r) 1 ≠ 0
    · rw [if_pos q]; exact Or.inl rfl
    · rw [if_neg q]
      unfold ck_dJb
      rw [ck_N_sz c d, (hw r c d (by omega)).2.1]
      exact hS r c d
theorem co_sd_first (hN : ∀ m, 0 ≤ m → m < 10 → N m = 0) (hR : ∀ r, 0 ≤ r → r < 4 → R r = -1) : co_sd ck_dFirst N R L := by
  refine co_sd_N (fun m a b => Or.inr (hN m a b)) (fun m a b => by rw [hN m a b]; exact Int.le_refl _) (fun m r a b c d => ?_) (fun r c d _ => hR r c d) (fun r c d => Or.inl rfl) (fun r s c d c' d' _ => Or.inl rfl) (fun r c d => Or.inl rfl)
  unfold co_ln
  rw [hN m a b, hR r c d, if_pos rfl]
  decide
end COS
