/-! ## A program while it is told -/
def co_os (p : ck_M) (d k : Int) : Prop := ∃ i, 0 ≤ i ∧ i < d ∧ p 15 i = k
def co_el (p : ck_M) (n k : Int) : Prop := p 11 k = -1 ∨ (p 6 k = 9 ∧ (k < p 11 k ∧ p 11 k < n) ∧ p 6 (p 11 k) = 10 ∧ p 10 (p 11 k) = k)
def co_cd (p : ck_M) (n k : Int) : Prop := (k < p 12 k ∧ p 12 k < n) ∧ p 6 (p 12 k) = 11 ∧ p 10 (p 12 k) = k ∧ co_el p (p 12 k) k
def co_nn (p : ck_M) (k e : Int) : Prop := ∀ j, k < j → j < e → p 6 j = 10 ∨ p 6 j = 11 → k ≤ p 10 j
def co_mm (p : ck_M) (k : Int) : Prop := p 6 k = 12 → (∀ m, 0 ≤ m → m < 10 → (ck_and (ck_shr (p 13 k) m) 1 = 0 ↔ ¬ co_cn p k (p 12 k) m)) ∧ ∀ r, 0 ≤ r → r < 4 → (ck_and (ck_shr (p 14 k) r) 1 = 0 ↔ ¬ co_ca p k (p 12 k) r)
def co_po (p : ck_M) (n d : Int) : Prop := (0 ≤ n ∧ n ≤ 64) ∧ (0 ≤ d ∧ d ≤ 8) ∧ co_pS p n ∧ (∀ i, 0 ≤ i → i < d → (0 ≤ p 15 i ∧ p 15 i < n) ∧ (p 6 (p 15 i) = 9 ∨ p 6 (p 15 i) = 12) ∧ co_el p n (p 15 i) ∧ co_nn p (p 15 i) n) ∧ (∀ i j, 0 ≤ i → i < j → j < d → p 15 i < p 15 j) ∧ (∀ k, 0 ≤ k → k < n → p 6 k = 9 ∨ p 6 k = 12 → co_os p d k ∨ (co_cd p n k ∧ co_nn p k (p 12 k) ∧ co_mm p k)) ∧ co_pE p n ∧ ∀ j, 0 ≤ j → j < n → p 6 j = 11 → ¬ co_os p d (p 10 j)
theorem co_po_pg {p : ck_M} {n : Int} (h : co_po p n 0) : co_pg p n := by
  obtain ⟨h1, h2, h3, h4, h5, h6, h7, h8⟩ := h
  have hc : ∀ k, 0 ≤ k → k < n → p 6 k = 9 ∨ p 6 k = 12 → co_cd p n k ∧ co_nn p k (p 12 k) ∧ co_mm p k := fun k a b q => by
    rcases h6 k a b q with ⟨i, i0, i1, -⟩ | z
    · omega
    · exact z
  exact ⟨h1, h3, fun k a b q => (hc k a b q).1, h7, fun k a b q => (hc k a b q).2.1, fun k a b q => (hc k a b (Or.inr q)).2.2 q⟩
/-- the same up to n -/
def co_sa (p q : ck_M) (n : Int) : Prop := ∀ b j, 6 ≤ b → b ≤ 10 → 0 ≤ j → j < n → q b j = p b j
section COPO
variable {p q : ck_M} {n d : Int}
theorem co_nn_c (hs : co_sa p q n) {k e : Int} (k0 : 0 ≤ k) (he : e ≤ n) (h : co_nn p k e) : co_nn q k e := fun j a b c => by
  rw [hs 6 j (by decide) (by decide) (by omega) (by omega)] at c
  rw [hs 10 j (by decide) (by decide) (by omega) (by omega)]
  exact h j a b c
theorem co_el_c (hs : co_sa p q n) {k e : Int} (k0 : 0 ≤ k) (k1 : k < n) (he : e ≤ n) (e11 : q 11 k = p 11 k) (h : co_el p e k) : co_el q e k := by
  unfold co_el
  rw [e11, hs 6 k (by decide) (by decide) k0 k1]
  rcases h with z | ⟨z1, z2, z3, z4⟩
  · exact Or.inl z
  · rw [hs 6 _ (by decide) (by decide) (by omega) (by omega), hs 10 _ (by decide) (by decide) (by omega) (by omega)]
    exact Or.inr ⟨z1, z2, z3, z4⟩
theorem co_el_up {k e e' : Int} (h : co_el p e k) (he : e ≤ e') : co_el p e' k := by
  rcases h with z | ⟨z1, z2, z3, z4⟩
  · exact Or.inl z
  · exact Or.inr ⟨z1, by omega, z3, z4⟩
theorem co_cd_c (hs : co_sa p q n) {k : Int} (k0 : 0 ≤ k) (k1 : k < n) (e11 : q 11 k = p 11 k) (e12 : q 12 k = p 12 k) (h : co_cd p n k) : co_cd q n k := by
  obtain ⟨a, b, c, e⟩ := h
  unfold co_cd
  rw [e12, hs 6 _ (by decide) (by decide) (by omega) (by omega), hs 10 _ (by decide) (by decide) (by omega) (by omega)]
  exact ⟨a, b, c, co_el_c hs k0 k1 (by omega) e11 e⟩
theorem co_cd_up {k n' : Int} (h : co_cd p n k) (he : n ≤ n') : co_cd p n' k := ⟨⟨h.1.1, by have := h.1.2; omega⟩, h.2⟩
theorem co_cn_c (hs : co_sa p q n) {k e m : Int} (k0 : 0 ≤ k) (he : e ≤ n) : co_cn q k e m ↔ co_cn p k e m := by
  constructor
  · rintro ⟨j, a, b, c, f⟩
    rw [hs 6 j (by decide) (by decide) (by omega) (by omega)] at c
    rw [hs 7 j (by decide) (by decide) (by omega) (by omega)] at f
    exact ⟨j, a, b, c, f⟩
  · rintro ⟨j, a, b, c, f⟩
    refine ⟨j, a, b, ?_, ?_⟩
    · rw [hs 6 j (by decide) (by decide) (by omega) (by omega)]; exact c
    · rw [hs 7 j (by decide) (by decide) (by omega) (by omega)]; exact f
theorem co_ca_c (hs : co_sa p q n) {k e m : Int} (k0 : 0 ≤ k) (he : e ≤ n) : co_ca q k e m ↔ co_ca p k e m := by
  constructor
  · rintro ⟨j, a, b, c, c', f⟩
    rw [hs 6 j (by decide) (by decide) (by omega) (by omega)] at c c'
    rw [hs 7 j (by decide) (by decide) (by omega) (by omega)] at f
    exact ⟨j, a, b, c, c', f⟩
  · rintro ⟨j, a, b, c, c', f⟩
    refine ⟨j, a, b, ?_, ?_, ?_⟩
    · rw [hs 6 j (by decide) (by decide) (by omega) (by omega)]; exact c
    · rw [hs 6 j (by decide) (by decide) (by omega) (by omega)]; exact c'
    · rw [hs 7 j (by decide) (by decide) (by omega) (by omega)]; exact f
theorem co_mm_c (hs : co_sa p q n) {k : Int} (k0 : 0 ≤ k) (k1 : k < n) (he : p 12 k ≤ n) (e12 : q 12 k = p 12 k) (e13 : q 13 k = p 13 k) (e14 : q 14 k = p 14 k) (h : co_mm p k) : co_mm q k := by
  intro w
  rw [hs 6 k (by decide) (by decide) k0 k1] at w
  obtain ⟨a, b⟩ := h w
  rw [e12, e13, e14]
  refine ⟨fun m m0 m1 => ?_, fun r r0 r1 => ?_⟩
  · rw [co_cn_c hs k0 he]; exact a m m0 m1
  · rw [co_ca_c hs k0 he]; exact b r r0 r1
/-- what is told already stays, but for one open head h -/
theorem co_po_k (hs : co_sa p q n) {h : Int} (e11 : ∀ j, 0 ≤ j → j < n → j ≠ h → q 11 j = p 11 j) (e12 : ∀ j, 0 ≤ j → j < n → j ≠ h → q 12 j = p 12 j ∧ q 13 j = p 13 j ∧ q 14 j = p 14 j) {k : Int} (k0 : 0 ≤ k) (k1 : k < n) (kh : k ≠ h) (hk : co_cd p n k ∧ co_nn p k (p 12 k) ∧ co_mm p k) : co_cd q (n + 1) k ∧ co_nn q k (q 12 k) ∧ co_mm q k := by
  obtain ⟨f12, f13, f14⟩ := e12 k k0 k1 kh
  obtain ⟨a, b, c⟩ := hk
  refine ⟨co_cd_up (co_cd_c hs k0 k1 (e11 k k0 k1 kh) f12 a) (by omega), ?_, co_mm_c hs k0 k1 (by have := a.1; omega) f12 f13 f14 c⟩
  rw [f12]
  exact co_nn_c hs k0 (by have := a.1; omega) b
theorem co_po_S (hs : co_sa p q n) (hS : co_pS p n) (hO : ck_sOk (q 6 n) (q 7 n) (q 8 n) (q 9 n)) : co_pS q (n + 1) := fun k a b => by
  by_cases e : k = n
  · rw [e]; exact hO
  · rw [hs 6 k (by decide) (by decide) a (by omega), hs 7 k (by decide) (by decide) a (by omega), hs 8 k (by decide) (by decide) a (by omega), hs 9 k (by decide) (by decide) a (by omega)]
    exact hS k a (by omega)
/-- a plain statement -/
theorem co_po_plain (H : co_po p n d) (hn : n < 64) (hs : co_sa p q n) (e11 : ∀ j, 0 ≤ j → j < n → q 11 j = p 11 j) (e12 : ∀ j, 0 ≤ j → j < n → q 12 j = p 12 j ∧ q 13 j = p 13 j ∧ q 14 j = p 14 j) (e15 : ∀ i, 0 ≤ i → i < d → q 15 i = p 15 i) (hO : ck_sOk (q 6 n) (q 7 n) (q 8 n) (q 9 n)) (ht : q 6 n ≠ 9 ∧ q 6 n ≠ 10 ∧ q 6 n ≠ 11 ∧ q 6 n ≠ 12) : co_po q (n + 1) d := by
  obtain ⟨h1, h2, h3, h4, h5, h6, h7, h8⟩ := H
  have os : ∀ k, co_os q d k ↔ co_os p d k := fun k => ⟨fun ⟨i, a, b, c⟩ => ⟨i, a, b, by rw [← e15 i a b]; exact c⟩, fun ⟨i, a, b, c⟩ => ⟨i, a, b, by rw [e15 i a b]; exact c⟩⟩
  refine ⟨by omega, h2, co_po_S hs h3 hO, fun i a b => ?_, fun i j a b c => ?_, fun k a b c => ?_, fun j a b c => ?_, fun j a b c => ?_⟩
  · obtain ⟨z1, z2, z3, z4⟩ := h4 i a b
    rw [e15 i a b, hs 6 _ (by decide) (by decide) z1.1 z1.2]
    refine ⟨by omega, z2, co_el_up (co_el_c hs z1.1 z1.2 (Int.le_refl _) (e11 _ z1.1 z1.2) z3) (by omega), fun j u v w => ?_⟩
    by_cases e : j = n
    · rw [e] at w; omega
    · exact co_nn_c hs z1.1 (Int.le_refl _) z4 j u (by omega) w
  · rw [e15 i a (by omega), e15 j (by omega) c]; exact h5 i j a b c
  · by_cases e : k = n
    · rw [e] at c; omega
    · rw [hs 6 k (by decide) (by decide) a (by omega)] at c
      rcases h6 k a (by omega) c with z | z
      · exact Or.inl ((os k).mpr z)
      · exact Or.inr (co_po_k hs (h := -1) (fun j u v _ => e11 j u v) (fun j u v _ => e12 j u v) a (by omega) (by omega) z)
  · by_cases e : j = n
    · rw [e] at c; omega
    · rw [hs 6 j (by decide) (by decide) a (by omega)] at c ⊢
      obtain ⟨z1, z2, z3⟩ := h7 j a (by omega) c
      rw [hs 10 j (by decide) (by decide) a (by omega), hs 6 _ (by decide) (by decide) z1.1 (by omega), e11 _ z1.1 (by omega), (e12 _ z1.1 (by omega)).1]
      exact ⟨z1, z2, z3⟩
  · by_cases e : j = n
    · rw [e] at c; omega
    · rw [hs 6 j (by decide) (by decide) a (by omega)] at c
      rw [hs 10 j (by decide) (by decide) a (by omega), os]
      exact h8 j a (by omega) c
/-- an IF or WHILE -/
theorem co_po_open (H : co_po p n d) (hn : n < 64) (hd : d < 8) (hs : co_sa p q n) (e11 : ∀ j, 0 ≤ j → j < n → q 11 j = p 11 j) (e12 : ∀ j, 0 ≤ j → j < n → q 12 j = p 12 j ∧ q 13 j = p 13 j ∧ q 14 j = p 14 j) (e15 : ∀ i, 0 ≤ i → i < d → q 15 i = p 15 i) (f15 : q 15 d = n) (f11 : q 11 n = -1) (hO : ck_sOk (q 6 n) (q 7 n) (q 8 n) (q 9 n)) (ht : q 6 n = 9 ∨ q 6 n = 12) : co_po q (n + 1) (d + 1) := by
  obtain ⟨h1, h2, h3, h4, h5, h6, h7, h8⟩ := H
  refine ⟨by omega, by omega, co_po_S hs h3 hO, fun i a b => ?_, fun i j a b c => ?_, fun k a b c => ?_, fun j a b c => ?_, fun j a b c => ?_⟩
  · by_cases ei : i = d
    · rw [ei, f15]
      exact ⟨by omega, ht, Or.inl f11, fun j u v w => by omega⟩
    · obtain ⟨z1, z2, z3, z4⟩ := h4 i a (by omega)
      rw [e15 i a (by omega), hs 6 _ (by decide) (by decide) z1.1 z1.2]
      refine ⟨by omega, z2, co_el_up (co_el_c hs z1.1 z1.2 (Int.le_refl _) (e11 _ z1.1 z1.2) z3) (by omega), fun j u v w => ?_⟩
      by_cases e : j = n
      · rw [e] at w; omega
      · exact co_nn_c hs z1.1 (Int.le_refl _) z4 j u (by omega) w
  · rw [e15 i a (by omega)]
    by_cases ej : j = d
    · rw [ej, f15]
      exact (h4 i a (by omega)).1.2
    · rw [e15 j (by omega) (by omega)]; exact h5 i j a b (by omega)
  · by_cases e : k = n
    · exact Or.inl ⟨d, by omega, by omega, by rw [f15, e]⟩
    · rw [hs 6 k (by decide) (by decide) a (by omega)] at c
      rcases h6 k a (by omega) c with ⟨i, u, v, w⟩ | z
      · exact Or.inl ⟨i, u, by omega, by rw [e15 i u v]; exact w⟩
      · exact Or.inr (co_po_k hs (h := -1) (fun j u v _ => e11 j u v) (fun j u v _ => e12 j u v) a (by omega) (by omega) z)
  · by_cases e : j = n
    · rw [e] at c; omega
    · rw [hs 6 j (by decide) (by decide) a (by omega)] at c ⊢
      obtain ⟨z1, z2, z3⟩ := h7 j a (by omega) c
      rw [hs 10 j (by decide) (by decide) a (by omega), hs 6 _ (by decide) (by decide) z1.1 (by omega), e11 _ z1.1 (by omega), (e12 _ z1.1 (by omega)).1]
      exact ⟨z1, z2, z3⟩
  · by_cases e : j = n
    · rw [e] at c; omega
    · rw [hs 6 j (by decide) (by decide) a (by omega)] at c
      rw [hs 10 j (by decide) (by decide) a (by omega)]
      rintro ⟨i, u, v, w⟩
      have z := (h7 j a (by omega) (Or.inr c)).1
      by_cases ei : i = d
      · rw [ei, f15] at w; omega
      · rw [e15 i u (by omega)] at w
        exact h8 j a (by omega) c ⟨i, u, by omega, w⟩
/-- an ELSE -/
theorem co_po_else (H : co_po p n d) (hn : n < 64) (hd : 0 < d) (hs : co_sa p q n) {h : Int} (hh : p 15 (d - 1) = h) (h9 : p 6 h = 9) (h11 : p 11 h = -1) (e11 : ∀ j, 0 ≤ j → j < n → j ≠ h → q 11 j = p 11 j) (f11 : q 11 h = n) (e12 : ∀ j, 0 ≤ j → j < n → q 12 j = p 12 j ∧ q 13 j = p 13 j ∧ q 14 j = p 14 j) (e15 : ∀ i, 0 ≤ i → i < d → q 15 i = p 15 i) (f10 : q 10 n = h) (ht : q 6 n = 10) : co_po q (n + 1) d := by
  obtain ⟨h1, h2, h3, h4, h5, h6, h7, h8⟩ := H
  have hr := (h4 (d - 1) (by omega) (by omega)).1
  rw [hh] at hr
  have os : ∀ k, co_os q d k ↔ co_os p d k := fun k => ⟨fun ⟨i, a, b, c⟩ => ⟨i, a, b, by rw [← e15 i a b]; exact c⟩, fun ⟨i, a, b, c⟩ => ⟨i, a, b, by rw [e15 i a b]; exact c⟩⟩
  have hos : co_os p d h := ⟨d - 1, by omega, by omega, hh⟩
  have le : ∀ i, 0 ≤ i → i < d → p 15 i ≤ h := fun i a b => by
    by_cases e : i = d - 1
    · rw [e, hh]; exact Int.le_refl _
    · have := h5 i (d - 1) a (by omega) (by omega)
      omega
  refine ⟨by omega, h2, co_po_S hs h3 (by rw [ht]; exact Or.inr (Or.inr (Or.inr (Or.inr (Or.inr (Or.inr (Or.inr (Or.inr (Or.inr (Or.inr (Or.inl rfl))))))))))), fun i a b => ?_, fun i j a b c => ?_, fun k a b c => ?_, fun j a b c => ?_, fun j a b c => ?_⟩
  · obtain ⟨z1, z2, z3, z4⟩ := h4 i a b
    have zl := le i a b
    rw [e15 i a b, hs 6 _ (by decide) (by decide) z1.1 z1.2]
    refine ⟨by omega, z2, ?_, fun j u v w => ?_⟩
    · by_cases eh : p 15 i = h
      · rw [eh]
        refine Or.inr ⟨?_, ?_, ?_, ?_⟩
        · rw [hs 6 _ (by decide) (by decide) hr.1 hr.2]; exact h9
        · rw [f11]; omega
        · rw [f11]; exact ht
        · rw [f11]; exact f10
      · exact co_el_up (co_el_c hs z1.1 z1.2 (Int.le_refl _) (e11 _ z1.1 z1.2 eh) z3) (by omega)
    · by_cases e : j = n
      · rw [e, f10]; exact zl
      · exact co_nn_c hs z1.1 (Int.le_refl _) z4 j u (by omega) w
  · rw [e15 i a (by omega), e15 j (by omega) c]; exact h5 i j a b c
  · by_cases e : k = n
    · rw [e] at c; omega
    · rw [hs 6 k (by decide) (by decide) a (by omega)] at c
      rcases h6 k a (by omega) c with z | z
      · exact Or.inl ((os k).mpr z)
      · by_cases ek : k = h
        · rw [ek]; exact Or.inl ((os h).mpr hos)
        · exact Or.inr (co_po_k hs (h := h) e11 (fun j u v _ => e12 j u v) a (by omega) ek z)
  · by_cases e : j = n
    · rw [e, f10, hs 6 h (by decide) (by decide) hr.1 hr.2, f11]
      exact ⟨by omega, fun _ => ⟨h9, rfl⟩, fun w => by omega⟩
    · rw [hs 6 j (by decide) (by decide) a (by omega)] at c ⊢
      obtain ⟨z1, z2, z3⟩ := h7 j a (by omega) c
      rw [hs 10 j (by decide) (by decide) a (by omega), hs 6 _ (by decide) (by decide) z1.1 (by omega), (e12 _ z1.1 (by omega)).1]
      refine ⟨z1, fun w => ?_, z3⟩
      have z4 := z2 w
      have : p 10 j ≠ h := fun w2 => by
        rw [w2, h11] at z4
        omega
      rw [e11 _ z1.1 (by omega) this]
      exact z4
  · by_cases e : j = n
    · rw [e] at c; omega
    · rw [hs 6 j (by decide) (by decide) a (by omega)] at c
      rw [hs 10 j (by decide) (by decide) a (by omega), os]
      exact h8 j a (by omega) c
/-- an END -/
theorem co_po_end (H : co_po p n d) (hn : n < 64) (hd : 0 < d) (hs : co_sa p q n) {h : Int} (hh : p 15 (d - 1) = h) (e11 : ∀ j, 0 ≤ j → j < n → q 11 j = p 11 j) (e12 : ∀ j, 0 ≤ j → j < n → j ≠ h → q 12 j = p 12 j ∧ q 13 j = p 13 j ∧ q 14 j = p 14 j) (f12 : q 12 h = n) (fm : (∀ m, 0 ≤ m → m < 10 → (ck_and (ck_shr (q 13 h) m) 1 = 0 ↔ ¬ co_cn p h n m)) ∧ ∀ r, 0 ≤ r → r < 4 → (ck_and (ck_shr (q 14 h) r) 1 = 0 ↔ ¬ co_ca p h n r)) (e15 : ∀ i, 0 ≤ i → i < d → q 15 i = p 15 i) (f10 : q 10 n = h) (ht : q 6 n = 11) : co_po q (n + 1) (d - 1) := by
  obtain ⟨h1, h2, h3, h4, h5, h6, h7, h8⟩ := H
  obtain ⟨hr, hw, hel, hnn⟩ := h4 (d - 1) (by omega) (by omega)
  rw [hh] at hr hw hel hnn
  have hos : co_os p d h := ⟨d - 1, by omega, by omega, hh⟩
  have lt : ∀ i, 0 ≤ i → i < d - 1 → p 15 i < h := fun i a b => by
    have := h5 i (d - 1) a (by omega) (by omega)
    omega
  refine ⟨by omega, by omega, co_po_S hs h3 (by rw [ht]; exact Or.inr (Or.inr (Or.inr (Or.inr (Or.inr (Or.inr (Or.inr (Or.inr (Or.inr (Or.inr (Or.inr (Or.inl rfl)))))))))))), fun i a b => ?_, fun i j a b c => ?_, fun k a b c => ?_, fun j a b c => ?_, fun j a b c => ?_⟩
  · obtain ⟨z1, z2, z3, z4⟩ := h4 i a (by omega)
    have zl := lt i a b
    rw [e15 i a (by omega), hs 6 _ (by decide) (by decide) z1.1 z1.2]
    refine ⟨by omega, z2, co_el_up (co_el_c hs z1.1 z1.2 (Int.le_refl _) (e11 _ z1.1 z1.2) z3) (by omega), fun j u v w => ?_⟩
    by_cases e : j = n
    · rw [e, f10]; omega
    · exact co_nn_c hs z1.1 (Int.le_refl _) z4 j u (by omega) w
  · rw [e15 i a (by omega), e15 j (by omega) (by omega)]; exact h5 i j a b (by omega)
  · by_cases e : k = n
    · rw [e] at c; omega
    · rw [hs 6 k (by decide) (by decide) a (by omega)] at c
      by_cases ek : k = h
      · rw [ek]
        refine Or.inr ⟨⟨?_, ?_, ?_, ?_⟩, ?_, fun w => ?_⟩
        · rw [f12]; omega
        · rw [f12]; exact ht
        · rw [f12]; exact f10
        · rw [f12]; exact co_el_c hs hr.1 hr.2 (Int.le_refl _) (e11 _ hr.1 hr.2) hel
        · rw [f12]; exact co_nn_c hs hr.1 (Int.le_refl _) hnn
        · rw [f12]
          refine ⟨fun m m0 m1 => ?_, fun r r0 r1 => ?_⟩
          · rw [co_cn_c hs hr.1 (Int.le_refl _)]; exact fm.1 m m0 m1
          · rw [co_ca_c hs hr.1 (Int.le_refl _)]; exact fm.2 r r0 r1
      · rcases h6 k a (by omega) c with ⟨i, u, v, w⟩ | z
        · refine Or.inl ⟨i, u, ?_, by rw [e15 i u v]; exact w⟩
          rcases Int.lt_or_le i (d - 1) with z | z
          · exact z
          · have : i = d - 1 := by omega
            rw [this, hh] at w
            exact absurd w.symm ek
        · exact Or.inr (co_po_k hs (h := h) (fun j u v _ => e11 j u v) e12 a (by omega) ek z)
  · by_cases e : j = n
    · rw [e, f10, hs 6 h (by decide) (by decide) hr.1 hr.2, f12]
      exact ⟨by omega, fun w => by omega, fun _ => ⟨hw, rfl⟩⟩
    · rw [hs 6 j (by decide) (by decide) a (by omega)] at c ⊢
      obtain ⟨z1, z2, z3⟩ := h7 j a (by omega) c
      rw [hs 10 j (by decide) (by decide) a (by omega), hs 6 _ (by decide) (by decide) z1.1 (by omega), e11 _ z1.1 (by omega)]
      refine ⟨z1, z2, fun w => ?_⟩
      have : p 10 j ≠ h := fun w2 => h8 j a (by omega) w (by rw [w2]; exact hos)
      rw [(e12 _ z1.1 (by omega) this).1]
      exact z3 w
  · by_cases e : j = n
    · rw [e, f10]
      rintro ⟨i, u, v, w⟩
      rw [e15 i u (by omega)] at w
      have := lt i u v
      omega
    · rw [hs 6 j (by decide) (by decide) a (by omega)] at c
      rw [hs 10 j (by decide) (by decide) a (by omega)]
      rintro ⟨i, u, v, w⟩
      rw [e15 i u (by omega)] at w
      exact h8 j a (by omega) c ⟨i, u, by omega, w⟩
end COPO
