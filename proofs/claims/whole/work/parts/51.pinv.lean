theorem ck_mid2 {d : Nat} {md : ck_MD} {T : ck_F → Prop} {X : ck_F} {α : Type} (pc : Nat) (ls : α → ck_Ls) (J : α → ck_M → Prop) (h2 : ∀ u σ, J u σ → ck_go d md (pc, ls u, [], σ) T) (h1 : (∀ u σ, J u σ → ck_go d md (pc, ls u, [], σ) T) → ck_go d md X T) : ck_go d md X T := h1 h2
/-- the reference has the same program -/
def co_pm (s p : ck_M) (n : Int) : Prop := s 480 1 = n ∧ ∀ k, 0 ≤ k → k < n → (s 481 k = p 6 k ∧ s 482 k = p 7 k ∧ s 483 k = p 8 k ∧ s 484 k = p 9 k ∧ s 485 k = p 11 k) ∧ (p 6 k = 9 ∨ p 6 k = 12 → s 486 k = p 12 k) ∧ (p 6 k = 10 ∨ p 6 k = 11 → s 487 k = p 10 k ∧ s 482 k = 0)
def co_bk (s : ck_M) (h : Int) (g : ck_Q) : Prop := s 495 h = 1 ∧ ck_qb (ck_rw s 494 h) ∧ ∀ f, ck_qV (ck_rw s 494 h) f = ck_qV g f
def co_ol (p : ck_M) : Nat → ck_M → Int → Prop
  | 0 => fun s h => s 495 h = 0
  | i + 1 => fun s h => co_bk s h (co_R p i (p 12 h))
def co_pJ (σ p : ck_M) (n : Int) (i : Nat) (k kb kj a : Int) (X : ck_Q) (s : ck_M) : Prop := (∀ b j, (b < 490 ∨ 495 < b) → s b j = σ b j) ∧ ck_mv (s 490) = X ∧ (∀ j, 0 ≤ j → j < 64 → (j < kb → ck_rw s 491 j = co_R p i j) ∧ (kb ≤ j → ck_rw s 491 j = ck_rw σ 491 j)) ∧ (∀ h, 0 ≤ h → h < k → p 6 h = 9 ∨ p 6 h = 12 → ck_rw s 492 h = co_Nt p i h) ∧ (∀ e, 0 ≤ e → e < k → p 6 e = 10 → ck_rw s 493 (p 10 e) = co_R p i e) ∧ (∀ h, 0 ≤ h → h < 64 → ck_qb (ck_rw s 493 h)) ∧ (∀ h, 0 ≤ h → h < n → p 6 h = 12 → (p 12 h < k → co_bk s h (co_R p i (p 12 h))) ∧ (kj ≤ h → co_ol p i s h)) ∧ (a = 0 ∨ a = 1) ∧ (a = 0 ↔ ∀ j, 0 ≤ j → j < kb → ck_rw σ 491 j = co_R p i j)
def co_pP (σ p : ck_M) (n : Int) (i : Nat) : Prop := co_pm σ p n ∧ (∀ h, 0 ≤ h → h < 64 → ck_qb (ck_rw σ 493 h)) ∧ (∀ k, 0 ≤ k → k < 64 → ck_qb (ck_rw σ 491 k)) ∧ ∀ h, 0 ≤ h → h < n → p 6 h = 12 → co_ol p i σ h
theorem co_rw_eq {s t : ck_M} {a k : Int} (h : ∀ q, 0 ≤ q → q < 82 → t a (82 * k + q) = s a (82 * k + q)) : ck_rw t a k = ck_rw s a k := co_mv_eq.mpr h
theorem co_rw_f1 {s t : ck_M} (h : ck_f1 s t 490) {a k : Int} (ha : a ≠ 490) : ck_rw t a k = ck_rw s a k := co_rw_eq (fun _ _ _ => h _ _ ha)
theorem co_bk_eq {s t : ck_M} {h : Int} {g : ck_Q} (h1 : t 495 h = s 495 h) (h2 : ck_rw t 494 h = ck_rw s 494 h) (hb : co_bk s h g) : co_bk t h g := by
  unfold co_bk
  rw [h1, h2]
  exact hb
theorem co_ol_eq {p s t : ck_M} {i : Nat} {h : Int} (h1 : t 495 h = s 495 h) (h2 : ck_rw t 494 h = ck_rw s 494 h) (hb : co_ol p i s h) : co_ol p i t h := by
  cases i with
  | zero => exact h1.trans hb
  | succ i => exact co_bk_eq h1 h2 hb
theorem co_kp_rw {s t : ck_M} {a k : Int} (h : ck_kp s t a k) : ck_rw t a k = ck_mv (s 490) := co_mv_eq.mpr h.2
theorem co_kp_ne {s t : ck_M} {a k : Int} (h : ck_kp s t a k) {b j : Int} (hb : b ≠ a ∨ j ≠ k) : ck_rw t b j = ck_rw s b j := co_rw_eq (fun q q0 q1 => h.1 _ _ (by omega))
theorem co_kp_mv {s t : ck_M} {a k : Int} (h : ck_kp s t a k) (ha : a ≠ 490) : ck_mv (t 490) = ck_mv (s 490) := co_mv_eq.mpr (fun q q0 q1 => h.1 _ _ (Or.inl (Ne.symm ha)))
section COQ
variable {σ p s t : ck_M} {n : Int} {i : Nat} {k kb kj a : Int} {X Y : ck_Q}
/-- the row alone has changed -/
theorem co_pJ_row (h : co_pJ σ p n i k kb kj a X s) (hf : ck_f1 s t 490) (hr : ck_mv (t 490) = Y) : co_pJ σ p n i k kb kj a Y t := by
  obtain ⟨h1, h2, h3, h4, h5, h6, h7, h8, h9⟩ := h
  refine ⟨fun b j q => (hf b j (by omega)).trans (h1 b j q), hr, fun j a b => ?_, fun j a b c => ?_, fun e a b c => ?_, fun j a b => ?_, fun j a b c => ⟨fun d => ?_, fun d => ?_⟩, h8, h9⟩
  · rw [co_rw_f1 hf (by decide)]; exact h3 j a b
  · rw [co_rw_f1 hf (by decide)]; exact h4 j a b c
  · rw [co_rw_f1 hf (by decide)]; exact h5 e a b c
  · rw [co_rw_f1 hf (by decide)]; exact h6 j a b
  · exact co_bk_eq (hf _ _ (by decide)) (co_rw_f1 hf (by decide)) ((h7 j a b c).1 d)
  · exact co_ol_eq (hf _ _ (by decide)) (co_rw_f1 hf (by decide)) ((h7 j a b c).2 d)
/-- before the told statement -/
theorem co_pJ_plain (hp : co_pg p n) (h0 : 0 ≤ k) (h1 : k < n) (ht : p 6 k ≠ 12) (h : co_pJ σ p n i k k k a (co_W p i k) s) : co_pJ σ p n i k k (k + 1) a (co_R p i k) s := by
  obtain ⟨a1, a2, a3, a4, a5, a6, a7, a8, a9⟩ := h
  exact ⟨a1, a2.trans (co_L_arr hp h0 h1 ht), a3, a4, a5, a6, fun j x y z => ⟨(a7 j x y z).1, fun d => (a7 j x y z).2 (by omega)⟩, a8, a9⟩
theorem co_pJ_w0 (hp : co_pg p n) (h0 : 0 ≤ k) (h1 : k < n) (ht : p 6 k = 12) (h : co_pJ σ p n i k k k a (co_W p i k) s) (hf : ck_f1 s t 490) (hr : ck_mv (t 490) = ck_qFc (p 13 k) (p 14 k) k (co_W p i k)) (hc : t 495 k = 0) : co_pJ σ p n i k k (k + 1) a (co_R p i k) t := by
  have q := (hp.2.2.1 k h0 h1 (Or.inr ht)).1
  have h' := co_pJ_row h hf hr
  obtain ⟨a1, a2, a3, a4, a5, a6, a7, a8, a9⟩ := h'
  cases i with
  | zero => exact ⟨a1, a2.trans (co_L_arrW0 hp h0 h1 ht), a3, a4, a5, a6, fun j x y z => ⟨(a7 j x y z).1, fun d => (a7 j x y z).2 (by omega)⟩, a8, a9⟩
  | succ i =>
    have := ((a7 k h0 h1 ht).2 (Int.le_refl _)).1
    omega
theorem co_pJ_c01 (h0 : 0 ≤ k) (h1 : k < n) (ht : p 6 k = 12) (h : co_pJ σ p n i k k k a X s) : s 495 k = 0 ∨ (s 495 k = 1 ∧ ck_qb (ck_rw s 494 k)) := by
  have z := (h.2.2.2.2.2.2.1 k h0 h1 ht).2 (Int.le_refl _)
  cases i with
  | zero => exact Or.inl z
  | succ i => exact Or.inr ⟨z.1, z.2.1⟩
theorem co_pJ_w1 (hp : co_pg p n) (h0 : 0 ≤ k) (h1 : k < n) (ht : p 6 k = 12) (h : co_pJ σ p n i k k k a (ck_qFc (p 13 k) (p 14 k) k (co_W p i k)) s) (hc : ¬ s 495 k = 0) (hf : ∀ b j, b ≠ 490 → (b ≠ 494 ∨ j < 82 * k + 30 ∨ 82 * k + 34 ≤ j) → t b j = s b j) (hr : ck_mv (t 490) = ck_qJ (ck_qV (ck_rw s 494 k) (ck_qFc (p 13 k) (p 14 k) k (co_W p i k))) k (ck_qFc (p 13 k) (p 14 k) k (co_W p i k))) : co_pJ σ p n i k k (k + 1) a (co_R p i k) t := by
  have hq := hp.2.2.1
  have q := (hq k h0 h1 (Or.inr ht)).1
  obtain ⟨a1, a2, a3, a4, a5, a6, a7, a8, a9⟩ := h
  have hrw : ∀ b j, b ≠ 490 → b ≠ 494 → ck_rw t b j = ck_rw s b j := fun b j x y => co_rw_eq (fun z z0 z1 => hf _ _ x (Or.inl y))
  have hr4 : ∀ j, j ≠ k → ck_rw t 494 j = ck_rw s 494 j := fun j x => co_rw_eq (fun z z0 z1 => hf _ _ (by decide) (by omega))
  refine ⟨fun b j q => (hf b j (by omega) (by omega)).trans (a1 b j q), ?_, fun j a b => ?_, fun j a b c => ?_, fun e a b c => ?_, fun j a b => ?_, fun j a b c => ⟨fun d => ?_, fun d => ?_⟩, a8, a9⟩
  · cases i with
    | zero => exact absurd ((a7 k h0 h1 ht).2 (Int.le_refl _)) hc
    | succ i =>
      have z := (a7 k h0 h1 ht).2 (Int.le_refl _)
      exact hr.trans (co_L_arrW1 hp h0 h1 ht _ z.2.2)
  · rw [hrw _ _ (by decide) (by decide)]; exact a3 j a b
  · rw [hrw _ _ (by decide) (by decide)]; exact a4 j a b c
  · rw [hrw _ _ (by decide) (by decide)]; exact a5 e a b c
  · rw [hrw _ _ (by decide) (by decide)]; exact a6 j a b
  · have e : j ≠ k := fun e => by rw [e] at d; omega
    exact co_bk_eq (hf _ _ (by decide) (Or.inl (by decide))) (hr4 j e) ((a7 j a b c).1 d)
  · exact co_ol_eq (hf _ _ (by decide) (Or.inl (by decide))) (hr4 j (by omega)) ((a7 j a b c).2 (by omega))
/-- told -/
theorem co_pJ_tell (h0 : 0 ≤ k) (h1 : k < 64) (h : co_pJ σ p n i k k kj a (co_R p i k) s) (hk : ck_kp s t 491 k) {x a' : Int} (hx : (x = 0 ∧ ∀ q, 0 ≤ q → q < 82 → s 491 (82 * k + q) = s 490 q) ∨ (x = 1 ∧ ¬ ∀ q, 0 ≤ q → q < 82 → s 491 (82 * k + q) = s 490 q)) (ha : (a' = 0 ∧ x = 0 ∧ a = 0) ∨ (a' = 1 ∧ ¬ (x = 0 ∧ a = 0))) : co_pJ σ p n i k (k + 1) kj a' (co_R p i k) t := by
  obtain ⟨a1, a2, a3, a4, a5, a6, a7, a8, a9⟩ := h
  have ek : ck_rw s 491 k = ck_rw σ 491 k := (a3 k h0 h1).2 (Int.le_refl _)
  have ex : x = 0 ↔ ck_rw σ 491 k = co_R p i k := by
    rw [← ek, ← a2]
    have e : ck_rw s 491 k = ck_mv (s 490) ↔ ∀ q, 0 ≤ q → q < 82 → s 491 (82 * k + q) = s 490 q := co_mv_eq
    rw [e]
    rcases hx with ⟨x1, x2⟩ | ⟨x1, x2⟩
    · exact ⟨fun _ => x2, fun _ => x1⟩
    · exact ⟨fun z => by omega, fun z => absurd z x2⟩
  refine ⟨fun b j q => (hk.1 b j (by omega)).trans (a1 b j q), (co_kp_mv hk (by decide)).trans a2, fun j a b => ⟨fun c => ?_, fun c => ?_⟩, fun j a b c => ?_, fun e a b c => ?_, fun j a b => ?_, fun j a b c => ⟨fun d => ?_, fun d => ?_⟩, by omega, ?_⟩
  · by_cases e : j = k
    · rw [e, co_kp_rw hk]; exact a2
    · rw [co_kp_ne hk (Or.inr e)]; exact (a3 j a b).1 (by omega)
  · rw [co_kp_ne hk (Or.inr (by omega))]; exact (a3 j a b).2 (by omega)
  · rw [co_kp_ne hk (Or.inl (by decide))]; exact a4 j a b c
  · rw [co_kp_ne hk (Or.inl (by decide))]; exact a5 e a b c
  · rw [co_kp_ne hk (Or.inl (by decide))]; exact a6 j a b
  · exact co_bk_eq (hk.1 _ _ (Or.inl (by decide))) (co_kp_ne hk (Or.inl (by decide))) ((a7 j a b c).1 d)
  · exact co_ol_eq (hk.1 _ _ (Or.inl (by decide))) (co_kp_ne hk (Or.inl (by decide))) ((a7 j a b c).2 d)
  · have e : a' = 0 ↔ x = 0 ∧ a = 0 := by omega
    rw [e, ex, a9]
    constructor
    · rintro ⟨z1, z2⟩ j b c
      by_cases e : j = k
      · rw [e]; exact z1
      · exact z2 j b (by omega)
    · exact fun z => ⟨z k h0 (by omega), fun j b c => z j b (by omega)⟩
/-- behind a plain statement -/
theorem co_pJ_next (hp : co_pg p n) (h0 : 0 ≤ k) (h1 : k < n) (ht : p 6 k ≠ 9 ∧ p 6 k ≠ 12 ∧ p 6 k ≠ 10) (hE : p 6 k = 11 → p 6 (p 10 k) = 9) (h : co_pJ σ p n i k (k + 1) (k + 1) a X s) : co_pJ σ p n i (k + 1) (k + 1) (k + 1) a X s := by
  obtain ⟨a1, a2, a3, a4, a5, a6, a7, a8, a9⟩ := h
  refine ⟨a1, a2, a3, fun j a b c => ?_, fun e a b c => ?_, a6, fun j a b c => ⟨fun d => ?_, (a7 j a b c).2⟩, a8, a9⟩
  · have e : j ≠ k := fun e => by rw [e] at c; omega
    exact a4 j a (by omega) c
  · have e2 : e ≠ k := fun z => by rw [z] at c; omega
    exact a5 e a (by omega) c
  · have q := hp.2.2.1 j a b (Or.inr c)
    have e : p 12 j ≠ k := fun e => by
      rw [e] at q
      have := hE q.2.1
      rw [q.2.2.1] at this
      omega
    exact (a7 j a b c).1 (by omega)
/-- behind an if or while -/
theorem co_pJ_if (hp : co_pg p n) (h0 : 0 ≤ k) (h1 : k < n) (ht : p 6 k = 9 ∨ p 6 k = 12) (h : co_pJ σ p n i k (k + 1) (k + 1) a (co_Nt p i k) s) (hk : ck_kp s t 492 k) : co_pJ σ p n i (k + 1) (k + 1) (k + 1) a (co_Nt p i k) t := by
  obtain ⟨a1, a2, a3, a4, a5, a6, a7, a8, a9⟩ := h
  refine ⟨fun b j q => (hk.1 b j (by omega)).trans (a1 b j q), (co_kp_mv hk (by decide)).trans a2, fun j a b => ?_, fun j a b c => ?_, fun e a b c => ?_, fun j a b => ?_, fun j a b c => ⟨fun d => ?_, fun d => ?_⟩, a8, a9⟩
  · rw [co_kp_ne hk (Or.inl (by decide))]; exact a3 j a b
  · by_cases e : j = k
    · rw [e, co_kp_rw hk]; exact a2
    · rw [co_kp_ne hk (Or.inr e)]; exact a4 j a (by omega) c
  · have e2 : e ≠ k := fun z => by rw [z] at c; omega
    rw [co_kp_ne hk (Or.inl (by decide))]; exact a5 e a (by omega) c
  · rw [co_kp_ne hk (Or.inl (by decide))]; exact a6 j a b
  · have q := hp.2.2.1 j a b (Or.inr c)
    have e : p 12 j ≠ k := fun e => by rw [e] at q; omega
    exact co_bk_eq (hk.1 _ _ (Or.inl (by decide))) (co_kp_ne hk (Or.inl (by decide))) ((a7 j a b c).1 (by omega))
  · exact co_ol_eq (hk.1 _ _ (Or.inl (by decide))) (co_kp_ne hk (Or.inl (by decide))) ((a7 j a b c).2 d)
/-- behind an else -/
theorem co_pJ_else (hp : co_pg p n) (h0 : 0 ≤ k) (h1 : k < n) (ht : p 6 k = 10) (h : co_pJ σ p n i k (k + 1) (k + 1) a (co_R p i k) s) (hk : ck_kp s t 493 (p 10 k)) : co_pJ σ p n i (k + 1) (k + 1) (k + 1) a (co_R p i k) t := by
  have hE := hp.2.2.2.1
  obtain ⟨q1, q2, -⟩ := hE k h0 h1 (Or.inl ht)
  obtain ⟨a1, a2, a3, a4, a5, a6, a7, a8, a9⟩ := h
  refine ⟨fun b j q => (hk.1 b j (by omega)).trans (a1 b j q), (co_kp_mv hk (by decide)).trans a2, fun j a b => ?_, fun j a b c => ?_, fun e a b c => ?_, fun j a b => ?_, fun j a b c => ⟨fun d => ?_, fun d => ?_⟩, a8, a9⟩
  · rw [co_kp_ne hk (Or.inl (by decide))]; exact a3 j a b
  · have e : j ≠ k := fun e => by rw [e] at c; omega
    rw [co_kp_ne hk (Or.inl (by decide))]; exact a4 j a (by omega) c
  · by_cases e2 : e = k
    · rw [e2, co_kp_rw hk]; exact a2
    · have z := (hE e a (by omega) (Or.inl c)).2.1 c
      have e3 : p 10 e ≠ p 10 k := fun e3 => by
        have := (q2 ht).2
        rw [← e3, z.2] at this
        omega
      rw [co_kp_ne hk (Or.inr e3)]; exact a5 e a (by omega) c
  · by_cases e : j = p 10 k
    · rw [e, co_kp_rw hk, a2]; exact co_R_qb hp h0 h1
    · rw [co_kp_ne hk (Or.inr e)]; exact a6 j a b
  · have q := hp.2.2.1 j a b (Or.inr c)
    have e : p 12 j ≠ k := fun e => by rw [e] at q; omega
    exact co_bk_eq (hk.1 _ _ (Or.inl (by decide))) (co_kp_ne hk (Or.inl (by decide))) ((a7 j a b c).1 (by omega))
  · exact co_ol_eq (hk.1 _ _ (Or.inl (by decide))) (co_kp_ne hk (Or.inl (by decide))) ((a7 j a b c).2 d)
/-- behind a while's end -/
theorem co_pJ_end (hp : co_pg p n) (h0 : 0 ≤ k) (h1 : k < n) (ht : p 6 k = 11) (hh : p 6 (p 10 k) = 12) (h : co_pJ σ p n i k (k + 1) (k + 1) a (co_R p i k) s) (hf : ∀ b j, b ≠ 490 → (b ≠ 495 ∨ j ≠ p 10 k) → (b ≠ 494 ∨ j < 82 * p 10 k ∨ 82 * p 10 k + 82 ≤ j) → t b j = s b j) (h5 : t 495 (p 10 k) = 1) (h4 : ∀ q, 0 ≤ q → q < 82 → t 494 (82 * p 10 k + q) = s 490 q) (hr : ck_mv (t 490) = ck_rw s 492 (p 10 k)) : co_pJ σ p n i (k + 1) (k + 1) (k + 1) a (co_W p i (k + 1)) t := by
  have hE := hp.2.2.2.1
  obtain ⟨q1, -, q2⟩ := hE k h0 h1 (Or.inr ht)
  obtain ⟨a1, a2, a3, a4, a5, a6, a7, a8, a9⟩ := h
  have hrw : ∀ b j, b ≠ 490 → b ≠ 494 → b ≠ 495 → ck_rw t b j = ck_rw s b j := fun b j x y w => co_rw_eq (fun z z0 z1 => hf _ _ x (Or.inl w) (Or.inl y))
  have e4 : ck_rw t 494 (p 10 k) = co_R p i k := (co_mv_eq.mpr h4).trans a2
  refine ⟨fun b j q => (hf b j (by omega) (by omega) (by omega)).trans (a1 b j q), ?_, fun j a b => ?_, fun j a b c => ?_, fun e a b c => ?_, fun j a b => ?_, fun j a b c => ⟨fun d => ?_, fun d => ?_⟩, a8, a9⟩
  · rw [hr, a4 _ q1.1 q1.2 (Or.inr hh)]
    exact co_L_end12 hp h0 h1 ht hh
  · rw [hrw _ _ (by decide) (by decide) (by decide)]; exact a3 j a b
  · have e : j ≠ k := fun e => by rw [e] at c; omega
    rw [hrw _ _ (by decide) (by decide) (by decide)]; exact a4 j a (by omega) c
  · have e2 : e ≠ k := fun z => by rw [z] at c; omega
    rw [hrw _ _ (by decide) (by decide) (by decide)]; exact a5 e a (by omega) c
  · rw [hrw _ _ (by decide) (by decide) (by decide)]; exact a6 j a b
  · by_cases e : p 12 j = k
    · have q := hp.2.2.1 j a b (Or.inr c)
      have ej : p 10 k = j := by rw [← e]; exact q.2.2.1
      rw [ej] at h5 e4
      rw [e]
      refine ⟨h5, ?_, fun f => ?_⟩
      · rw [e4]; exact co_R_qb hp h0 h1
      · rw [e4]
    · have ej : j ≠ p 10 k := fun ej => by
        rw [ej] at e
        exact e (q2 ht).2
      exact co_bk_eq (hf _ _ (by decide) (Or.inr ej) (Or.inl (by decide))) (co_rw_eq (fun z z0 z1 => hf _ _ (by decide) (Or.inl (by decide)) (by omega))) ((a7 j a b c).1 (by omega))
  · have ej : j ≠ p 10 k := by omega
    exact co_ol_eq (hf _ _ (by decide) (Or.inr ej) (Or.inl (by decide))) (co_rw_eq (fun z z0 z1 => hf _ _ (by decide) (Or.inl (by decide)) (by omega))) ((a7 j a b c).2 d)
end COQ
