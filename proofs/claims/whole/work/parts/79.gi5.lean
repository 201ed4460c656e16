/-! ## put -/
section COG5
variable {c : Int} {σ : ck_M}
theorem co_own_eq {t d s e s' e' : Int} (h : 0 < d → s = s' ∧ e = e') : co_own t d s e ↔ co_own t d s' e' := by
  unfold co_own
  by_cases hd : 0 < d
  · rw [(h hd).1, (h hd).2]
  · constructor
    · rintro (z | z)
      · exact Or.inl z
      · exact absurd z.1 hd
    · rintro (z | z)
      · exact Or.inl z
      · exact absurd z.1 hd
/-- what the two sides ask of put -/
theorem co_put_pre (h : co_GI c σ) : (0 < σ 5 11 → (0 ≤ σ 15 (σ 5 11 - 1) ∧ σ 15 (σ 5 11 - 1) < σ 5 10) ∧ (σ 6 (σ 15 (σ 5 11 - 1)) = 9 ∨ σ 6 (σ 15 (σ 5 11 - 1)) = 12) ∧ (-1 ≤ σ 11 (σ 15 (σ 5 11 - 1)) ∧ σ 11 (σ 15 (σ 5 11 - 1)) < 64)) ∧ (0 < σ 5 11 → σ 488 (σ 5 11 - 1) = σ 15 (σ 5 11 - 1) ∧ σ 481 (σ 15 (σ 5 11 - 1)) = σ 6 (σ 15 (σ 5 11 - 1)) ∧ σ 485 (σ 15 (σ 5 11 - 1)) = σ 11 (σ 15 (σ 5 11 - 1))) := by
  obtain ⟨h1, h2, -⟩ := h
  obtain ⟨hn, hd, hS, hst, -⟩ := h1
  refine ⟨fun q => ?_, fun q => ?_⟩
  · obtain ⟨z1, z2, z3, -⟩ := hst (σ 5 11 - 1) (by omega) (by omega)
    refine ⟨z1, z2, ?_⟩
    rcases z3 with z | ⟨z4, z5, -⟩
    · omega
    · omega
  · obtain ⟨z1, -⟩ := hst (σ 5 11 - 1) (by omega) (by omega)
    have z2 := (h2.2.2.1 _ z1.1 z1.2).1
    exact ⟨h2.2.2.2 _ (by omega) (by omega), z2.1, z2.2.2.2.2⟩
theorem co_fit_ok {t x y z : Int} (h : co_fit t x y z) : ck_sOk t x y z := by
  have h2 : t = 0 ∨ t = 1 ∨ t = 2 ∨ t = 3 ∨ t = 4 ∨ t = 5 ∨ t = 6 ∨ t = 7 ∨ t = 8 ∨ t = 9 ∨ t = 10 ∨ t = 11 ∨ t = 12 ∨ t = 13 := by
    unfold co_fit at h
    omega
  rcases h2 with rfl | rfl | rfl | rfl | rfl | rfl | rfl | rfl | rfl | rfl | rfl | rfl | rfl | rfl
  · rw [co_fit0] at h
    exact Or.inl ⟨rfl, by omega⟩
  · rw [co_fit1] at h
    exact Or.inr (Or.inl ⟨rfl, by omega⟩)
  · rw [co_fit2] at h
    exact Or.inr (Or.inr (Or.inl ⟨rfl, by omega⟩))
  · rw [co_fit3] at h
    exact Or.inr (Or.inr (Or.inr (Or.inl ⟨rfl, by omega⟩)))
  · rw [co_fit4] at h
    exact Or.inr (Or.inr (Or.inr (Or.inr (Or.inl ⟨rfl, by omega⟩))))
  · rw [co_fit5] at h
    exact Or.inr (Or.inr (Or.inr (Or.inr (Or.inr (Or.inl ⟨rfl, by omega⟩)))))
  · rw [co_fit6] at h
    exact Or.inr (Or.inr (Or.inr (Or.inr (Or.inr (Or.inr (Or.inl ⟨rfl, by omega⟩))))))
  · rw [co_fit7] at h
    exact Or.inr (Or.inr (Or.inr (Or.inr (Or.inr (Or.inr (Or.inr (Or.inl ⟨rfl, by omega⟩)))))))
  · rw [co_fit8] at h
    exact Or.inr (Or.inr (Or.inr (Or.inr (Or.inr (Or.inr (Or.inr (Or.inr (Or.inl ⟨rfl, by omega⟩))))))))
  · rw [co_fit9] at h
    exact Or.inr (Or.inr (Or.inr (Or.inr (Or.inr (Or.inr (Or.inr (Or.inr (Or.inr (Or.inl ⟨rfl, by omega⟩)))))))))
  · rw [co_fit10] at h
    exact Or.inr (Or.inr (Or.inr (Or.inr (Or.inr (Or.inr (Or.inr (Or.inr (Or.inr (Or.inr (Or.inl rfl))))))))))
  · rw [co_fit11] at h
    exact Or.inr (Or.inr (Or.inr (Or.inr (Or.inr (Or.inr (Or.inr (Or.inr (Or.inr (Or.inr (Or.inr (Or.inl rfl)))))))))))
  · rw [co_fit12] at h
    exact Or.inr (Or.inr (Or.inr (Or.inr (Or.inr (Or.inr (Or.inr (Or.inr (Or.inr (Or.inr (Or.inr (Or.inr (Or.inl ⟨rfl, by omega⟩))))))))))))
  · rw [co_fit13] at h
    exact Or.inr (Or.inr (Or.inr (Or.inr (Or.inr (Or.inr (Or.inr (Or.inr (Or.inr (Or.inr (Or.inr (Or.inr (Or.inr (⟨rfl, by omega⟩)))))))))))))
def co_pc_plain (σ : ck_M) (t x y z : Int) : ck_M := ck_up (ck_up (ck_up (ck_up (ck_up (ck_up (ck_up (ck_up σ 1 8 0) 4 6 0) 6 (σ 5 10) t) 7 (σ 5 10) x) 8 (σ 5 10) y) 9 (σ 5 10) z) 11 (σ 5 10) ((-1))) 5 10 (σ 5 10 + 1)
def co_pd_plain (σ : ck_M) (t x y z : Int) : ck_M := ck_up (ck_up (ck_up (ck_up (ck_up (ck_up (ck_up (ck_up (ck_up (ck_up (co_pc_plain σ t x y z) 480 0 0) 480 19 0) 481 (σ 5 10) t) 482 (σ 5 10) x) 483 (σ 5 10) y) 484 (σ 5 10) z) 485 (σ 5 10) ((-1))) 486 (σ 5 10) ((-1))) 487 (σ 5 10) ((-1))) 480 1 (σ 5 10 + 1)
theorem co_pd_plain_o {t x y z : Int} {b j : Int} (q0 : ¬ (b = 1 ∧ j = 8)) (q1 : ¬ (b = 4 ∧ j = 6)) (q2 : ¬ (b = 6 ∧ j = σ 5 10)) (q3 : ¬ (b = 7 ∧ j = σ 5 10)) (q4 : ¬ (b = 8 ∧ j = σ 5 10)) (q5 : ¬ (b = 9 ∧ j = σ 5 10)) (q6 : ¬ (b = 11 ∧ j = σ 5 10)) (q7 : ¬ (b = 5 ∧ j = 10)) (q8 : ¬ (b = 480 ∧ j = 0)) (q9 : ¬ (b = 480 ∧ j = 19)) (q10 : ¬ (b = 481 ∧ j = σ 5 10)) (q11 : ¬ (b = 482 ∧ j = σ 5 10)) (q12 : ¬ (b = 483 ∧ j = σ 5 10)) (q13 : ¬ (b = 484 ∧ j = σ 5 10)) (q14 : ¬ (b = 485 ∧ j = σ 5 10)) (q15 : ¬ (b = 486 ∧ j = σ 5 10)) (q16 : ¬ (b = 487 ∧ j = σ 5 10)) (q17 : ¬ (b = 480 ∧ j = 1)) : co_pd_plain σ t x y z b j = σ b j := (if_neg (by omega)).trans ((if_neg (by omega)).trans ((if_neg (by omega)).trans ((if_neg (by omega)).trans ((if_neg (by omega)).trans ((if_neg (by omega)).trans ((if_neg (by omega)).trans ((if_neg (by omega)).trans ((if_neg (by omega)).trans ((if_neg (by omega)).trans ((if_neg (by omega)).trans ((if_neg (by omega)).trans ((if_neg (by omega)).trans ((if_neg (by omega)).trans ((if_neg (by omega)).trans ((if_neg (by omega)).trans ((if_neg (by omega)).trans (if_neg (by omega))))))))))))))))))
def co_pc_open (σ : ck_M) (t x y z : Int) : ck_M := ck_up (ck_up (ck_up (ck_up (ck_up (ck_up (ck_up (ck_up (ck_up (ck_up σ 1 8 0) 4 6 0) 6 (σ 5 10) t) 7 (σ 5 10) x) 8 (σ 5 10) y) 9 (σ 5 10) z) 11 (σ 5 10) ((-1))) 15 (σ 5 11) (σ 5 10)) 5 11 (σ 5 11 + 1)) 5 10 (σ 5 10 + 1)
def co_pd_open (σ : ck_M) (t x y z : Int) : ck_M := ck_up (ck_up (ck_up (ck_up (ck_up (ck_up (ck_up (ck_up (ck_up (ck_up (ck_up (ck_up (co_pc_open σ t x y z) 480 0 0) 480 19 0) 481 (σ 5 10) t) 482 (σ 5 10) x) 483 (σ 5 10) y) 484 (σ 5 10) z) 485 (σ 5 10) ((-1))) 486 (σ 5 10) ((-1))) 487 (σ 5 10) ((-1))) 488 (σ 5 11) (σ 5 10)) 480 2 (σ 5 11 + 1)) 480 1 (σ 5 10 + 1)
theorem co_pd_open_o {t x y z : Int} {b j : Int} (q0 : ¬ (b = 1 ∧ j = 8)) (q1 : ¬ (b = 4 ∧ j = 6)) (q2 : ¬ (b = 6 ∧ j = σ 5 10)) (q3 : ¬ (b = 7 ∧ j = σ 5 10)) (q4 : ¬ (b = 8 ∧ j = σ 5 10)) (q5 : ¬ (b = 9 ∧ j = σ 5 10)) (q6 : ¬ (b = 11 ∧ j = σ 5 10)) (q7 : ¬ (b = 15 ∧ j = σ 5 11)) (q8 : ¬ (b = 5 ∧ j = 11)) (q9 : ¬ (b = 5 ∧ j = 10)) (q10 : ¬ (b = 480 ∧ j = 0)) (q11 : ¬ (b = 480 ∧ j = 19)) (q12 : ¬ (b = 481 ∧ j = σ 5 10)) (q13 : ¬ (b = 482 ∧ j = σ 5 10)) (q14 : ¬ (b = 483 ∧ j = σ 5 10)) (q15 : ¬ (b = 484 ∧ j = σ 5 10)) (q16 : ¬ (b = 485 ∧ j = σ 5 10)) (q17 : ¬ (b = 486 ∧ j = σ 5 10)) (q18 : ¬ (b = 487 ∧ j = σ 5 10)) (q19 : ¬ (b = 488 ∧ j = σ 5 11)) (q20 : ¬ (b = 480 ∧ j = 2)) (q21 : ¬ (b = 480 ∧ j = 1)) : co_pd_open σ t x y z b j = σ b j := (if_neg (by omega)).trans ((if_neg (by omega)).trans ((if_neg (by omega)).trans ((if_neg (by omega)).trans ((if_neg (by omega)).trans ((if_neg (by omega)).trans ((if_neg (by omega)).trans ((if_neg (by omega)).trans ((if_neg (by omega)).trans ((if_neg (by omega)).trans ((if_neg (by omega)).trans ((if_neg (by omega)).trans ((if_neg (by omega)).trans ((if_neg (by omega)).trans ((if_neg (by omega)).trans ((if_neg (by omega)).trans ((if_neg (by omega)).trans ((if_neg (by omega)).trans ((if_neg (by omega)).trans ((if_neg (by omega)).trans ((if_neg (by omega)).trans (if_neg (by omega))))))))))))))))))))))
def co_pc_else (σ : ck_M) (t x y z : Int) : ck_M := ck_up (ck_up (ck_up (ck_up (ck_up (ck_up (ck_up (ck_up (ck_up (ck_up σ 1 8 0) 4 6 0) 6 (σ 5 10) t) 7 (σ 5 10) x) 8 (σ 5 10) y) 9 (σ 5 10) z) 11 (σ 5 10) ((-1))) 10 (σ 5 10) (σ 15 (σ 5 11 - 1))) 11 (σ 15 (σ 5 11 - 1)) (σ 5 10)) 5 10 (σ 5 10 + 1)
def co_pd_else (σ : ck_M) (t x y z : Int) : ck_M := ck_up (ck_up (ck_up (ck_up (ck_up (ck_up (ck_up (ck_up (ck_up (ck_up (ck_up (ck_up (co_pc_else σ t x y z) 480 0 0) 480 19 0) 481 (σ 5 10) t) 482 (σ 5 10) x) 483 (σ 5 10) y) 484 (σ 5 10) z) 485 (σ 5 10) ((-1))) 486 (σ 5 10) ((-1))) 487 (σ 5 10) ((-1))) 487 (σ 5 10) (σ 15 (σ 5 11 - 1))) 485 (σ 15 (σ 5 11 - 1)) (σ 5 10)) 480 1 (σ 5 10 + 1)
theorem co_pd_else_o {t x y z : Int} {b j : Int} (q0 : ¬ (b = 1 ∧ j = 8)) (q1 : ¬ (b = 4 ∧ j = 6)) (q2 : ¬ (b = 6 ∧ j = σ 5 10)) (q3 : ¬ (b = 7 ∧ j = σ 5 10)) (q4 : ¬ (b = 8 ∧ j = σ 5 10)) (q5 : ¬ (b = 9 ∧ j = σ 5 10)) (q6 : ¬ (b = 11 ∧ j = σ 5 10)) (q7 : ¬ (b = 10 ∧ j = σ 5 10)) (q8 : ¬ (b = 11 ∧ j = σ 15 (σ 5 11 - 1))) (q9 : ¬ (b = 5 ∧ j = 10)) (q10 : ¬ (b = 480 ∧ j = 0)) (q11 : ¬ (b = 480 ∧ j = 19)) (q12 : ¬ (b = 481 ∧ j = σ 5 10)) (q13 : ¬ (b = 482 ∧ j = σ 5 10)) (q14 : ¬ (b = 483 ∧ j = σ 5 10)) (q15 : ¬ (b = 484 ∧ j = σ 5 10)) (q16 : ¬ (b = 485 ∧ j = σ 5 10)) (q17 : ¬ (b = 486 ∧ j = σ 5 10)) (q18 : ¬ (b = 487 ∧ j = σ 5 10)) (q19 : ¬ (b = 485 ∧ j = σ 15 (σ 5 11 - 1))) (q20 : ¬ (b = 480 ∧ j = 1)) : co_pd_else σ t x y z b j = σ b j := (if_neg (by omega)).trans ((if_neg (by omega)).trans ((if_neg (by omega)).trans ((if_neg (by omega)).trans ((if_neg (by omega)).trans ((if_neg (by omega)).trans ((if_neg (by omega)).trans ((if_neg (by omega)).trans ((if_neg (by omega)).trans ((if_neg (by omega)).trans ((if_neg (by omega)).trans ((if_neg (by omega)).trans ((if_neg (by omega)).trans ((if_neg (by omega)).trans ((if_neg (by omega)).trans ((if_neg (by omega)).trans ((if_neg (by omega)).trans ((if_neg (by omega)).trans ((if_neg (by omega)).trans ((if_neg (by omega)).trans ((if_neg (by omega)).trans (if_neg (by omega))))))))))))))))))))))
def co_pc_end (σ : ck_M) (t x y z : Int) (a b0 : Int) : ck_M := ck_up (ck_up (ck_up (ck_up (ck_up (ck_up (ck_up (ck_up (ck_up (ck_up (ck_up (ck_up (ck_up σ 1 8 0) 4 6 0) 6 (σ 5 10) t) 7 (σ 5 10) x) 8 (σ 5 10) y) 9 (σ 5 10) z) 11 (σ 5 10) ((-1))) 5 11 (σ 5 11 - 1)) 10 (σ 5 10) (σ 15 (σ 5 11 - 1))) 12 (σ 15 (σ 5 11 - 1)) (σ 5 10)) 13 (σ 15 (σ 5 11 - 1)) a) 14 (σ 15 (σ 5 11 - 1)) b0) 5 10 (σ 5 10 + 1)
def co_pd_end (σ : ck_M) (t x y z : Int) (a b0 : Int) : ck_M := ck_up (ck_up (ck_up (ck_up (ck_up (ck_up (ck_up (ck_up (ck_up (ck_up (ck_up (ck_up (ck_up (co_pc_end σ t x y z a b0) 480 0 0) 480 19 0) 481 (σ 5 10) t) 482 (σ 5 10) x) 483 (σ 5 10) y) 484 (σ 5 10) z) 485 (σ 5 10) ((-1))) 486 (σ 5 10) ((-1))) 487 (σ 5 10) ((-1))) 480 2 (σ 5 11 - 1)) 487 (σ 5 10) (σ 15 (σ 5 11 - 1))) 486 (σ 15 (σ 5 11 - 1)) (σ 5 10)) 480 1 (σ 5 10 + 1)
theorem co_pd_end_o {t x y z : Int} {a b0 : Int} {b j : Int} (q0 : ¬ (b = 1 ∧ j = 8)) (q1 : ¬ (b = 4 ∧ j = 6)) (q2 : ¬ (b = 6 ∧ j = σ 5 10)) (q3 : ¬ (b = 7 ∧ j = σ 5 10)) (q4 : ¬ (b = 8 ∧ j = σ 5 10)) (q5 : ¬ (b = 9 ∧ j = σ 5 10)) (q6 : ¬ (b = 11 ∧ j = σ 5 10)) (q7 : ¬ (b = 5 ∧ j = 11)) (q8 : ¬ (b = 10 ∧ j = σ 5 10)) (q9 : ¬ (b = 12 ∧ j = σ 15 (σ 5 11 - 1))) (q10 : ¬ (b = 13 ∧ j = σ 15 (σ 5 11 - 1))) (q11 : ¬ (b = 14 ∧ j = σ 15 (σ 5 11 - 1))) (q12 : ¬ (b = 5 ∧ j = 10)) (q13 : ¬ (b = 480 ∧ j = 0)) (q14 : ¬ (b = 480 ∧ j = 19)) (q15 : ¬ (b = 481 ∧ j = σ 5 10)) (q16 : ¬ (b = 482 ∧ j = σ 5 10)) (q17 : ¬ (b = 483 ∧ j = σ 5 10)) (q18 : ¬ (b = 484 ∧ j = σ 5 10)) (q19 : ¬ (b = 485 ∧ j = σ 5 10)) (q20 : ¬ (b = 486 ∧ j = σ 5 10)) (q21 : ¬ (b = 487 ∧ j = σ 5 10)) (q22 : ¬ (b = 480 ∧ j = 2)) (q23 : ¬ (b = 486 ∧ j = σ 15 (σ 5 11 - 1))) (q24 : ¬ (b = 480 ∧ j = 1)) : co_pd_end σ t x y z a b0 b j = σ b j := (if_neg (by omega)).trans ((if_neg (by omega)).trans ((if_neg (by omega)).trans ((if_neg (by omega)).trans ((if_neg (by omega)).trans ((if_neg (by omega)).trans ((if_neg (by omega)).trans ((if_neg (by omega)).trans ((if_neg (by omega)).trans ((if_neg (by omega)).trans ((if_neg (by omega)).trans ((if_neg (by omega)).trans ((if_neg (by omega)).trans ((if_neg (by omega)).trans ((if_neg (by omega)).trans ((if_neg (by omega)).trans ((if_neg (by omega)).trans ((if_neg (by omega)).trans ((if_neg (by omega)).trans ((if_neg (by omega)).trans ((if_neg (by omega)).trans ((if_neg (by omega)).trans ((if_neg (by omega)).trans ((if_neg (by omega)).trans ((if_neg (by omega)).trans (if_neg (by omega))))))))))))))))))))))))))
theorem co_GI_idle {τ : ck_M} (h : co_GI c σ) (h1 : co_po τ (τ 5 10) (τ 5 11)) (h2 : co_pq τ τ (τ 5 10) (τ 5 11)) (h8 : τ 1 8 = 0) (h19 : τ 480 19 = 0) (h46 : τ 4 6 = 0) (ho : ∀ b j, b = 1 ∧ 9 ≤ j ∨ b = 2 ∨ b = 3 ∨ (20 ≤ b ∧ b ≤ 24) ∨ b = 480 ∧ (j = 12 ∨ (20 ≤ j ∧ j ≤ 26)) ∨ 489 ≤ b → τ b j = σ b j) : co_GI c τ := by
  obtain ⟨-, -, a3, a4, a5, -⟩ := h
  obtain ⟨g1, g2, g3, g4, g5, ⟨k1, k2, k3, k4, k5, k6, k7⟩, q1, q2, q3⟩ := a4
  obtain ⟨m1, m2, m3, m4⟩ := a5
  have e12 : τ 480 12 = σ 480 12 := ho _ _ (by omega)
  refine ⟨h1, h2, fun h a b => ?_, ⟨fun j a b => ?_, fun j a b => ?_, fun j a b => ?_, fun j a b => ?_, fun j a b => ?_, ⟨?_, ?_, ?_, ?_, ?_, ?_, ?_⟩, ?_, ?_, fun i a b => ?_⟩, ⟨fun j a b => ?_, fun j a b => ?_, ?_, fun j a b => ?_⟩, ⟨h8.trans h19.symm, Or.inl h8, Or.inl h46⟩, fun q => absurd q (by omega), fun q => absurd q (by omega)⟩
  · rw [co_rw_eq (s := σ) (a := 493) (fun q _ _ => ho _ _ (by omega)), co_rw_eq (s := σ) (a := 491) (fun q _ _ => ho _ _ (by omega))]
    exact a3 h a b
  · rw [ho 20 j (by omega), ho 496 j (by omega)]; exact g1 j a b
  · rw [ho 21 j (by omega), ho 497 j (by omega)]; exact g2 j a b
  · rw [ho 22 j (by omega), ho 498 j (by omega)]; exact g3 j a b
  · rw [ho 23 j (by omega), ho 499 j (by omega)]; exact g4 j a b
  · rw [ho 24 j (by omega), ho 500 j (by omega)]; exact g5 j a b
  · rw [ho 1 9 (by omega), ho 480 21 (by omega)]; exact k1
  · rw [ho 1 10 (by omega), ho 480 20 (by omega)]; exact k2
  · rw [ho 1 11 (by omega), ho 480 22 (by omega)]; exact k3
  · rw [ho 1 12 (by omega), ho 480 23 (by omega)]; exact k4
  · rw [ho 1 13 (by omega), ho 480 24 (by omega)]; exact k5
  · rw [ho 1 14 (by omega), ho 480 25 (by omega)]; exact k6
  · rw [ho 1 15 (by omega), ho 480 26 (by omega)]; exact k7
  · rw [ho 2 2 (by omega), e12]; exact q1
  · rw [ho 2 1 (by omega)]; exact q2
  · rw [e12] at b
    rw [ho 2 1 (by omega), ho 3 _ (by omega), ho 489 i (by omega)]; exact q3 i a b
  · rw [ho 499 j (by omega)]; exact m1 j a b
  · rw [ho 500 j (by omega)]; exact m2 j a b
  · rw [e12]; exact m3
  · rw [e12] at b
    rw [ho 489 j (by omega)]; exact m4 j a b
set_option maxHeartbeats 4000000 in
theorem co_put_plain {t x y z : Int} (h : co_GI c σ) (hf : co_fit t x y z) (hn : σ 5 10 < 64) (ht : t ≠ 9 ∧ t ≠ 10 ∧ t ≠ 11 ∧ t ≠ 12) : co_GI c (co_pd_plain σ t x y z) := by
  have hnn := h.1.1
  have hdd := h.1.2.1
  have hO := co_fit_ok hf
  have v6 : (co_pd_plain σ t x y z) 6 (σ 5 10) = t := if_pos ⟨rfl, rfl⟩
  have v7 : (co_pd_plain σ t x y z) 7 (σ 5 10) = x := if_pos ⟨rfl, rfl⟩
  have v8 : (co_pd_plain σ t x y z) 8 (σ 5 10) = y := if_pos ⟨rfl, rfl⟩
  have v9 : (co_pd_plain σ t x y z) 9 (σ 5 10) = z := if_pos ⟨rfl, rfl⟩
  have hsa : co_sa σ (co_pd_plain σ t x y z) (σ 5 10) := fun b j z1 z2 z3 z4 => co_pd_plain_o (by omega) (by omega) (by omega) (by omega) (by omega) (by omega) (by omega) (by omega) (by omega) (by omega) (by omega) (by omega) (by omega) (by omega) (by omega) (by omega) (by omega) (by omega)
  have hS : ck_sOk ((co_pd_plain σ t x y z) 6 (σ 5 10)) ((co_pd_plain σ t x y z) 7 (σ 5 10)) ((co_pd_plain σ t x y z) 8 (σ 5 10)) ((co_pd_plain σ t x y z) 9 (σ 5 10)) := by
    rw [v6, v7, v8, v9]
    exact hO
  have hpo : co_po (co_pd_plain σ t x y z) (σ 5 10 + 1) (σ 5 11) := co_po_plain h.1 hn hsa (fun j z1 z2 => (co_pd_plain_o (by omega) (by omega) (by omega) (by omega) (by omega) (by omega) (by omega) (by omega) (by omega) (by omega) (by omega) (by omega) (by omega) (by omega) (by omega) (by omega) (by omega) (by omega))) (fun j z1 z2 => ⟨(co_pd_plain_o (by omega) (by omega) (by omega) (by omega) (by omega) (by omega) (by omega) (by omega) (by omega) (by omega) (by omega) (by omega) (by omega) (by omega) (by omega) (by omega) (by omega) (by omega)), (co_pd_plain_o (by omega) (by omega) (by omega) (by omega) (by omega) (by omega) (by omega) (by omega) (by omega) (by omega) (by omega) (by omega) (by omega) (by omega) (by omega) (by omega) (by omega) (by omega)), (co_pd_plain_o (by omega) (by omega) (by omega) (by omega) (by omega) (by omega) (by omega) (by omega) (by omega) (by omega) (by omega) (by omega) (by omega) (by omega) (by omega) (by omega) (by omega) (by omega))⟩) (fun i z1 z2 => (co_pd_plain_o (by omega) (by omega) (by omega) (by omega) (by omega) (by omega) (by omega) (by omega) (by omega) (by omega) (by omega) (by omega) (by omega) (by omega) (by omega) (by omega) (by omega) (by omega))) hS (by rw [v6]; exact ht)
  have w11 : (co_pd_plain σ t x y z) 11 (σ 5 10) = -1 := if_pos ⟨rfl, rfl⟩
  refine co_GI_idle h hpo ?_ rfl rfl rfl (fun b j q => co_pd_plain_o (by omega) (by omega) (by omega) (by omega) (by omega) (by omega) (by omega) (by omega) (by omega) (by omega) (by omega) (by omega) (by omega) (by omega) (by omega) (by omega) (by omega) (by omega))
  show co_pq _ _ (σ 5 10 + 1) (σ 5 11)
  obtain ⟨p1, p2, p3, p4⟩ := h.2.1
  refine ⟨rfl, p2, fun k z1 z2 => ?_, fun i z1 z2 => ?_⟩
  · by_cases e : k = σ 5 10
    · rw [e]
      have u1 : (co_pd_plain σ t x y z) 481 (σ 5 10) = t := if_pos ⟨rfl, rfl⟩
      have u2 : (co_pd_plain σ t x y z) 482 (σ 5 10) = x := if_pos ⟨rfl, rfl⟩
      have u3 : (co_pd_plain σ t x y z) 483 (σ 5 10) = y := if_pos ⟨rfl, rfl⟩
      have u4 : (co_pd_plain σ t x y z) 484 (σ 5 10) = z := if_pos ⟨rfl, rfl⟩
      have u5 : (co_pd_plain σ t x y z) 485 (σ 5 10) = -1 := if_pos ⟨rfl, rfl⟩
      rw [u1, u2, u3, u4, u5, v6, v7, v8, v9, w11]
      exact ⟨⟨rfl, rfl, rfl, rfl, rfl⟩, fun q => absurd q (by omega), fun q => absurd q (by omega)⟩
    · obtain ⟨⟨y1, y2, y3, y4, y5⟩, y6, y7⟩ := p3 k z1 (by omega)
      have x481 : (co_pd_plain σ t x y z) 481 k = σ 481 k := (co_pd_plain_o (by omega) (by omega) (by omega) (by omega) (by omega) (by omega) (by omega) (by omega) (by omega) (by omega) (by omega) (by omega) (by omega) (by omega) (by omega) (by omega) (by omega) (by omega))
      have x482 : (co_pd_plain σ t x y z) 482 k = σ 482 k := (co_pd_plain_o (by omega) (by omega) (by omega) (by omega) (by omega) (by omega) (by omega) (by omega) (by omega) (by omega) (by omega) (by omega) (by omega) (by omega) (by omega) (by omega) (by omega) (by omega))
      have x483 : (co_pd_plain σ t x y z) 483 k = σ 483 k := (co_pd_plain_o (by omega) (by omega) (by omega) (by omega) (by omega) (by omega) (by omega) (by omega) (by omega) (by omega) (by omega) (by omega) (by omega) (by omega) (by omega) (by omega) (by omega) (by omega))
      have x484 : (co_pd_plain σ t x y z) 484 k = σ 484 k := (co_pd_plain_o (by omega) (by omega) (by omega) (by omega) (by omega) (by omega) (by omega) (by omega) (by omega) (by omega) (by omega) (by omega) (by omega) (by omega) (by omega) (by omega) (by omega) (by omega))
      have x6 : (co_pd_plain σ t x y z) 6 k = σ 6 k := (co_pd_plain_o (by omega) (by omega) (by omega) (by omega) (by omega) (by omega) (by omega) (by omega) (by omega) (by omega) (by omega) (by omega) (by omega) (by omega) (by omega) (by omega) (by omega) (by omega))
      have x7 : (co_pd_plain σ t x y z) 7 k = σ 7 k := (co_pd_plain_o (by omega) (by omega) (by omega) (by omega) (by omega) (by omega) (by omega) (by omega) (by omega) (by omega) (by omega) (by omega) (by omega) (by omega) (by omega) (by omega) (by omega) (by omega))
      have x8 : (co_pd_plain σ t x y z) 8 k = σ 8 k := (co_pd_plain_o (by omega) (by omega) (by omega) (by omega) (by omega) (by omega) (by omega) (by omega) (by omega) (by omega) (by omega) (by omega) (by omega) (by omega) (by omega) (by omega) (by omega) (by omega))
      have x9 : (co_pd_plain σ t x y z) 9 k = σ 9 k := (co_pd_plain_o (by omega) (by omega) (by omega) (by omega) (by omega) (by omega) (by omega) (by omega) (by omega) (by omega) (by omega) (by omega) (by omega) (by omega) (by omega) (by omega) (by omega) (by omega))
      have x10 : (co_pd_plain σ t x y z) 10 k = σ 10 k := (co_pd_plain_o (by omega) (by omega) (by omega) (by omega) (by omega) (by omega) (by omega) (by omega) (by omega) (by omega) (by omega) (by omega) (by omega) (by omega) (by omega) (by omega) (by omega) (by omega))
      have x487 : (co_pd_plain σ t x y z) 487 k = σ 487 k := (co_pd_plain_o (by omega) (by omega) (by omega) (by omega) (by omega) (by omega) (by omega) (by omega) (by omega) (by omega) (by omega) (by omega) (by omega) (by omega) (by omega) (by omega) (by omega) (by omega))
      have x485 : (co_pd_plain σ t x y z) 485 k = (co_pd_plain σ t x y z) 11 k := by
        have a1 : (co_pd_plain σ t x y z) 485 k = σ 485 k := (co_pd_plain_o (by omega) (by omega) (by omega) (by omega) (by omega) (by omega) (by omega) (by omega) (by omega) (by omega) (by omega) (by omega) (by omega) (by omega) (by omega) (by omega) (by omega) (by omega))
        have a2 : (co_pd_plain σ t x y z) 11 k = σ 11 k := (co_pd_plain_o (by omega) (by omega) (by omega) (by omega) (by omega) (by omega) (by omega) (by omega) (by omega) (by omega) (by omega) (by omega) (by omega) (by omega) (by omega) (by omega) (by omega) (by omega))
        rw [a1, a2]; exact y5
      rw [x481, x482, x483, x484, x6, x7, x8, x9, x10, x487]
      refine ⟨⟨y1, y2, y3, y4, x485⟩, fun q1 q2 => ?_, y7⟩
      have a1 : (co_pd_plain σ t x y z) 486 k = σ 486 k := (co_pd_plain_o (by omega) (by omega) (by omega) (by omega) (by omega) (by omega) (by omega) (by omega) (by omega) (by omega) (by omega) (by omega) (by omega) (by omega) (by omega) (by omega) (by omega) (by omega))
      have a2 : (co_pd_plain σ t x y z) 12 k = σ 12 k := (co_pd_plain_o (by omega) (by omega) (by omega) (by omega) (by omega) (by omega) (by omega) (by omega) (by omega) (by omega) (by omega) (by omega) (by omega) (by omega) (by omega) (by omega) (by omega) (by omega))
      rw [a1, a2]
      refine y6 q1 (fun ⟨i, i0, i1, i2⟩ => q2 ⟨i, i0, by omega, ?_⟩)
      have a3 : (co_pd_plain σ t x y z) 15 i = σ 15 i := (co_pd_plain_o (by omega) (by omega) (by omega) (by omega) (by omega) (by omega) (by omega) (by omega) (by omega) (by omega) (by omega) (by omega) (by omega) (by omega) (by omega) (by omega) (by omega) (by omega))
      rw [a3]; exact i2
  · have a1 : (co_pd_plain σ t x y z) 488 i = σ 488 i := (co_pd_plain_o (by omega) (by omega) (by omega) (by omega) (by omega) (by omega) (by omega) (by omega) (by omega) (by omega) (by omega) (by omega) (by omega) (by omega) (by omega) (by omega) (by omega) (by omega))
    have a2 : (co_pd_plain σ t x y z) 15 i = σ 15 i := (co_pd_plain_o (by omega) (by omega) (by omega) (by omega) (by omega) (by omega) (by omega) (by omega) (by omega) (by omega) (by omega) (by omega) (by omega) (by omega) (by omega) (by omega) (by omega) (by omega))
    rw [a1, a2]; exact p4 i z1 (by omega)
set_option maxHeartbeats 4000000 in
theorem co_put_open {t x y z : Int} (h : co_GI c σ) (hf : co_fit t x y z) (hn : σ 5 10 < 64) (ht : t = 9 ∨ t = 12) (hd : σ 5 11 < 8) : co_GI c (co_pd_open σ t x y z) := by
  have hnn := h.1.1
  have hdd := h.1.2.1
  have hO := co_fit_ok hf
  have v6 : (co_pd_open σ t x y z) 6 (σ 5 10) = t := if_pos ⟨rfl, rfl⟩
  have v7 : (co_pd_open σ t x y z) 7 (σ 5 10) = x := if_pos ⟨rfl, rfl⟩
  have v8 : (co_pd_open σ t x y z) 8 (σ 5 10) = y := if_pos ⟨rfl, rfl⟩
  have v9 : (co_pd_open σ t x y z) 9 (σ 5 10) = z := if_pos ⟨rfl, rfl⟩
  have hsa : co_sa σ (co_pd_open σ t x y z) (σ 5 10) := fun b j z1 z2 z3 z4 => co_pd_open_o (by omega) (by omega) (by omega) (by omega) (by omega) (by omega) (by omega) (by omega) (by omega) (by omega) (by omega) (by omega) (by omega) (by omega) (by omega) (by omega) (by omega) (by omega) (by omega) (by omega) (by omega) (by omega)
  have hS : ck_sOk ((co_pd_open σ t x y z) 6 (σ 5 10)) ((co_pd_open σ t x y z) 7 (σ 5 10)) ((co_pd_open σ t x y z) 8 (σ 5 10)) ((co_pd_open σ t x y z) 9 (σ 5 10)) := by
    rw [v6, v7, v8, v9]
    exact hO
  have w11 : (co_pd_open σ t x y z) 11 (σ 5 10) = -1 := if_pos ⟨rfl, rfl⟩
  have w15 : (co_pd_open σ t x y z) 15 (σ 5 11) = σ 5 10 := if_pos ⟨rfl, rfl⟩
  have hpo : co_po (co_pd_open σ t x y z) (σ 5 10 + 1) (σ 5 11 + 1) := co_po_open h.1 hn hd hsa (fun j z1 z2 => (co_pd_open_o (by omega) (by omega) (by omega) (by omega) (by omega) (by omega) (by omega) (by omega) (by omega) (by omega) (by omega) (by omega) (by omega) (by omega) (by omega) (by omega) (by omega) (by omega) (by omega) (by omega) (by omega) (by omega))) (fun j z1 z2 => ⟨(co_pd_open_o (by omega) (by omega) (by omega) (by omega) (by omega) (by omega) (by omega) (by omega) (by omega) (by omega) (by omega) (by omega) (by omega) (by omega) (by omega) (by omega) (by omega) (by omega) (by omega) (by omega) (by omega) (by omega)), (co_pd_open_o (by omega) (by omega) (by omega) (by omega) (by omega) (by omega) (by omega) (by omega) (by omega) (by omega) (by omega) (by omega) (by omega) (by omega) (by omega) (by omega) (by omega) (by omega) (by omega) (by omega) (by omega) (by omega)), (co_pd_open_o (by omega) (by omega) (by omega) (by omega) (by omega) (by omega) (by omega) (by omega) (by omega) (by omega) (by omega) (by omega) (by omega) (by omega) (by omega) (by omega) (by omega) (by omega) (by omega) (by omega) (by omega) (by omega))⟩) (fun i z1 z2 => (co_pd_open_o (by omega) (by omega) (by omega) (by omega) (by omega) (by omega) (by omega) (by omega) (by omega) (by omega) (by omega) (by omega) (by omega) (by omega) (by omega) (by omega) (by omega) (by omega) (by omega) (by omega) (by omega) (by omega))) w15 w11 hS (by rw [v6]; exact ht)
  refine co_GI_idle h hpo ?_ rfl rfl rfl (fun b j q => co_pd_open_o (by omega) (by omega) (by omega) (by omega) (by omega) (by omega) (by omega) (by omega) (by omega) (by omega) (by omega) (by omega) (by omega) (by omega) (by omega) (by omega) (by omega) (by omega) (by omega) (by omega) (by omega) (by omega))
  show co_pq _ _ (σ 5 10 + 1) (σ 5 11 + 1)
  obtain ⟨p1, p2, p3, p4⟩ := h.2.1
  refine ⟨rfl, rfl, fun k z1 z2 => ?_, fun i z1 z2 => ?_⟩
  · by_cases e : k = σ 5 10
    · rw [e]
      have u1 : (co_pd_open σ t x y z) 481 (σ 5 10) = t := if_pos ⟨rfl, rfl⟩
      have u2 : (co_pd_open σ t x y z) 482 (σ 5 10) = x := if_pos ⟨rfl, rfl⟩
      have u3 : (co_pd_open σ t x y z) 483 (σ 5 10) = y := if_pos ⟨rfl, rfl⟩
      have u4 : (co_pd_open σ t x y z) 484 (σ 5 10) = z := if_pos ⟨rfl, rfl⟩
      have u5 : (co_pd_open σ t x y z) 485 (σ 5 10) = -1 := if_pos ⟨rfl, rfl⟩
      rw [u1, u2, u3, u4, u5, v6, v7, v8, v9, w11]
      exact ⟨⟨rfl, rfl, rfl, rfl, rfl⟩, fun _ q => absurd ⟨σ 5 11, by omega, by omega, w15⟩ q, fun q => absurd q (by omega)⟩
    · obtain ⟨⟨y1, y2, y3, y4, y5⟩, y6, y7⟩ := p3 k z1 (by omega)
      have x481 : (co_pd_open σ t x y z) 481 k = σ 481 k := (co_pd_open_o (by omega) (by omega) (by omega) (by omega) (by omega) (by omega) (by omega) (by omega) (by omega) (by omega) (by omega) (by omega) (by omega) (by omega) (by omega) (by omega) (by omega) (by omega) (by omega) (by omega) (by omega) (by omega))
      have x482 : (co_pd_open σ t x y z) 482 k = σ 482 k := (co_pd_open_o (by omega) (by omega) (by omega) (by omega) (by omega) (by omega) (by omega) (by omega) (by omega) (by omega) (by omega) (by omega) (by omega) (by omega) (by omega) (by omega) (by omega) (by omega) (by omega) (by omega) (by omega) (by omega))
      have x483 : (co_pd_open σ t x y z) 483 k = σ 483 k := (co_pd_open_o (by omega) (by omega) (by omega) (by omega) (by omega) (by omega) (by omega) (by omega) (by omega) (by omega) (by omega) (by omega) (by omega) (by omega) (by omega) (by omega) (by omega) (by omega) (by omega) (by omega) (by omega) (by omega))
      have x484 : (co_pd_open σ t x y z) 484 k = σ 484 k := (co_pd_open_o (by omega) (by omega) (by omega) (by omega) (by omega) (by omega) (by omega) (by omega) (by omega) (by omega) (by omega) (by omega) (by omega) (by omega) (by omega) (by omega) (by omega) (by omega) (by omega) (by omega) (by omega) (by omega))
      have x6 : (co_pd_open σ t x y z) 6 k = σ 6 k := (co_pd_open_o (by omega) (by omega) (by omega) (by omega) (by omega) (by omega) (by omega) (by omega) (by omega) (by omega) (by omega) (by omega) (by omega) (by omega) (by omega) (by omega) (by omega) (by omega) (by omega) (by omega) (by omega) (by omega))
      have x7 : (co_pd_open σ t x y z) 7 k = σ 7 k := (co_pd_open_o (by omega) (by omega) (by omega) (by omega) (by omega) (by omega) (by omega) (by omega) (by omega) (by omega) (by omega) (by omega) (by omega) (by omega) (by omega) (by omega) (by omega) (by omega) (by omega) (by omega) (by omega) (by omega))
      have x8 : (co_pd_open σ t x y z) 8 k = σ 8 k := (co_pd_open_o (by omega) (by omega) (by omega) (by omega) (by omega) (by omega) (by omega) (by omega) (by omega) (by omega) (by omega) (by omega) (by omega) (by omega) (by omega) (by omega) (by omega) (by omega) (by omega) (by omega) (by omega) (by omega))
      have x9 : (co_pd_open σ t x y z) 9 k = σ 9 k := (co_pd_open_o (by omega) (by omega) (by omega) (by omega) (by omega) (by omega) (by omega) (by omega) (by omega) (by omega) (by omega) (by omega) (by omega) (by omega) (by omega) (by omega) (by omega) (by omega) (by omega) (by omega) (by omega) (by omega))
      have x10 : (co_pd_open σ t x y z) 10 k = σ 10 k := (co_pd_open_o (by omega) (by omega) (by omega) (by omega) (by omega) (by omega) (by omega) (by omega) (by omega) (by omega) (by omega) (by omega) (by omega) (by omega) (by omega) (by omega) (by omega) (by omega) (by omega) (by omega) (by omega) (by omega))
      have x487 : (co_pd_open σ t x y z) 487 k = σ 487 k := (co_pd_open_o (by omega) (by omega) (by omega) (by omega) (by omega) (by omega) (by omega) (by omega) (by omega) (by omega) (by omega) (by omega) (by omega) (by omega) (by omega) (by omega) (by omega) (by omega) (by omega) (by omega) (by omega) (by omega))
      have x485 : (co_pd_open σ t x y z) 485 k = (co_pd_open σ t x y z) 11 k := by
        have a1 : (co_pd_open σ t x y z) 485 k = σ 485 k := (co_pd_open_o (by omega) (by omega) (by omega) (by omega) (by omega) (by omega) (by omega) (by omega) (by omega) (by omega) (by omega) (by omega) (by omega) (by omega) (by omega) (by omega) (by omega) (by omega) (by omega) (by omega) (by omega) (by omega))
        have a2 : (co_pd_open σ t x y z) 11 k = σ 11 k := (co_pd_open_o (by omega) (by omega) (by omega) (by omega) (by omega) (by omega) (by omega) (by omega) (by omega) (by omega) (by omega) (by omega) (by omega) (by omega) (by omega) (by omega) (by omega) (by omega) (by omega) (by omega) (by omega) (by omega))
        rw [a1, a2]; exact y5
      rw [x481, x482, x483, x484, x6, x7, x8, x9, x10, x487]
      refine ⟨⟨y1, y2, y3, y4, x485⟩, fun q1 q2 => ?_, y7⟩
      have a1 : (co_pd_open σ t x y z) 486 k = σ 486 k := (co_pd_open_o (by omega) (by omega) (by omega) (by omega) (by omega) (by omega) (by omega) (by omega) (by omega) (by omega) (by omega) (by omega) (by omega) (by omega) (by omega) (by omega) (by omega) (by omega) (by omega) (by omega) (by omega) (by omega))
      have a2 : (co_pd_open σ t x y z) 12 k = σ 12 k := (co_pd_open_o (by omega) (by omega) (by omega) (by omega) (by omega) (by omega) (by omega) (by omega) (by omega) (by omega) (by omega) (by omega) (by omega) (by omega) (by omega) (by omega) (by omega) (by omega) (by omega) (by omega) (by omega) (by omega))
      rw [a1, a2]
      refine y6 q1 (fun ⟨i, i0, i1, i2⟩ => q2 ⟨i, i0, by omega, ?_⟩)
      have a3 : (co_pd_open σ t x y z) 15 i = σ 15 i := (co_pd_open_o (by omega) (by omega) (by omega) (by omega) (by omega) (by omega) (by omega) (by omega) (by omega) (by omega) (by omega) (by omega) (by omega) (by omega) (by omega) (by omega) (by omega) (by omega) (by omega) (by omega) (by omega) (by omega))
      rw [a3]; exact i2
  · by_cases e : i = σ 5 11
    · rw [e, w15]
      exact if_pos ⟨rfl, rfl⟩
    · have a1 : (co_pd_open σ t x y z) 488 i = σ 488 i := (co_pd_open_o (by omega) (by omega) (by omega) (by omega) (by omega) (by omega) (by omega) (by omega) (by omega) (by omega) (by omega) (by omega) (by omega) (by omega) (by omega) (by omega) (by omega) (by omega) (by omega) (by omega) (by omega) (by omega))
      have a2 : (co_pd_open σ t x y z) 15 i = σ 15 i := (co_pd_open_o (by omega) (by omega) (by omega) (by omega) (by omega) (by omega) (by omega) (by omega) (by omega) (by omega) (by omega) (by omega) (by omega) (by omega) (by omega) (by omega) (by omega) (by omega) (by omega) (by omega) (by omega) (by omega))
      rw [a1, a2]; exact p4 i z1 (by omega)
set_option maxHeartbeats 4000000 in
theorem co_put_else {t x y z : Int} (h : co_GI c σ) (hf : co_fit t x y z) (hn : σ 5 10 < 64) (ht : t = 10) (hd : 0 < σ 5 11) (h9 : σ 6 (σ 15 (σ 5 11 - 1)) = 9) (h11 : σ 11 (σ 15 (σ 5 11 - 1)) = -1) : co_GI c (co_pd_else σ t x y z) := by
  have hnn := h.1.1
  have hdd := h.1.2.1
  have hO := co_fit_ok hf
  have hh := ((co_put_pre h).1 hd).1
  have v6 : (co_pd_else σ t x y z) 6 (σ 5 10) = t := if_pos ⟨rfl, rfl⟩
  have v7 : (co_pd_else σ t x y z) 7 (σ 5 10) = x := if_pos ⟨rfl, rfl⟩
  have v8 : (co_pd_else σ t x y z) 8 (σ 5 10) = y := if_pos ⟨rfl, rfl⟩
  have v9 : (co_pd_else σ t x y z) 9 (σ 5 10) = z := if_pos ⟨rfl, rfl⟩
  have hsa : co_sa σ (co_pd_else σ t x y z) (σ 5 10) := fun b j z1 z2 z3 z4 => co_pd_else_o (by omega) (by omega) (by omega) (by omega) (by omega) (by omega) (by omega) (by omega) (by omega) (by omega) (by omega) (by omega) (by omega) (by omega) (by omega) (by omega) (by omega) (by omega) (by omega) (by omega) (by omega)
  have hS : ck_sOk ((co_pd_else σ t x y z) 6 (σ 5 10)) ((co_pd_else σ t x y z) 7 (σ 5 10)) ((co_pd_else σ t x y z) 8 (σ 5 10)) ((co_pd_else σ t x y z) 9 (σ 5 10)) := by
    rw [v6, v7, v8, v9]
    exact hO
  have w10 : (co_pd_else σ t x y z) 10 (σ 5 10) = σ 15 (σ 5 11 - 1) := if_pos ⟨rfl, rfl⟩
  have w11 : (co_pd_else σ t x y z) 11 (σ 15 (σ 5 11 - 1)) = σ 5 10 := if_pos ⟨rfl, rfl⟩
  have hpo : co_po (co_pd_else σ t x y z) (σ 5 10 + 1) (σ 5 11) := co_po_else h.1 hn hd hsa rfl h9 h11 (fun j z1 z2 z3 => (co_pd_else_o (by omega) (by omega) (by omega) (by omega) (by omega) (by omega) (by omega) (by omega) (by omega) (by omega) (by omega) (by omega) (by omega) (by omega) (by omega) (by omega) (by omega) (by omega) (by omega) (by omega) (by omega))) w11 (fun j z1 z2 => ⟨(co_pd_else_o (by omega) (by omega) (by omega) (by omega) (by omega) (by omega) (by omega) (by omega) (by omega) (by omega) (by omega) (by omega) (by omega) (by omega) (by omega) (by omega) (by omega) (by omega) (by omega) (by omega) (by omega)), (co_pd_else_o (by omega) (by omega) (by omega) (by omega) (by omega) (by omega) (by omega) (by omega) (by omega) (by omega) (by omega) (by omega) (by omega) (by omega) (by omega) (by omega) (by omega) (by omega) (by omega) (by omega) (by omega)), (co_pd_else_o (by omega) (by omega) (by omega) (by omega) (by omega) (by omega) (by omega) (by omega) (by omega) (by omega) (by omega) (by omega) (by omega) (by omega) (by omega) (by omega) (by omega) (by omega) (by omega) (by omega) (by omega))⟩) (fun i z1 z2 => (co_pd_else_o (by omega) (by omega) (by omega) (by omega) (by omega) (by omega) (by omega) (by omega) (by omega) (by omega) (by omega) (by omega) (by omega) (by omega) (by omega) (by omega) (by omega) (by omega) (by omega) (by omega) (by omega))) w10 (by rw [v6]; exact ht)
  refine co_GI_idle h hpo ?_ rfl rfl rfl (fun b j q => co_pd_else_o (by omega) (by omega) (by omega) (by omega) (by omega) (by omega) (by omega) (by omega) (by omega) (by omega) (by omega) (by omega) (by omega) (by omega) (by omega) (by omega) (by omega) (by omega) (by omega) (by omega) (by omega))
  show co_pq _ _ (σ 5 10 + 1) (σ 5 11)
  obtain ⟨p1, p2, p3, p4⟩ := h.2.1
  refine ⟨rfl, p2, fun k z1 z2 => ?_, fun i z1 z2 => ?_⟩
  · by_cases e : k = σ 5 10
    · rw [e]
      have u1 : (co_pd_else σ t x y z) 481 (σ 5 10) = t := if_pos ⟨rfl, rfl⟩
      have u2 : (co_pd_else σ t x y z) 482 (σ 5 10) = x := if_pos ⟨rfl, rfl⟩
      have u3 : (co_pd_else σ t x y z) 483 (σ 5 10) = y := if_pos ⟨rfl, rfl⟩
      have u4 : (co_pd_else σ t x y z) 484 (σ 5 10) = z := if_pos ⟨rfl, rfl⟩
      have u5 : (co_pd_else σ t x y z) 485 (σ 5 10) = -1 := by
        show (if (485 : Int) = 485 ∧ σ 5 10 = σ 15 (σ 5 11 - 1) then σ 5 10 else (if (485 : Int) = 485 ∧ σ 5 10 = σ 5 10 then -1 else σ 485 (σ 5 10))) = -1
        rw [if_neg (by omega), if_pos ⟨rfl, rfl⟩]
      have u11 : (co_pd_else σ t x y z) 11 (σ 5 10) = -1 := by
        show (if (11 : Int) = 11 ∧ σ 5 10 = σ 15 (σ 5 11 - 1) then σ 5 10 else (if (11 : Int) = 11 ∧ σ 5 10 = σ 5 10 then -1 else σ 11 (σ 5 10))) = -1
        rw [if_neg (by omega), if_pos ⟨rfl, rfl⟩]
      rw [u1, u2, u3, u4, u5, v6, v7, v8, v9, u11]
      have u7 : (co_pd_else σ t x y z) 487 (σ 5 10) = σ 15 (σ 5 11 - 1) := if_pos ⟨rfl, rfl⟩
      have hx : x = 0 := by
        rw [ht, co_fit10] at hf
        exact hf.1
      exact ⟨⟨rfl, rfl, rfl, rfl, rfl⟩, fun q => absurd q (by omega), fun _ => ⟨u7.trans w10.symm, hx⟩⟩
    · obtain ⟨⟨y1, y2, y3, y4, y5⟩, y6, y7⟩ := p3 k z1 (by omega)
      have x481 : (co_pd_else σ t x y z) 481 k = σ 481 k := (co_pd_else_o (by omega) (by omega) (by omega) (by omega) (by omega) (by omega) (by omega) (by omega) (by omega) (by omega) (by omega) (by omega) (by omega) (by omega) (by omega) (by omega) (by omega) (by omega) (by omega) (by omega) (by omega))
      have x482 : (co_pd_else σ t x y z) 482 k = σ 482 k := (co_pd_else_o (by omega) (by omega) (by omega) (by omega) (by omega) (by omega) (by omega) (by omega) (by omega) (by omega) (by omega) (by omega) (by omega) (by omega) (by omega) (by omega) (by omega) (by omega) (by omega) (by omega) (by omega))
      have x483 : (co_pd_else σ t x y z) 483 k = σ 483 k := (co_pd_else_o (by omega) (by omega) (by omega) (by omega) (by omega) (by omega) (by omega) (by omega) (by omega) (by omega) (by omega) (by omega) (by omega) (by omega) (by omega) (by omega) (by omega) (by omega) (by omega) (by omega) (by omega))
      have x484 : (co_pd_else σ t x y z) 484 k = σ 484 k := (co_pd_else_o (by omega) (by omega) (by omega) (by omega) (by omega) (by omega) (by omega) (by omega) (by omega) (by omega) (by omega) (by omega) (by omega) (by omega) (by omega) (by omega) (by omega) (by omega) (by omega) (by omega) (by omega))
      have x6 : (co_pd_else σ t x y z) 6 k = σ 6 k := (co_pd_else_o (by omega) (by omega) (by omega) (by omega) (by omega) (by omega) (by omega) (by omega) (by omega) (by omega) (by omega) (by omega) (by omega) (by omega) (by omega) (by omega) (by omega) (by omega) (by omega) (by omega) (by omega))
      have x7 : (co_pd_else σ t x y z) 7 k = σ 7 k := (co_pd_else_o (by omega) (by omega) (by omega) (by omega) (by omega) (by omega) (by omega) (by omega) (by omega) (by omega) (by omega) (by omega) (by omega) (by omega) (by omega) (by omega) (by omega) (by omega) (by omega) (by omega) (by omega))
      have x8 : (co_pd_else σ t x y z) 8 k = σ 8 k := (co_pd_else_o (by omega) (by omega) (by omega) (by omega) (by omega) (by omega) (by omega) (by omega) (by omega) (by omega) (by omega) (by omega) (by omega) (by omega) (by omega) (by omega) (by omega) (by omega) (by omega) (by omega) (by omega))
      have x9 : (co_pd_else σ t x y z) 9 k = σ 9 k := (co_pd_else_o (by omega) (by omega) (by omega) (by omega) (by omega) (by omega) (by omega) (by omega) (by omega) (by omega) (by omega) (by omega) (by omega) (by omega) (by omega) (by omega) (by omega) (by omega) (by omega) (by omega) (by omega))
      have x10 : (co_pd_else σ t x y z) 10 k = σ 10 k := (co_pd_else_o (by omega) (by omega) (by omega) (by omega) (by omega) (by omega) (by omega) (by omega) (by omega) (by omega) (by omega) (by omega) (by omega) (by omega) (by omega) (by omega) (by omega) (by omega) (by omega) (by omega) (by omega))
      have x487 : (co_pd_else σ t x y z) 487 k = σ 487 k := (co_pd_else_o (by omega) (by omega) (by omega) (by omega) (by omega) (by omega) (by omega) (by omega) (by omega) (by omega) (by omega) (by omega) (by omega) (by omega) (by omega) (by omega) (by omega) (by omega) (by omega) (by omega) (by omega))
      have x485 : (co_pd_else σ t x y z) 485 k = (co_pd_else σ t x y z) 11 k := by
        by_cases eh : k = σ 15 (σ 5 11 - 1)
        · rw [eh, w11]
          exact if_pos ⟨rfl, rfl⟩
        · have a1 : (co_pd_else σ t x y z) 485 k = σ 485 k := (co_pd_else_o (by omega) (by omega) (by omega) (by omega) (by omega) (by omega) (by omega) (by omega) (by omega) (by omega) (by omega) (by omega) (by omega) (by omega) (by omega) (by omega) (by omega) (by omega) (by omega) (by omega) (by omega))
          have a2 : (co_pd_else σ t x y z) 11 k = σ 11 k := (co_pd_else_o (by omega) (by omega) (by omega) (by omega) (by omega) (by omega) (by omega) (by omega) (by omega) (by omega) (by omega) (by omega) (by omega) (by omega) (by omega) (by omega) (by omega) (by omega) (by omega) (by omega) (by omega))
          rw [a1, a2]; exact y5
      rw [x481, x482, x483, x484, x6, x7, x8, x9, x10, x487]
      refine ⟨⟨y1, y2, y3, y4, x485⟩, fun q1 q2 => ?_, y7⟩
      have a1 : (co_pd_else σ t x y z) 486 k = σ 486 k := (co_pd_else_o (by omega) (by omega) (by omega) (by omega) (by omega) (by omega) (by omega) (by omega) (by omega) (by omega) (by omega) (by omega) (by omega) (by omega) (by omega) (by omega) (by omega) (by omega) (by omega) (by omega) (by omega))
      have a2 : (co_pd_else σ t x y z) 12 k = σ 12 k := (co_pd_else_o (by omega) (by omega) (by omega) (by omega) (by omega) (by omega) (by omega) (by omega) (by omega) (by omega) (by omega) (by omega) (by omega) (by omega) (by omega) (by omega) (by omega) (by omega) (by omega) (by omega) (by omega))
      rw [a1, a2]
      refine y6 q1 (fun ⟨i, i0, i1, i2⟩ => q2 ⟨i, i0, by omega, ?_⟩)
      have a3 : (co_pd_else σ t x y z) 15 i = σ 15 i := (co_pd_else_o (by omega) (by omega) (by omega) (by omega) (by omega) (by omega) (by omega) (by omega) (by omega) (by omega) (by omega) (by omega) (by omega) (by omega) (by omega) (by omega) (by omega) (by omega) (by omega) (by omega) (by omega))
      rw [a3]; exact i2
  · have a1 : (co_pd_else σ t x y z) 488 i = σ 488 i := (co_pd_else_o (by omega) (by omega) (by omega) (by omega) (by omega) (by omega) (by omega) (by omega) (by omega) (by omega) (by omega) (by omega) (by omega) (by omega) (by omega) (by omega) (by omega) (by omega) (by omega) (by omega) (by omega))
    have a2 : (co_pd_else σ t x y z) 15 i = σ 15 i := (co_pd_else_o (by omega) (by omega) (by omega) (by omega) (by omega) (by omega) (by omega) (by omega) (by omega) (by omega) (by omega) (by omega) (by omega) (by omega) (by omega) (by omega) (by omega) (by omega) (by omega) (by omega) (by omega))
    rw [a1, a2]; exact p4 i z1 (by omega)
set_option maxHeartbeats 4000000 in
theorem co_put_end {t x y z : Int} {a b0 : Int} (h : co_GI c σ) (hf : co_fit t x y z) (hn : σ 5 10 < 64) (ht : t = 11) (hd : 0 < σ 5 11) (hA : ∀ m, 0 ≤ m → m < 10 → (ck_and (ck_shr a m) 1 = 0 ↔ ¬ co_cn σ (σ 15 (σ 5 11 - 1)) (σ 5 10) m)) (hB : ∀ m, 0 ≤ m → m < 10 → (ck_and (ck_shr b0 m) 1 = 0 ↔ ¬ co_ca σ (σ 15 (σ 5 11 - 1)) (σ 5 10) m)) : co_GI c (co_pd_end σ t x y z a b0) := by
  have hnn := h.1.1
  have hdd := h.1.2.1
  have hO := co_fit_ok hf
  have hh := ((co_put_pre h).1 hd).1
  have v6 : (co_pd_end σ t x y z a b0) 6 (σ 5 10) = t := if_pos ⟨rfl, rfl⟩
  have v7 : (co_pd_end σ t x y z a b0) 7 (σ 5 10) = x := if_pos ⟨rfl, rfl⟩
  have v8 : (co_pd_end σ t x y z a b0) 8 (σ 5 10) = y := if_pos ⟨rfl, rfl⟩
  have v9 : (co_pd_end σ t x y z a b0) 9 (σ 5 10) = z := if_pos ⟨rfl, rfl⟩
  have hsa : co_sa σ (co_pd_end σ t x y z a b0) (σ 5 10) := fun b j z1 z2 z3 z4 => co_pd_end_o (by omega) (by omega) (by omega) (by omega) (by omega) (by omega) (by omega) (by omega) (by omega) (by omega) (by omega) (by omega) (by omega) (by omega) (by omega) (by omega) (by omega) (by omega) (by omega) (by omega) (by omega) (by omega) (by omega) (by omega) (by omega)
  have hS : ck_sOk ((co_pd_end σ t x y z a b0) 6 (σ 5 10)) ((co_pd_end σ t x y z a b0) 7 (σ 5 10)) ((co_pd_end σ t x y z a b0) 8 (σ 5 10)) ((co_pd_end σ t x y z a b0) 9 (σ 5 10)) := by
    rw [v6, v7, v8, v9]
    exact hO
  have w10 : (co_pd_end σ t x y z a b0) 10 (σ 5 10) = σ 15 (σ 5 11 - 1) := if_pos ⟨rfl, rfl⟩
  have w12 : (co_pd_end σ t x y z a b0) 12 (σ 15 (σ 5 11 - 1)) = σ 5 10 := if_pos ⟨rfl, rfl⟩
  have w13 : (co_pd_end σ t x y z a b0) 13 (σ 15 (σ 5 11 - 1)) = a := if_pos ⟨rfl, rfl⟩
  have w14 : (co_pd_end σ t x y z a b0) 14 (σ 15 (σ 5 11 - 1)) = b0 := if_pos ⟨rfl, rfl⟩
  have w11 : (co_pd_end σ t x y z a b0) 11 (σ 5 10) = -1 := if_pos ⟨rfl, rfl⟩
  have hpo : co_po (co_pd_end σ t x y z a b0) (σ 5 10 + 1) (σ 5 11 - 1) := co_po_end h.1 hn hd hsa rfl (fun j z1 z2 => (co_pd_end_o (by omega) (by omega) (by omega) (by omega) (by omega) (by omega) (by omega) (by omega) (by omega) (by omega) (by omega) (by omega) (by omega) (by omega) (by omega) (by omega) (by omega) (by omega) (by omega) (by omega) (by omega) (by omega) (by omega) (by omega) (by omega))) (fun j z1 z2 z3 => ⟨(co_pd_end_o (by omega) (by omega) (by omega) (by omega) (by omega) (by omega) (by omega) (by omega) (by omega) (by omega) (by omega) (by omega) (by omega) (by omega) (by omega) (by omega) (by omega) (by omega) (by omega) (by omega) (by omega) (by omega) (by omega) (by omega) (by omega)), (co_pd_end_o (by omega) (by omega) (by omega) (by omega) (by omega) (by omega) (by omega) (by omega) (by omega) (by omega) (by omega) (by omega) (by omega) (by omega) (by omega) (by omega) (by omega) (by omega) (by omega) (by omega) (by omega) (by omega) (by omega) (by omega) (by omega)), (co_pd_end_o (by omega) (by omega) (by omega) (by omega) (by omega) (by omega) (by omega) (by omega) (by omega) (by omega) (by omega) (by omega) (by omega) (by omega) (by omega) (by omega) (by omega) (by omega) (by omega) (by omega) (by omega) (by omega) (by omega) (by omega) (by omega))⟩) w12 ⟨fun m m0 m1 => by rw [w13]; exact hA m m0 m1, fun r r0 r1 => by rw [w14]; exact hB r r0 (by omega)⟩ (fun i z1 z2 => (co_pd_end_o (by omega) (by omega) (by omega) (by omega) (by omega) (by omega) (by omega) (by omega) (by omega) (by omega) (by omega) (by omega) (by omega) (by omega) (by omega) (by omega) (by omega) (by omega) (by omega) (by omega) (by omega) (by omega) (by omega) (by omega) (by omega))) w10 (by rw [v6]; exact ht)
  refine co_GI_idle h hpo ?_ rfl rfl rfl (fun b j q => co_pd_end_o (by omega) (by omega) (by omega) (by omega) (by omega) (by omega) (by omega) (by omega) (by omega) (by omega) (by omega) (by omega) (by omega) (by omega) (by omega) (by omega) (by omega) (by omega) (by omega) (by omega) (by omega) (by omega) (by omega) (by omega) (by omega))
  show co_pq _ _ (σ 5 10 + 1) (σ 5 11 - 1)
  obtain ⟨p1, p2, p3, p4⟩ := h.2.1
  refine ⟨rfl, rfl, fun k z1 z2 => ?_, fun i z1 z2 => ?_⟩
  · by_cases e : k = σ 5 10
    · rw [e]
      have u1 : (co_pd_end σ t x y z a b0) 481 (σ 5 10) = t := if_pos ⟨rfl, rfl⟩
      have u2 : (co_pd_end σ t x y z a b0) 482 (σ 5 10) = x := if_pos ⟨rfl, rfl⟩
      have u3 : (co_pd_end σ t x y z a b0) 483 (σ 5 10) = y := if_pos ⟨rfl, rfl⟩
      have u4 : (co_pd_end σ t x y z a b0) 484 (σ 5 10) = z := if_pos ⟨rfl, rfl⟩
      have u5 : (co_pd_end σ t x y z a b0) 485 (σ 5 10) = -1 := if_pos ⟨rfl, rfl⟩
      rw [u1, u2, u3, u4, u5, v6, v7, v8, v9, w11]
      have u7 : (co_pd_end σ t x y z a b0) 487 (σ 5 10) = σ 15 (σ 5 11 - 1) := if_pos ⟨rfl, rfl⟩
      have hx : x = 0 := by
        rw [ht, co_fit11] at hf
        exact hf.1
      exact ⟨⟨rfl, rfl, rfl, rfl, rfl⟩, fun q => absurd q (by omega), fun _ => ⟨u7.trans w10.symm, hx⟩⟩
    · obtain ⟨⟨y1, y2, y3, y4, y5⟩, y6, y7⟩ := p3 k z1 (by omega)
      have x481 : (co_pd_end σ t x y z a b0) 481 k = σ 481 k := (co_pd_end_o (by omega) (by omega) (by omega) (by omega) (by omega) (by omega) (by omega) (by omega) (by omega) (by omega) (by omega) (by omega) (by omega) (by omega) (by omega) (by omega) (by omega) (by omega) (by omega) (by omega) (by omega) (by omega) (by omega) (by omega) (by omega))
      have x482 : (co_pd_end σ t x y z a b0) 482 k = σ 482 k := (co_pd_end_o (by omega) (by omega) (by omega) (by omega) (by omega) (by omega) (by omega) (by omega) (by omega) (by omega) (by omega) (by omega) (by omega) (by omega) (by omega) (by omega) (by omega) (by omega) (by omega) (by omega) (by omega) (by omega) (by omega) (by omega) (by omega))
      have x483 : (co_pd_end σ t x y z a b0) 483 k = σ 483 k := (co_pd_end_o (by omega) (by omega) (by omega) (by omega) (by omega) (by omega) (by omega) (by omega) (by omega) (by omega) (by omega) (by omega) (by omega) (by omega) (by omega) (by omega) (by omega) (by omega) (by omega) (by omega) (by omega) (by omega) (by omega) (by omega) (by omega))
      have x484 : (co_pd_end σ t x y z a b0) 484 k = σ 484 k := (co_pd_end_o (by omega) (by omega) (by omega) (by omega) (by omega) (by omega) (by omega) (by omega) (by omega) (by omega) (by omega) (by omega) (by omega) (by omega) (by omega) (by omega) (by omega) (by omega) (by omega) (by omega) (by omega) (by omega) (by omega) (by omega) (by omega))
      have x6 : (co_pd_end σ t x y z a b0) 6 k = σ 6 k := (co_pd_end_o (by omega) (by omega) (by omega) (by omega) (by omega) (by omega) (by omega) (by omega) (by omega) (by omega) (by omega) (by omega) (by omega) (by omega) (by omega) (by omega) (by omega) (by omega) (by omega) (by omega) (by omega) (by omega) (by omega) (by omega) (by omega))
      have x7 : (co_pd_end σ t x y z a b0) 7 k = σ 7 k := (co_pd_end_o (by omega) (by omega) (by omega) (by omega) (by omega) (by omega) (by omega) (by omega) (by omega) (by omega) (by omega) (by omega) (by omega) (by omega) (by omega) (by omega) (by omega) (by omega) (by omega) (by omega) (by omega) (by omega) (by omega) (by omega) (by omega))
      have x8 : (co_pd_end σ t x y z a b0) 8 k = σ 8 k := (co_pd_end_o (by omega) (by omega) (by omega) (by omega) (by omega) (by omega) (by omega) (by omega) (by omega) (by omega) (by omega) (by omega) (by omega) (by omega) (by omega) (by omega) (by omega) (by omega) (by omega) (by omega) (by omega) (by omega) (by omega) (by omega) (by omega))
      have x9 : (co_pd_end σ t x y z a b0) 9 k = σ 9 k := (co_pd_end_o (by omega) (by omega) (by omega) (by omega) (by omega) (by omega) (by omega) (by omega) (by omega) (by omega) (by omega) (by omega) (by omega) (by omega) (by omega) (by omega) (by omega) (by omega) (by omega) (by omega) (by omega) (by omega) (by omega) (by omega) (by omega))
      have x10 : (co_pd_end σ t x y z a b0) 10 k = σ 10 k := (co_pd_end_o (by omega) (by omega) (by omega) (by omega) (by omega) (by omega) (by omega) (by omega) (by omega) (by omega) (by omega) (by omega) (by omega) (by omega) (by omega) (by omega) (by omega) (by omega) (by omega) (by omega) (by omega) (by omega) (by omega) (by omega) (by omega))
      have x487 : (co_pd_end σ t x y z a b0) 487 k = σ 487 k := (co_pd_end_o (by omega) (by omega) (by omega) (by omega) (by omega) (by omega) (by omega) (by omega) (by omega) (by omega) (by omega) (by omega) (by omega) (by omega) (by omega) (by omega) (by omega) (by omega) (by omega) (by omega) (by omega) (by omega) (by omega) (by omega) (by omega))
      have x485 : (co_pd_end σ t x y z a b0) 485 k = (co_pd_end σ t x y z a b0) 11 k := by
        have a1 : (co_pd_end σ t x y z a b0) 485 k = σ 485 k := (co_pd_end_o (by omega) (by omega) (by omega) (by omega) (by omega) (by omega) (by omega) (by omega) (by omega) (by omega) (by omega) (by omega) (by omega) (by omega) (by omega) (by omega) (by omega) (by omega) (by omega) (by omega) (by omega) (by omega) (by omega) (by omega) (by omega))
        have a2 : (co_pd_end σ t x y z a b0) 11 k = σ 11 k := (co_pd_end_o (by omega) (by omega) (by omega) (by omega) (by omega) (by omega) (by omega) (by omega) (by omega) (by omega) (by omega) (by omega) (by omega) (by omega) (by omega) (by omega) (by omega) (by omega) (by omega) (by omega) (by omega) (by omega) (by omega) (by omega) (by omega))
        rw [a1, a2]; exact y5
      rw [x481, x482, x483, x484, x6, x7, x8, x9, x10, x487]
      refine ⟨⟨y1, y2, y3, y4, x485⟩, fun q1 q2 => ?_, y7⟩
      by_cases eh : k = σ 15 (σ 5 11 - 1)
      · rw [eh, w12]
        exact if_pos ⟨rfl, rfl⟩
      · have a1 : (co_pd_end σ t x y z a b0) 486 k = σ 486 k := (co_pd_end_o (by omega) (by omega) (by omega) (by omega) (by omega) (by omega) (by omega) (by omega) (by omega) (by omega) (by omega) (by omega) (by omega) (by omega) (by omega) (by omega) (by omega) (by omega) (by omega) (by omega) (by omega) (by omega) (by omega) (by omega) (by omega))
        have a2 : (co_pd_end σ t x y z a b0) 12 k = σ 12 k := (co_pd_end_o (by omega) (by omega) (by omega) (by omega) (by omega) (by omega) (by omega) (by omega) (by omega) (by omega) (by omega) (by omega) (by omega) (by omega) (by omega) (by omega) (by omega) (by omega) (by omega) (by omega) (by omega) (by omega) (by omega) (by omega) (by omega))
        rw [a1, a2]
        refine y6 q1 (fun ⟨i, i0, i1, i2⟩ => ?_)
        by_cases ei : i = σ 5 11 - 1
        · rw [ei] at i2
          exact eh i2.symm
        · refine q2 ⟨i, i0, by omega, ?_⟩
          have a3 : (co_pd_end σ t x y z a b0) 15 i = σ 15 i := (co_pd_end_o (by omega) (by omega) (by omega) (by omega) (by omega) (by omega) (by omega) (by omega) (by omega) (by omega) (by omega) (by omega) (by omega) (by omega) (by omega) (by omega) (by omega) (by omega) (by omega) (by omega) (by omega) (by omega) (by omega) (by omega) (by omega))
          rw [a3]; exact i2
  · have a1 : (co_pd_end σ t x y z a b0) 488 i = σ 488 i := (co_pd_end_o (by omega) (by omega) (by omega) (by omega) (by omega) (by omega) (by omega) (by omega) (by omega) (by omega) (by omega) (by omega) (by omega) (by omega) (by omega) (by omega) (by omega) (by omega) (by omega) (by omega) (by omega) (by omega) (by omega) (by omega) (by omega))
    have a2 : (co_pd_end σ t x y z a b0) 15 i = σ 15 i := (co_pd_end_o (by omega) (by omega) (by omega) (by omega) (by omega) (by omega) (by omega) (by omega) (by omega) (by omega) (by omega) (by omega) (by omega) (by omega) (by omega) (by omega) (by omega) (by omega) (by omega) (by omega) (by omega) (by omega) (by omega) (by omega) (by omega))
    rw [a1, a2]; exact p4 i z1 (by omega)
end COG5
