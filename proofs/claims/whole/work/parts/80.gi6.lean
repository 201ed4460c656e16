section COG6
variable {c : Int} {σ : ck_M}
theorem co_put_mod (h : co_GI c σ) : σ 480 1 = σ 5 10 ∧ σ 480 2 = σ 5 11 ∧ (0 ≤ σ 480 2 ∧ σ 480 2 ≤ 8) ∧ (0 < σ 480 2 → 0 ≤ σ 488 (σ 480 2 - 1) ∧ σ 488 (σ 480 2 - 1) < 64) ∧ (0 < σ 480 2 → ck_rg (σ 481 (σ 488 (σ 480 2 - 1))) ∧ ck_rg (σ 485 (σ 488 (σ 480 2 - 1)))) ∧ (∀ t, co_own t (σ 480 2) (σ 481 (σ 488 (σ 480 2 - 1))) (σ 485 (σ 488 (σ 480 2 - 1))) ↔ co_own t (σ 5 11) (σ 6 (σ 15 (σ 5 11 - 1))) (σ 11 (σ 15 (σ 5 11 - 1)))) := by
  have hn := h.1.1
  have hd := h.1.2.1
  obtain ⟨a1, a2⟩ := co_put_pre h
  have p1 := h.2.1.1
  have p2 := h.2.1.2.1
  rw [p2]
  refine ⟨p1, rfl, hd, fun q => ?_, fun q => ?_, fun t => co_own_eq (fun q => ?_)⟩
  · rw [(a2 q).1]
    have := a1 q
    omega
  · rw [(a2 q).1, (a2 q).2.1, (a2 q).2.2]
    have := a1 q
    exact ⟨ck_rgo (by omega) (by omega), ck_rgo (by omega) (by omega)⟩
  · rw [(a2 q).1]
    exact (a2 q).2
theorem co_c_put_full {t x y z : Int} (ht : ck_rg t) (hx : ck_rg x) (hy : ck_rg y) (hz : ck_rg z) (h : co_GI c σ) (hf : co_fit t x y z) (hw : co_own t (σ 5 11) (σ 6 (σ 15 (σ 5 11 - 1))) (σ 11 (σ 15 (σ 5 11 - 1)))) (hF : σ 5 10 = 64 ∨ ((t = 9 ∨ t = 12) ∧ σ 5 11 = 8)) : ck_cal 3 cm_Cs_put [.inr (0, 3, 5), .inl t, .inl x, .inl y, .inl z] σ (fun q σ1 => ∃ a, q = some a ∧ ck_cal 3 cm_Mo_put [.inr (480, 3, 6), .inl t, .inl x, .inl y, .inl z] σ1 (fun q2 σ2 => q2 = some a ∧ σ2 480 0 = 0 ∧ co_GI c σ2)) := by
  have hn := h.1.1
  have hd := h.1.2.1
  obtain ⟨a1, a2⟩ := co_put_pre h
  obtain ⟨p1, p2, b1, b2, b3, b4⟩ := co_put_mod h
  have hh := (b4 t).mpr hw
  have ho : 0 < σ 5 11 → 0 ≤ σ 15 (σ 5 11 - 1) ∧ σ 15 (σ 5 11 - 1) < 64 := fun q => by have := a1 q; omega
  have hs : 0 < σ 5 11 → ck_rg (σ 6 (σ 15 (σ 5 11 - 1))) ∧ ck_rg (σ 11 (σ 15 (σ 5 11 - 1))) := fun q => by
    have := a1 q
    exact ⟨ck_rgo (by omega) (by omega), ck_rgo (by omega) (by omega)⟩
  refine cx_putC ht hx hy hz hd ho hs hf hw (ck_cal_mono (cx_appendP_full (σ := ck_up (ck_up σ 1 8 0) 4 6 0) ht hn hd hF) ?_)
  rintro q s ⟨rfl, rfl⟩
  refine ⟨_, rfl, _, rfl, ck_cal_mono (cx_putM_full (σ := ck_up (ck_up σ 1 8 0) 4 6 0) ht hx hy hz b1 b2 b3 ⟨hf, hh⟩ (show 0 ≤ σ 480 1 ∧ σ 480 1 ≤ 64 by omega) (show σ 480 1 = 64 ∨ ((t = 9 ∨ t = 12) ∧ σ 480 2 = 8) by omega)) ?_⟩
  rintro q2 s2 ⟨e1, e2⟩
  refine ⟨e1, by rw [e2]; rfl, ?_⟩
  rw [e2]
  exact co_GI_idle h h.1 h.2.1 rfl rfl rfl (fun b j q => (if_neg (by omega)).trans ((if_neg (by omega)).trans ((if_neg (by omega)).trans (if_neg (by omega)))))
theorem co_c_put_plain {t x y z : Int} (ht : ck_rg t) (hx : ck_rg x) (hy : ck_rg y) (hz : ck_rg z) (h : co_GI c σ) (hf : co_fit t x y z) (hw : co_own t (σ 5 11) (σ 6 (σ 15 (σ 5 11 - 1))) (σ 11 (σ 15 (σ 5 11 - 1)))) (hF : σ 5 10 < 64) (ht2 : t ≠ 9 ∧ t ≠ 10 ∧ t ≠ 11 ∧ t ≠ 12) : ck_cal 3 cm_Cs_put [.inr (0, 3, 5), .inl t, .inl x, .inl y, .inl z] σ (fun q σ1 => ∃ a, q = some a ∧ ck_cal 3 cm_Mo_put [.inr (480, 3, 6), .inl t, .inl x, .inl y, .inl z] σ1 (fun q2 σ2 => q2 = some a ∧ σ2 480 0 = 0 ∧ co_GI c σ2)) := by
  have hn := h.1.1
  have hd := h.1.2.1
  obtain ⟨a1, a2⟩ := co_put_pre h
  obtain ⟨p1, p2, b1, b2, b3, b4⟩ := co_put_mod h
  have hh := (b4 t).mpr hw
  have ho : 0 < σ 5 11 → 0 ≤ σ 15 (σ 5 11 - 1) ∧ σ 15 (σ 5 11 - 1) < 64 := fun q => by have := a1 q; omega
  have hs : 0 < σ 5 11 → ck_rg (σ 6 (σ 15 (σ 5 11 - 1))) ∧ ck_rg (σ 11 (σ 15 (σ 5 11 - 1))) := fun q => by
    have := a1 q
    exact ⟨ck_rgo (by omega) (by omega), ck_rgo (by omega) (by omega)⟩
  refine cx_putC ht hx hy hz hd ho hs hf hw (ck_cal_mono (cx_appendP_plain (σ := ck_up (ck_up σ 1 8 0) 4 6 0) ht (show 0 ≤ σ 5 10 ∧ σ 5 10 < 64 by omega) ht2) ?_)
  rintro q s ⟨rfl, rfl⟩
  refine ⟨_, rfl, _, rfl, ck_cal_mono (cx_putM_plain (σ := co_pc_plain σ t x y z) ht hx hy hz b1 b2 b3 ⟨hf, hh⟩ (show 0 ≤ σ 480 1 ∧ σ 480 1 < 64 by omega) ht2) ?_⟩
  rintro q2 s2 ⟨e1, e2⟩
  have e1' : q2 = some (σ 480 1 + 1) := e1
  have e2' : s2 = ck_up (ck_up (ck_up (ck_up (ck_up (ck_up (ck_up (ck_up (ck_up (ck_up (co_pc_plain σ t x y z) 480 0 0) 480 19 0) 481 (σ 480 1) t) 482 (σ 480 1) x) 483 (σ 480 1) y) 484 (σ 480 1) z) 485 (σ 480 1) ((-1))) 486 (σ 480 1) ((-1))) 487 (σ 480 1) ((-1))) 480 1 (σ 480 1 + 1) := e2
  rw [p1] at e1'
  rw [p1] at e2'
  refine ⟨e1', by rw [e2']; rfl, ?_⟩
  rw [e2']
  exact co_put_plain h hf hF ht2
theorem co_c_put_open {t x y z : Int} (ht : ck_rg t) (hx : ck_rg x) (hy : ck_rg y) (hz : ck_rg z) (h : co_GI c σ) (hf : co_fit t x y z) (hw : co_own t (σ 5 11) (σ 6 (σ 15 (σ 5 11 - 1))) (σ 11 (σ 15 (σ 5 11 - 1)))) (hF : σ 5 10 < 64) (ht2 : t = 9 ∨ t = 12) (hd8 : σ 5 11 < 8) : ck_cal 3 cm_Cs_put [.inr (0, 3, 5), .inl t, .inl x, .inl y, .inl z] σ (fun q σ1 => ∃ a, q = some a ∧ ck_cal 3 cm_Mo_put [.inr (480, 3, 6), .inl t, .inl x, .inl y, .inl z] σ1 (fun q2 σ2 => q2 = some a ∧ σ2 480 0 = 0 ∧ co_GI c σ2)) := by
  have hn := h.1.1
  have hd := h.1.2.1
  obtain ⟨a1, a2⟩ := co_put_pre h
  obtain ⟨p1, p2, b1, b2, b3, b4⟩ := co_put_mod h
  have hh := (b4 t).mpr hw
  have ho : 0 < σ 5 11 → 0 ≤ σ 15 (σ 5 11 - 1) ∧ σ 15 (σ 5 11 - 1) < 64 := fun q => by have := a1 q; omega
  have hs : 0 < σ 5 11 → ck_rg (σ 6 (σ 15 (σ 5 11 - 1))) ∧ ck_rg (σ 11 (σ 15 (σ 5 11 - 1))) := fun q => by
    have := a1 q
    exact ⟨ck_rgo (by omega) (by omega), ck_rgo (by omega) (by omega)⟩
  refine cx_putC ht hx hy hz hd ho hs hf hw (ck_cal_mono (cx_appendP_open (σ := ck_up (ck_up σ 1 8 0) 4 6 0) ht (show 0 ≤ σ 5 10 ∧ σ 5 10 < 64 by omega) ht2 (show 0 ≤ σ 5 11 ∧ σ 5 11 < 8 by omega)) ?_)
  rintro q s ⟨rfl, rfl⟩
  refine ⟨_, rfl, _, rfl, ck_cal_mono (cx_putM_open (σ := co_pc_open σ t x y z) ht hx hy hz b1 b2 b3 ⟨hf, hh⟩ (show 0 ≤ σ 480 1 ∧ σ 480 1 < 64 by omega) ht2 (show σ 480 2 < 8 by omega)) ?_⟩
  rintro q2 s2 ⟨e1, e2⟩
  have e1' : q2 = some (σ 480 1 + 1) := e1
  have e2' : s2 = ck_up (ck_up (ck_up (ck_up (ck_up (ck_up (ck_up (ck_up (ck_up (ck_up (ck_up (ck_up (co_pc_open σ t x y z) 480 0 0) 480 19 0) 481 (σ 480 1) t) 482 (σ 480 1) x) 483 (σ 480 1) y) 484 (σ 480 1) z) 485 (σ 480 1) ((-1))) 486 (σ 480 1) ((-1))) 487 (σ 480 1) ((-1))) 488 (σ 480 2) (σ 480 1)) 480 2 (σ 480 2 + 1)) 480 1 (σ 480 1 + 1) := e2
  rw [p1] at e1'
  rw [p2, p1] at e2'
  refine ⟨e1', by rw [e2']; rfl, ?_⟩
  rw [e2']
  exact co_put_open h hf hF ht2 hd8
theorem co_c_put_else {t x y z : Int} (ht : ck_rg t) (hx : ck_rg x) (hy : ck_rg y) (hz : ck_rg z) (h : co_GI c σ) (hf : co_fit t x y z) (hw : co_own t (σ 5 11) (σ 6 (σ 15 (σ 5 11 - 1))) (σ 11 (σ 15 (σ 5 11 - 1)))) (hF : σ 5 10 < 64) (ht2 : t = 10) (hd0 : 0 < σ 5 11) (h9 : σ 6 (σ 15 (σ 5 11 - 1)) = 9) (h11 : σ 11 (σ 15 (σ 5 11 - 1)) = -1) : ck_cal 3 cm_Cs_put [.inr (0, 3, 5), .inl t, .inl x, .inl y, .inl z] σ (fun q σ1 => ∃ a, q = some a ∧ ck_cal 3 cm_Mo_put [.inr (480, 3, 6), .inl t, .inl x, .inl y, .inl z] σ1 (fun q2 σ2 => q2 = some a ∧ σ2 480 0 = 0 ∧ co_GI c σ2)) := by
  have hn := h.1.1
  have hd := h.1.2.1
  obtain ⟨a1, a2⟩ := co_put_pre h
  obtain ⟨p1, p2, b1, b2, b3, b4⟩ := co_put_mod h
  have hh := (b4 t).mpr hw
  have ho : 0 < σ 5 11 → 0 ≤ σ 15 (σ 5 11 - 1) ∧ σ 15 (σ 5 11 - 1) < 64 := fun q => by have := a1 q; omega
  have hs : 0 < σ 5 11 → ck_rg (σ 6 (σ 15 (σ 5 11 - 1))) ∧ ck_rg (σ 11 (σ 15 (σ 5 11 - 1))) := fun q => by
    have := a1 q
    exact ⟨ck_rgo (by omega) (by omega), ck_rgo (by omega) (by omega)⟩
  refine cx_putC ht hx hy hz hd ho hs hf hw (ck_cal_mono (cx_appendP_else (σ := ck_up (ck_up σ 1 8 0) 4 6 0) ht (show 0 ≤ σ 5 10 ∧ σ 5 10 < 64 by omega) ht2 (show 0 < σ 5 11 ∧ σ 5 11 ≤ 8 by omega) (a1 hd0).1) ?_)
  rintro q s ⟨rfl, rfl⟩
  refine ⟨_, rfl, _, rfl, ck_cal_mono (cx_putM_else (σ := co_pc_else σ t x y z) ht hx hy hz b1 b2 b3 ⟨hf, hh⟩ (show 0 ≤ σ 480 1 ∧ σ 480 1 < 64 by omega) ht2 (show 0 < σ 480 2 by omega)) ?_⟩
  rintro q2 s2 ⟨e1, e2⟩
  have e1' : q2 = some (σ 480 1 + 1) := e1
  have e2' : s2 = ck_up (ck_up (ck_up (ck_up (ck_up (ck_up (ck_up (ck_up (ck_up (ck_up (ck_up (ck_up (co_pc_else σ t x y z) 480 0 0) 480 19 0) 481 (σ 480 1) t) 482 (σ 480 1) x) 483 (σ 480 1) y) 484 (σ 480 1) z) 485 (σ 480 1) ((-1))) 486 (σ 480 1) ((-1))) 487 (σ 480 1) ((-1))) 487 (σ 480 1) (σ 488 (σ 480 2 - 1))) 485 (σ 488 (σ 480 2 - 1)) (σ 480 1)) 480 1 (σ 480 1 + 1) := e2
  rw [p1] at e1'
  rw [p2, (a2 hd0).1, p1] at e2'
  refine ⟨e1', by rw [e2']; rfl, ?_⟩
  rw [e2']
  exact co_put_else h hf hF ht2 hd0 h9 h11
theorem co_c_put_end {t x y z : Int} (ht : ck_rg t) (hx : ck_rg x) (hy : ck_rg y) (hz : ck_rg z) (h : co_GI c σ) (hf : co_fit t x y z) (hw : co_own t (σ 5 11) (σ 6 (σ 15 (σ 5 11 - 1))) (σ 11 (σ 15 (σ 5 11 - 1)))) (hF : σ 5 10 < 64) (ht2 : t = 11) (hd0 : 0 < σ 5 11) : ck_cal 3 cm_Cs_put [.inr (0, 3, 5), .inl t, .inl x, .inl y, .inl z] σ (fun q σ1 => ∃ a, q = some a ∧ ck_cal 3 cm_Mo_put [.inr (480, 3, 6), .inl t, .inl x, .inl y, .inl z] σ1 (fun q2 σ2 => q2 = some a ∧ σ2 480 0 = 0 ∧ co_GI c σ2)) := by
  have hn := h.1.1
  have hd := h.1.2.1
  obtain ⟨a1, a2⟩ := co_put_pre h
  obtain ⟨p1, p2, b1, b2, b3, b4⟩ := co_put_mod h
  have hh := (b4 t).mpr hw
  have ho : 0 < σ 5 11 → 0 ≤ σ 15 (σ 5 11 - 1) ∧ σ 15 (σ 5 11 - 1) < 64 := fun q => by have := a1 q; omega
  have hs : 0 < σ 5 11 → ck_rg (σ 6 (σ 15 (σ 5 11 - 1))) ∧ ck_rg (σ 11 (σ 15 (σ 5 11 - 1))) := fun q => by
    have := a1 q
    exact ⟨ck_rgo (by omega) (by omega), ck_rgo (by omega) (by omega)⟩
  refine cx_putC ht hx hy hz hd ho hs hf hw (ck_cal_mono (cx_appendP_end (σ := ck_up (ck_up σ 1 8 0) 4 6 0) ht (show 0 ≤ σ 5 10 ∧ σ 5 10 < 64 by omega) ht2 (show 0 < σ 5 11 ∧ σ 5 11 ≤ 8 by omega) (a1 hd0).1 (fun j z1 z2 => h.1.2.2.1 j (by have z3 : σ 15 (σ 5 11 - 1) < j := z1; have := a1 hd0; omega) z2)) ?_)
  rintro q s ⟨rfl, a, b0, rfl, hA, hB⟩
  refine ⟨_, rfl, _, rfl, ck_cal_mono (cx_putM_end (σ := co_pc_end σ t x y z a b0) ht hx hy hz b1 b2 b3 ⟨hf, hh⟩ (show 0 ≤ σ 480 1 ∧ σ 480 1 < 64 by omega) ht2 (show 0 < σ 480 2 by omega)) ?_⟩
  rintro q2 s2 ⟨e1, e2⟩
  have e1' : q2 = some (σ 480 1 + 1) := e1
  have e2' : s2 = ck_up (ck_up (ck_up (ck_up (ck_up (ck_up (ck_up (ck_up (ck_up (ck_up (ck_up (ck_up (ck_up (co_pc_end σ t x y z a b0) 480 0 0) 480 19 0) 481 (σ 480 1) t) 482 (σ 480 1) x) 483 (σ 480 1) y) 484 (σ 480 1) z) 485 (σ 480 1) ((-1))) 486 (σ 480 1) ((-1))) 487 (σ 480 1) ((-1))) 480 2 (σ 480 2 - 1)) 487 (σ 480 1) (σ 488 (σ 480 2 - 1))) 486 (σ 488 (σ 480 2 - 1)) (σ 480 1)) 480 1 (σ 480 1 + 1) := e2
  rw [p1] at e1'
  rw [p2, (a2 hd0).1, p1] at e2'
  refine ⟨e1', by rw [e2']; rfl, ?_⟩
  rw [e2']
  exact co_put_end h hf hF ht2 hd0 hA hB
theorem co_c_put {t x y z : Int} (ht : ck_rg t) (hx : ck_rg x) (hy : ck_rg y) (hz : ck_rg z) (h : co_GI c σ) (hf : co_fit t x y z) (hw : co_own t (σ 5 11) (σ 6 (σ 15 (σ 5 11 - 1))) (σ 11 (σ 15 (σ 5 11 - 1)))) : ck_cal 3 cm_Cs_put [.inr (0, 3, 5), .inl t, .inl x, .inl y, .inl z] σ (fun q σ1 => ∃ a, q = some a ∧ ck_cal 3 cm_Mo_put [.inr (480, 3, 6), .inl t, .inl x, .inl y, .inl z] σ1 (fun q2 σ2 => q2 = some a ∧ σ2 480 0 = 0 ∧ co_GI c σ2)) := by
  by_cases hF : σ 5 10 = 64 ∨ ((t = 9 ∨ t = 12) ∧ σ 5 11 = 8)
  · exact co_c_put_full ht hx hy hz h hf hw hF
  · have hn := h.1.1
    have hd := h.1.2.1
    have hF2 : σ 5 10 < 64 := by omega
    by_cases h1 : t = 9 ∨ t = 12
    · exact co_c_put_open ht hx hy hz h hf hw hF2 h1 (by omega)
    · by_cases h2 : t = 10
      · have hw2 := hw
        rw [h2, co_own10] at hw2
        exact co_c_put_else ht hx hy hz h hf hw hF2 h2 hw2.1 hw2.2.1 hw2.2.2
      · by_cases h3 : t = 11
        · have hw2 := hw
          rw [h3, co_own11] at hw2
          exact co_c_put_end ht hx hy hz h hf hw hF2 h3 hw2
        · exact co_c_put_plain ht hx hy hz h hf hw hF2 (by omega)
/-! what the reference does where the class throws -/
theorem co_x_put {t x y z : Int} (ht : ck_rg t) (hx : ck_rg x) (hy : ck_rg y) (hz : ck_rg z) (h : co_GI c σ) (hf : ¬ (co_fit t x y z ∧ co_own t (σ 5 11) (σ 6 (σ 15 (σ 5 11 - 1))) (σ 11 (σ 15 (σ 5 11 - 1))))) : ck_cal 3 cm_Mo_put [.inr (480, 3, 6), .inl t, .inl x, .inl y, .inl z] σ (fun q2 σ2 => q2 = some 0 ∧ σ2 480 0 = 1 ∧ co_GI c σ2) := by
  obtain ⟨p1, p2, b1, b2, b3, b4⟩ := co_put_mod h
  refine ck_cal_mono (cx_putM_no ht hx hy hz b1 b2 b3 (fun w => hf ⟨w.1, (b4 t).mp w.2⟩)) ?_
  rintro q2 s2 ⟨rfl, rfl⟩
  exact ⟨rfl, rfl, co_GI_0 h 1⟩
theorem co_x_give {v : Int} (hv : ck_rg v) (h : co_GI c σ) (hf : ¬ (-1000000 ≤ v ∧ v ≤ 1000000)) : ck_cal 2 cm_Mo_give [.inr (480, 3, 6), .inl v] σ (fun q2 σ2 => q2 = some 0 ∧ σ2 480 0 = 1 ∧ co_GI c σ2) := by
  refine ck_cal_mono (cx_giveMA hv hf) ?_
  rintro q2 s2 ⟨rfl, rfl⟩
  exact ⟨rfl, rfl, co_GI_0 h 1⟩
theorem co_x_start (h : co_GI c σ) (hd : 0 < σ 5 11) : ck_cal 6 cm_Mo_start [.inr (480, 3, 6)] σ (fun q2 σ2 => q2 = some 0 ∧ σ2 480 0 = 1 ∧ co_GI c σ2) := by
  obtain ⟨n1, n2, n3, n4, n5, n6⟩ := co_GI_n h
  refine ck_cal_mono (cx_start1 (by omega)) ?_
  rintro q2 s2 ⟨rfl, rfl⟩
  exact ⟨rfl, rfl, co_GI_0 h 1⟩
theorem co_x_run1 {N : Int} (hN : ck_rg N) (h : co_GI c σ) (hf : ¬ (σ 1 8 = 1 ∧ σ 1 9 = 0)) : ck_cal 7 cm_Mo_run [.inr (480, 3, 6), .inl N] σ (fun q2 σ2 => q2 = some 0 ∧ σ2 480 0 = 1 ∧ co_GI c σ2) := by
  obtain ⟨n1, n2, n3, n4, n5, n6⟩ := co_GI_n h
  have e9 : σ 1 9 = σ 480 21 := h.2.2.2.1.2.2.2.2.2.1.1
  refine ck_cal_mono (cx_runA (by omega) (fun q => ?_) hN (by omega)) ?_
  · obtain ⟨p, l, -, -, -, -, -, hi⟩ := co_GI_run h (by omega)
    have := hi.2.2.1
    exact ck_rgo (by omega) (by omega)
  rintro q2 s2 ⟨rfl, rfl⟩
  exact ⟨rfl, rfl, co_GI_0 h 1⟩
theorem co_x_run2 {N : Int} (hN : ck_rg N) (h : co_GI c σ) (hb : σ 1 8 = 1) (h9 : σ 1 9 = 0) (hf : ¬ (1 ≤ N ∧ N ≤ 2000)) : ck_cal 7 cm_Mo_run [.inr (480, 3, 6), .inl N] σ (fun q2 σ2 => q2 = some 0 ∧ σ2 480 0 = 2 ∧ co_GI c σ2) := by
  obtain ⟨n1, n2, n3, n4, n5, n6⟩ := co_GI_n h
  have e9 : σ 1 9 = σ 480 21 := h.2.2.2.1.2.2.2.2.2.1.1
  refine ck_cal_mono (cx_runB (by omega) (by omega) hN hf) ?_
  rintro q2 s2 ⟨rfl, rfl⟩
  exact ⟨rfl, rfl, co_GI_0 h 2⟩
theorem co_x_needless1 {k : Int} (hk : ck_rg k) (h : co_GI c σ) (hb : σ 1 8 = 0) : ck_cal 3 cm_Mo_needless [.inr (480, 3, 6), .inl k] σ (fun q2 σ2 => q2 = some 0 ∧ σ2 480 0 = 1 ∧ co_GI c σ2) := by
  obtain ⟨n1, n2, n3, n4, n5, n6⟩ := co_GI_n h
  refine ck_cal_mono (cx_needlessMA hk (by omega) (by omega)) ?_
  rintro q2 s2 ⟨rfl, rfl⟩
  exact ⟨rfl, rfl, co_GI_0 h 1⟩
theorem co_x_needless2 {k : Int} (hk : ck_rg k) (h : co_GI c σ) (hb : σ 1 8 = 1) (hf : ¬ (0 ≤ k ∧ k < σ 5 10)) : ck_cal 3 cm_Mo_needless [.inr (480, 3, 6), .inl k] σ (fun q2 σ2 => q2 = some 0 ∧ σ2 480 0 = 2 ∧ co_GI c σ2) := by
  obtain ⟨n1, n2, n3, n4, n5, n6⟩ := co_GI_n h
  refine ck_cal_mono (cx_needlessMB hk (by omega) (by omega) (by omega)) ?_
  rintro q2 s2 ⟨rfl, rfl⟩
  exact ⟨rfl, rfl, co_GI_0 h 2⟩
theorem co_x_least1 {k m : Int} (hk : ck_rg k) (hm : ck_rg m) (h : co_GI c σ) (hb : σ 1 8 = 0) : ck_cal 3 cm_Mo_least [.inr (480, 3, 6), .inl k, .inl m] σ (fun q2 σ2 => q2 = some 0 ∧ σ2 480 0 = 1 ∧ co_GI c σ2) := by
  obtain ⟨n1, n2, n3, n4, n5, n6⟩ := co_GI_n h
  refine ck_cal_mono (cx_leastMA hk hm (by omega) (by omega)) ?_
  rintro q2 s2 ⟨rfl, rfl⟩
  exact ⟨rfl, rfl, co_GI_0 h 1⟩
theorem co_x_least2 {k m : Int} (hk : ck_rg k) (hm : ck_rg m) (h : co_GI c σ) (hb : σ 1 8 = 1) (hf : ¬ ((0 ≤ k ∧ k < σ 5 10) ∧ 0 ≤ m ∧ m < 10)) : ck_cal 3 cm_Mo_least [.inr (480, 3, 6), .inl k, .inl m] σ (fun q2 σ2 => q2 = some 0 ∧ σ2 480 0 = 2 ∧ co_GI c σ2) := by
  obtain ⟨n1, n2, n3, n4, n5, n6⟩ := co_GI_n h
  refine ck_cal_mono (cx_leastMB hk hm (by omega) (by omega) (by omega)) ?_
  rintro q2 s2 ⟨rfl, rfl⟩
  exact ⟨rfl, rfl, co_GI_0 h 2⟩
theorem co_x_highest1 {k m r : Int} (hk : ck_rg k) (hm : ck_rg m) (hr : ck_rg r) (h : co_GI c σ) (hb : σ 1 8 = 0) : ck_cal 3 cm_Mo_highest [.inr (480, 3, 6), .inl k, .inl m, .inl r] σ (fun q2 σ2 => q2 = some 0 ∧ σ2 480 0 = 1 ∧ co_GI c σ2) := by
  obtain ⟨n1, n2, n3, n4, n5, n6⟩ := co_GI_n h
  refine ck_cal_mono (cx_highestMA hk hm hr (by omega) (by omega)) ?_
  rintro q2 s2 ⟨rfl, rfl⟩
  exact ⟨rfl, rfl, co_GI_0 h 1⟩
theorem co_x_highest2 {k m r : Int} (hk : ck_rg k) (hm : ck_rg m) (hr : ck_rg r) (h : co_GI c σ) (hb : σ 1 8 = 1) (hf : ¬ ((0 ≤ k ∧ k < σ 5 10) ∧ (0 ≤ m ∧ m < 10) ∧ 0 ≤ r ∧ r < 4)) : ck_cal 3 cm_Mo_highest [.inr (480, 3, 6), .inl k, .inl m, .inl r] σ (fun q2 σ2 => q2 = some 0 ∧ σ2 480 0 = 2 ∧ co_GI c σ2) := by
  obtain ⟨n1, n2, n3, n4, n5, n6⟩ := co_GI_n h
  refine ck_cal_mono (cx_highestMB hk hm hr (by omega) (by omega) (by omega)) ?_
  rintro q2 s2 ⟨rfl, rfl⟩
  exact ⟨rfl, rfl, co_GI_0 h 2⟩
end COG6
