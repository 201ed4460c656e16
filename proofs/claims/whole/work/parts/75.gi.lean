/-! ## What holds between the law's calls -/
def co_pq (s p : ck_M) (n d : Int) : Prop := s 480 1 = n ∧ s 480 2 = d ∧ (∀ k, 0 ≤ k → k < n → (s 481 k = p 6 k ∧ s 482 k = p 7 k ∧ s 483 k = p 8 k ∧ s 484 k = p 9 k ∧ s 485 k = p 11 k) ∧ (p 6 k = 9 ∨ p 6 k = 12 → ¬ co_os p d k → s 486 k = p 12 k) ∧ (p 6 k = 10 ∨ p 6 k = 11 → s 487 k = p 10 k ∧ s 482 k = 0)) ∧ ∀ i, 0 ≤ i → i < d → s 488 i = p 15 i
theorem co_pq_pm {s p : ck_M} {n : Int} (h : co_pq s p n 0) : co_pm s p n := by
  obtain ⟨h1, -, h3, -⟩ := h
  refine ⟨h1, fun k a b => ?_⟩
  obtain ⟨z1, z2, z3⟩ := h3 k a b
  refine ⟨z1, fun q => z2 q (fun ⟨i, i0, i1, _⟩ => by omega), z3⟩
/-- the finder has worked: p is the program, the pass l + 1 its solution -/
def co_wk (σ p : ck_M) (n : Int) (l : Nat) : Prop := (∀ b j, 6 ≤ b → b ≤ 14 → p b j = σ b j) ∧ (∀ k, 0 ≤ k → k < n → co_Fi p l k = co_Fi p (l + 1) k) ∧ ∀ k, 0 ≤ k → k < n → ck_B σ k = co_Fi p (l + 1) k ∧ σ 17 k = ck_ndl (p 6 k) (p 7 k) (p 8 k) (p 9 k) (co_Fi p (l + 1) k)
def co_mb (σ : ck_M) : Prop := (∀ j, 0 ≤ j → j < 1600 → co_nb (σ 499 j)) ∧ (∀ j, 0 ≤ j → j < 16 → co_nb (σ 500 j)) ∧ (0 ≤ σ 480 12 ∧ σ 480 12 ≤ 64) ∧ ∀ j, 0 ≤ j → j < σ 480 12 → co_nb (σ 489 j)
def co_GI (c : Int) (σ : ck_M) : Prop := co_po σ (σ 5 10) (σ 5 11) ∧ co_pq σ σ (σ 5 10) (σ 5 11) ∧ (∀ h, 0 ≤ h → h < 64 → ck_qb (ck_rw σ 493 h) ∧ ck_qb (ck_rw σ 491 h)) ∧ co_cl σ σ ∧ co_mb σ ∧ (σ 1 8 = σ 480 19 ∧ (σ 1 8 = 0 ∨ σ 1 8 = 1) ∧ (σ 4 6 = 0 ∨ σ 4 6 = 1)) ∧ (σ 1 8 = 1 → σ 4 6 = 1) ∧ (σ 4 6 = 1 → σ 5 11 = 0 ∧ ∃ p l, co_wk σ p (σ 5 10) l ∧ (σ 1 8 = 1 → (∀ k, 0 ≤ k → k < σ 5 10 → ck_rw σ 491 k = co_R p (l + 1) k) ∧ co_mi p (σ 5 10) (co_Fi p (l + 1)) c σ))
section COGI
variable {c : Int} {σ : ck_M}
theorem co_Beq {s t : ck_M} (h : ∀ b j, 25 ≤ b → b < 480 → t b j = s b j) {k : Int} (h0 : 0 ≤ k) (h1 : k < 64) : ck_B t k = ck_B s k := by
  unfold ck_B ck_rd
  exact ck_N_ext (fun n _ _ => h _ _ (by omega) (by omega)) (fun n _ _ => h _ _ (by omega) (by omega)) (fun n r _ _ _ _ => h _ _ (by omega) (by omega)) (fun r _ _ => h _ _ (by omega) (by omega)) (fun r _ _ => h _ _ (by omega) (by omega)) (fun r _ _ => h _ _ (by omega) (by omega))
theorem co_wk_eq {s t p : ck_M} {n : Int} {l : Nat} (hn : n ≤ 64) (h1 : ∀ b j, 6 ≤ b → b ≤ 14 → t b j = s b j) (h2 : ∀ b j, 25 ≤ b → b < 480 → t b j = s b j) (h3 : ∀ j, t 17 j = s 17 j) (h : co_wk s p n l) : co_wk t p n l := by
  obtain ⟨a, b, d⟩ := h
  refine ⟨fun x j u v => (a x j u v).trans (h1 x j u v).symm, b, fun k u v => ?_⟩
  rw [co_Beq h2 u (by omega), h3]
  exact d k u v
theorem co_GI_0 (h : co_GI c σ) (v : Int) : co_GI c (ck_up σ 480 0 v) := by
  obtain ⟨h1, h2, h3, h4, h5, h6, h7, h8⟩ := h
  refine ⟨h1, h2, h3, h4, h5, h6, h7, fun q => ?_⟩
  obtain ⟨z1, p, l, z2, z3⟩ := h8 q
  exact ⟨z1, p, l, co_wk_eq h1.1.2 (fun b j u v => if_neg (by omega)) (fun b j u v => if_neg (by omega)) (fun j => if_neg (by omega)) z2, z3⟩
theorem co_GI_up {c' : Int} (hc : c ≤ c') (h : co_GI c σ) : co_GI c' σ := by
  obtain ⟨h1, h2, h3, h4, h5, h6, h7, h8⟩ := h
  refine ⟨h1, h2, h3, h4, h5, h6, h7, fun q => ?_⟩
  obtain ⟨z1, p, l, z2, z3⟩ := h8 q
  refine ⟨z1, p, l, z2, fun q2 => ?_⟩
  obtain ⟨z4, z5⟩ := z3 q2
  exact ⟨z4, co_md_up z5.1 hc, z5.2⟩
theorem co_pg_eq {p q : ck_M} {n : Int} (h : ∀ b j, 6 ≤ b → b ≤ 14 → q b j = p b j) (hp : co_pg p n) : co_pg q n := by
  have e : ∀ b, 6 ≤ b → b ≤ 14 → q b = p b := fun b a c => funext (fun j => h b j a c)
  unfold co_pg co_pS co_pH co_pE co_pN co_pM co_cn co_ca
  rw [e 6 (by decide) (by decide), e 7 (by decide) (by decide), e 8 (by decide) (by decide), e 9 (by decide) (by decide), e 10 (by decide) (by decide), e 11 (by decide) (by decide), e 12 (by decide) (by decide), e 13 (by decide) (by decide), e 14 (by decide) (by decide)]
  exact hp
theorem co_pm_eq {s p q : ck_M} {n : Int} (h : ∀ b j, 6 ≤ b → b ≤ 14 → q b j = p b j) (hp : co_pm s p n) : co_pm s q n := by
  have e : ∀ b, 6 ≤ b → b ≤ 14 → q b = p b := fun b a c => funext (fun j => h b j a c)
  unfold co_pm
  rw [e 6 (by decide) (by decide), e 7 (by decide) (by decide), e 8 (by decide) (by decide), e 9 (by decide) (by decide), e 10 (by decide) (by decide), e 11 (by decide) (by decide), e 12 (by decide) (by decide)]
  exact hp
/-- while a run is begun -/
theorem co_GI_run (h : co_GI c σ) (hb : σ 1 8 = 1) : ∃ p l, co_pg p (σ 5 10) ∧ co_pm σ p (σ 5 10) ∧ co_wk σ p (σ 5 10) l ∧ co_sol p (σ 5 10) (co_Fi p (l + 1)) ∧ (∀ k, 0 ≤ k → k < σ 5 10 → ck_rw σ 491 k = co_R p (l + 1) k) ∧ co_mi p (σ 5 10) (co_Fi p (l + 1)) c σ := by
  obtain ⟨h1, h2, h3, h4, h5, h6, h7, h8⟩ := h
  obtain ⟨z1, p, l, z2, z3⟩ := h8 (h7 hb)
  obtain ⟨z4, z5⟩ := z3 hb
  rw [z1] at h1 h2
  have hp := co_pg_eq z2.1 (co_po_pg h1)
  exact ⟨p, l, hp, co_pm_eq z2.1 (co_pq_pm h2), z2, co_Fi_end hp z2.2.1, z4, z5⟩
/-- what is spared, all along a run -/
theorem co_spd {p s : ck_M} {n k : Int} {l : Nat} (hp : co_pg p n) (hm : co_pm s p n) (h0 : 0 ≤ k) (h1 : k < n) (hr : ck_rw s 491 k = co_R p l k) : ck_cal 1 cm_Mo_spared [.inr (480, 3, 6), .inl k] s (fun q s' => q = some (ck_ndl (p 6 k) (p 7 k) (p 8 k) (p 9 k) (co_Fi p l k)) ∧ s' = s) := by
  have hn := hp.1
  obtain ⟨⟨e1, e2, e3, e4, -⟩, -⟩ := hm.2 k h0 h1
  exact cx_spared' (f := co_Fi p l k) (j := co_J p k) ⟨h0, by omega⟩ e1 e2 e3 e4 (hp.2.1 k h0 h1) hr (co_Fi_wb hp l k h0 h1) (co_R_qb hp h0 h1)
/-! the answers that change nothing -/
theorem co_c_state {w : Int} (hw : ck_rg w) (h : co_GI c σ) : ck_cal 2 cm_Cs_state [.inr (0, 3, 5), .inl w] σ (fun q σ1 => ∃ a, q = some a ∧ ck_cal 1 cm_Mo_state [.inr (480, 3, 6), .inl w] σ1 (fun q2 σ2 => q2 = some a ∧ co_GI c σ2)) := by
  obtain ⟨h1, h2, h3, h4, h5, ⟨e8, b8, -⟩, h7⟩ := id h
  refine ck_cal_mono (cx_stateC hw b8) ?_
  rintro q s ⟨rfl, es⟩
  rw [es]
  clear es s
  refine ⟨_, rfl, ck_cal_mono (cx_stateM hw (by rw [← e8]; exact b8)) ?_⟩
  rintro q s ⟨rfl, rfl⟩
  refine ⟨?_, co_GI_0 h 0⟩
  rw [e8]
  obtain ⟨g1, g2, g3, g4, g5, g6, g7⟩ := h4.2.2.2.2.2.1
  have e : co_tl (fun j => σ 480 (20 + j)) w = co_tl (fun j => σ 1 (if j = 0 then 10 else if j = 1 then 9 else j + 9)) w := by
    unfold co_tl
    show (if w = 0 then σ 480 20 else if w = 1 then σ 480 21 else if w = 2 then σ 480 22 else if w = 3 then σ 480 23 else if w = 4 then σ 480 24 else if w = 5 then σ 480 25 else if w = 6 then σ 480 26 else -1) = (if w = 0 then σ 1 10 else if w = 1 then σ 1 9 else if w = 2 then σ 1 11 else if w = 3 then σ 1 12 else if w = 4 then σ 1 13 else if w = 5 then σ 1 14 else if w = 6 then σ 1 15 else -1)
    rw [g1, g2, g3, g4, g5, g6, g7]
  rw [e]
theorem co_c_number {m : Int} (hm : ck_rg m) (h : co_GI c σ) : ck_cal 2 cm_Cs_number [.inr (0, 3, 5), .inl m] σ (fun q σ1 => ∃ a, q = some a ∧ ck_cal 2 cm_Mo_number [.inr (480, 3, 6), .inl m] σ1 (fun q2 σ2 => q2 = some a ∧ co_GI c σ2)) := by
  obtain ⟨h1, h2, h3, h4, h5, ⟨e8, b8, -⟩, h7⟩ := id h
  refine ck_cal_mono (cx_numberC hm b8) ?_
  rintro q s ⟨rfl, es⟩
  rw [es]
  clear es s
  refine ⟨_, rfl, ck_cal_mono (cx_numberM hm (by rw [← e8]; exact b8)) ?_⟩
  rintro q s ⟨rfl, rfl⟩
  refine ⟨?_, co_GI_0 h 0⟩
  rw [e8]
  by_cases z : σ 480 19 = 1 ∧ 0 ≤ m ∧ m < 10
  · rw [if_pos z, if_pos z, h4.1 m z.2.1 z.2.2]
  · rw [if_neg z, if_neg z]
theorem co_c_output {k : Int} (hk : ck_rg k) (h : co_GI c σ) (hc : c ≤ 1000000000) : ck_cal 3 cm_Cs_output [.inr (0, 3, 5), .inl k] σ (fun q σ1 => ∃ a, q = some a ∧ ck_cal 2 cm_Mo_output [.inr (480, 3, 6), .inl k] σ1 (fun q2 σ2 => q2 = some a ∧ co_GI c σ2)) := by
  obtain ⟨h1, h2, h3, h4, h5, ⟨e8, b8, -⟩, h7⟩ := id h
  have e14 : σ 1 14 = σ 480 25 := h4.2.2.2.2.2.1.2.2.2.2.2.1
  have hB : σ 1 8 = 1 → 0 ≤ σ 480 25 ∧ σ 480 25 ≤ c := fun q => by
    obtain ⟨p, l, -, -, -, -, -, hi⟩ := co_GI_run h q
    exact hi.1.2.2.2.2.2.2.2.2.2.2
  refine ck_cal_mono (cx_outputC hk b8 (fun q => by have := hB q; omega)) ?_
  rintro q s ⟨rfl, es⟩
  rw [es]
  clear es s
  refine ⟨_, rfl, ck_cal_mono (cx_outputM hk (by rw [← e8]; exact b8) (fun q => by have := hB (by omega); omega)) ?_⟩
  rintro q s ⟨rfl, rfl⟩
  refine ⟨?_, co_GI_0 h 0⟩
  by_cases z : σ 1 8 = 1
  · rw [if_pos z, e14]
    by_cases z2 : 0 ≤ k ∧ k < 16 ∧ k < σ 480 25
    · rw [if_pos z2, if_pos ⟨by omega, z2⟩]
      have hb := hB z
      rw [h4.2.2.2.2.1 _ (by omega) (by omega)]
    · rw [if_neg z2, if_neg (fun w => z2 w.2)]
  · rw [if_neg z, if_neg (by omega)]
theorem co_GI_arr (h : co_GI c σ) (hb : σ 1 8 = 1) (r : Int) (r0 : 0 ≤ r) (r1 : r < 4) : σ 21 r = σ 497 r ∧ (σ 497 r = -1 ∨ (0 ≤ σ 497 r ∧ σ 497 r < 40 ∧ σ 22 (σ 497 r) = σ 498 (σ 497 r) ∧ 0 ≤ σ 498 (σ 497 r) ∧ σ 498 (σ 497 r) ≤ 40)) := by
  obtain ⟨p, l, -, -, -, -, -, hi⟩ := co_GI_run h hb
  have h4 := h.2.2.2.1
  have z1 := hi.1.2.1
  have z2 := hi.1.2.2.1 r r0 r1
  refine ⟨h4.2.1 r r0 r1, ?_⟩
  rcases z2 with z | z
  · exact Or.inl z
  · have z3 := hi.1.2.2.2.1 _ z.1 z.2
    exact Or.inr ⟨z.1, by omega, h4.2.2.1 _ z.1 (by omega), z3.1, z3.2⟩
theorem co_c_length {r : Int} (hr : ck_rg r) (h : co_GI c σ) : ck_cal 2 cm_Cs_length [.inr (0, 3, 5), .inl r] σ (fun q σ1 => ∃ a, q = some a ∧ ck_cal 2 cm_Mo_length [.inr (480, 3, 6), .inl r] σ1 (fun q2 σ2 => q2 = some a ∧ co_GI c σ2)) := by
  obtain ⟨h1, h2, h3, h4, h5, ⟨e8, b8, -⟩, h7⟩ := id h
  have hA := co_GI_arr h
  refine ck_cal_mono (cx_lengthC hr b8 (fun q r a b => by have := hA q r a b; omega)) ?_
  rintro q s ⟨rfl, es⟩
  rw [es]
  clear es s
  refine ⟨_, rfl, ck_cal_mono (cx_lengthM hr (by rw [← e8]; exact b8) (fun q r a b => by have := hA (by omega) r a b; omega)) ?_⟩
  rintro q s ⟨rfl, rfl⟩
  refine ⟨?_, co_GI_0 h 0⟩
  by_cases z : σ 1 8 = 1 ∧ 0 ≤ r ∧ r < 4
  · have w := hA z.1 r z.2.1 z.2.2
    rw [if_pos z, w.1]
    by_cases z2 : σ 497 r = -1
    · rw [if_pos z2, if_neg (by omega)]
    · rw [if_neg z2, if_pos (by omega)]
      have : σ 22 (σ 497 r) = σ 498 (σ 497 r) := by omega
      rw [this]
  · rw [if_neg z, if_neg (by omega)]
theorem co_c_place {r j : Int} (hr : ck_rg r) (hj : ck_rg j) (h : co_GI c σ) : ck_cal 4 cm_Cs_place [.inr (0, 3, 5), .inl r, .inl j] σ (fun q σ1 => ∃ a, q = some a ∧ ck_cal 2 cm_Mo_place [.inr (480, 3, 6), .inl r, .inl j] σ1 (fun q2 σ2 => q2 = some a ∧ co_GI c σ2)) := by
  obtain ⟨h1, h2, h3, h4, h5, ⟨e8, b8, -⟩, h7⟩ := id h
  have hA := co_GI_arr h
  refine ck_cal_mono (cx_placeC hr hj b8 (fun q r a b => by have := hA q r a b; omega) (fun q r a b => ?_)) ?_
  · have w := hA q r a b
    rw [w.1]
    split <;> omega
  rintro q s ⟨rfl, es⟩
  rw [es]
  clear es s
  refine ⟨_, rfl, ck_cal_mono (cx_placeM hr hj (by rw [← e8]; exact b8) (fun q r a b => by have := hA (by omega) r a b; omega) (fun q r a b w => by have := hA (by omega) r a b; omega)) ?_⟩
  rintro q s ⟨rfl, rfl⟩
  refine ⟨?_, co_GI_0 h 0⟩
  by_cases z : σ 1 8 = 1 ∧ 0 ≤ r ∧ r < 4
  · have w := hA z.1 r z.2.1 z.2.2
    rw [if_pos z, w.1]
    by_cases z2 : σ 497 r = -1
    · rw [if_pos z2, if_neg (show ¬ (0 ≤ j ∧ j < -1) by omega), if_neg (by omega)]
    · rw [if_neg z2]
      have e : σ 22 (σ 497 r) = σ 498 (σ 497 r) := by omega
      rw [e]
      by_cases z3 : 0 ≤ j ∧ j < σ 498 (σ 497 r)
      · rw [if_pos z3, if_pos (by omega), h4.2.2.2.1 _ (by omega) (by omega)]
      · rw [if_neg z3, if_neg (by omega)]
  · rw [if_neg z, if_neg (by omega)]
/-! clear and give -/
theorem co_c_clear (h : co_GI c σ) : ck_cal 2 cm_Cs_clear [.inr (0, 3, 5)] σ (fun q σ1 => ∃ a, q = some a ∧ ck_cal 1 cm_Mo_clear [.inr (480, 3, 6)] σ1 (fun q2 σ2 => q2 = some a ∧ co_GI c σ2)) := by
  obtain ⟨h1, h2, h3, h4, h5, ⟨e8, b8, b6⟩, h7⟩ := id h
  refine ck_cal_mono (cx_clearC σ) ?_
  rintro q s ⟨rfl, rfl⟩
  refine ⟨_, rfl, ck_cal_mono (cx_clearM _) ?_⟩
  rintro q s ⟨rfl, rfl⟩
  refine ⟨congrArg some h2.1, ?_⟩
  refine ⟨?_, ?_, h3, ?_, ?_, ⟨rfl, Or.inl rfl, Or.inl rfl⟩, fun q => absurd q (show ¬ (0 : Int) = 1 by decide), fun q => absurd q (show ¬ (0 : Int) = 1 by decide)⟩
  · exact ⟨⟨(by decide : (0 : Int) ≤ 0), (by decide : (0 : Int) ≤ 64)⟩, ⟨(by decide : (0 : Int) ≤ 0), (by decide : (0 : Int) ≤ 8)⟩, fun k (a : 0 ≤ k) (b : k < 0) => absurd b (by omega), fun k (a : 0 ≤ k) (b : k < 0) => absurd b (by omega), fun i j (a : 0 ≤ i) (b : i < j) (d : j < 0) => absurd d (by omega), fun k (a : 0 ≤ k) (b : k < 0) => absurd b (by omega), fun k (a : 0 ≤ k) (b : k < 0) => absurd b (by omega), fun k (a : 0 ≤ k) (b : k < 0) => absurd b (by omega)⟩
  · exact ⟨rfl, rfl, fun k (a : 0 ≤ k) (b : k < 0) => absurd b (by omega), fun k (a : 0 ≤ k) (b : k < 0) => absurd b (by omega)⟩
  · obtain ⟨g1, g2, g3, g4, g5, g6, g7⟩ := h4
    exact ⟨g1, g2, g3, g4, g5, g6, rfl, ⟨(by decide : (0 : Int) ≤ 0), (by decide : (0 : Int) < 64)⟩, fun k (a : 0 ≤ k) (b : k < 0) => absurd b (by omega)⟩
  · exact ⟨h5.1, h5.2.1, ⟨(by decide : (0 : Int) ≤ 0), (by decide : (0 : Int) ≤ 64)⟩, fun k (a : 0 ≤ k) (b : k < 0) => absurd b (by omega)⟩
end COGI
