/-! ## run -/
section CORUN
variable {p : ck_M} {n : Int} {X : Int → ck_D} {nd : Int → Int}
theorem co_rn_ok (hp : co_pg p n) (hX : co_sol p n X) : ∀ (i : Nat) (m : ck_M) (c : Int), co_mi p n X c m → co_mi p n X (c + 4 * i) (co_rn p n nd i m).2 ∧ co_rf m (co_rn p n nd i m).2 := by
  intro i
  induction i with
  | zero =>
    intro m c h
    refine ⟨?_, co_rf_r m⟩
    have e : c + 4 * ((0 : Nat) : Int) = c := by omega
    rw [e]
    exact h
  | succ i ih =>
    intro m c h
    by_cases h0 : m 480 21 = 0
    · obtain ⟨o1, o2, o3⟩ := co_one_ok (nd := nd) hp hX h h0
      by_cases h1 : (co_one p n nd m).1 = 0
      · rw [co_rn_fail h0 h1]
        exact ⟨⟨co_md_up o1.1 (by omega), o1.2⟩, o2⟩
      · have h2 : (co_one p n nd m).1 = 1 := by
          rcases o3 with z | z
          · exact z
          · exact absurd z.1 h1
        rw [co_rn_go h0 h2]
        obtain ⟨a, b⟩ := ih (co_one p n nd m).2 (c + 4) o1
        refine ⟨⟨co_md_up a.1 (by omega), a.2⟩, co_rf_tr o2 b⟩
    · rw [co_rn_stop h0]
      exact ⟨⟨co_md_up h.1 (by omega), h.2⟩, co_rf_r m⟩
end CORUN
theorem co_ndl7 {t x y z : Int} {f : ck_D} : 0 ≤ ck_ndl t x y z f ∧ ck_ndl t x y z f ≤ 7 := co_ndl_bd
section COGR
variable {c : Int} {σ : ck_M}
theorem co_po_eq {w p : ck_M} {n d : Int} (e : ∀ b, 6 ≤ b → b ≤ 15 → w b = p b) (h : co_po p n d) : co_po w n d := by
  have e6 := e 6 (by decide) (by decide)
  have e7 := e 7 (by decide) (by decide)
  have e8 := e 8 (by decide) (by decide)
  have e9 := e 9 (by decide) (by decide)
  have e10 := e 10 (by decide) (by decide)
  have e11 := e 11 (by decide) (by decide)
  have e12 := e 12 (by decide) (by decide)
  have e13 := e 13 (by decide) (by decide)
  have e14 := e 14 (by decide) (by decide)
  have e15 := e 15 (by decide) (by decide)
  simp only [co_po, co_pS, co_el, co_nn, co_os, co_cd, co_mm, co_pE, co_cn, co_ca, e6, e7, e8, e9, e10, e11, e12, e13, e14, e15] at h ⊢
  exact h
theorem co_GI_mg {p w M : ck_M} {l : Nat} {c' : Int} (h : co_GI c σ) (hb : σ 1 8 = 1) (hw : co_wk σ p (σ 5 10) l) (hrw : ∀ k, 0 ≤ k → k < σ 5 10 → ck_rw σ 491 k = co_R p (l + 1) k) (hcf : co_cf σ w) (hrf : co_rf (ck_up σ 480 0 0) M) (hcl : co_cl w M) (hi : co_mi p (σ 5 10) (co_Fi p (l + 1)) c' M) : co_GI c' (co_mg w M) := by
  obtain ⟨h1, h2, h3, h4, h5, ⟨e8, b8, b6⟩, h7, h8⟩ := h
  have ew : ∀ b, 5 ≤ b → b ≤ 19 → w b = σ b := fun b x y => funext (fun j => hcf b j (by omega) (by omega) (by omega))
  have eM : ∀ b, (480 < b ∧ b < 489) ∨ (489 < b ∧ b < 496) → M b = σ b := fun b x => funext (fun j => (hrf b j (by omega)).trans (if_neg (by omega)))
  have m1 : M 480 1 = σ 480 1 := (hrf 480 1 (by omega)).trans rfl
  have m2 : M 480 2 = σ 480 2 := (hrf 480 2 (by omega)).trans rfl
  have m19 : M 480 19 = σ 480 19 := (hrf 480 19 (by omega)).trans rfl
  have w8 : w 1 8 = σ 1 8 := hcf 1 8 (by decide) (by decide) (by decide)
  have w46 : w 4 6 = σ 4 6 := hcf 4 6 (by decide) (by decide) (by decide)
  have z1 := (h8 (h7 hb)).1
  refine ⟨?_, ?_, ?_, hcl, ?_, ?_, ?_, fun _ => ?_⟩
  · show co_po w (w 5 10) (w 5 11)
    rw [ew 5 (by decide) (by decide)]
    exact co_po_eq (fun b x y => ew b (by omega) (by omega)) h1
  · show co_pq (co_mg w M) (co_mg w M) (w 5 10) (w 5 11)
    have g : co_pq (co_mg w M) (co_mg w M) (σ 5 10) (σ 5 11) := by
      show (M 480 1 = σ 5 10 ∧ M 480 2 = σ 5 11 ∧ (∀ k, 0 ≤ k → k < σ 5 10 → (M 481 k = w 6 k ∧ M 482 k = w 7 k ∧ M 483 k = w 8 k ∧ M 484 k = w 9 k ∧ M 485 k = w 11 k) ∧ (w 6 k = 9 ∨ w 6 k = 12 → ¬ co_os w (σ 5 11) k → M 486 k = w 12 k) ∧ (w 6 k = 10 ∨ w 6 k = 11 → M 487 k = w 10 k ∧ M 482 k = 0)) ∧ ∀ i, 0 ≤ i → i < σ 5 11 → M 488 i = w 15 i)
      unfold co_os
      rw [m1, m2, eM 481 (by omega), eM 482 (by omega), eM 483 (by omega), eM 484 (by omega), eM 485 (by omega), eM 486 (by omega), eM 487 (by omega), eM 488 (by omega), ew 6 (by decide) (by decide), ew 7 (by decide) (by decide), ew 8 (by decide) (by decide), ew 9 (by decide) (by decide), ew 10 (by decide) (by decide), ew 11 (by decide) (by decide), ew 12 (by decide) (by decide), ew 15 (by decide) (by decide)]
      exact h2
    rw [ew 5 (by decide) (by decide)]
    exact g
  · intro q a b
    show ck_qb (ck_rw M 493 q) ∧ ck_qb (ck_rw M 491 q)
    unfold ck_rw
    rw [eM 493 (by omega), eM 491 (by omega)]
    exact h3 q a b
  · exact ⟨hi.1.2.2.2.2.1, hi.1.2.2.2.2.2.1, hi.1.2.2.2.2.2.2.1.1, hi.1.2.2.2.2.2.2.1.2⟩
  · show w 1 8 = M 480 19 ∧ (w 1 8 = 0 ∨ w 1 8 = 1) ∧ (w 4 6 = 0 ∨ w 4 6 = 1)
    rw [w8, m19, w46]
    exact ⟨e8, b8, b6⟩
  · show w 1 8 = 1 → w 4 6 = 1
    rw [w8, w46]
    exact h7
  · show w 5 11 = 0 ∧ ∃ p l, co_wk (co_mg w M) p (w 5 10) l ∧ (w 1 8 = 1 → (∀ k, 0 ≤ k → k < w 5 10 → ck_rw M 491 k = co_R p (l + 1) k) ∧ co_mi p (w 5 10) (co_Fi p (l + 1)) c' M)
    rw [ew 5 (by decide) (by decide)]
    refine ⟨z1, p, l, ?_, fun _ => ⟨fun k a b => ?_, hi⟩⟩
    · refine co_wk_eq (s := σ) h1.1.2 (fun b j u v => ?_) (fun b j u v => ?_) (fun j => ?_) hw
      · have : co_mg w M b j = w b j := if_pos (by omega)
        rw [this]; exact hcf b j (by omega) (by omega) (by omega)
      · have : co_mg w M b j = w b j := if_pos (by omega)
        rw [this]; exact hcf b j (by omega) (by omega) (by omega)
      · have : co_mg w M 17 j = w 17 j := if_pos (by omega)
        rw [this]; exact hcf 17 j (by decide) (by decide) (by omega)
    · unfold ck_rw
      rw [eM 491 (by omega)]
      exact hrw k a b
theorem co_c_run {N : Int} (hN : 1 ≤ N ∧ N ≤ 2000) (h : co_GI c σ) (hc : c ≤ 100000000) (hb : σ 1 8 = 1) (h9 : σ 1 9 = 0) : ck_cal 7 cm_Cs_run [.inr (0, 3, 5), .inl N] σ (fun q σ1 => ∃ a, q = some a ∧ ck_cal 7 cm_Mo_run [.inr (480, 3, 6), .inl N] σ1 (fun q2 σ2 => q2 = some a ∧ σ2 480 0 = 0 ∧ co_GI (c + 8000) σ2)) := by
  obtain ⟨p, l, hp, hm, hw, hX, hrw, hi⟩ := co_GI_run h hb
  have h4 := h.2.2.2.1
  have e8 := h.2.2.2.2.2.1.1
  have hn := hp.1
  have e9 : σ 1 9 = σ 480 21 := h4.2.2.2.2.2.1.1
  have hnd : ∀ k, 0 ≤ k → k < σ 5 10 → (fun k => ck_ndl (p 6 k) (p 7 k) (p 8 k) (p 9 k) (co_Fi p (l + 1) k)) k = ck_ndl (p 6 k) (p 7 k) (p 8 k) (p 9 k) (co_Fi p (l + 1) k) := fun _ _ _ => rfl
  have hA := cx_advance (σ := σ) (m0 := ck_up σ 480 0 0) (nd := fun k => ck_ndl (p 6 k) (p 7 k) (p 8 k) (p 9 k) (co_Fi p (l + 1) k)) hN hp hX (fun b j u v => (hw.1 b j u v).symm) rfl hi h4 hc (fun k a b => (hw.2.2 k a b).2) (fun k a b => co_ndl7) hnd
  refine cx_runC' hN hb h9 (ck_cal_mono hA ?_)
  rintro q s ⟨eq, hcl, hcf⟩
  refine ⟨_, eq, _, eq, ?_⟩
  have hag : ck_up s 480 0 0 = co_mg (ck_up s 480 0 0) (ck_up σ 480 0 0) := co_ag_mg (fun b j hb => by
    unfold ck_up
    split
    · rfl
    · exact hcf b j (by omega) (by omega) (by omega))
  have hag2 : ck_up s 480 0 0 = co_mg s (ck_up σ 480 0 0) := by
    rw [hag]
    funext b j
    unfold co_mg
    split
    · exact if_neg (by omega)
    · rfl
  have hs : ∀ b j, 480 ≤ b → ck_up s 480 0 0 b j = ck_up σ 480 0 0 b j := fun b j hb => by
    unfold ck_up
    split
    · rfl
    · exact hcf b j (by omega) (by omega) (by omega)
  have hi2 : co_mi p (σ 5 10) (co_Fi p (l + 1)) c (ck_up s 480 0 0) := by
    rw [hag]
    exact hi
  have hm2 : co_pm (ck_up s 480 0 0) p (σ 5 10) := by
    rw [hag]
    exact hm
  refine ck_cal_mono (cx_runC (σ := s) (p := p) (n := σ 5 10) (X := co_Fi p (l + 1)) (c := c) (nd := fun k => ck_ndl (p 6 k) (p 7 k) (p 8 k) (p 9 k) (co_Fi p (l + 1) k)) ?_ ?_ hN hp hm2 hX hi2 hc (fun k a b => co_ndl7) hnd (fun t ht k a b => ?_)) ?_
  · rw [hcf 480 19 (by decide) (by decide) (by decide), ← e8]; exact hb
  · rw [hcf 480 21 (by decide) (by decide) (by decide), ← e9]; exact h9
  · refine co_spd hp (co_pm_rf ht hm2) a b ?_
    rw [← hrw k a b]
    exact co_rw_eq (fun q _ _ => (ht _ _ (by omega)).trans (hs _ _ (by decide)))
  · rintro q2 s2 ⟨e2, e3⟩
    obtain ⟨o1, o2⟩ := co_rn_ok (nd := fun k => ck_ndl (p 6 k) (p 7 k) (p 8 k) (p 9 k) (co_Fi p (l + 1) k)) hp hX N.toNat (ck_up σ 480 0 0) c hi
    rw [hag2, co_mg_rn] at e2 e3
    refine ⟨e2, ?_, ?_⟩
    · rw [e3]
      show (co_rn p (σ 5 10) _ N.toNat (ck_up σ 480 0 0)).2 480 0 = 0
      exact (o2 480 0 (by omega)).trans rfl
    · rw [e3]
      refine co_GI_mg h hb hw hrw (fun b j u v w => ?_) o2 (hcl) ⟨co_md_up o1.1 (by omega), o1.2⟩
      exact hcf b j u v w
end COGR
