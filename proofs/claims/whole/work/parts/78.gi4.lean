/-! ## start -/
section COG4
variable {c : Int} {σ : ck_M}
/-- what the finder's work has left -/
def co_sw (σ : ck_M) (s : ck_M) : Prop := s 4 6 = 1 ∧ (∀ b j, ¬ (b = 4 ∧ j = 6) → (b < 17 ∨ 19 < b) → (b < 25 ∨ 479 < b) → s b j = σ b j) ∧ ∃ p l, co_pg p (σ 5 10) ∧ (∀ b j, 6 ≤ b → b ≤ 14 → p b j = σ b j) ∧ (∀ k, 0 ≤ k → k < σ 5 10 → co_Fi p l k = co_Fi p (l + 1) k) ∧ ∀ k, 0 ≤ k → k < σ 5 10 → ck_B s k = co_Fi p (l + 1) k ∧ s 17 k = ck_ndl (p 6 k) (p 7 k) (p 8 k) (p 9 k) (co_Fi p (l + 1) k)
theorem co_w_start (h : co_GI c σ) (hd : σ 5 11 = 0) : ck_cal 7 cm_Fi_work [.inr (4, 3, 1)] σ (fun q s => q = none ∧ s 5 10 = σ 5 10 ∧ (∀ k, 0 ≤ k → k < σ 5 10 → 0 ≤ s 17 k ∧ s 17 k ≤ 7) ∧ co_sw σ s) := by
  obtain ⟨h1, h2, h3, h4, h5, ⟨e8, b8, b6⟩, h7, h8⟩ := id h
  rw [hd] at h1
  have hp := co_po_pg h1
  rcases b6 with hw | hw
  · obtain ⟨l, hl⟩ := co_ex hp
    have hX := co_Fi_end hp hl
    refine ck_cal_mono (cx_work0 hw hp rfl hX) ?_
    rintro q s ⟨rfl, f1, f2, f3, f4, f5⟩
    have eB : ∀ k, 0 ≤ k → k < σ 5 10 → ck_B s k = co_Fi σ (l + 1) k := co_least hp f3 hX (fun k a b => (f4 k a b).1) (co_Fi_wb hp (l + 1)) (fun k a b => (f4 k a b).2) (co_Fi_sol hp f3 (l + 1))
    have e17 : ∀ k, 0 ≤ k → k < σ 5 10 → s 17 k = ck_ndl (σ 6 k) (σ 7 k) (σ 8 k) (σ 9 k) (co_Fi σ (l + 1) k) := fun k a b => by rw [f5 k a b, eB k a b]
    refine ⟨rfl, f1 5 10 (by omega) (by omega) (by omega), fun k a b => ?_, f2, f1, σ, l, hp, fun _ _ _ _ => rfl, hl, fun k a b => ⟨eB k a b, e17 k a b⟩⟩
    rw [e17 k a b]
    exact co_ndl_bd
  · obtain ⟨-, p, l, z2, -⟩ := h8 hw
    refine ck_cal_mono (cx_work1 hw) ?_
    rintro q s ⟨rfl, es⟩
    rw [es]
    clear es s
    refine ⟨rfl, rfl, fun k a b => ?_, hw, fun _ _ _ _ _ => rfl, p, l, co_pg_eq z2.1 hp, z2.1, z2.2.1, z2.2.2⟩
    rw [(z2.2.2 k a b).2]
    exact co_ndl_bd
theorem co_c_start (h : co_GI c σ) (hc : 0 ≤ c) (hd : σ 5 11 = 0) : ck_cal 8 cm_Cs_start [.inr (0, 3, 5)] σ (fun q σ1 => ∃ a, q = some a ∧ ck_cal 6 cm_Mo_start [.inr (480, 3, 6)] σ1 (fun q2 σ2 => q2 = some a ∧ σ2 480 0 = 0 ∧ co_GI c σ2)) := by
  obtain ⟨h1, h2, h3, h4, h5, ⟨e8, b8, b6⟩, h7, h8⟩ := id h
  have hn := h1.1
  refine ck_cal_mono (cx_startC hn hd (co_w_start h hd)) ?_
  rintro q s ⟨s1, ⟨w6, wf, p, l, hp, hpe, hl, hBk⟩, e5, rfl, f1, ⟨f8, f9, f10, f11⟩, ⟨f12, f13, f14, f15⟩, f20, f21⟩
  refine ⟨_, rfl, ?_⟩
  -- the memory that the reference finds
  have fs : ∀ b j, b ≠ 20 → b ≠ 21 → (b ≠ 1 ∨ j < 8) → ¬ (b = 4 ∧ j = 6) → (b < 17 ∨ 19 < b) → (b < 25 ∨ 479 < b) → s b j = σ b j := fun b j z1 z2 z3 z4 z5 z6 => (f1 b j z1 z2 z3).trans (wf b j z4 z5 z6)
  have es : ∀ b, 480 ≤ b → s b = σ b := fun b hb => funext (fun j => fs b j (by omega) (by omega) (by omega) (by omega) (by omega) (by omega))
  have ec : ∀ b, 5 ≤ b → b ≤ 15 → s b = σ b := fun b x y => funext (fun j => fs b j (by omega) (by omega) (by omega) (by omega) (by omega) (by omega))
  have hm : co_pm s p (σ 5 10) := by
    rw [hd] at h2
    have g := co_pm_eq hpe (co_pq_pm h2)
    unfold co_pm at g ⊢
    rw [es 480 (by decide), es 481 (by decide), es 482 (by decide), es 483 (by decide), es 484 (by decide), es 485 (by decide), es 486 (by decide), es 487 (by decide)]
    exact g
  have hs2 : s 480 2 = 0 := by
    rw [es 480 (by decide), h2.2.1]
    exact hd
  refine ck_cal_mono (cx_start0 (σ := s) (p := p) (n := σ 5 10) hs2 hp hm (fun q a b => ?_) (fun q a b => ?_)) ?_
  · unfold ck_rw
    rw [es 493 (by decide)]
    exact (h3 q a b).1
  · unfold ck_rw
    rw [es 491 (by decide)]
    exact (h3 q a b).2
  rintro q2 t ⟨l', hl', hR, rfl, hq, tf, t0, ⟨t19, t20, t21⟩, ⟨t22, t23, t24, t25, t26⟩, t496, t497⟩
  have hX := co_Fi_end hp hl
  have hX' := co_Fi_end hp hl'
  have eF : ∀ k, 0 ≤ k → k < σ 5 10 → co_Fi p (l' + 1) k = co_Fi p (l + 1) k := co_least hp hX' hX (co_Fi_wb hp (l' + 1)) (co_Fi_wb hp (l + 1)) (co_Fi_sol hp hX (l' + 1)) (co_Fi_sol hp hX' (l + 1))
  refine ⟨?_, t0, ?_⟩
  · refine congrArg some (co_sum_ext _ (fun k a b => ?_))
    rw [(hBk k a (by omega)).2, eF k a (by omega)]
  -- t beside σ
  have ts : ∀ b j, b < 480 → t b j = s b j := fun b j hb => tf b j (by omega) (by omega)
  have tc : ∀ b, 5 ≤ b → b ≤ 15 → t b = σ b := fun b x y => funext (fun j => (ts b j (by omega)).trans (congrFun (ec b x y) j))
  have tm : ∀ b, (480 < b ∧ b < 490) ∨ 497 < b → t b = σ b := fun b hb => funext (fun j => (tf b j (by omega) (by omega)).trans (congrFun (es b (by omega)) j))
  have t1 : t 480 1 = σ 480 1 := (tf 480 1 (by omega) (by omega)).trans (congrFun (es 480 (by decide)) 1)
  have t2 : t 480 2 = σ 480 2 := (tf 480 2 (by omega) (by omega)).trans (congrFun (es 480 (by decide)) 2)
  have t12 : t 480 12 = σ 480 12 := (tf 480 12 (by omega) (by omega)).trans (congrFun (es 480 (by decide)) 12)
  have tO : ∀ b j, b < 480 → b ≠ 20 → b ≠ 21 → (b ≠ 1 ∨ j < 8) → ¬ (b = 4 ∧ j = 6) → (b < 17 ∨ 19 < b) → b < 25 → t b j = σ b j := fun b j z0 z1 z2 z3 z4 z5 z6 => (ts b j z0).trans (fs b j z1 z2 z3 z4 z5 (by omega))
  have t46 : t 4 6 = 1 := (ts 4 6 (by decide)).trans ((f1 4 6 (by decide) (by decide) (by omega)).trans w6)
  have t18 : t 1 8 = 1 := (ts 1 8 (by decide)).trans f8
  obtain ⟨g1, g2, g3, g4, g5, g6, q1, q2, q3⟩ := h4
  have hmd : co_md c t := by
    unfold co_md
    rw [tm 498 (by omega), tm 499 (by omega), tm 500 (by omega), tm 489 (by omega), t12, t22, t23, t24, t25, t26]
    exact ⟨fun j a b => by rw [t496 j a b]; exact ⟨by decide, by decide⟩, ⟨by decide, by decide⟩, fun r a b => Or.inl (t497 r a b), fun a x y => by omega, h5.1, h5.2.1, h5.2.2, ⟨by decide, hc⟩, ⟨by decide, hc⟩, ⟨by decide, hc⟩, ⟨by decide, hc⟩⟩
  refine ⟨?_, ?_, hq, ?_, ?_, ⟨t18.trans t19.symm, Or.inr t18, Or.inr t46⟩, fun _ => t46, fun _ => ⟨?_, p, l', ?_, fun _ => ⟨?_, hmd, ?_, ?_, fun q => ?_⟩⟩⟩
  · rw [tc 5 (by decide) (by decide)]
    exact co_po_eq (fun b x y => tc b (by omega) (by omega)) h1
  · rw [tc 5 (by decide) (by decide)]
    unfold co_pq co_os at h2 ⊢
    rw [t1, t2, tm 481 (by omega), tm 482 (by omega), tm 483 (by omega), tm 484 (by omega), tm 485 (by omega), tm 486 (by omega), tm 487 (by omega), tm 488 (by omega), tc 6 (by decide) (by decide), tc 7 (by decide) (by decide), tc 8 (by decide) (by decide), tc 9 (by decide) (by decide), tc 10 (by decide) (by decide), tc 11 (by decide) (by decide), tc 12 (by decide) (by decide), tc 15 (by decide) (by decide)]
    exact h2
  · refine ⟨fun j a b => ?_, fun j a b => ?_, fun j a b => ?_, fun j a b => ?_, fun j a b => ?_, ⟨?_, ?_, ?_, ?_, ?_, ?_, ?_⟩, ?_, ?_, fun i a b => ?_⟩
    · rw [ts _ _ (by decide), f20 j a b, t496 j a b]
    · rw [ts _ _ (by decide), f21 j a b, t497 j a b]
    · rw [tO 22 j (by decide) (by decide) (by decide) (by omega) (by omega) (by omega) (by decide), tm 498 (by omega)]; exact g3 j a b
    · rw [tO 23 j (by decide) (by decide) (by decide) (by omega) (by omega) (by omega) (by decide), tm 499 (by omega)]; exact g4 j a b
    · rw [tO 24 j (by decide) (by decide) (by decide) (by omega) (by omega) (by omega) (by decide), tm 500 (by omega)]; exact g5 j a b
    · rw [ts _ _ (by decide), f9, t21, e5]
    · rw [ts _ _ (by decide), f10, t20]
    · rw [ts _ _ (by decide), f11, t22]
    · rw [ts _ _ (by decide), f12, t23]
    · rw [ts _ _ (by decide), f13, t24]
    · rw [ts _ _ (by decide), f14, t25]
    · rw [ts _ _ (by decide), f15, t26]
    · rw [tO 2 2 (by decide) (by decide) (by decide) (by omega) (by omega) (by omega) (by decide), t12]; exact q1
    · rw [tO 2 1 (by decide) (by decide) (by decide) (by omega) (by omega) (by omega) (by decide)]; exact q2
    · rw [t12] at b
      rw [tO 2 1 (by decide) (by decide) (by decide) (by omega) (by omega) (by omega) (by decide), tO 3 _ (by decide) (by decide) (by decide) (by omega) (by omega) (by omega) (by decide), tm 489 (by omega)]
      exact q3 i a b
  · exact ⟨hmd.2.2.2.2.1, hmd.2.2.2.2.2.1, hmd.2.2.2.2.2.2.1.1, hmd.2.2.2.2.2.2.1.2⟩
  · rw [tc 5 (by decide) (by decide)]; exact hd
  · rw [tc 5 (by decide) (by decide)]
    refine ⟨fun b j u v => ?_, hl', fun k a b => ?_⟩
    · rw [tc b (by omega) (by omega)]; exact hpe b j u v
    · have eB : ck_B t k = ck_B s1 k := co_Beq (fun b j u v => (ts b j (by omega)).trans (f1 b j (by omega) (by omega) (by omega))) a (by omega)
      have e17 : t 17 k = s1 17 k := (ts 17 k (by decide)).trans (f1 17 k (by decide) (by decide) (by omega))
      rw [eB, e17, eF k a b]
      exact hBk k a b
  · rw [tc 5 (by decide) (by decide)]
    exact hR
  · rw [t20]
    exact ⟨by decide, by rw [tc 5 (by decide) (by decide)]; exact hn.1⟩
  · rw [t21]
    split <;> decide
  · rw [t21] at q
    have hn0 : σ 5 10 ≠ 0 := fun z => by
      rw [if_pos z] at q
      exact absurd q (by decide)
    rw [t20, tc 5 (by decide) (by decide)]
    refine ⟨by omega, co_enter hp hX' (by omega) (by omega) ?_⟩
    unfold co_A0
    rw [if_pos rfl]
    exact co_sd_first t496 t497
end COG4
