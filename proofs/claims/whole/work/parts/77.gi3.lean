/-! ## needless, least, highest, give, start -/
section COG3
variable {c : Int} {σ : ck_M}
theorem co_GI_n (h : co_GI c σ) : (0 ≤ σ 5 10 ∧ σ 5 10 ≤ 64) ∧ (0 ≤ σ 5 11 ∧ σ 5 11 ≤ 8) ∧ σ 480 1 = σ 5 10 ∧ σ 480 2 = σ 5 11 ∧ σ 480 19 = σ 1 8 ∧ (σ 1 8 = 0 ∨ σ 1 8 = 1) := ⟨h.1.1, h.1.2.1, h.2.1.1, h.2.1.2.1, h.2.2.2.2.2.1.1.symm, h.2.2.2.2.2.1.2.1⟩
theorem co_c_needless {k : Int} (h : co_GI c σ) (hb : σ 1 8 = 1) (hk : 0 ≤ k ∧ k < σ 5 10) : ck_cal 3 cm_Cs_needless [.inr (0, 3, 5), .inl k] σ (fun q σ1 => ∃ a, q = some a ∧ ck_cal 3 cm_Mo_needless [.inr (480, 3, 6), .inl k] σ1 (fun q2 σ2 => q2 = some a ∧ σ2 480 0 = 0 ∧ co_GI c σ2)) := by
  obtain ⟨n1, n2, n3, n4, n5, n6⟩ := co_GI_n h
  obtain ⟨p, l, hp, hm, hw, hX, hrw, hi⟩ := co_GI_run h hb
  refine ck_cal_mono (cx_needlessC hb n1 hk) ?_
  rintro q s ⟨rfl, es⟩
  rw [es]
  clear es s
  refine ⟨_, rfl, ?_⟩
  have hsp := co_spd (s := ck_up σ 480 0 0) (l := l + 1) hp hm hk.1 hk.2 (hrw k hk.1 hk.2)
  refine ck_cal_mono (cx_needlessMC (ck_rgo (by omega) (by omega)) (by omega) (by omega) (by omega) hsp) ?_
  rintro q2 s2 ⟨rfl, rfl⟩
  exact ⟨by rw [(hw.2.2 k hk.1 hk.2).2], rfl, co_GI_0 h 0⟩
theorem co_c_least {k m : Int} (h : co_GI c σ) (hb : σ 1 8 = 1) (hk : 0 ≤ k ∧ k < σ 5 10) (hm' : 0 ≤ m ∧ m < 10) : ck_cal 3 cm_Cs_least [.inr (0, 3, 5), .inl k, .inl m] σ (fun q σ1 => ∃ a, q = some a ∧ ck_cal 3 cm_Mo_least [.inr (480, 3, 6), .inl k, .inl m] σ1 (fun q2 σ2 => q2 = some a ∧ σ2 480 0 = 0 ∧ co_GI c σ2)) := by
  obtain ⟨n1, n2, n3, n4, n5, n6⟩ := co_GI_n h
  obtain ⟨p, l, hp, hm, hw, hX, hrw, hi⟩ := co_GI_run h hb
  have eB : σ (25 + 7 * k + 2) m = ck_lo (co_Fi p (l + 1) k) m := by
    rw [← (hw.2.2 k hk.1 hk.2).1]
    exact (ck_N_lo hm'.1 hm'.2).symm
  have wb := (co_Fi_wb hp (l + 1) k hk.1 hk.2).2.1 m
  refine ck_cal_mono (cx_leastC hb n1 hk hm' (by rw [eB]; exact ck_rgo (by omega) (by omega))) ?_
  rintro q s ⟨rfl, es⟩
  rw [es]
  clear es s
  refine ⟨_, rfl, ck_cal_mono (cx_leastMC (ck_rgo (by omega) (by omega)) (ck_rgo (by omega) (by omega)) (by omega) (by omega) (by omega)) ?_⟩
  rintro q2 s2 ⟨rfl, rfl⟩
  refine ⟨?_, rfl, co_GI_0 h 0⟩
  have e1 : ck_L (ck_rw σ 491 k) m = σ 491 (82 * k + (20 + m)) := (ck_y_L rfl hm'.1 hm'.2).symm
  rw [hrw k hk.1 hk.2, co_R, co_e_L hm'.1 hm'.2] at e1
  rw [Int.add_assoc, ← e1, eB]
theorem co_c_highest {k m r : Int} (h : co_GI c σ) (hb : σ 1 8 = 1) (hk : 0 ≤ k ∧ k < σ 5 10) (hm' : 0 ≤ m ∧ m < 10) (hr : 0 ≤ r ∧ r < 4) : ck_cal 3 cm_Cs_highest [.inr (0, 3, 5), .inl k, .inl m, .inl r] σ (fun q σ1 => ∃ a, q = some a ∧ ck_cal 3 cm_Mo_highest [.inr (480, 3, 6), .inl k, .inl m, .inl r] σ1 (fun q2 σ2 => q2 = some a ∧ σ2 480 0 = 0 ∧ co_GI c σ2)) := by
  obtain ⟨n1, n2, n3, n4, n5, n6⟩ := co_GI_n h
  obtain ⟨p, l, hp, hm, hw, hX, hrw, hi⟩ := co_GI_run h hb
  have eB : σ (25 + 7 * k + 3) (m * 4 + r) = ck_hi (co_Fi p (l + 1) k) m r := by
    rw [← (hw.2.2 k hk.1 hk.2).1]
    unfold ck_B ck_rd
    rw [ck_N_hi hm'.1 hm'.2 hr.1 hr.2]
  refine ck_cal_mono (cx_highestC hb n1 hk hm' hr) ?_
  rintro q s ⟨rfl, es⟩
  rw [es]
  clear es s
  refine ⟨_, rfl, ck_cal_mono (cx_highestMC (ck_rgo (by omega) (by omega)) (ck_rgo (by omega) (by omega)) (ck_rgo (by omega) (by omega)) (by omega) (by omega) (by omega)) ?_⟩
  rintro q2 s2 ⟨rfl, rfl⟩
  refine ⟨?_, rfl, co_GI_0 h 0⟩
  have e1 : ck_H (ck_rw σ 491 k) m r = σ 491 (82 * k + (42 + 4 * m + r)) := (ck_y_H rfl hm'.1 hm'.2 hr.1 hr.2).symm
  rw [hrw k hk.1 hk.2, co_R, co_e_H hm'.1 hm'.2 hr.1 hr.2] at e1
  rw [eB, e1]
  congr 2
  omega
theorem co_c_give {v : Int} (hv : -1000000 ≤ v ∧ v ≤ 1000000) (h : co_GI c σ) : ck_cal 2 cm_Cs_give [.inr (0, 3, 5), .inl v] σ (fun q σ1 => ∃ a, q = some a ∧ ck_cal 2 cm_Mo_give [.inr (480, 3, 6), .inl v] σ1 (fun q2 σ2 => q2 = some a ∧ σ2 480 0 = 0 ∧ co_GI c σ2)) := by
  obtain ⟨h1, h2, h3, h4, h5, h6, h7, h8⟩ := id h
  obtain ⟨g1, g2, g3, g4, g5, g6, q1, q2, q3⟩ := h4
  have h12 := h5.2.2.1
  have hrv : ck_rg v := ck_rgo (by omega) (by omega)
  refine ck_cal_mono (cx_giveC hv q2 (by omega)) ?_
  rintro q s (⟨z1, rfl, es⟩ | ⟨z1, rfl, rfl⟩)
  · rw [es]
    clear es s
    refine ⟨_, rfl, ck_cal_mono (cx_giveMB hrv hv (by omega)) ?_⟩
    rintro q2 s2 ⟨rfl, rfl⟩
    exact ⟨rfl, rfl, co_GI_0 h 0⟩
  · refine ⟨_, rfl, ck_cal_mono (cx_giveMC hrv hv (show 0 ≤ σ 480 12 ∧ σ 480 12 < 64 by omega)) ?_⟩
    rintro q4 s2 ⟨rfl, rfl⟩
    refine ⟨?_, rfl, ?_⟩
    · show some (σ 480 12 + 1) = some (σ 2 2 + 1)
      rw [q1]
    · have hin : ∀ j, 0 ≤ j → j < σ 480 12 + 1 → co_nb ((if (489 : Int) = 489 ∧ j = σ 480 12 then v else σ 489 j)) := fun j a b => by
        split
        · exact hv
        · rename_i w
          exact h5.2.2.2 j a (by omega)
      refine ⟨h1, h2, h3, ⟨g1, g2, g3, g4, g5, g6, ?_, q2, fun i a b => ?_⟩, ⟨h5.1, h5.2.1, ⟨?_, ?_⟩, hin⟩, h6, h7, fun q => ?_⟩
      · show σ 2 2 + 1 = σ 480 12 + 1
        rw [q1]
      · have b' : i < σ 480 12 + 1 := b
        show (if (3 : Int) = 3 ∧ (σ 2 1 + i) % 64 = (σ 2 1 + σ 2 2) % 64 then v else σ 3 ((σ 2 1 + i) % 64)) = (if (489 : Int) = 489 ∧ i = σ 480 12 then v else σ 489 i)
        by_cases e : i = σ 480 12
        · rw [if_pos ⟨rfl, by rw [e, q1]⟩, if_pos ⟨rfl, e⟩]
        · rw [if_neg (by omega), if_neg (by omega)]
          exact q3 i a (by omega)
      · show 0 ≤ σ 480 12 + 1
        omega
      · show σ 480 12 + 1 ≤ 64
        omega
      · obtain ⟨z2, p, l, z3, z4⟩ := h8 q
        refine ⟨z2, p, l, co_wk_eq (s := σ) h1.1.2 (fun b j u v => ?_) (fun b j u v => ?_) (fun j => ?_) z3, fun q2 => ?_⟩
        · exact (if_neg (by omega)).trans ((if_neg (by omega)).trans ((if_neg (by omega)).trans ((if_neg (by omega)).trans (if_neg (by omega)))))
        · exact (if_neg (by omega)).trans ((if_neg (by omega)).trans ((if_neg (by omega)).trans ((if_neg (by omega)).trans (if_neg (by omega)))))
        · exact (if_neg (by omega)).trans ((if_neg (by omega)).trans ((if_neg (by omega)).trans ((if_neg (by omega)).trans (if_neg (by omega)))))
        · obtain ⟨z5, ⟨m1, m2, m3, m4, m5, m6, m7, m8⟩, z7⟩ := z4 q2
          exact ⟨z5, ⟨m1, m2, m3, m4, m5, m6, ⟨⟨by show 0 ≤ σ 480 12 + 1; omega, by show σ 480 12 + 1 ≤ 64; omega⟩, hin⟩, m8⟩, z7⟩
end COG3
