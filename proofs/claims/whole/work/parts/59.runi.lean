section COM2
variable {c : Int} {m : ck_M} {f : ck_D}
theorem co_act_ok {t x y z k nd : Int} (h : co_md c m) (hs : co_sd f (m 496) (m 497) (m 498)) (hO : ck_sOk t x y z) (k0 : 0 ≤ k) (hv : ∀ r, 0 ≤ r → r < 4 → ck_va f r ≠ 1 + k) (hc : t ≠ 9 ∧ t ≠ 10 ∧ t ≠ 11 ∧ t ≠ 12) : co_aok c m (ck_dEff t x y z k f) (co_act t x y z nd m) := by
  have hl := co_md_ln h
  have hN := h.1
  have h26 := h.2.1
  have h3 := h.2.2.1
  have h4 := h.2.2.2.1
  have h5 := h.2.2.2.2.1
  unfold ck_sOk at hO
  have ht : t = 0 ∨ t = 1 ∨ t = 2 ∨ t = 3 ∨ t = 4 ∨ t = 5 ∨ t = 6 ∨ t = 7 ∨ t = 8 ∨ t = 13 := by omega
  rcases ht with rfl | rfl | rfl | rfl | rfl | rfl | rfl | rfl | rfl | rfl
  · have e : co_act 0 x y z nd m = (1, ck_up m 496 x y) := rfl
    have e2 : ck_dEff 0 x y z k f = ck_dSet x y f := rfl
    rw [e, e2]
    refine ⟨co_md_up (co_md_num h (by omega)) (by omega), fun b j q => if_neg (by omega), rfl, rfl, Or.inl ⟨rfl, rfl, ?_⟩⟩
    show co_sd (ck_dSet x y f) (ck_up m 496 x y 496) (m 497) (m 498)
    exact co_sd_set hs hl (if_pos ⟨rfl, rfl⟩) (fun j q => if_neg (fun w => q w.2)) (by omega)
  · have e : co_act 1 x y z nd m = (if co_nb (m 496 y + z) then (1, ck_up m 496 x (m 496 y + z)) else (0, co_stp m 4)) := rfl
    have e2 : ck_dEff 1 x y z k f = ck_dSum x y z f := rfl
    rw [e, e2]
    split
    · rename_i w
      refine ⟨co_md_up (co_md_num h w) (by omega), fun b j q => if_neg (by omega), rfl, rfl, Or.inl ⟨rfl, rfl, ?_⟩⟩
      show co_sd (ck_dSum x y z f) (ck_up m 496 x (m 496 y + z) 496) (m 497) (m 498)
      exact co_sd_sum hs hl (by omega) (by omega) (if_pos ⟨rfl, rfl⟩) (fun j q => if_neg (fun w => q w.2)) w
    · exact ⟨co_md_up (co_md_stp h 4) (by omega), fun b j q => if_neg (by omega), rfl, rfl, Or.inr ⟨rfl, (by decide : (2 : Int) ≤ 1 + 4), (by decide : (1 : Int) + 4 ≤ 6)⟩⟩
  · have e : co_act 2 x y z nd m = (1, co_inp m x) := rfl
    have e2 : ck_dEff 2 x y z k f = ck_dAny x f := rfl
    rw [e, e2]
    have hm := co_md_inp h x
    refine ⟨co_md_up hm (by omega), fun b j q => ?_, rfl, rfl, Or.inl ⟨rfl, rfl, ?_⟩⟩
    · show co_inp m x b j = m b j
      unfold co_inp
      rw [if_neg (by omega), if_neg (by omega), if_neg (by omega)]
    · show co_sd (ck_dAny x f) (co_inp m x 496) (m 497) (m 498)
      refine co_sd_any hs hl (hm.1 x (by omega) (by omega)) (fun j q => ?_)
      have : co_inp m x 496 j = if (496 : Int) = 496 ∧ j = x then (if 0 < m 480 12 then m 489 0 else 0) else m 496 j := rfl
      rw [this, if_neg (fun w => q w.2)]
  · have e : co_act 3 x y z nd m = (if m 497 y = -1 then (0, co_stp (co_cnt nd 1 m) 1) else (1, ck_up (co_cnt nd 1 m) 496 x (m 498 (m 497 y)))) := rfl
    have e2 : ck_dEff 3 x y z k f = ck_dLen x y f := rfl
    rw [e, e2]
    have c1 := co_md_cnt h nd 1
    split
    · exact ⟨co_md_up (co_md_stp c1 1) (by omega), fun b j q => (if_neg (by omega)).trans (co_cnt_o _ _ (by omega)), (co_cnt_o nd 1 (by omega) : co_cnt nd 1 m 480 20 = m 480 20), (co_cnt_o nd 1 (by omega) : co_cnt nd 1 m 480 22 = m 480 22), Or.inr ⟨rfl, (by decide : (2 : Int) ≤ 1 + 1), (by decide : (1 : Int) + 1 ≤ 6)⟩⟩
    · rename_i w
      have w1 := h3 y (by omega) (by omega)
      have w2 := h4 (m 497 y) (by omega) (by omega)
      refine ⟨co_md_up (co_md_num c1 (by omega)) (by omega), fun b j q => (if_neg (by omega)).trans (co_cnt_o _ _ (by omega)), (co_cnt_o nd 1 (by omega) : co_cnt nd 1 m 480 20 = m 480 20), (co_cnt_o nd 1 (by omega) : co_cnt nd 1 m 480 22 = m 480 22), Or.inl ⟨rfl, (co_cnt_o nd 1 (by omega) : co_cnt nd 1 m 480 21 = m 480 21), ?_⟩⟩
      show co_sd (ck_dLen x y f) (ck_up (co_cnt nd 1 m) 496 x (m 498 (m 497 y)) 496) (co_cnt nd 1 m 497) (co_cnt nd 1 m 498)
      rw [co_cnt_f nd 1 497 (by decide), co_cnt_f nd 1 498 (by decide)]
      have e3 : ck_up (co_cnt nd 1 m) 496 x (m 498 (m 497 y)) 496 x = m 498 (m 497 y) := if_pos ⟨rfl, rfl⟩
      exact co_sd_len hs hl (by omega) (by omega) w e3 (by omega) (fun j q => (if_neg (fun w => q w.2)).trans (co_cnt_o nd 1 (by omega)))
  · have e : co_act 4 x y z nd m = (if (co_chs nd y (m 496 z) m).1 = 0 then co_chs nd y (m 496 z) m else (1, ck_up (co_chs nd y (m 496 z) m).2 496 x (m 499 (40 * m 497 y + m 496 z)))) := rfl
    have e2 : ck_dEff 4 x y z k f = ck_dAny x (ck_dUse y z f) := rfl
    rw [e, e2]
    obtain ⟨c1, c2, c3⟩ := co_chs_ok h (nd := nd) (r := y) (i := m 496 z) (by omega) (by omega)
    rcases c3 with ⟨d0, d1, d2, d3, d4⟩ | ⟨d0, d1, d2⟩
    · rw [if_neg (by omega)]
      have w1 := h3 y (by omega) (by omega)
      have w2 := h4 (m 497 y) (by omega) (by omega)
      have w3 := h5 (40 * m 497 y + m 496 z) (by omega) (by omega)
      refine ⟨co_md_num c1 w3, fun b j q => (if_neg (by omega)).trans (c2 _ _ (by omega)), (c2 480 20 (by omega)), (c2 480 22 (by omega)), Or.inl ⟨rfl, d1, ?_⟩⟩
      show co_sd _ (ck_up (co_chs nd y (m 496 z) m).2 496 x (m 499 (40 * m 497 y + m 496 z)) 496) ((co_chs nd y (m 496 z) m).2 497) ((co_chs nd y (m 496 z) m).2 498)
      have q7 : (co_chs nd y (m 496 z) m).2 497 = m 497 := funext (fun j => c2 497 j (by omega))
      have q8 : (co_chs nd y (m 496 z) m).2 498 = m 498 := funext (fun j => c2 498 j (by omega))
      rw [q7, q8]
      have hu : co_sd (ck_dUse y z f) (m 496) (m 497) (m 498) := co_sd_use hs (by omega) (by omega) d2 (by omega) (by omega) d3 d4
      refine co_sd_any hu hl ?_ (fun j q => (if_neg (fun w => q w.2)).trans (c2 496 j (by omega)))
      have e3 : ck_up (co_chs nd y (m 496 z) m).2 496 x (m 499 (40 * m 497 y + m 496 z)) 496 x = m 499 (40 * m 497 y + m 496 z) := if_pos ⟨rfl, rfl⟩
      rw [e3]
      exact w3
    · rw [if_pos d0]
      exact ⟨c1, fun b j q => c2 _ _ (by omega), c2 480 20 (by omega), c2 480 22 (by omega), Or.inr ⟨d0, d1, d2⟩⟩
  · have e : co_act 5 x y z nd m = (if (co_chs nd x (m 496 y) m).1 = 0 then co_chs nd x (m 496 y) m else (1, ck_up (co_chs nd x (m 496 y) m).2 499 (40 * m 497 x + m 496 y) (m 496 z))) := rfl
    have e2 : ck_dEff 5 x y z k f = ck_dUse x y f := rfl
    rw [e, e2]
    obtain ⟨c1, c2, c3⟩ := co_chs_ok h (nd := nd) (r := x) (i := m 496 y) (by omega) (by omega)
    rcases c3 with ⟨d0, d1, d2, d3, d4⟩ | ⟨d0, d1, d2⟩
    · rw [if_neg (by omega)]
      refine ⟨co_md_cell c1 (hN z (by omega) (by omega)), fun b j q => (if_neg (by omega)).trans (c2 _ _ (by omega)), (c2 480 20 (by omega)), (c2 480 22 (by omega)), Or.inl ⟨rfl, d1, ?_⟩⟩
      show co_sd _ ((co_chs nd x (m 496 y) m).2 496) ((co_chs nd x (m 496 y) m).2 497) ((co_chs nd x (m 496 y) m).2 498)
      have q6 : (co_chs nd x (m 496 y) m).2 496 = m 496 := funext (fun j => c2 496 j (by omega))
      have q7 : (co_chs nd x (m 496 y) m).2 497 = m 497 := funext (fun j => c2 497 j (by omega))
      have q8 : (co_chs nd x (m 496 y) m).2 498 = m 498 := funext (fun j => c2 498 j (by omega))
      rw [q6, q7, q8]
      exact co_sd_use hs (by omega) (by omega) d2 (by omega) (by omega) d3 d4
    · rw [if_pos d0]
      exact ⟨c1, fun b j q => c2 _ _ (by omega), c2 480 20 (by omega), c2 480 22 (by omega), Or.inr ⟨d0, d1, d2⟩⟩
  · have e : co_act 6 x y z nd m = co_mk m x (m 496 y) := rfl
    have e2 : ck_dEff 6 x y z k f = ck_dNew x y k f := rfl
    rw [e, e2]
    unfold co_mk
    split
    · rename_i w
      refine ⟨co_md_up (co_md_mk h w.1 w.2) (by omega), fun b j q => ?_, rfl, rfl, Or.inl ⟨rfl, rfl, ?_⟩⟩
      · show co_mkm m x (m 496 y) b j = m b j
        unfold co_mkm
        rw [if_neg (by omega), if_neg (by omega), if_neg (by omega), if_neg (by omega)]
      · show co_sd (ck_dNew x y k f) (m 496) (co_mkm m x (m 496 y) 497) (co_mkm m x (m 496 y) 498)
        have e497 : ∀ j, co_mkm m x (m 496 y) 497 j = if (497 : Int) = 497 ∧ j = x then m 480 26 else m 497 j := fun j => rfl
        have e498 : ∀ j, co_mkm m x (m 496 y) 498 j = if (498 : Int) = 498 ∧ j = m 480 26 then m 496 y else m 498 j := fun j => rfl
        have h2 := h.2.1
        refine co_sd_new hs (u := m 480 26) (by omega) (by omega) w.1.1 (fun j a b => (hN j a b).2) (by omega) (fun r a b => ?_) ?_ (fun r q => ?_) ?_ (fun j q => ?_) k0 hv
        · have := h3 r a b
          omega
        · rw [e497, if_pos ⟨rfl, rfl⟩]
        · rw [e497, if_neg (fun w => q w.2)]
        · rw [e498, if_pos ⟨rfl, rfl⟩]
        · rw [e498, if_neg (fun w => q w.2)]
    · exact ⟨co_md_up (co_md_stp h 5) (by omega), fun b j q => if_neg (by omega), rfl, rfl, Or.inr ⟨rfl, (by decide : (2 : Int) ≤ 1 + 5), (by decide : (1 : Int) + 5 ≤ 6)⟩⟩
  · have e : co_act 7 x y z nd m = (1, ck_up m 497 x (-1)) := rfl
    have e2 : ck_dEff 7 x y z k f = ck_dNull x f := rfl
    rw [e, e2]
    refine ⟨co_md_up (co_md_arr h (Or.inl rfl)) (by omega), fun b j q => if_neg (by omega), rfl, rfl, Or.inl ⟨rfl, rfl, ?_⟩⟩
    show co_sd (ck_dNull x f) (m 496) (ck_up m 497 x (-1) 497) (m 498)
    exact co_sd_null hs (fun j a b => (hN j a b).2) (if_pos ⟨rfl, rfl⟩) (fun j q => if_neg (fun w => q w.2))
  · have e : co_act 8 x y z nd m = (1, ck_up m 497 x (m 497 y)) := rfl
    have e2 : ck_dEff 8 x y z k f = ck_dLet x y f := rfl
    rw [e, e2]
    refine ⟨co_md_up (co_md_arr h (h3 y (by omega) (by omega))) (by omega), fun b j q => if_neg (by omega), rfl, rfl, Or.inl ⟨rfl, rfl, ?_⟩⟩
    show co_sd (ck_dLet x y f) (m 496) (ck_up m 497 x (m 497 y) 497) (m 498)
    exact co_sd_let hs (by omega) (by omega) (if_pos ⟨rfl, rfl⟩) (fun j q => if_neg (fun w => q w.2))
  · have e : co_act 13 x y z nd m = (1, ck_up (ck_up m 500 (m 480 25 % 16) (m 496 x)) 480 25 (m 480 25 + 1)) := rfl
    have e2 : ck_dEff 13 x y z k f = f := rfl
    rw [e, e2]
    exact ⟨co_md_up (co_md_out h (hN x (by omega) (by omega))) (by omega), fun b j q => (if_neg (by omega)).trans (if_neg (by omega)), rfl, rfl, Or.inl ⟨rfl, rfl, hs⟩⟩
theorem co_mi_adv {p : ck_M} {n : Int} {X : Int → ck_D} {e : Int} (h : co_md c m) (e0 : 0 ≤ e) (e1 : e ≤ n) (hs : e < n → co_sd (X e) (m 496) (m 497) (m 498)) : co_mi p n X (c + 1) (co_adv n m e) := by
  obtain ⟨h1, h2, h3, h4, h5, h6, h7, h8, h9, ha, hb⟩ := h
  have q21 : co_adv n m e 480 21 = if e = n then 1 else 0 := rfl
  refine ⟨⟨h1, h2, h3, h4, h5, h6, h7, ⟨?_, ?_⟩, ⟨h9.1, Int.le_trans h9.2 (by omega)⟩, ⟨ha.1, Int.le_trans ha.2 (by omega)⟩, ⟨hb.1, Int.le_trans hb.2 (by omega)⟩⟩, ⟨e0, e1⟩, ?_, ?_⟩
  · show 0 ≤ m 480 22 + 1
    omega
  · show m 480 22 + 1 ≤ c + 1
    omega
  · rw [q21]; split <;> omega
  · rw [q21]
    intro q
    have q2 : e < n := by
      rcases Int.lt_or_le e n with z | z
      · exact z
      · rw [if_pos (by omega)] at q
        exact absurd q (by decide)
    exact ⟨q2, hs q2⟩
theorem co_rf_adv {n e : Int} : co_rf m (co_adv n m e) := fun b j q => by
  unfold co_adv ck_up
  rw [if_neg (by omega), if_neg (by omega), if_neg (by omega)]
theorem co_one_ok {p : ck_M} {n : Int} {X : Int → ck_D} {nd : Int → Int} (hp : co_pg p n) (hX : co_sol p n X) (h : co_mi p n X c m) (h0 : m 480 21 = 0) : co_mi p n X (c + 4) (co_one p n nd m).2 ∧ co_rf m (co_one p n nd m).2 ∧ (((co_one p n nd m).1 = 1) ∨ ((co_one p n nd m).1 = 0 ∧ (co_one p n nd m).2 480 21 ≠ 0)) := by
  obtain ⟨hm, ⟨k0, -⟩, hw, hsd⟩ := h
  obtain ⟨k1, hs⟩ := hsd h0
  unfold co_one
  obtain ⟨k, ek⟩ : ∃ k, m 480 20 = k := ⟨_, rfl⟩
  rw [ek] at k0 k1 hs ⊢
  have hl := co_md_ln hm
  have hN := hm.1
  have hn := hp.1
  have up : ∀ {e : Int}, co_mi p n X (c + 1) (co_adv n m e) → co_mi p n X (c + 4) (co_adv n m e) := fun z => ⟨co_md_up z.1 (by omega), z.2⟩
  unfold co_onk
  split
  · rename_i ht
    obtain ⟨a1, a2, a3, a4⟩ := hp.2.2.1 k k0 k1 ht
    split
    · refine ⟨up (co_mi_adv hm ?_ ?_ ?_), co_rf_adv, Or.inl rfl⟩
      · split
        · omega
        · split <;> omega
      · split
        · omega
        · split <;> omega
      · split
        · rename_i hb
          intro q
          exact co_flow_t hp hX k0 q ht hs hl hN hb
        · rename_i hb
          intro q
          exact co_flow_f hp hX k0 k1 ht hs hl hN hb q
    · refine ⟨⟨co_md_up (co_md_stp hm 4) (by omega), ?_, ⟨(by decide : (0 : Int) ≤ 1 + 4), (by decide : (1 : Int) + 4 ≤ 6)⟩, fun q => absurd q (by decide : ¬ (1 : Int) + 4 = 0)⟩, fun b j q => if_neg (by omega), Or.inr ⟨rfl, (by decide : ¬ (1 : Int) + 4 = 0)⟩⟩
      show 0 ≤ m 480 20 ∧ m 480 20 ≤ n
      rw [ek]
      exact ⟨k0, by omega⟩
  split
  · rename_i ht1 ht
    obtain ⟨⟨b1, b2⟩, b3, -⟩ := hp.2.2.2.1 k k0 k1 (Or.inl ht)
    obtain ⟨c1, c2⟩ := b3 ht
    obtain ⟨a1, a2, a3, a4⟩ := hp.2.2.1 _ b1 (by omega) (Or.inl c1)
    refine ⟨up (co_mi_adv hm (by omega) (by omega) (fun q => co_flow_e hp hX k0 k1 ht hs q)), co_rf_adv, Or.inl rfl⟩
  split
  · rename_i ht1 ht2 ht
    obtain ⟨⟨b1, b2⟩, -, b3⟩ := hp.2.2.2.1 k k0 k1 (Or.inr ht)
    refine ⟨up (co_mi_adv hm ?_ ?_ ?_), co_rf_adv, Or.inl rfl⟩
    · split <;> omega
    · split <;> omega
    · split
      · rename_i hb
        exact fun q => co_flow_w hp hX k0 k1 ht hb hs
      · rename_i hb
        exact fun q => co_flow_n hp hX k0 q ht hb hs
  · rename_i ht1 ht2 ht3
    have hv : ∀ r, 0 ≤ r → r < 4 → ck_va (X k) r ≠ 1 + k := fun r a b => by
      have := co_vb_fam hp hX k k0 k1 r a b
      omega
    obtain ⟨d1, d2, d3, d4, d5⟩ := co_act_ok (nd := nd k) hm hs (hp.2.1 k k0 k1) k0 hv (by omega)
    rcases d5 with ⟨f1, f2, f3⟩ | ⟨f1, f2, f3⟩
    · rw [if_neg (by omega)]
      refine ⟨?_, co_rf_tr d2 co_rf_adv, Or.inl rfl⟩
      have z := co_mi_adv (p := p) (n := n) (X := X) (e := k + 1) d1 (by omega) (by omega) (fun q => co_fwd hp hX k0 q (by
        unfold co_F
        rw [if_neg ht1, if_neg ht2, if_neg ht3]
        exact f3))
      exact ⟨co_md_up z.1 (by omega), z.2⟩
    · rw [if_pos f1]
      refine ⟨⟨co_md_up d1 (by omega), ?_, ⟨by omega, f3⟩, fun q => absurd q (by omega)⟩, d2, Or.inr ⟨f1, by omega⟩⟩
      rw [d3, ek]
      exact ⟨k0, by omega⟩
end COM2
