/-! ## The reference's pass, statement by statement -/
def co_Zi (p : ck_M) : Nat → Int → ck_D
  | 0 => fun _ => ck_dFirst
  | i + 1 => co_Fi p i
def co_ri : Nat → Int
  | 0 => 0
  | _ + 1 => 1
def co_R (p : ck_M) (i : Nat) (k : Int) : ck_Q := co_enc (co_Fi p i k) (co_J p k)
def co_W (p : ck_M) (i : Nat) (k : Int) : ck_Q := co_enc (co_A0 p (co_Fi p i) k) (co_J p k)
def co_Nt (p : ck_M) (i : Nat) (k : Int) : ck_Q := co_enc (ck_dNot (p 7 k) (p 8 k) (p 9 k) (co_Fi p i k)) (co_J p k)
section COT
variable {p : ck_M} {n : Int} {i : Nat} {k : Int}
theorem co_Fi_fam (hp : co_pg p n) (i : Nat) : ∀ k, 0 ≤ k → k < n → co_Fi p i k = co_A p (co_Fi p i) (co_Zi p i) (co_ri i) k := by
  cases i with
  | zero => exact fun k a b => co_ps_eq hp _ _ a b
  | succ i => exact fun k a b => co_ps_eq hp _ _ a b
theorem co_Fi_js (hp : co_pg p n) (h0 : 0 ≤ k) (h1 : k < n) : co_js (co_Fi p i k) (co_J p k) := co_js_fam hp (co_Fi_fam hp i) k h0 h1
theorem co_Fi_so (hp : co_pg p n) (h0 : 0 ≤ k) (h1 : k < n) : co_so p (co_Fi p i) (co_Fi p i k) := co_so_fam hp (co_Fi_fam hp i) k h0 h1
theorem co_A0_s (h0 : 0 ≤ k) (B : Int → ck_D) : co_A0 p B (k + 1) = co_F p B k := by
  unfold co_A0
  rw [if_neg (by omega)]
  have e : k + 1 - 1 = k := by omega
  rw [e]
theorem co_J_b9 (hp : co_pg p n) (h0 : 0 ≤ k) (h1 : k < n) : ∀ m, 0 ≤ m → m < 10 → -1000000000 ≤ co_J p k m ∧ co_J p k m ≤ 1000000000 := by
  intro m a b
  have := co_J_bd hp k h0 h1 m a b
  have := hp.1
  omega
theorem co_J_b9s (hp : co_pg p n) (h0 : 0 ≤ k) (h1 : k < n) : ∀ m, 0 ≤ m → m < 10 → -1000000000 ≤ co_J p (k + 1) m ∧ co_J p (k + 1) m ≤ 1000000000 := by
  intro m a b
  rw [co_J_s hp h0 h1]
  have hs := hp.2.1 k h0 h1
  unfold ck_sOk at hs
  have i1 := co_J_b9 hp h0 h1 m a b
  have hn := hp.1
  unfold co_jF
  split
  · obtain ⟨a1, -, -⟩ := hp.2.2.2.1 k h0 h1 (by omega)
    exact co_J_b9 hp a1.1 (by omega) m a b
  · unfold co_jE
    split
    · dsimp only
      split
      · omega
      · omega
    split
    · have i2 := co_J_bd hp k h0 h1 (p 8 k) (by omega) (by omega)
      dsimp only
      split
      · omega
      · omega
    · exact i1
theorem co_R_qb (hp : co_pg p n) (h0 : 0 ≤ k) (h1 : k < n) : ck_qb (co_R p i k) := co_e_qb ⟨h0, by have := hp.1; omega⟩ (co_Fi_wb hp i k h0 h1) (co_J_b9 hp h0 h1)
theorem co_W_qb0 (p : ck_M) (i : Nat) : ck_qb (co_W p i 0) := by
  unfold co_W co_A0
  rw [if_pos rfl]
  exact co_e_qb ⟨by decide, by decide⟩ co_wb_first (fun m _ _ => by rw [co_J_0]; dsimp only; omega)
theorem co_W_qbs (hp : co_pg p n) (h0 : 0 ≤ k) (h1 : k < n) : ck_qb (co_W p i (k + 1)) := by
  unfold co_W
  rw [co_A0_s h0]
  exact co_e_qb (k := k + 1) ⟨by omega, by have := hp.1; omega⟩ (co_F_wb hp h0 h1 (fun j a b => co_Fi_wb hp i j a (by omega))) (co_J_b9s hp h0 h1)
theorem co_W_qb (hp : co_pg p n) (h0 : 0 ≤ k) (h1 : k ≤ n) : ck_qb (co_W p i k) := by
  by_cases e : k = 0
  · rw [e]; exact co_W_qb0 p i
  · have := co_W_qbs (i := i) hp (k := k - 1) (by omega) (by omega)
    rwa [Int.sub_add_cancel] at this
theorem co_N_qb (hp : co_pg p n) (h0 : 0 ≤ k) (h1 : k < n) (hz : -100 ≤ p 9 k ∧ p 9 k ≤ 100) : ck_qb (co_Nt p i k) := co_e_qb (k := k + 1) ⟨by omega, by have := hp.1; omega⟩ (co_wb_dNot h0 (co_Fi_wb hp i k h0 h1) hz) (co_J_b9 hp h0 h1)
theorem co_A0_wbi (hp : co_pg p n) (h0 : 0 ≤ k) (h1 : k < n) : co_wb k (co_A0 p (co_Fi p i) k) := co_A0_wb hp h0 h1 (fun j a b => co_Fi_wb hp i j a (by omega))
theorem co_A0_jsi (hp : co_pg p n) (h0 : 0 ≤ k) (h1 : k < n) : co_js (co_A0 p (co_Fi p i) k) (co_J p k) := co_js_A0 hp h0 h1 (fun j a b => co_Fi_js hp a (by omega))
theorem co_L_arr (hp : co_pg p n) (h0 : 0 ≤ k) (h1 : k < n) (ht : p 6 k ≠ 12) : co_W p i k = co_R p i k := by
  unfold co_W co_R
  rw [co_Fi_fam hp i k h0 h1]
  unfold co_A
  rw [if_neg ht]
theorem co_L_fc (hp : co_pg p n) (h0 : 0 ≤ k) (h1 : k < n) : ck_qFc (p 13 k) (p 14 k) k (co_W p i k) = co_enc (ck_dFc (p 13 k) (p 14 k) k (co_A0 p (co_Fi p i) k)) (co_J p k) := co_q_dFc ⟨h0, by have := hp.1; omega⟩ (co_A0_wbi hp h0 h1) (co_A0_jsi hp h0 h1) _ _
theorem co_L_arrW0 (hp : co_pg p n) (h0 : 0 ≤ k) (h1 : k < n) (ht : p 6 k = 12) : ck_qFc (p 13 k) (p 14 k) k (co_W p 0 k) = co_R p 0 k := by
  rw [co_L_fc hp h0 h1]
  unfold co_R
  have e : co_Fi p 0 k = ck_dFc (p 13 k) (p 14 k) k (co_A0 p (co_Fi p 0) k) := by
    refine (co_Fi_fam hp 0 k h0 h1).trans ?_
    unfold co_A
    rw [if_pos ht]
    exact congrArg _ (if_pos rfl)
  rw [← e]
theorem co_L_arrW1 (hp : co_pg p n) (h0 : 0 ≤ k) (h1 : k < n) (ht : p 6 k = 12) (g : ck_Q) (hg : ∀ f, ck_qV g f = ck_qV (co_R p i (p 12 k)) f) : ck_qJ (ck_qV g (ck_qFc (p 13 k) (p 14 k) k (co_W p (i + 1) k))) k (ck_qFc (p 13 k) (p 14 k) k (co_W p (i + 1) k)) = co_R p (i + 1) k := by
  have hn := hp.1
  have q := (hp.2.2.1 k h0 h1 (Or.inr ht)).1
  rw [co_L_fc hp h0 h1]
  unfold co_R
  have e : co_Fi p (i + 1) k = ck_dFc (p 13 k) (p 14 k) k (ck_dJb (co_Fi p i (p 12 k)) (co_A0 p (co_Fi p (i + 1)) k)) := by
    refine (co_Fi_fam hp (i + 1) k h0 h1).trans ?_
    unfold co_A
    rw [if_pos ht]
    exact congrArg _ (if_neg (show ¬ (1 : Int) = 0 by decide))
  rw [e]
  refine co_q_W (m := k) (m' := p 12 k) (co_A0_wbi hp h0 h1) (co_Fi_wb hp i _ (by omega) q.2) ⟨h0, by omega⟩ ⟨by omega, by omega⟩ ⟨h0, by omega⟩ (co_js_dFc (co_A0_jsi hp h0 h1)) (co_Fi_js hp (by omega) q.2) (fun m m0 m1 => ?_) g hg
  by_cases hc : co_cn p k (p 12 k) m
  · refine Or.inl ?_
    rw [co_kn_dFc m0 m1, if_neg (fun z => ((hp.2.2.2.2.2 k h0 h1 ht).1 m m0 m1).mp z hc)]
  · refine Or.inr ?_
    have e1 := co_inv_kn hp (co_Fi_fam hp i) h0 h1 ht m0 m1 hc (p 12 k) (by omega) q.2 (by omega) (Int.le_refl _)
    have e2 : ck_kn (co_Fi p i k) m = ck_kn (co_Fi p (i + 1) k) m := by rw [(co_Fi_le hp i k h0 h1).1]
    rw [e1, e2, e, co_kn_dFc m0 m1, co_kn_dFc m0 m1, co_kn_dJb m0 m1]
theorem co_L_bel (hp : co_pg p n) (h0 : 0 ≤ k) (h1 : k < n) (ht : p 6 k = 9 ∨ p 6 k = 12) : ck_qBel (p 7 k) (p 8 k) (p 9 k) (co_R p i k) = co_W p i (k + 1) := by
  have hs := hp.2.1 k h0 h1
  unfold ck_sOk at hs
  unfold co_R co_W
  rw [co_q_dBel ⟨h0, by have := hp.1; omega⟩ (co_Fi_wb hp i k h0 h1) (co_Fi_js hp h0 h1) (by omega) (by omega) (by omega), co_A0_s h0, co_J_s hp h0 h1]
  unfold co_F co_jF
  rw [if_pos ht, if_neg (by omega), co_jE_i (by omega) (by omega)]
theorem co_L_not (hp : co_pg p n) (h0 : 0 ≤ k) (h1 : k < n) (ht : p 6 k = 9 ∨ p 6 k = 12) : ck_qNot (p 7 k) (p 8 k) (p 9 k) (co_R p i k) = co_Nt p i k := by
  have hs := hp.2.1 k h0 h1
  unfold ck_sOk at hs
  exact co_q_dNot ⟨h0, by have := hp.1; omega⟩ (co_Fi_wb hp i k h0 h1) (co_Fi_js hp h0 h1) (by omega) (by omega) (by omega)
theorem co_L_els (hp : co_pg p n) (h0 : 0 ≤ k) (h1 : k < n) (ht : p 6 k = 10) : co_Nt p i (p 10 k) = co_W p i (k + 1) := by
  unfold co_Nt co_W
  rw [co_A0_s h0, co_J_s hp h0 h1]
  unfold co_F co_jF co_O
  rw [if_neg (by omega), if_pos ht, if_pos rfl, if_pos (Or.inl ht)]
theorem co_L_end12 (hp : co_pg p n) (h0 : 0 ≤ k) (h1 : k < n) (ht : p 6 k = 11) (hh : p 6 (p 10 k) = 12) : co_Nt p i (p 10 k) = co_W p i (k + 1) := by
  obtain ⟨a, -, b⟩ := hp.2.2.2.1 k h0 h1 (Or.inr ht)
  obtain ⟨c1, -, -, c4⟩ := hp.2.2.1 _ a.1 (by omega) (b ht).1
  unfold co_Nt co_W
  rw [co_A0_s h0, co_J_s hp h0 h1]
  unfold co_F co_jF co_O
  rw [if_neg (by omega), if_neg (by omega), if_pos ht, if_neg (by omega), if_pos (by omega), if_pos (Or.inr ⟨ht, hh⟩)]
theorem co_L_endJ (hp : co_pg p n) (h0 : 0 ≤ k) (h1 : k < n) (ht : p 6 k = 11) (hh : p 6 (p 10 k) = 9) {jo : Int → Int} (hjo : co_js (co_O p (co_Fi p i) (p 10 k) (p 11 (p 10 k))) jo) : ck_qJ (co_enc (co_O p (co_Fi p i) (p 10 k) (p 11 (p 10 k))) jo) k (co_R p i k) = co_W p i (k + 1) := by
  have hn := hp.1
  obtain ⟨a, -, b⟩ := hp.2.2.2.1 k h0 h1 (Or.inr ht)
  obtain ⟨c1, -, -, c4⟩ := hp.2.2.1 _ a.1 (by omega) (b ht).1
  have b2 := (b ht).2
  have hO := (co_O_wb hp (B := co_Fi p i) h0 h1 (Or.inr ht) (fun j a b => co_Fi_wb hp i j a (by omega))).2
  have hsO : co_so p (co_Fi p i) (co_O p (co_Fi p i) (p 10 k) (p 11 (p 10 k))) := co_so_O (co_Fi_so hp a.1 (by omega)) (fun z => co_Fi_so hp (by omega) (by omega))
  have hsk := co_Fi_so (i := i) hp h0 h1
  unfold co_R co_W
  rw [co_q_J (m := k) (co_Fi_wb hp i k h0 h1) hO ⟨h0, by omega⟩ ⟨h0, by omega⟩ (co_Fi_js hp h0 h1) hjo (fun q q0 q1 e => by rw [hsk q q0 q1, hsO q q0 q1, e]), co_A0_s h0, co_J_s hp h0 h1]
  unfold co_F co_jF
  rw [if_neg (by omega), if_neg (by omega), if_pos ht, if_pos hh, if_neg (by omega), co_jE_i (by omega) (by omega)]
theorem co_L_end9a (hp : co_pg p n) (h0 : 0 ≤ k) (h1 : k < n) (ht : p 6 k = 11) (hh : p 6 (p 10 k) = 9) (he : p 11 (p 10 k) = -1) : ck_qJ (co_Nt p i (p 10 k)) k (co_R p i k) = co_W p i (k + 1) := by
  obtain ⟨a, -, b⟩ := hp.2.2.2.1 k h0 h1 (Or.inr ht)
  have e : co_O p (co_Fi p i) (p 10 k) (p 11 (p 10 k)) = ck_dNot (p 7 (p 10 k)) (p 8 (p 10 k)) (p 9 (p 10 k)) (co_Fi p i (p 10 k)) := if_pos he
  have h := co_L_endJ (i := i) hp h0 h1 ht hh (jo := co_J p (p 10 k)) (by
    rw [e]
    intro m m0 m1
    rw [co_kn_dNot m0 m1]
    exact co_Fi_js hp a.1 (by omega) m m0 m1)
  rw [e] at h
  exact h
theorem co_L_end9b (hp : co_pg p n) (h0 : 0 ≤ k) (h1 : k < n) (ht : p 6 k = 11) (hh : p 6 (p 10 k) = 9) (he : p 11 (p 10 k) ≠ -1) : ck_qJ (co_R p i (p 11 (p 10 k))) k (co_R p i k) = co_W p i (k + 1) := by
  obtain ⟨a, -, b⟩ := hp.2.2.2.1 k h0 h1 (Or.inr ht)
  obtain ⟨c1, -, -, c4⟩ := hp.2.2.1 _ a.1 (by omega) (b ht).1
  have b2 := (b ht).2
  have e : co_O p (co_Fi p i) (p 10 k) (p 11 (p 10 k)) = co_Fi p i (p 11 (p 10 k)) := if_neg he
  have h := co_L_endJ (i := i) hp h0 h1 ht hh (jo := co_J p (p 11 (p 10 k))) (by
    rw [e]
    exact co_Fi_js hp (by omega) (by omega))
  rw [e] at h
  exact h
theorem co_L_eff (hp : co_pg p n) (h0 : 0 ≤ k) (h1 : k < n) (ht : p 6 k ≠ 9 ∧ p 6 k ≠ 12 ∧ p 6 k ≠ 10 ∧ p 6 k ≠ 11) : ck_qEff (p 6 k) (p 7 k) (p 8 k) (p 9 k) k (co_R p i k) = co_W p i (k + 1) := by
  have hs := hp.2.1 k h0 h1
  unfold co_R co_W
  rw [co_q_dEff ⟨h0, by have := hp.1; omega⟩ (co_Fi_wb hp i k h0 h1) (co_Fi_js hp h0 h1) hs, co_A0_s h0, co_J_s hp h0 h1]
  unfold co_F co_jF
  rw [if_neg (by omega), if_neg (by omega), if_neg (by omega), if_neg (by omega)]
/-- rows are the same where what is known is the same -/
theorem co_enc_inj {f g : ck_D} {a b : Int} {j : Int → Int} (hf : co_nf f) (hg : co_nf g) (wf : co_wb a f) (wg : co_wb b g) (ha : 0 ≤ a ∧ a ≤ 64) (hb : 0 ≤ b ∧ b ≤ 64) (jf : co_js f j) (jg : co_js g j) (h : co_enc f j = co_enc g j) : f = g := by
  obtain ⟨hk1, hl1, hh1, hv1, hz1, ht1⟩ := wf
  obtain ⟨hk2, hl2, hh2, hv2, hz2, ht2⟩ := wg
  refine hf.symm.trans (Eq.trans ?_ hg)
  refine ck_N_ext (fun n a b => ?_) (fun n a b => ?_) (fun n r a b c d => ?_) (fun r a b => ?_) (fun r a b => ?_) (fun r a b => ?_)
  · have e : ck_K (co_enc f j) n = ck_K (co_enc g j) n := by rw [h]
    rw [co_e_K a b, co_e_K a b] at e
    have := jf n a b
    have := jg n a b
    split at e <;> split at e <;> omega
  · have e : ck_L (co_enc f j) n = ck_L (co_enc g j) n := by rw [h]
    rw [co_e_L a b, co_e_L a b] at e
    have := hl1 n
    have := hl2 n
    split at e <;> split at e <;> omega
  · have e : ck_H (co_enc f j) n r = ck_H (co_enc g j) n r := by rw [h]
    rw [co_e_H a b c d, co_e_H a b c d] at e
    exact e
  · have e : ck_V (co_enc f j) r = ck_V (co_enc g j) r := by rw [h]
    rw [co_e_V a b, co_e_V a b] at e
    exact (co_ev_inj (hv1 r).1 (hv2 r).1).mp e
  · have e : ck_G (co_enc f j) r = ck_G (co_enc g j) r := by rw [h]
    rw [co_e_G a b, co_e_G a b] at e
    exact e
  · have e : ck_T (co_enc f j) r = ck_T (co_enc g j) r := by rw [h]
    rw [co_e_T a b, co_e_T a b] at e
    exact e
end COT
theorem co_mv_rg {w : Int → Int} (h : ck_qb (ck_mv w)) : ∀ q, 0 ≤ q → q < 82 → -1000000000 ≤ w q ∧ w q ≤ 1000000000 := by
  obtain ⟨h1, h2, h3, h4, h5, h6, h7⟩ := h
  intro q q0 q1
  by_cases c1 : q < 10
  · have := h1 q
    rw [← ck_y_K rfl q0 c1, Int.zero_add] at this
    exact this
  by_cases c2 : q < 20
  · have := h2 (q - 10)
    rw [← ck_y_I rfl (by omega) (by omega)] at this
    have e : 10 + (q - 10) = q := by omega
    rw [e] at this
    exact this
  by_cases c3 : q < 30
  · have := h3 (q - 20)
    rw [← ck_y_L rfl (by omega) (by omega)] at this
    have e : 20 + (q - 20) = q := by omega
    rw [e] at this
    exact this
  by_cases c4 : q < 34
  · have := h4 (q - 30)
    rw [← ck_y_V rfl (by omega) (by omega)] at this
    have e : 30 + (q - 30) = q := by omega
    rw [e] at this
    exact this
  by_cases c5 : q < 38
  · have := h5 (q - 34)
    rw [← ck_y_T rfl (by omega) (by omega)] at this
    have e : 34 + (q - 34) = q := by omega
    rw [e] at this
    exact this
  by_cases c6 : q < 42
  · have := h6 (q - 38)
    rw [← ck_y_G rfl (by omega) (by omega)] at this
    have e : 38 + (q - 38) = q := by omega
    rw [e] at this
    exact this
  · have := h7 ((q - 42) / 4) ((q - 42) % 4)
    rw [← ck_y_H rfl (by omega) (by omega) (by omega) (by omega)] at this
    have e : 42 + 4 * ((q - 42) / 4) + (q - 42) % 4 = q := by omega
    rw [e] at this
    exact this
theorem co_mv_eq {w w' : Int → Int} : ck_mv w = ck_mv w' ↔ ∀ q, 0 ≤ q → q < 82 → w q = w' q := by
  constructor
  · intro h q q0 q1
    by_cases c1 : q < 10
    · have := (ck_y_K h q0 c1).trans (ck_y_K rfl q0 c1).symm
      rw [Int.zero_add] at this
      exact this
    by_cases c2 : q < 20
    · have := (ck_y_I h (n := q - 10) (by omega) (by omega)).trans (ck_y_I rfl (by omega) (by omega)).symm
      have e : 10 + (q - 10) = q := by omega
      rw [e] at this
      exact this
    by_cases c3 : q < 30
    · have := (ck_y_L h (n := q - 20) (by omega) (by omega)).trans (ck_y_L rfl (by omega) (by omega)).symm
      have e : 20 + (q - 20) = q := by omega
      rw [e] at this
      exact this
    by_cases c4 : q < 34
    · have := (ck_y_V h (r := q - 30) (by omega) (by omega)).trans (ck_y_V rfl (by omega) (by omega)).symm
      have e : 30 + (q - 30) = q := by omega
      rw [e] at this
      exact this
    by_cases c5 : q < 38
    · have := (ck_y_T h (r := q - 34) (by omega) (by omega)).trans (ck_y_T rfl (by omega) (by omega)).symm
      have e : 34 + (q - 34) = q := by omega
      rw [e] at this
      exact this
    by_cases c6 : q < 42
    · have := (ck_y_G h (r := q - 38) (by omega) (by omega)).trans (ck_y_G rfl (by omega) (by omega)).symm
      have e : 38 + (q - 38) = q := by omega
      rw [e] at this
      exact this
    · have := (ck_y_H h (n := (q - 42) / 4) (r := (q - 42) % 4) (by omega) (by omega) (by omega) (by omega)).trans (ck_y_H rfl (by omega) (by omega) (by omega) (by omega)).symm
      have e : 42 + 4 * ((q - 42) / 4) + (q - 42) % 4 = q := by omega
      rw [e] at this
      exact this
  · intro h
    exact ck_P_ext (fun n a b => h _ (by omega) (by omega)) (fun n a b => h _ (by omega) (by omega)) (fun n a b => h _ (by omega) (by omega)) (fun n a b => h _ (by omega) (by omega)) (fun n a b => h _ (by omega) (by omega)) (fun n a b => h _ (by omega) (by omega)) (fun n r a b c d => h _ (by omega) (by omega))
