theorem co_q_J {k m : Int} {b o : ck_D} {jb jo : Int → Int} (hb : co_wb m b) (ho : co_wb m o) (hm : 0 ≤ m ∧ m ≤ 64) (hk : 0 ≤ k ∧ k < 64) (h1 : co_js b jb) (h2 : co_js o jo) (hs : ∀ q, 0 ≤ q → q < 4 → ck_va b q = ck_va o q → ck_sz b q = ck_sz o q) : ck_qJ (co_enc o jo) k (co_enc b jb) = co_enc (ck_dJw b k o) jb := by
  obtain ⟨hk1, hl1, hh1, hv1, hz1, ht1⟩ := hb
  obtain ⟨hk2, hl2, hh2, hv2, hz2, ht2⟩ := ho
  refine ck_P_ext (fun n a b' => ?_) (fun n a b' => ?_) (fun n a b' => ?_) (fun q c e => ?_) (fun q c e => ?_) (fun q c e => ?_) (fun n q a b' c e => ?_)
  · unfold ck_jK ck_dJw ck_dJwv
    rw [co_e_K a b', co_e_K a b', co_e_I a b', co_e_I a b', ck_N_kn a b']
    have := hk1 n
    have := hk2 n
    have := h1 n a b'
    have := h2 n a b'
    by_cases e1 : ck_kn b n = 1000000000
    · rw [if_pos e1, if_neg (by omega)]
      split
      · rw [if_pos (by omega)]
      · rfl
    · rw [if_neg e1]
      by_cases e2 : ck_kn o n = 1000000000
      · rw [if_pos e2, if_neg (by omega), if_neg (show ¬ ck_kn o n = ck_kn b n by omega)]
        rfl
      · rw [if_neg e2]
        by_cases e3 : ck_kn o n = ck_kn b n
        · rw [if_pos (by omega), if_pos e3, if_neg e2]
        · rw [if_neg (by omega), if_neg e3]
          rfl
  · rw [co_e_I a b']
  · unfold ck_dJw ck_dJwv
    rw [co_e_L a b', co_e_L a b', ck_N_lo a b']
    have := hl1 n
    have := hl2 n
    unfold ck_wo ck_mn
    (repeat' split) <;> first | rfl | omega
  · unfold ck_dJw ck_dJwv
    have a1 := hv1 q
    have a2 := hv2 q
    rw [if_pos e, co_e_V c e, co_e_V c e, ck_N_va c e]
    by_cases e1 : ck_va b q = ck_va o q
    · rw [if_pos ((co_ev_inj a1.1 a2.1).mpr e1), if_neg (show ¬ (q < 4 ∧ ck_va o q ≠ ck_va b q) from fun z => z.2 e1.symm), e1]
    · rw [if_neg (fun z => e1 ((co_ev_inj a1.1 a2.1).mp z)), if_pos (show q < 4 ∧ ck_va o q ≠ ck_va b q from ⟨e, fun z => e1 z.symm⟩), if_neg (by omega)]
      omega
  · unfold ck_dJw ck_dJwv
    rw [if_pos e, co_e_T c e, co_e_T c e, ck_N_th c e]
    have := ht1 q
    have := ht2 q
    (repeat' split) <;> first | rfl | omega
  · unfold ck_dJw ck_dJwv
    have a1 := hv1 q
    have a2 := hv2 q
    rw [if_pos e, co_e_V c e, co_e_V c e, co_e_G c e, ck_N_sz c e]
    by_cases e1 : ck_va b q = ck_va o q
    · rw [if_pos ((co_ev_inj a1.1 a2.1).mpr e1), if_neg (show ¬ (q < 4 ∧ ck_va o q ≠ ck_va b q) from fun z => z.2 e1.symm), hs q c e e1]
    · rw [if_neg (fun z => e1 ((co_ev_inj a1.1 a2.1).mp z)), if_pos (show q < 4 ∧ ck_va o q ≠ ck_va b q from ⟨e, fun z => e1 z.symm⟩)]
  · unfold ck_dJw ck_dJwv
    rw [co_e_H a b' c e, co_e_H a b' c e, ck_N_hi a b' c e]
    have := hh1 n q
    have := hh2 n q
    unfold ck_wo ck_mx
    (repeat' split) <;> first | rfl | omega
theorem co_q_W {k m m' nb ab : Int} {w z : ck_D} {j jz : Int → Int} (hw : co_wb m w) (hz : co_wb m' z) (hm : 0 ≤ m ∧ m ≤ 64) (hm' : 0 ≤ m' ∧ m' ≤ 64) (hk : 0 ≤ k ∧ k < 64) (h1 : co_js (ck_dFc nb ab k w) j) (h2 : co_js z jz) (hi : ∀ n, 0 ≤ n → n < 10 → ck_kn (ck_dFc nb ab k w) n = 1000000000 ∨ ck_kn z n = ck_kn (ck_dFc nb ab k w) n) (g : ck_Q) (hg : ∀ f, ck_qV g f = ck_qV (co_enc z jz) f) : ck_qJ (ck_qV g (co_enc (ck_dFc nb ab k w) j)) k (co_enc (ck_dFc nb ab k w) j) = co_enc (ck_dFc nb ab k (ck_dJb z w)) j := by
  rw [hg]
  have hf : ∀ f : ck_D, ∀ n, 0 ≤ n → n < 10 → ck_kn (ck_dFc nb ab k f) n = if ck_and (ck_shr nb n) 1 = 0 then ck_kn f n else 1000000000 := fun f n a b => ck_N_kn a b
  obtain ⟨hk1, hl1, hh1, hv1, hz1, ht1⟩ := hw
  obtain ⟨hk2, hl2, hh2, hv2, hz2, ht2⟩ := hz
  refine ck_P_ext (fun n a b => ?_) (fun n a b => ?_) (fun n a b => ?_) (fun q c e => ?_) (fun q c e => ?_) (fun q c e => ?_) (fun n q a b c e => ?_)
  · have e1 : ck_kn (ck_dFc nb ab k (ck_dJb z w)) n = ck_kn (ck_dFc nb ab k w) n := by
      rw [hf _ n a b, hf _ n a b]
      unfold ck_dJb
      rw [ck_N_kn a b]
    have b1 := hi n a b
    have b2 := h1 n a b
    have b3 := h2 n a b
    unfold ck_jK
    rw [e1, co_e_K a b, co_e_I a b]
    unfold ck_qV
    rw [ck_P_K a b, ck_P_I a b, co_e_K a b, co_e_I a b]
    by_cases e2 : ck_kn (ck_dFc nb ab k w) n = 1000000000
    · rw [if_pos e2, if_neg (fun q => absurd q.1 (by decide))]
    · have e3 : ¬ ck_kn z n = 1000000000 := by omega
      rw [if_neg e2, if_neg e3, if_pos ⟨rfl, rfl, by omega⟩]
  · rw [co_e_I a b]
  · rw [co_e_L a b]
    unfold ck_qV
    rw [ck_P_L a b, co_e_L a b]
    unfold ck_dFc ck_dFcv ck_dJb
    rw [ck_N_lo a b, ck_N_lo a b, ck_N_lo a b]
    have := hl1 n
    have := hl2 n
    unfold ck_wo ck_mn
    (repeat' split) <;> first | rfl | omega
  · rw [if_pos e]
    unfold ck_qV
    rw [ck_P_V c e, if_pos rfl, co_e_V c e]
    have e1 : ck_va (ck_dFc nb ab k (ck_dJb z w)) q = ck_va (ck_dFc nb ab k w) q := by
      unfold ck_dFc ck_dFcv ck_dJb
      rw [ck_N_va c e, ck_N_va c e, ck_N_va c e]
    rw [e1]
  · rw [if_pos e, co_e_T c e]
    unfold ck_qV
    rw [ck_P_T c e, co_e_T c e]
    unfold ck_dFc ck_dFcv ck_dJb
    rw [ck_N_th c e, ck_N_th c e, ck_N_th c e]
    have := ht1 q
    have := ht2 q
    (repeat' split) <;> first | rfl | omega
  · rw [if_pos e]
    unfold ck_qV
    rw [ck_P_V c e, if_pos rfl, co_e_G c e]
    unfold ck_dFc ck_dFcv ck_dJb
    rw [ck_N_sz c e, ck_N_sz c e, ck_N_sz c e]
  · rw [co_e_H a b c e]
    unfold ck_qV
    rw [ck_P_H a b c e, co_e_H a b c e]
    unfold ck_dFc ck_dFcv ck_dJb
    rw [ck_N_hi a b c e, ck_N_hi a b c e, ck_N_hi a b c e]
    have := hh1 n q
    have := hh2 n q
    unfold ck_wo ck_mx
    (repeat' split) <;> first | rfl | omega
theorem co_e_qb {k : Int} (hk : 0 ≤ k ∧ k ≤ 1000) {f : ck_D} {j : Int → Int} (hf : co_wb k f) (hj : ∀ n, 0 ≤ n → n < 10 → -1000000000 ≤ j n ∧ j n ≤ 1000000000) : ck_qb (co_enc f j) := by
  obtain ⟨hk1, hl1, hh1, hv1, hz1, ht1⟩ := hf
  refine ⟨fun n => ?_, fun n => ?_, fun n => ?_, fun r => ?_, fun r => ?_, fun r => ?_, fun n r => ?_⟩
  · by_cases hn : 0 ≤ n ∧ n < 10
    · rw [co_e_K hn.1 hn.2]; split <;> omega
    · have : ck_K (co_enc f j) n = 0 := if_neg hn
      omega
  · by_cases hn : 0 ≤ n ∧ n < 10
    · rw [co_e_I hn.1 hn.2]; exact hj n hn.1 hn.2
    · have : ck_I (co_enc f j) n = 0 := if_neg hn
      omega
  · by_cases hn : 0 ≤ n ∧ n < 10
    · rw [co_e_L hn.1 hn.2]; have := hl1 n; split <;> omega
    · have : ck_L (co_enc f j) n = 0 := if_neg hn
      omega
  · by_cases hn : 0 ≤ r ∧ r < 4
    · rw [co_e_V hn.1 hn.2]; have := hv1 r; split <;> omega
    · have : ck_V (co_enc f j) r = 0 := if_neg hn
      omega
  · by_cases hn : 0 ≤ r ∧ r < 4
    · rw [co_e_T hn.1 hn.2]; have := ht1 r; omega
    · have : ck_T (co_enc f j) r = 0 := if_neg hn
      omega
  · by_cases hn : 0 ≤ r ∧ r < 4
    · rw [co_e_G hn.1 hn.2]; have := hz1 r; omega
    · have : ck_G (co_enc f j) r = 0 := if_neg hn
      omega
  · by_cases hn : (0 ≤ n ∧ n < 10) ∧ 0 ≤ r ∧ r < 4
    · rw [co_e_H hn.1.1 hn.1.2 hn.2.1 hn.2.2]; have := hh1 n r; omega
    · have : ck_H (co_enc f j) n r = 0 := if_neg hn
      omega
theorem co_q_dBel {k : Int} (hk0 : 0 ≤ k ∧ k < 64) {f : ck_D} {j : Int → Int} (hf : co_wb k f) (hj : co_js f j) {x y z : Int} (hx : 0 ≤ x ∧ x < 10) (hy : 0 ≤ y ∧ y ≤ 10) (hz : -100 ≤ z ∧ z ≤ 100) : ck_qBel x y z (co_enc f j) = co_enc (ck_dBel x y z f) j := by
  by_cases e : y = 10
  · rw [e]; exact co_q_dBel1 hk0 hf hj hx hz
  · exact co_q_dBel0 hk0 hf hj hx ⟨hy.1, by omega⟩ hz
theorem co_q_dNot {k : Int} (hk0 : 0 ≤ k ∧ k < 64) {f : ck_D} {j : Int → Int} (hf : co_wb k f) (hj : co_js f j) {x y z : Int} (hx : 0 ≤ x ∧ x < 10) (hy : 0 ≤ y ∧ y ≤ 10) (hz : -100 ≤ z ∧ z ≤ 100) : ck_qNot x y z (co_enc f j) = co_enc (ck_dNot x y z f) j := by
  by_cases e : y = 10
  · rw [e]; exact co_q_dNot1 hk0 hf hj hx hz
  · exact co_q_dNot0 hk0 hf hj hx ⟨hy.1, by omega⟩ hz
/-- the reference's number behind a statement -/
def co_jE (t x y z : Int) (j : Int → Int) : Int → Int := if t = 0 then (fun n => if n = x then y else j n) else if t = 1 then (fun n => if n = x then j y + z else j n) else j
theorem co_q_dAny' {f : ck_D} {j : Int → Int} (x : Int) : ck_qAny x (co_enc f j) = co_enc (ck_dAny x f) j := by
  refine ck_P_ext (fun n a b => ?_) (fun n a b => ?_) (fun n a b => ?_) (fun q c e => ?_) (fun q c e => ?_) (fun q c e => ?_) (fun n q a b c e => ?_)
  · unfold ck_dAny
    rw [co_e_K a b, ck_N_kn a b]
    by_cases h : n = x
    · rw [if_pos h, if_pos h]; rfl
    · rw [if_neg h, if_neg h]
  · rw [co_e_I a b]
  · unfold ck_dAny
    rw [co_e_L a b, ck_N_lo a b]
    by_cases h : n = x
    · rw [if_pos h, if_pos h]; rfl
    · rw [if_neg h, if_neg h]
  · unfold ck_dAny
    rw [co_e_V c e, ck_N_va c e]
  · unfold ck_dAny
    rw [co_e_T c e, ck_N_th c e]
  · unfold ck_dAny
    rw [co_e_G c e, ck_N_sz c e]
  · unfold ck_dAny
    rw [co_e_H a b c e, ck_N_hi a b c e]
theorem co_q_dEff {k : Int} (hk0 : 0 ≤ k ∧ k < 64) {f : ck_D} {j : Int → Int} (hf : co_wb k f) (hj : co_js f j) {t x y z : Int} (hO : ck_sOk t x y z) : ck_qEff t x y z k (co_enc f j) = co_enc (ck_dEff t x y z k f) (co_jE t x y z j) := by
  unfold ck_sOk at hO
  unfold ck_qEff ck_dEff co_jE
  by_cases h0 : t = 0
  · rw [if_pos h0, if_pos h0, if_pos h0]; exact co_q_dSet hk0 hf hj (by omega) (by omega)
  rw [if_neg h0, if_neg h0, if_neg h0]
  by_cases h1 : t = 1
  · rw [if_pos h1, if_pos h1, if_pos h1]; exact co_q_dSum hk0 hf hj (by omega) (by omega) (by omega)
  rw [if_neg h1, if_neg h1, if_neg h1]
  by_cases h2 : t = 2
  · rw [if_pos h2, if_pos h2]; exact co_q_dAny hk0 hf hj (by omega)
  rw [if_neg h2, if_neg h2]
  by_cases h3 : t = 3
  · rw [if_pos h3, if_pos h3]; exact co_q_dLen hk0 hf hj (by omega) (by omega)
  rw [if_neg h3, if_neg h3]
  by_cases h4 : t = 4
  · rw [if_pos h4, if_pos h4, co_q_dUse hk0 hf hj (by omega) (by omega)]
    exact co_q_dAny' x
  rw [if_neg h4, if_neg h4]
  by_cases h5 : t = 5
  · rw [if_pos h5, if_pos h5]; exact co_q_dUse hk0 hf hj (by omega) (by omega)
  rw [if_neg h5, if_neg h5]
  by_cases h6 : t = 6
  · rw [if_pos h6, if_pos h6]; exact co_q_dNew hk0 hf hj (by omega) (by omega)
  rw [if_neg h6, if_neg h6]
  by_cases h7 : t = 7
  · rw [if_pos h7, if_pos h7]; exact co_q_dNull hk0 hf hj (by omega)
  rw [if_neg h7, if_neg h7]
  by_cases h8 : t = 8
  · rw [if_pos h8, if_pos h8]; exact co_q_dLet hk0 hf hj (by omega) (by omega)
  rw [if_neg h8, if_neg h8]
