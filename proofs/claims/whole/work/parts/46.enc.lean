/-! ## The reference's row codes what is known -/
def co_enc (f : ck_D) (j : Int → Int) : ck_Q := ck_P (fun n => if ck_kn f n = 1000000000 then 0 else 1) j (fun n => if ck_lo f n = -1000000000 then 1000000000 else ck_lo f n) (fun r => if ck_va f r < 65 then ck_va f r else ck_va f r + 35) (ck_th f) (ck_sz f) (ck_hi f)
/-- the reference's number is the one that is known -/
def co_js (f : ck_D) (j : Int → Int) : Prop := ∀ n, 0 ≤ n → n < 10 → ck_kn f n = 1000000000 ∨ j n = ck_kn f n
section COE
variable {f : ck_D} {j : Int → Int} {n r : Int}
theorem co_e_K (h0 : 0 ≤ n) (h1 : n < 10) : ck_K (co_enc f j) n = if ck_kn f n = 1000000000 then 0 else 1 := ck_P_K h0 h1
theorem co_e_I (h0 : 0 ≤ n) (h1 : n < 10) : ck_I (co_enc f j) n = j n := ck_P_I h0 h1
theorem co_e_L (h0 : 0 ≤ n) (h1 : n < 10) : ck_L (co_enc f j) n = if ck_lo f n = -1000000000 then 1000000000 else ck_lo f n := ck_P_L h0 h1
theorem co_e_V (h0 : 0 ≤ r) (h1 : r < 4) : ck_V (co_enc f j) r = if ck_va f r < 65 then ck_va f r else ck_va f r + 35 := ck_P_V h0 h1
theorem co_e_T (h0 : 0 ≤ r) (h1 : r < 4) : ck_T (co_enc f j) r = ck_th f r := ck_P_T h0 h1
theorem co_e_G (h0 : 0 ≤ r) (h1 : r < 4) : ck_G (co_enc f j) r = ck_sz f r := ck_P_G h0 h1
theorem co_e_H (h0 : 0 ≤ n) (h1 : n < 10) (h2 : 0 ≤ r) (h3 : r < 4) : ck_H (co_enc f j) n r = ck_hi f n r := ck_P_H h0 h1 h2 h3
end COE
theorem co_ev_eq {u v : Int} (hu : 0 ≤ u) (hv : 0 ≤ v) : ((if u < 65 then u else u + 35) = (if v < 65 then v else v + 35) ∧ 0 < (if u < 65 then u else u + 35)) ↔ (u = v ∧ u ≠ 0) := by
  constructor
  · intro h
    split at h <;> split at h <;> omega
  · intro h
    split <;> split <;> omega
theorem co_ev_zero {u : Int} (hu : 0 ≤ u) : (if u < 65 then u else u + 35) = 0 ↔ u = 0 := by
  split <;> omega
theorem co_ev_inj {u v : Int} (hu : 0 ≤ u) (hv : 0 ≤ v) : (if u < 65 then u else u + 35) = (if v < 65 then v else v + 35) ↔ u = v := by
  constructor
  · intro h
    split at h <;> split at h <;> omega
  · intro h
    rw [h]
theorem co_q_dSet {k : Int} (hk0 : 0 ≤ k ∧ k < 64) {f : ck_D} {j : Int → Int} (hf : co_wb k f) (hj : co_js f j) {x : Int} (hx : 0 ≤ x ∧ x < 10) {v : Int} (hv0 : -100 ≤ v ∧ v ≤ 100) : ck_qSet x v (co_enc f j) = co_enc (ck_dSet x v f) (fun n => if n = x then v else j n) := by
  obtain ⟨hk, hl, hh, hv, hz, ht⟩ := hf
  refine ck_P_ext (fun n a b => ?_) (fun n a b => ?_) (fun n a b => ?_) (fun q c e => ?_) (fun q c e => ?_) (fun q c e => ?_) (fun n q a b c e => ?_)
  · skip
    try unfold ck_dSet
    all_goals try simp only [co_e_K (n := n) a b, co_e_I (n := n) a b, co_e_L (n := n) a b, ck_N_kn a b, ck_N_lo a b]
    all_goals have := hk n
    all_goals try simp only [eq_self, if_true, ck_ml, ck_mh, ck_mlm, ck_mhm, ck_gr, ck_lw, ck_wo, ck_bL, ck_bH, ck_mx, ck_mn]
    all_goals ((repeat' split) <;> first | rfl | omega)
  · skip
    try unfold ck_dSet
    all_goals try simp only [co_e_K (n := n) a b, co_e_I (n := n) a b, co_e_L (n := n) a b, ck_N_kn a b, ck_N_lo a b]
    all_goals try simp only [eq_self, if_true, ck_ml, ck_mh, ck_mlm, ck_mhm, ck_gr, ck_lw, ck_wo, ck_bL, ck_bH, ck_mx, ck_mn]
    all_goals ((repeat' split) <;> first | rfl | omega)
  · skip
    try unfold ck_dSet
    all_goals try simp only [co_e_K (n := n) a b, co_e_I (n := n) a b, co_e_L (n := n) a b, ck_N_kn a b, ck_N_lo a b]
    all_goals have := hl n
    all_goals try simp only [eq_self, if_true, ck_ml, ck_mh, ck_mlm, ck_mhm, ck_gr, ck_lw, ck_wo, ck_bL, ck_bH, ck_mx, ck_mn]
    all_goals ((repeat' split) <;> first | rfl | omega)
  · skip
    try unfold ck_dSet
    all_goals try simp only [co_e_V (r := q) c e, co_e_T (r := q) c e, co_e_G (r := q) c e, ck_N_va c e, ck_N_sz c e, ck_N_th c e]
    all_goals have := (hv q)
    all_goals try simp only [eq_self, if_true, ck_ml, ck_mh, ck_mlm, ck_mhm, ck_gr, ck_lw, ck_wo, ck_bL, ck_bH, ck_mx, ck_mn]
    all_goals ((repeat' split) <;> first | rfl | omega)
  · skip
    try unfold ck_dSet
    all_goals try simp only [co_e_V (r := q) c e, co_e_T (r := q) c e, co_e_G (r := q) c e, ck_N_va c e, ck_N_sz c e, ck_N_th c e]
    all_goals have := ht q
    all_goals try simp only [co_ev_zero (hv q).1]
    all_goals try simp only [eq_self, if_true, ck_ml, ck_mh, ck_mlm, ck_mhm, ck_gr, ck_lw, ck_wo, ck_bL, ck_bH, ck_mx, ck_mn]
    all_goals ((repeat' split) <;> first | rfl | omega)
  · skip
    try unfold ck_dSet
    all_goals try simp only [co_e_V (r := q) c e, co_e_T (r := q) c e, co_e_G (r := q) c e, ck_N_va c e, ck_N_sz c e, ck_N_th c e]
    all_goals have := hz q
    all_goals try simp only [eq_self, if_true, ck_ml, ck_mh, ck_mlm, ck_mhm, ck_gr, ck_lw, ck_wo, ck_bL, ck_bH, ck_mx, ck_mn]
    all_goals ((repeat' split) <;> first | rfl | omega)
  · skip
    try unfold ck_dSet
    all_goals try simp only [co_e_K (n := n) a b, co_e_I (n := n) a b, co_e_L (n := n) a b, co_e_V (r := q) c e, co_e_T (r := q) c e, co_e_G (r := q) c e, co_e_H (n := n) (r := q) a b c e, ck_N_hi a b c e, ck_hoc, ck_ag]
    all_goals have := hh n q
    all_goals have := hz q
    all_goals try simp only [co_ev_zero (hv q).1]
    all_goals try simp only [eq_self, if_true, ck_ml, ck_mh, ck_mlm, ck_mhm, ck_gr, ck_lw, ck_wo, ck_bL, ck_bH, ck_mx, ck_mn]
    all_goals ((repeat' split) <;> first | rfl | omega)
theorem co_q_dSum {k : Int} (hk0 : 0 ≤ k ∧ k < 64) {f : ck_D} {j : Int → Int} (hf : co_wb k f) (hj : co_js f j) {x : Int} (hx : 0 ≤ x ∧ x < 10) {y : Int} (hy : 0 ≤ y ∧ y < 10) {z : Int} (hz0 : -100 ≤ z ∧ z ≤ 100) : ck_qSum x y z (co_enc f j) = co_enc (ck_dSum x y z f) (fun n => if n = x then j y + z else j n) := by
  obtain ⟨hk, hl, hh, hv, hz, ht⟩ := hf
  refine ck_P_ext (fun n a b => ?_) (fun n a b => ?_) (fun n a b => ?_) (fun q c e => ?_) (fun q c e => ?_) (fun q c e => ?_) (fun n q a b c e => ?_)
  · skip
    try unfold ck_dSum
    all_goals try simp only [co_e_K (n := n) a b, co_e_I (n := n) a b, co_e_L (n := n) a b, co_e_K (n := y) hy.1 hy.2, co_e_I (n := y) hy.1 hy.2, co_e_L (n := y) hy.1 hy.2, ck_N_kn a b, ck_N_lo a b]
    all_goals have := hk n
    all_goals have := hk y
    all_goals try simp only [eq_self, if_true, ck_ml, ck_mh, ck_mlm, ck_mhm, ck_gr, ck_lw, ck_wo, ck_bL, ck_bH, ck_mx, ck_mn]
    all_goals ((repeat' split) <;> first | rfl | omega)
  · skip
    try unfold ck_dSum
    all_goals try simp only [co_e_K (n := n) a b, co_e_I (n := n) a b, co_e_L (n := n) a b, co_e_K (n := y) hy.1 hy.2, co_e_I (n := y) hy.1 hy.2, co_e_L (n := y) hy.1 hy.2, ck_N_kn a b, ck_N_lo a b]
    all_goals try simp only [eq_self, if_true, ck_ml, ck_mh, ck_mlm, ck_mhm, ck_gr, ck_lw, ck_wo, ck_bL, ck_bH, ck_mx, ck_mn]
    all_goals ((repeat' split) <;> first | rfl | omega)
  · skip
    try unfold ck_dSum
    all_goals try simp only [co_e_K (n := n) a b, co_e_I (n := n) a b, co_e_L (n := n) a b, co_e_K (n := y) hy.1 hy.2, co_e_I (n := y) hy.1 hy.2, co_e_L (n := y) hy.1 hy.2, ck_N_kn a b, ck_N_lo a b]
    all_goals have := hl n
    all_goals have := hl y
    all_goals try simp only [eq_self, if_true, ck_ml, ck_mh, ck_mlm, ck_mhm, ck_gr, ck_lw, ck_wo, ck_bL, ck_bH, ck_mx, ck_mn]
    all_goals ((repeat' split) <;> first | rfl | omega)
  · skip
    try unfold ck_dSum
    all_goals try simp only [co_e_V (r := q) c e, co_e_T (r := q) c e, co_e_G (r := q) c e, ck_N_va c e, ck_N_sz c e, ck_N_th c e]
    all_goals have := (hv q)
    all_goals try simp only [eq_self, if_true, ck_ml, ck_mh, ck_mlm, ck_mhm, ck_gr, ck_lw, ck_wo, ck_bL, ck_bH, ck_mx, ck_mn]
    all_goals ((repeat' split) <;> first | rfl | omega)
  · skip
    try unfold ck_dSum
    all_goals try simp only [co_e_V (r := q) c e, co_e_T (r := q) c e, co_e_G (r := q) c e, ck_N_va c e, ck_N_sz c e, ck_N_th c e]
    all_goals have := ht q
    all_goals try simp only [co_ev_zero (hv q).1]
    all_goals try simp only [eq_self, if_true, ck_ml, ck_mh, ck_mlm, ck_mhm, ck_gr, ck_lw, ck_wo, ck_bL, ck_bH, ck_mx, ck_mn]
    all_goals ((repeat' split) <;> first | rfl | omega)
  · skip
    try unfold ck_dSum
    all_goals try simp only [co_e_K (n := y) hy.1 hy.2, co_e_I (n := y) hy.1 hy.2, co_e_L (n := y) hy.1 hy.2, co_e_V (r := q) c e, co_e_T (r := q) c e, co_e_G (r := q) c e, ck_N_va c e, ck_N_sz c e, ck_N_th c e]
    all_goals have := hz q
    all_goals have := hk y
    all_goals have := hj y hy.1 hy.2
    all_goals try simp only [eq_self, if_true, ck_ml, ck_mh, ck_mlm, ck_mhm, ck_gr, ck_lw, ck_wo, ck_bL, ck_bH, ck_mx, ck_mn]
    all_goals ((repeat' split) <;> first | rfl | omega)
  · skip
    try unfold ck_dSum
    all_goals try simp only [co_e_K (n := n) a b, co_e_I (n := n) a b, co_e_L (n := n) a b, co_e_K (n := y) hy.1 hy.2, co_e_I (n := y) hy.1 hy.2, co_e_L (n := y) hy.1 hy.2, co_e_V (r := q) c e, co_e_T (r := q) c e, co_e_G (r := q) c e, co_e_H (n := n) (r := q) a b c e, co_e_H (n := y) (r := q) hy.1 hy.2 c e, ck_N_hi a b c e, ck_hoc, ck_ag]
    all_goals have := hh n q
    all_goals have := hh y q
    all_goals have := hz q
    all_goals try simp only [co_ev_zero (hv q).1]
    all_goals try simp only [eq_self, if_true, ck_ml, ck_mh, ck_mlm, ck_mhm, ck_gr, ck_lw, ck_wo, ck_bL, ck_bH, ck_mx, ck_mn]
    all_goals ((repeat' split) <;> first | rfl | omega)
theorem co_q_dAny {k : Int} (hk0 : 0 ≤ k ∧ k < 64) {f : ck_D} {j : Int → Int} (hf : co_wb k f) (hj : co_js f j) {x : Int} (hx : 0 ≤ x ∧ x < 10) : ck_qAny x (co_enc f j) = co_enc (ck_dAny x f) (j) := by
  obtain ⟨hk, hl, hh, hv, hz, ht⟩ := hf
  refine ck_P_ext (fun n a b => ?_) (fun n a b => ?_) (fun n a b => ?_) (fun q c e => ?_) (fun q c e => ?_) (fun q c e => ?_) (fun n q a b c e => ?_)
  · skip
    try unfold ck_dAny
    all_goals try simp only [co_e_K (n := n) a b, co_e_I (n := n) a b, co_e_L (n := n) a b, ck_N_kn a b, ck_N_lo a b]
    all_goals have := hk n
    all_goals try simp only [eq_self, if_true, ck_ml, ck_mh, ck_mlm, ck_mhm, ck_gr, ck_lw, ck_wo, ck_bL, ck_bH, ck_mx, ck_mn]
    all_goals ((repeat' split) <;> first | rfl | omega)
  · skip
    try unfold ck_dAny
    all_goals try simp only [co_e_K (n := n) a b, co_e_I (n := n) a b, co_e_L (n := n) a b, ck_N_kn a b, ck_N_lo a b]
    all_goals try simp only [eq_self, if_true, ck_ml, ck_mh, ck_mlm, ck_mhm, ck_gr, ck_lw, ck_wo, ck_bL, ck_bH, ck_mx, ck_mn]
    all_goals ((repeat' split) <;> first | rfl | omega)
  · skip
    try unfold ck_dAny
    all_goals try simp only [co_e_K (n := n) a b, co_e_I (n := n) a b, co_e_L (n := n) a b, ck_N_kn a b, ck_N_lo a b]
    all_goals have := hl n
    all_goals try simp only [eq_self, if_true, ck_ml, ck_mh, ck_mlm, ck_mhm, ck_gr, ck_lw, ck_wo, ck_bL, ck_bH, ck_mx, ck_mn]
    all_goals ((repeat' split) <;> first | rfl | omega)
  · skip
    try unfold ck_dAny
    all_goals try simp only [co_e_V (r := q) c e, co_e_T (r := q) c e, co_e_G (r := q) c e, ck_N_va c e, ck_N_sz c e, ck_N_th c e]
    all_goals have := (hv q)
    all_goals try simp only [eq_self, if_true, ck_ml, ck_mh, ck_mlm, ck_mhm, ck_gr, ck_lw, ck_wo, ck_bL, ck_bH, ck_mx, ck_mn]
    all_goals ((repeat' split) <;> first | rfl | omega)
  · skip
    try unfold ck_dAny
    all_goals try simp only [co_e_V (r := q) c e, co_e_T (r := q) c e, co_e_G (r := q) c e, ck_N_va c e, ck_N_sz c e, ck_N_th c e]
    all_goals have := ht q
    all_goals try simp only [co_ev_zero (hv q).1]
    all_goals try simp only [eq_self, if_true, ck_ml, ck_mh, ck_mlm, ck_mhm, ck_gr, ck_lw, ck_wo, ck_bL, ck_bH, ck_mx, ck_mn]
    all_goals ((repeat' split) <;> first | rfl | omega)
  · skip
    try unfold ck_dAny
    all_goals try simp only [co_e_V (r := q) c e, co_e_T (r := q) c e, co_e_G (r := q) c e, ck_N_va c e, ck_N_sz c e, ck_N_th c e]
    all_goals have := hz q
    all_goals try simp only [eq_self, if_true, ck_ml, ck_mh, ck_mlm, ck_mhm, ck_gr, ck_lw, ck_wo, ck_bL, ck_bH, ck_mx, ck_mn]
    all_goals ((repeat' split) <;> first | rfl | omega)
  · skip
    try unfold ck_dAny
    all_goals try simp only [co_e_K (n := n) a b, co_e_I (n := n) a b, co_e_L (n := n) a b, co_e_V (r := q) c e, co_e_T (r := q) c e, co_e_G (r := q) c e, co_e_H (n := n) (r := q) a b c e, ck_N_hi a b c e, ck_hoc, ck_ag]
    all_goals have := hh n q
    all_goals have := hz q
    all_goals try simp only [co_ev_zero (hv q).1]
    all_goals try simp only [eq_self, if_true, ck_ml, ck_mh, ck_mlm, ck_mhm, ck_gr, ck_lw, ck_wo, ck_bL, ck_bH, ck_mx, ck_mn]
    all_goals ((repeat' split) <;> first | rfl | omega)
theorem co_q_dLen {k : Int} (hk0 : 0 ≤ k ∧ k < 64) {f : ck_D} {j : Int → Int} (hf : co_wb k f) (hj : co_js f j) {x : Int} (hx : 0 ≤ x ∧ x < 10) {a0 : Int} (ha0 : 0 ≤ a0 ∧ a0 < 4) : ck_qLen x a0 (co_enc f j) = co_enc (ck_dLen x a0 f) (j) := by
  obtain ⟨hk, hl, hh, hv, hz, ht⟩ := hf
  refine ck_P_ext (fun n a b => ?_) (fun n a b => ?_) (fun n a b => ?_) (fun q c e => ?_) (fun q c e => ?_) (fun q c e => ?_) (fun n q a b c e => ?_)
  · skip
    try unfold ck_dLen
    all_goals try simp only [co_e_K (n := n) a b, co_e_I (n := n) a b, co_e_L (n := n) a b, ck_N_kn a b, ck_N_lo a b]
    all_goals have := hk n
    all_goals try simp only [eq_self, if_true, ck_ml, ck_mh, ck_mlm, ck_mhm, ck_gr, ck_lw, ck_wo, ck_bL, ck_bH, ck_mx, ck_mn]
    all_goals ((repeat' split) <;> first | rfl | omega)
  · skip
    try unfold ck_dLen
    all_goals try simp only [co_e_K (n := n) a b, co_e_I (n := n) a b, co_e_L (n := n) a b, ck_N_kn a b, ck_N_lo a b]
    all_goals try simp only [eq_self, if_true, ck_ml, ck_mh, ck_mlm, ck_mhm, ck_gr, ck_lw, ck_wo, ck_bL, ck_bH, ck_mx, ck_mn]
    all_goals ((repeat' split) <;> first | rfl | omega)
  · skip
    try unfold ck_dLen
    all_goals try simp only [co_e_K (n := n) a b, co_e_I (n := n) a b, co_e_L (n := n) a b, ck_N_kn a b, ck_N_lo a b]
    all_goals have := hl n
    all_goals try simp only [eq_self, if_true, ck_ml, ck_mh, ck_mlm, ck_mhm, ck_gr, ck_lw, ck_wo, ck_bL, ck_bH, ck_mx, ck_mn]
    all_goals ((repeat' split) <;> first | rfl | omega)
  · skip
    try unfold ck_dLen
    all_goals try simp only [co_e_V (r := q) c e, co_e_T (r := q) c e, co_e_G (r := q) c e, co_e_V (r := a0) ha0.1 ha0.2, co_e_T (r := a0) ha0.1 ha0.2, co_e_G (r := a0) ha0.1 ha0.2, ck_N_va c e, ck_N_sz c e, ck_N_th c e]
    all_goals have := (hv q)
    all_goals have := (hv a0)
    all_goals try simp only [eq_self, if_true, ck_ml, ck_mh, ck_mlm, ck_mhm, ck_gr, ck_lw, ck_wo, ck_bL, ck_bH, ck_mx, ck_mn]
    all_goals ((repeat' split) <;> first | rfl | omega)
  · skip
    try unfold ck_dLen
    all_goals try simp only [co_e_V (r := q) c e, co_e_T (r := q) c e, co_e_G (r := q) c e, co_e_V (r := a0) ha0.1 ha0.2, co_e_T (r := a0) ha0.1 ha0.2, co_e_G (r := a0) ha0.1 ha0.2, ck_N_va c e, ck_N_sz c e, ck_N_th c e]
    all_goals have := ht q
    all_goals try simp only [co_ev_eq (hv q).1 (hv a0).1]
    all_goals try simp only [co_ev_zero (hv q).1]
    all_goals try simp only [eq_self, if_true, ck_ml, ck_mh, ck_mlm, ck_mhm, ck_gr, ck_lw, ck_wo, ck_bL, ck_bH, ck_mx, ck_mn]
    all_goals ((repeat' split) <;> first | rfl | omega)
  · skip
    try unfold ck_dLen
    all_goals try simp only [co_e_V (r := q) c e, co_e_T (r := q) c e, co_e_G (r := q) c e, co_e_V (r := a0) ha0.1 ha0.2, co_e_T (r := a0) ha0.1 ha0.2, co_e_G (r := a0) ha0.1 ha0.2, ck_N_va c e, ck_N_sz c e, ck_N_th c e]
    all_goals have := hz q
    all_goals try simp only [eq_self, if_true, ck_ml, ck_mh, ck_mlm, ck_mhm, ck_gr, ck_lw, ck_wo, ck_bL, ck_bH, ck_mx, ck_mn]
    all_goals ((repeat' split) <;> first | rfl | omega)
  · skip
    try unfold ck_dLen
    all_goals try simp only [co_e_K (n := n) a b, co_e_I (n := n) a b, co_e_L (n := n) a b, co_e_V (r := q) c e, co_e_T (r := q) c e, co_e_G (r := q) c e, co_e_V (r := a0) ha0.1 ha0.2, co_e_T (r := a0) ha0.1 ha0.2, co_e_G (r := a0) ha0.1 ha0.2, co_e_H (n := n) (r := q) a b c e, co_e_H (n := n) (r := a0) a b ha0.1 ha0.2, ck_N_hi a b c e, ck_hoc, ck_ag]
    all_goals have := hh n q
    all_goals have := hh n a0
    all_goals have := hz q
    all_goals try simp only [co_ev_eq (hv q).1 (hv a0).1]
    all_goals try simp only [co_ev_zero (hv q).1]
    all_goals try simp only [eq_self, if_true, ck_ml, ck_mh, ck_mlm, ck_mhm, ck_gr, ck_lw, ck_wo, ck_bL, ck_bH, ck_mx, ck_mn]
    all_goals ((repeat' split) <;> first | rfl | omega)
theorem co_q_dUse {k : Int} (hk0 : 0 ≤ k ∧ k < 64) {f : ck_D} {j : Int → Int} (hf : co_wb k f) (hj : co_js f j) {a0 : Int} (ha0 : 0 ≤ a0 ∧ a0 < 4) {m : Int} (hm : 0 ≤ m ∧ m < 10) : ck_qUse a0 m (co_enc f j) = co_enc (ck_dUse a0 m f) (j) := by
  obtain ⟨hk, hl, hh, hv, hz, ht⟩ := hf
  refine ck_P_ext (fun n a b => ?_) (fun n a b => ?_) (fun n a b => ?_) (fun q c e => ?_) (fun q c e => ?_) (fun q c e => ?_) (fun n q a b c e => ?_)
  · skip
    try unfold ck_dUse
    all_goals try simp only [co_e_K (n := n) a b, co_e_I (n := n) a b, co_e_L (n := n) a b, co_e_K (n := m) hm.1 hm.2, co_e_I (n := m) hm.1 hm.2, co_e_L (n := m) hm.1 hm.2, ck_N_kn a b, ck_N_lo a b]
    all_goals have := hk n
    all_goals have := hk m
    all_goals try simp only [eq_self, if_true, ck_ml, ck_mh, ck_mlm, ck_mhm, ck_gr, ck_lw, ck_wo, ck_bL, ck_bH, ck_mx, ck_mn]
    all_goals ((repeat' split) <;> first | rfl | omega)
  · skip
    try unfold ck_dUse
    all_goals try simp only [co_e_K (n := n) a b, co_e_I (n := n) a b, co_e_L (n := n) a b, co_e_K (n := m) hm.1 hm.2, co_e_I (n := m) hm.1 hm.2, co_e_L (n := m) hm.1 hm.2, ck_N_kn a b, ck_N_lo a b]
    all_goals try simp only [eq_self, if_true, ck_ml, ck_mh, ck_mlm, ck_mhm, ck_gr, ck_lw, ck_wo, ck_bL, ck_bH, ck_mx, ck_mn]
    all_goals ((repeat' split) <;> first | rfl | omega)
  · skip
    try unfold ck_dUse
    all_goals try simp only [co_e_K (n := n) a b, co_e_I (n := n) a b, co_e_L (n := n) a b, co_e_K (n := m) hm.1 hm.2, co_e_I (n := m) hm.1 hm.2, co_e_L (n := m) hm.1 hm.2, ck_N_kn a b, ck_N_lo a b]
    all_goals have := hl n
    all_goals have := hl m
    all_goals try simp only [eq_self, if_true, ck_ml, ck_mh, ck_mlm, ck_mhm, ck_gr, ck_lw, ck_wo, ck_bL, ck_bH, ck_mx, ck_mn]
    all_goals ((repeat' split) <;> first | rfl | omega)
  · skip
    try unfold ck_dUse
    all_goals try simp only [co_e_V (r := q) c e, co_e_T (r := q) c e, co_e_G (r := q) c e, co_e_V (r := a0) ha0.1 ha0.2, co_e_T (r := a0) ha0.1 ha0.2, co_e_G (r := a0) ha0.1 ha0.2, ck_N_va c e, ck_N_sz c e, ck_N_th c e]
    all_goals have := (hv q)
    all_goals have := (hv a0)
    all_goals try simp only [eq_self, if_true, ck_ml, ck_mh, ck_mlm, ck_mhm, ck_gr, ck_lw, ck_wo, ck_bL, ck_bH, ck_mx, ck_mn]
    all_goals ((repeat' split) <;> first | rfl | omega)
  · skip
    try unfold ck_dUse
    all_goals try simp only [co_e_V (r := q) c e, co_e_T (r := q) c e, co_e_G (r := q) c e, co_e_V (r := a0) ha0.1 ha0.2, co_e_T (r := a0) ha0.1 ha0.2, co_e_G (r := a0) ha0.1 ha0.2, ck_N_va c e, ck_N_sz c e, ck_N_th c e]
    all_goals have := ht q
    all_goals try simp only [co_ev_eq (hv q).1 (hv a0).1]
    all_goals try simp only [co_ev_zero (hv q).1]
    all_goals try simp only [eq_self, if_true, ck_ml, ck_mh, ck_mlm, ck_mhm, ck_gr, ck_lw, ck_wo, ck_bL, ck_bH, ck_mx, ck_mn]
    all_goals ((repeat' split) <;> first | rfl | omega)
  · skip
    try unfold ck_dUse
    all_goals try simp only [co_e_K (n := m) hm.1 hm.2, co_e_I (n := m) hm.1 hm.2, co_e_L (n := m) hm.1 hm.2, co_e_V (r := q) c e, co_e_T (r := q) c e, co_e_G (r := q) c e, co_e_V (r := a0) ha0.1 ha0.2, co_e_T (r := a0) ha0.1 ha0.2, co_e_G (r := a0) ha0.1 ha0.2, ck_N_va c e, ck_N_sz c e, ck_N_th c e]
    all_goals have := hz q
    all_goals have := hk m
    all_goals have := hj m hm.1 hm.2
    all_goals try simp only [eq_self, if_true, ck_ml, ck_mh, ck_mlm, ck_mhm, ck_gr, ck_lw, ck_wo, ck_bL, ck_bH, ck_mx, ck_mn]
    all_goals ((repeat' split) <;> first | rfl | omega)
  · skip
    try unfold ck_dUse
    all_goals try simp only [co_e_K (n := n) a b, co_e_I (n := n) a b, co_e_L (n := n) a b, co_e_K (n := m) hm.1 hm.2, co_e_I (n := m) hm.1 hm.2, co_e_L (n := m) hm.1 hm.2, co_e_V (r := q) c e, co_e_T (r := q) c e, co_e_G (r := q) c e, co_e_V (r := a0) ha0.1 ha0.2, co_e_T (r := a0) ha0.1 ha0.2, co_e_G (r := a0) ha0.1 ha0.2, co_e_H (n := n) (r := q) a b c e, co_e_H (n := n) (r := a0) a b ha0.1 ha0.2, co_e_H (n := m) (r := q) hm.1 hm.2 c e, co_e_H (n := m) (r := a0) hm.1 hm.2 ha0.1 ha0.2, ck_N_hi a b c e, ck_hoc, ck_ag]
    all_goals have := hh n q
    all_goals have := hh n a0
    all_goals have := hh m q
    all_goals have := hh m a0
    all_goals have := hz q
    all_goals try simp only [co_ev_eq (hv q).1 (hv a0).1]
    all_goals try simp only [co_ev_zero (hv q).1]
    all_goals try simp only [eq_self, if_true, ck_ml, ck_mh, ck_mlm, ck_mhm, ck_gr, ck_lw, ck_wo, ck_bL, ck_bH, ck_mx, ck_mn]
    all_goals ((repeat' split) <;> first | rfl | omega)
theorem co_q_dNew {k : Int} (hk0 : 0 ≤ k ∧ k < 64) {f : ck_D} {j : Int → Int} (hf : co_wb k f) (hj : co_js f j) {a0 : Int} (ha0 : 0 ≤ a0 ∧ a0 < 4) {y : Int} (hy : 0 ≤ y ∧ y < 10) : ck_qNew k a0 y (co_enc f j) = co_enc (ck_dNew a0 y k f) (j) := by
  obtain ⟨hk, hl, hh, hv, hz, ht⟩ := hf
  refine ck_P_ext (fun n a b => ?_) (fun n a b => ?_) (fun n a b => ?_) (fun q c e => ?_) (fun q c e => ?_) (fun q c e => ?_) (fun n q a b c e => ?_)
  · skip
    try unfold ck_dNew
    all_goals try simp only [co_e_K (n := n) a b, co_e_I (n := n) a b, co_e_L (n := n) a b, co_e_K (n := y) hy.1 hy.2, co_e_I (n := y) hy.1 hy.2, co_e_L (n := y) hy.1 hy.2, ck_N_kn a b, ck_N_lo a b]
    all_goals have := hk n
    all_goals have := hk y
    all_goals try simp only [eq_self, if_true, ck_ml, ck_mh, ck_mlm, ck_mhm, ck_gr, ck_lw, ck_wo, ck_bL, ck_bH, ck_mx, ck_mn]
    all_goals ((repeat' split) <;> first | rfl | omega)
  · skip
    try unfold ck_dNew
    all_goals try simp only [co_e_K (n := n) a b, co_e_I (n := n) a b, co_e_L (n := n) a b, co_e_K (n := y) hy.1 hy.2, co_e_I (n := y) hy.1 hy.2, co_e_L (n := y) hy.1 hy.2, ck_N_kn a b, ck_N_lo a b]
    all_goals try simp only [eq_self, if_true, ck_ml, ck_mh, ck_mlm, ck_mhm, ck_gr, ck_lw, ck_wo, ck_bL, ck_bH, ck_mx, ck_mn]
    all_goals ((repeat' split) <;> first | rfl | omega)
  · skip
    try unfold ck_dNew
    all_goals try simp only [co_e_K (n := n) a b, co_e_I (n := n) a b, co_e_L (n := n) a b, co_e_K (n := y) hy.1 hy.2, co_e_I (n := y) hy.1 hy.2, co_e_L (n := y) hy.1 hy.2, ck_N_kn a b, ck_N_lo a b]
    all_goals have := hl n
    all_goals have := hl y
    all_goals try simp only [eq_self, if_true, ck_ml, ck_mh, ck_mlm, ck_mhm, ck_gr, ck_lw, ck_wo, ck_bL, ck_bH, ck_mx, ck_mn]
    all_goals ((repeat' split) <;> first | rfl | omega)
  · skip
    try unfold ck_dNew
    all_goals try simp only [co_e_V (r := q) c e, co_e_T (r := q) c e, co_e_G (r := q) c e, ck_N_va c e, ck_N_sz c e, ck_N_th c e]
    all_goals have := (hv q)
    all_goals try simp only [eq_self, if_true, ck_ml, ck_mh, ck_mlm, ck_mhm, ck_gr, ck_lw, ck_wo, ck_bL, ck_bH, ck_mx, ck_mn]
    all_goals ((repeat' split) <;> first | rfl | omega)
  · skip
    try unfold ck_dNew
    all_goals try simp only [co_e_V (r := q) c e, co_e_T (r := q) c e, co_e_G (r := q) c e, ck_N_va c e, ck_N_sz c e, ck_N_th c e]
    all_goals have := ht q
    all_goals try simp only [co_ev_zero (hv q).1]
    all_goals try simp only [eq_self, if_true, ck_ml, ck_mh, ck_mlm, ck_mhm, ck_gr, ck_lw, ck_wo, ck_bL, ck_bH, ck_mx, ck_mn]
    all_goals ((repeat' split) <;> first | rfl | omega)
  · skip
    try unfold ck_dNew
    all_goals try simp only [co_e_K (n := y) hy.1 hy.2, co_e_I (n := y) hy.1 hy.2, co_e_L (n := y) hy.1 hy.2, co_e_V (r := q) c e, co_e_T (r := q) c e, co_e_G (r := q) c e, ck_N_va c e, ck_N_sz c e, ck_N_th c e]
    all_goals have := hz q
    all_goals have := hk y
    all_goals have := hj y hy.1 hy.2
    all_goals try simp only [eq_self, if_true, ck_ml, ck_mh, ck_mlm, ck_mhm, ck_gr, ck_lw, ck_wo, ck_bL, ck_bH, ck_mx, ck_mn]
    all_goals ((repeat' split) <;> first | rfl | omega)
  · skip
    try unfold ck_dNew
    all_goals try simp only [co_e_K (n := n) a b, co_e_I (n := n) a b, co_e_L (n := n) a b, co_e_K (n := y) hy.1 hy.2, co_e_I (n := y) hy.1 hy.2, co_e_L (n := y) hy.1 hy.2, co_e_V (r := q) c e, co_e_T (r := q) c e, co_e_G (r := q) c e, co_e_H (n := n) (r := q) a b c e, co_e_H (n := y) (r := q) hy.1 hy.2 c e, ck_N_hi a b c e, ck_hoc, ck_ag]
    all_goals have := hh n q
    all_goals have := hh y q
    all_goals have := hz q
    all_goals have := hk n
    all_goals have := hk y
    all_goals have := hj n a b
    all_goals have := hj y hy.1 hy.2
    all_goals try simp only [co_ev_zero (hv q).1]
    all_goals try simp only [eq_self, if_true, ck_ml, ck_mh, ck_mlm, ck_mhm, ck_gr, ck_lw, ck_wo, ck_bL, ck_bH, ck_mx, ck_mn]
    all_goals ((repeat' split) <;> first | rfl | omega)
theorem co_q_dNull {k : Int} (hk0 : 0 ≤ k ∧ k < 64) {f : ck_D} {j : Int → Int} (hf : co_wb k f) (hj : co_js f j) {a0 : Int} (ha0 : 0 ≤ a0 ∧ a0 < 4) : ck_qNull a0 (co_enc f j) = co_enc (ck_dNull a0 f) (j) := by
  obtain ⟨hk, hl, hh, hv, hz, ht⟩ := hf
  refine ck_P_ext (fun n a b => ?_) (fun n a b => ?_) (fun n a b => ?_) (fun q c e => ?_) (fun q c e => ?_) (fun q c e => ?_) (fun n q a b c e => ?_)
  · skip
    try unfold ck_dNull
    all_goals try simp only [co_e_K (n := n) a b, co_e_I (n := n) a b, co_e_L (n := n) a b, ck_N_kn a b, ck_N_lo a b]
    all_goals have := hk n
    all_goals try simp only [eq_self, if_true, ck_ml, ck_mh, ck_mlm, ck_mhm, ck_gr, ck_lw, ck_wo, ck_bL, ck_bH, ck_mx, ck_mn]
    all_goals ((repeat' split) <;> first | rfl | omega)
  · skip
    try unfold ck_dNull
    all_goals try simp only [co_e_K (n := n) a b, co_e_I (n := n) a b, co_e_L (n := n) a b, ck_N_kn a b, ck_N_lo a b]
    all_goals try simp only [eq_self, if_true, ck_ml, ck_mh, ck_mlm, ck_mhm, ck_gr, ck_lw, ck_wo, ck_bL, ck_bH, ck_mx, ck_mn]
    all_goals ((repeat' split) <;> first | rfl | omega)
  · skip
    try unfold ck_dNull
    all_goals try simp only [co_e_K (n := n) a b, co_e_I (n := n) a b, co_e_L (n := n) a b, ck_N_kn a b, ck_N_lo a b]
    all_goals have := hl n
    all_goals try simp only [eq_self, if_true, ck_ml, ck_mh, ck_mlm, ck_mhm, ck_gr, ck_lw, ck_wo, ck_bL, ck_bH, ck_mx, ck_mn]
    all_goals ((repeat' split) <;> first | rfl | omega)
  · skip
    try unfold ck_dNull
    all_goals try simp only [co_e_V (r := q) c e, co_e_T (r := q) c e, co_e_G (r := q) c e, ck_N_va c e, ck_N_sz c e, ck_N_th c e]
    all_goals have := (hv q)
    all_goals try simp only [eq_self, if_true, ck_ml, ck_mh, ck_mlm, ck_mhm, ck_gr, ck_lw, ck_wo, ck_bL, ck_bH, ck_mx, ck_mn]
    all_goals ((repeat' split) <;> first | rfl | omega)
  · skip
    try unfold ck_dNull
    all_goals try simp only [co_e_V (r := q) c e, co_e_T (r := q) c e, co_e_G (r := q) c e, ck_N_va c e, ck_N_sz c e, ck_N_th c e]
    all_goals have := ht q
    all_goals try simp only [co_ev_zero (hv q).1]
    all_goals try simp only [eq_self, if_true, ck_ml, ck_mh, ck_mlm, ck_mhm, ck_gr, ck_lw, ck_wo, ck_bL, ck_bH, ck_mx, ck_mn]
    all_goals ((repeat' split) <;> first | rfl | omega)
  · skip
    try unfold ck_dNull
    all_goals try simp only [co_e_V (r := q) c e, co_e_T (r := q) c e, co_e_G (r := q) c e, ck_N_va c e, ck_N_sz c e, ck_N_th c e]
    all_goals have := hz q
    all_goals try simp only [eq_self, if_true, ck_ml, ck_mh, ck_mlm, ck_mhm, ck_gr, ck_lw, ck_wo, ck_bL, ck_bH, ck_mx, ck_mn]
    all_goals ((repeat' split) <;> first | rfl | omega)
  · skip
    try unfold ck_dNull
    all_goals try simp only [co_e_K (n := n) a b, co_e_I (n := n) a b, co_e_L (n := n) a b, co_e_V (r := q) c e, co_e_T (r := q) c e, co_e_G (r := q) c e, co_e_H (n := n) (r := q) a b c e, ck_N_hi a b c e, ck_hoc, ck_ag]
    all_goals have := hh n q
    all_goals have := hz q
    all_goals try simp only [co_ev_zero (hv q).1]
    all_goals try simp only [eq_self, if_true, ck_ml, ck_mh, ck_mlm, ck_mhm, ck_gr, ck_lw, ck_wo, ck_bL, ck_bH, ck_mx, ck_mn]
    all_goals ((repeat' split) <;> first | rfl | omega)
theorem co_q_dLet {k : Int} (hk0 : 0 ≤ k ∧ k < 64) {f : ck_D} {j : Int → Int} (hf : co_wb k f) (hj : co_js f j) {a0 : Int} (ha0 : 0 ≤ a0 ∧ a0 < 4) {e0 : Int} (he0 : 0 ≤ e0 ∧ e0 < 4) : ck_qLet a0 e0 (co_enc f j) = co_enc (ck_dLet a0 e0 f) (j) := by
  obtain ⟨hk, hl, hh, hv, hz, ht⟩ := hf
  refine ck_P_ext (fun n a b => ?_) (fun n a b => ?_) (fun n a b => ?_) (fun q c e => ?_) (fun q c e => ?_) (fun q c e => ?_) (fun n q a b c e => ?_)
  · skip
    try unfold ck_dLet
    all_goals try simp only [co_e_K (n := n) a b, co_e_I (n := n) a b, co_e_L (n := n) a b, ck_N_kn a b, ck_N_lo a b]
    all_goals have := hk n
    all_goals try simp only [eq_self, if_true, ck_ml, ck_mh, ck_mlm, ck_mhm, ck_gr, ck_lw, ck_wo, ck_bL, ck_bH, ck_mx, ck_mn]
    all_goals ((repeat' split) <;> first | rfl | omega)
  · skip
    try unfold ck_dLet
    all_goals try simp only [co_e_K (n := n) a b, co_e_I (n := n) a b, co_e_L (n := n) a b, ck_N_kn a b, ck_N_lo a b]
    all_goals try simp only [eq_self, if_true, ck_ml, ck_mh, ck_mlm, ck_mhm, ck_gr, ck_lw, ck_wo, ck_bL, ck_bH, ck_mx, ck_mn]
    all_goals ((repeat' split) <;> first | rfl | omega)
  · skip
    try unfold ck_dLet
    all_goals try simp only [co_e_K (n := n) a b, co_e_I (n := n) a b, co_e_L (n := n) a b, ck_N_kn a b, ck_N_lo a b]
    all_goals have := hl n
    all_goals try simp only [eq_self, if_true, ck_ml, ck_mh, ck_mlm, ck_mhm, ck_gr, ck_lw, ck_wo, ck_bL, ck_bH, ck_mx, ck_mn]
    all_goals ((repeat' split) <;> first | rfl | omega)
  · skip
    try unfold ck_dLet
    all_goals try simp only [co_e_V (r := q) c e, co_e_T (r := q) c e, co_e_G (r := q) c e, co_e_V (r := e0) he0.1 he0.2, co_e_T (r := e0) he0.1 he0.2, co_e_G (r := e0) he0.1 he0.2, ck_N_va c e, ck_N_sz c e, ck_N_th c e]
    all_goals have := (hv q)
    all_goals have := (hv e0)
    all_goals try simp only [eq_self, if_true, ck_ml, ck_mh, ck_mlm, ck_mhm, ck_gr, ck_lw, ck_wo, ck_bL, ck_bH, ck_mx, ck_mn]
    all_goals ((repeat' split) <;> first | rfl | omega)
  · skip
    try unfold ck_dLet
    all_goals try simp only [co_e_V (r := q) c e, co_e_T (r := q) c e, co_e_G (r := q) c e, co_e_V (r := e0) he0.1 he0.2, co_e_T (r := e0) he0.1 he0.2, co_e_G (r := e0) he0.1 he0.2, ck_N_va c e, ck_N_sz c e, ck_N_th c e]
    all_goals have := ht q
    all_goals try simp only [co_ev_eq (hv q).1 (hv e0).1]
    all_goals try simp only [co_ev_zero (hv q).1]
    all_goals try simp only [eq_self, if_true, ck_ml, ck_mh, ck_mlm, ck_mhm, ck_gr, ck_lw, ck_wo, ck_bL, ck_bH, ck_mx, ck_mn]
    all_goals ((repeat' split) <;> first | rfl | omega)
  · skip
    try unfold ck_dLet
    all_goals try simp only [co_e_V (r := q) c e, co_e_T (r := q) c e, co_e_G (r := q) c e, co_e_V (r := e0) he0.1 he0.2, co_e_T (r := e0) he0.1 he0.2, co_e_G (r := e0) he0.1 he0.2, ck_N_va c e, ck_N_sz c e, ck_N_th c e]
    all_goals have := hz q
    all_goals try simp only [eq_self, if_true, ck_ml, ck_mh, ck_mlm, ck_mhm, ck_gr, ck_lw, ck_wo, ck_bL, ck_bH, ck_mx, ck_mn]
    all_goals ((repeat' split) <;> first | rfl | omega)
  · skip
    try unfold ck_dLet
    all_goals try simp only [co_e_K (n := n) a b, co_e_I (n := n) a b, co_e_L (n := n) a b, co_e_V (r := q) c e, co_e_T (r := q) c e, co_e_G (r := q) c e, co_e_V (r := e0) he0.1 he0.2, co_e_T (r := e0) he0.1 he0.2, co_e_G (r := e0) he0.1 he0.2, co_e_H (n := n) (r := q) a b c e, co_e_H (n := n) (r := e0) a b he0.1 he0.2, ck_N_hi a b c e, ck_hoc, ck_ag]
    all_goals have := hh n q
    all_goals have := hh n e0
    all_goals have := hz q
    all_goals try simp only [co_ev_eq (hv q).1 (hv e0).1]
    all_goals try simp only [co_ev_zero (hv q).1]
    all_goals try simp only [eq_self, if_true, ck_ml, ck_mh, ck_mlm, ck_mhm, ck_gr, ck_lw, ck_wo, ck_bL, ck_bH, ck_mx, ck_mn]
    all_goals ((repeat' split) <;> first | rfl | omega)
theorem co_q_dBel0 {k : Int} (hk0 : 0 ≤ k ∧ k < 64) {f : ck_D} {j : Int → Int} (hf : co_wb k f) (hj : co_js f j) {x : Int} (hx : 0 ≤ x ∧ x < 10) {y : Int} (hy : 0 ≤ y ∧ y < 10) {z : Int} (hz0 : -100 ≤ z ∧ z ≤ 100) : ck_qBel x y z (co_enc f j) = co_enc (ck_dBel x y z f) (j) := by
  obtain ⟨hk, hl, hh, hv, hz, ht⟩ := hf
  refine ck_P_ext (fun n a b => ?_) (fun n a b => ?_) (fun n a b => ?_) (fun q c e => ?_) (fun q c e => ?_) (fun q c e => ?_) (fun n q a b c e => ?_)
  · skip
    try unfold ck_dBel
    all_goals try simp only [co_e_K (n := n) a b, co_e_I (n := n) a b, co_e_L (n := n) a b, co_e_K (n := x) hx.1 hx.2, co_e_I (n := x) hx.1 hx.2, co_e_L (n := x) hx.1 hx.2, co_e_K (n := y) hy.1 hy.2, co_e_I (n := y) hy.1 hy.2, co_e_L (n := y) hy.1 hy.2, ck_N_kn a b, ck_N_lo a b]
    all_goals have := hk n
    all_goals have := hk x
    all_goals have := hk y
    all_goals try simp only [eq_self, if_true, ck_ml, ck_mh, ck_mlm, ck_mhm, ck_gr, ck_lw, ck_wo, ck_bL, ck_bH, ck_mx, ck_mn]
    all_goals ((repeat' split) <;> first | rfl | omega)
  · skip
    try unfold ck_dBel
    all_goals try simp only [co_e_K (n := n) a b, co_e_I (n := n) a b, co_e_L (n := n) a b, co_e_K (n := x) hx.1 hx.2, co_e_I (n := x) hx.1 hx.2, co_e_L (n := x) hx.1 hx.2, co_e_K (n := y) hy.1 hy.2, co_e_I (n := y) hy.1 hy.2, co_e_L (n := y) hy.1 hy.2, ck_N_kn a b, ck_N_lo a b]
    all_goals try simp only [eq_self, if_true, ck_ml, ck_mh, ck_mlm, ck_mhm, ck_gr, ck_lw, ck_wo, ck_bL, ck_bH, ck_mx, ck_mn]
    all_goals ((repeat' split) <;> first | rfl | omega)
  · skip
    try unfold ck_dBel
    all_goals try simp only [co_e_K (n := n) a b, co_e_I (n := n) a b, co_e_L (n := n) a b, co_e_K (n := x) hx.1 hx.2, co_e_I (n := x) hx.1 hx.2, co_e_L (n := x) hx.1 hx.2, co_e_K (n := y) hy.1 hy.2, co_e_I (n := y) hy.1 hy.2, co_e_L (n := y) hy.1 hy.2, ck_N_kn a b, ck_N_lo a b]
    all_goals have := hl n
    all_goals have := hl x
    all_goals have := hl y
    all_goals try simp only [eq_self, if_true, ck_ml, ck_mh, ck_mlm, ck_mhm, ck_gr, ck_lw, ck_wo, ck_bL, ck_bH, ck_mx, ck_mn]
    all_goals ((repeat' split) <;> first | rfl | omega)
  · skip
    try unfold ck_dBel
    all_goals try simp only [co_e_V (r := q) c e, co_e_T (r := q) c e, co_e_G (r := q) c e, ck_N_va c e, ck_N_sz c e, ck_N_th c e]
    all_goals have := (hv q)
    all_goals try simp only [eq_self, if_true, ck_ml, ck_mh, ck_mlm, ck_mhm, ck_gr, ck_lw, ck_wo, ck_bL, ck_bH, ck_mx, ck_mn]
    all_goals ((repeat' split) <;> first | rfl | omega)
  · skip
    try unfold ck_dBel
    all_goals try simp only [co_e_V (r := q) c e, co_e_T (r := q) c e, co_e_G (r := q) c e, ck_N_va c e, ck_N_sz c e, ck_N_th c e]
    all_goals have := ht q
    all_goals try simp only [co_ev_zero (hv q).1]
    all_goals try simp only [eq_self, if_true, ck_ml, ck_mh, ck_mlm, ck_mhm, ck_gr, ck_lw, ck_wo, ck_bL, ck_bH, ck_mx, ck_mn]
    all_goals ((repeat' split) <;> first | rfl | omega)
  · skip
    try unfold ck_dBel
    all_goals try simp only [co_e_K (n := x) hx.1 hx.2, co_e_I (n := x) hx.1 hx.2, co_e_L (n := x) hx.1 hx.2, co_e_K (n := y) hy.1 hy.2, co_e_I (n := y) hy.1 hy.2, co_e_L (n := y) hy.1 hy.2, co_e_V (r := q) c e, co_e_T (r := q) c e, co_e_G (r := q) c e, ck_N_va c e, ck_N_sz c e, ck_N_th c e]
    all_goals have := hz q
    all_goals have := hk x
    all_goals have := hk y
    all_goals have := hj x hx.1 hx.2
    all_goals have := hj y hy.1 hy.2
    all_goals try simp only [eq_self, if_true, ck_ml, ck_mh, ck_mlm, ck_mhm, ck_gr, ck_lw, ck_wo, ck_bL, ck_bH, ck_mx, ck_mn]
    all_goals ((repeat' split) <;> first | rfl | omega)
  · skip
    try unfold ck_dBel
    all_goals try simp only [co_e_K (n := n) a b, co_e_I (n := n) a b, co_e_L (n := n) a b, co_e_K (n := x) hx.1 hx.2, co_e_I (n := x) hx.1 hx.2, co_e_L (n := x) hx.1 hx.2, co_e_K (n := y) hy.1 hy.2, co_e_I (n := y) hy.1 hy.2, co_e_L (n := y) hy.1 hy.2, co_e_V (r := q) c e, co_e_T (r := q) c e, co_e_G (r := q) c e, co_e_H (n := n) (r := q) a b c e, co_e_H (n := x) (r := q) hx.1 hx.2 c e, co_e_H (n := y) (r := q) hy.1 hy.2 c e, ck_N_hi a b c e, ck_hoc, ck_ag]
    all_goals have := hh n q
    all_goals have := hh x q
    all_goals have := hh y q
    all_goals have := hz q
    all_goals try simp only [co_ev_zero (hv q).1]
    all_goals try simp only [eq_self, if_true, ck_ml, ck_mh, ck_mlm, ck_mhm, ck_gr, ck_lw, ck_wo, ck_bL, ck_bH, ck_mx, ck_mn]
    all_goals ((repeat' split) <;> first | rfl | omega)
theorem co_q_dNot0 {k : Int} (hk0 : 0 ≤ k ∧ k < 64) {f : ck_D} {j : Int → Int} (hf : co_wb k f) (hj : co_js f j) {x : Int} (hx : 0 ≤ x ∧ x < 10) {y : Int} (hy : 0 ≤ y ∧ y < 10) {z : Int} (hz0 : -100 ≤ z ∧ z ≤ 100) : ck_qNot x y z (co_enc f j) = co_enc (ck_dNot x y z f) (j) := by
  obtain ⟨hk, hl, hh, hv, hz, ht⟩ := hf
  refine ck_P_ext (fun n a b => ?_) (fun n a b => ?_) (fun n a b => ?_) (fun q c e => ?_) (fun q c e => ?_) (fun q c e => ?_) (fun n q a b c e => ?_)
  · skip
    try unfold ck_dNot
    all_goals try simp only [co_e_K (n := n) a b, co_e_I (n := n) a b, co_e_L (n := n) a b, co_e_K (n := x) hx.1 hx.2, co_e_I (n := x) hx.1 hx.2, co_e_L (n := x) hx.1 hx.2, co_e_K (n := y) hy.1 hy.2, co_e_I (n := y) hy.1 hy.2, co_e_L (n := y) hy.1 hy.2, ck_N_kn a b, ck_N_lo a b]
    all_goals have := hk n
    all_goals have := hk x
    all_goals have := hk y
    all_goals try simp only [eq_self, if_true, ck_ml, ck_mh, ck_mlm, ck_mhm, ck_gr, ck_lw, ck_wo, ck_bL, ck_bH, ck_mx, ck_mn]
    all_goals ((repeat' split) <;> first | rfl | omega)
  · skip
    try unfold ck_dNot
    all_goals try simp only [co_e_K (n := n) a b, co_e_I (n := n) a b, co_e_L (n := n) a b, co_e_K (n := x) hx.1 hx.2, co_e_I (n := x) hx.1 hx.2, co_e_L (n := x) hx.1 hx.2, co_e_K (n := y) hy.1 hy.2, co_e_I (n := y) hy.1 hy.2, co_e_L (n := y) hy.1 hy.2, ck_N_kn a b, ck_N_lo a b]
    all_goals try simp only [eq_self, if_true, ck_ml, ck_mh, ck_mlm, ck_mhm, ck_gr, ck_lw, ck_wo, ck_bL, ck_bH, ck_mx, ck_mn]
    all_goals ((repeat' split) <;> first | rfl | omega)
  · skip
    try unfold ck_dNot
    all_goals try simp only [co_e_K (n := n) a b, co_e_I (n := n) a b, co_e_L (n := n) a b, co_e_K (n := x) hx.1 hx.2, co_e_I (n := x) hx.1 hx.2, co_e_L (n := x) hx.1 hx.2, co_e_K (n := y) hy.1 hy.2, co_e_I (n := y) hy.1 hy.2, co_e_L (n := y) hy.1 hy.2, ck_N_kn a b, ck_N_lo a b]
    all_goals have := hl n
    all_goals have := hl x
    all_goals have := hl y
    all_goals try simp only [eq_self, if_true, ck_ml, ck_mh, ck_mlm, ck_mhm, ck_gr, ck_lw, ck_wo, ck_bL, ck_bH, ck_mx, ck_mn]
    all_goals ((repeat' split) <;> first | rfl | omega)
  · skip
    try unfold ck_dNot
    all_goals try simp only [co_e_V (r := q) c e, co_e_T (r := q) c e, co_e_G (r := q) c e, ck_N_va c e, ck_N_sz c e, ck_N_th c e]
    all_goals have := (hv q)
    all_goals try simp only [eq_self, if_true, ck_ml, ck_mh, ck_mlm, ck_mhm, ck_gr, ck_lw, ck_wo, ck_bL, ck_bH, ck_mx, ck_mn]
    all_goals ((repeat' split) <;> first | rfl | omega)
  · skip
    try unfold ck_dNot
    all_goals try simp only [co_e_V (r := q) c e, co_e_T (r := q) c e, co_e_G (r := q) c e, ck_N_va c e, ck_N_sz c e, ck_N_th c e]
    all_goals have := ht q
    all_goals try simp only [co_ev_zero (hv q).1]
    all_goals try simp only [eq_self, if_true, ck_ml, ck_mh, ck_mlm, ck_mhm, ck_gr, ck_lw, ck_wo, ck_bL, ck_bH, ck_mx, ck_mn]
    all_goals ((repeat' split) <;> first | rfl | omega)
  · skip
    try unfold ck_dNot
    all_goals try simp only [co_e_K (n := x) hx.1 hx.2, co_e_I (n := x) hx.1 hx.2, co_e_L (n := x) hx.1 hx.2, co_e_K (n := y) hy.1 hy.2, co_e_I (n := y) hy.1 hy.2, co_e_L (n := y) hy.1 hy.2, co_e_V (r := q) c e, co_e_T (r := q) c e, co_e_G (r := q) c e, ck_N_va c e, ck_N_sz c e, ck_N_th c e]
    all_goals have := hz q
    all_goals have := hk x
    all_goals have := hk y
    all_goals have := hj x hx.1 hx.2
    all_goals have := hj y hy.1 hy.2
    all_goals try simp only [eq_self, if_true, ck_ml, ck_mh, ck_mlm, ck_mhm, ck_gr, ck_lw, ck_wo, ck_bL, ck_bH, ck_mx, ck_mn]
    all_goals ((repeat' split) <;> first | rfl | omega)
  · skip
    try unfold ck_dNot
    all_goals try simp only [co_e_K (n := n) a b, co_e_I (n := n) a b, co_e_L (n := n) a b, co_e_K (n := x) hx.1 hx.2, co_e_I (n := x) hx.1 hx.2, co_e_L (n := x) hx.1 hx.2, co_e_K (n := y) hy.1 hy.2, co_e_I (n := y) hy.1 hy.2, co_e_L (n := y) hy.1 hy.2, co_e_V (r := q) c e, co_e_T (r := q) c e, co_e_G (r := q) c e, co_e_H (n := n) (r := q) a b c e, co_e_H (n := x) (r := q) hx.1 hx.2 c e, co_e_H (n := y) (r := q) hy.1 hy.2 c e, ck_N_hi a b c e, ck_hoc, ck_ag]
    all_goals have := hh n q
    all_goals have := hh x q
    all_goals have := hh y q
    all_goals have := hz q
    all_goals try simp only [co_ev_zero (hv q).1]
    all_goals try simp only [eq_self, if_true, ck_ml, ck_mh, ck_mlm, ck_mhm, ck_gr, ck_lw, ck_wo, ck_bL, ck_bH, ck_mx, ck_mn]
    all_goals ((repeat' split) <;> first | rfl | omega)
theorem co_q_dBel1 {k : Int} (hk0 : 0 ≤ k ∧ k < 64) {f : ck_D} {j : Int → Int} (hf : co_wb k f) (hj : co_js f j) {x : Int} (hx : 0 ≤ x ∧ x < 10) {z : Int} (hz0 : -100 ≤ z ∧ z ≤ 100) : ck_qBel x 10 z (co_enc f j) = co_enc (ck_dBel x 10 z f) (j) := by
  obtain ⟨hk, hl, hh, hv, hz, ht⟩ := hf
  refine ck_P_ext (fun n a b => ?_) (fun n a b => ?_) (fun n a b => ?_) (fun q c e => ?_) (fun q c e => ?_) (fun q c e => ?_) (fun n q a b c e => ?_)
  · skip
    try unfold ck_dBel
    all_goals try simp only [co_e_K (n := n) a b, co_e_I (n := n) a b, co_e_L (n := n) a b, co_e_K (n := x) hx.1 hx.2, co_e_I (n := x) hx.1 hx.2, co_e_L (n := x) hx.1 hx.2, ck_N_kn a b, ck_N_lo a b]
    all_goals have := hk n
    all_goals have := hk x
    all_goals try simp only [eq_self, if_true, ck_ml, ck_mh, ck_mlm, ck_mhm, ck_gr, ck_lw, ck_wo, ck_bL, ck_bH, ck_mx, ck_mn]
    all_goals ((repeat' split) <;> first | rfl | omega)
  · skip
    try unfold ck_dBel
    all_goals try simp only [co_e_K (n := n) a b, co_e_I (n := n) a b, co_e_L (n := n) a b, co_e_K (n := x) hx.1 hx.2, co_e_I (n := x) hx.1 hx.2, co_e_L (n := x) hx.1 hx.2, ck_N_kn a b, ck_N_lo a b]
    all_goals try simp only [eq_self, if_true, ck_ml, ck_mh, ck_mlm, ck_mhm, ck_gr, ck_lw, ck_wo, ck_bL, ck_bH, ck_mx, ck_mn]
    all_goals ((repeat' split) <;> first | rfl | omega)
  · skip
    try unfold ck_dBel
    all_goals try simp only [co_e_K (n := n) a b, co_e_I (n := n) a b, co_e_L (n := n) a b, co_e_K (n := x) hx.1 hx.2, co_e_I (n := x) hx.1 hx.2, co_e_L (n := x) hx.1 hx.2, ck_N_kn a b, ck_N_lo a b]
    all_goals have := hl n
    all_goals have := hl x
    all_goals try simp only [eq_self, if_true, ck_ml, ck_mh, ck_mlm, ck_mhm, ck_gr, ck_lw, ck_wo, ck_bL, ck_bH, ck_mx, ck_mn]
    all_goals ((repeat' split) <;> first | rfl | omega)
  · skip
    try unfold ck_dBel
    all_goals try simp only [co_e_V (r := q) c e, co_e_T (r := q) c e, co_e_G (r := q) c e, ck_N_va c e, ck_N_sz c e, ck_N_th c e]
    all_goals have := (hv q)
    all_goals try simp only [eq_self, if_true, ck_ml, ck_mh, ck_mlm, ck_mhm, ck_gr, ck_lw, ck_wo, ck_bL, ck_bH, ck_mx, ck_mn]
    all_goals ((repeat' split) <;> first | rfl | omega)
  · skip
    try unfold ck_dBel
    all_goals try simp only [co_e_V (r := q) c e, co_e_T (r := q) c e, co_e_G (r := q) c e, ck_N_va c e, ck_N_sz c e, ck_N_th c e]
    all_goals have := ht q
    all_goals try simp only [co_ev_zero (hv q).1]
    all_goals try simp only [eq_self, if_true, ck_ml, ck_mh, ck_mlm, ck_mhm, ck_gr, ck_lw, ck_wo, ck_bL, ck_bH, ck_mx, ck_mn]
    all_goals ((repeat' split) <;> first | rfl | omega)
  · skip
    try unfold ck_dBel
    all_goals try simp only [co_e_K (n := x) hx.1 hx.2, co_e_I (n := x) hx.1 hx.2, co_e_L (n := x) hx.1 hx.2, co_e_V (r := q) c e, co_e_T (r := q) c e, co_e_G (r := q) c e, ck_N_va c e, ck_N_sz c e, ck_N_th c e]
    all_goals have := hz q
    all_goals have := hk x
    all_goals have := hj x hx.1 hx.2
    all_goals try simp only [eq_self, if_true, ck_ml, ck_mh, ck_mlm, ck_mhm, ck_gr, ck_lw, ck_wo, ck_bL, ck_bH, ck_mx, ck_mn]
    all_goals ((repeat' split) <;> first | rfl | omega)
  · skip
    try unfold ck_dBel
    all_goals try simp only [co_e_K (n := n) a b, co_e_I (n := n) a b, co_e_L (n := n) a b, co_e_K (n := x) hx.1 hx.2, co_e_I (n := x) hx.1 hx.2, co_e_L (n := x) hx.1 hx.2, co_e_V (r := q) c e, co_e_T (r := q) c e, co_e_G (r := q) c e, co_e_H (n := n) (r := q) a b c e, co_e_H (n := x) (r := q) hx.1 hx.2 c e, ck_N_hi a b c e, ck_hoc, ck_ag]
    all_goals have := hh n q
    all_goals have := hh x q
    all_goals have := hz q
    all_goals try simp only [co_ev_zero (hv q).1]
    all_goals try simp only [eq_self, if_true, ck_ml, ck_mh, ck_mlm, ck_mhm, ck_gr, ck_lw, ck_wo, ck_bL, ck_bH, ck_mx, ck_mn]
    all_goals ((repeat' split) <;> first | rfl | omega)
theorem co_q_dNot1 {k : Int} (hk0 : 0 ≤ k ∧ k < 64) {f : ck_D} {j : Int → Int} (hf : co_wb k f) (hj : co_js f j) {x : Int} (hx : 0 ≤ x ∧ x < 10) {z : Int} (hz0 : -100 ≤ z ∧ z ≤ 100) : ck_qNot x 10 z (co_enc f j) = co_enc (ck_dNot x 10 z f) (j) := by
  obtain ⟨hk, hl, hh, hv, hz, ht⟩ := hf
  refine ck_P_ext (fun n a b => ?_) (fun n a b => ?_) (fun n a b => ?_) (fun q c e => ?_) (fun q c e => ?_) (fun q c e => ?_) (fun n q a b c e => ?_)
  · skip
    try unfold ck_dNot
    all_goals try simp only [co_e_K (n := n) a b, co_e_I (n := n) a b, co_e_L (n := n) a b, co_e_K (n := x) hx.1 hx.2, co_e_I (n := x) hx.1 hx.2, co_e_L (n := x) hx.1 hx.2, ck_N_kn a b, ck_N_lo a b]
    all_goals have := hk n
    all_goals have := hk x
    all_goals try simp only [eq_self, if_true, ck_ml, ck_mh, ck_mlm, ck_mhm, ck_gr, ck_lw, ck_wo, ck_bL, ck_bH, ck_mx, ck_mn]
    all_goals ((repeat' split) <;> first | rfl | omega)
  · skip
    try unfold ck_dNot
    all_goals try simp only [co_e_K (n := n) a b, co_e_I (n := n) a b, co_e_L (n := n) a b, co_e_K (n := x) hx.1 hx.2, co_e_I (n := x) hx.1 hx.2, co_e_L (n := x) hx.1 hx.2, ck_N_kn a b, ck_N_lo a b]
    all_goals try simp only [eq_self, if_true, ck_ml, ck_mh, ck_mlm, ck_mhm, ck_gr, ck_lw, ck_wo, ck_bL, ck_bH, ck_mx, ck_mn]
    all_goals ((repeat' split) <;> first | rfl | omega)
  · skip
    try unfold ck_dNot
    all_goals try simp only [co_e_K (n := n) a b, co_e_I (n := n) a b, co_e_L (n := n) a b, co_e_K (n := x) hx.1 hx.2, co_e_I (n := x) hx.1 hx.2, co_e_L (n := x) hx.1 hx.2, ck_N_kn a b, ck_N_lo a b]
    all_goals have := hl n
    all_goals have := hl x
    all_goals try simp only [eq_self, if_true, ck_ml, ck_mh, ck_mlm, ck_mhm, ck_gr, ck_lw, ck_wo, ck_bL, ck_bH, ck_mx, ck_mn]
    all_goals ((repeat' split) <;> first | rfl | omega)
  · skip
    try unfold ck_dNot
    all_goals try simp only [co_e_V (r := q) c e, co_e_T (r := q) c e, co_e_G (r := q) c e, ck_N_va c e, ck_N_sz c e, ck_N_th c e]
    all_goals have := (hv q)
    all_goals try simp only [eq_self, if_true, ck_ml, ck_mh, ck_mlm, ck_mhm, ck_gr, ck_lw, ck_wo, ck_bL, ck_bH, ck_mx, ck_mn]
    all_goals ((repeat' split) <;> first | rfl | omega)
  · skip
    try unfold ck_dNot
    all_goals try simp only [co_e_V (r := q) c e, co_e_T (r := q) c e, co_e_G (r := q) c e, ck_N_va c e, ck_N_sz c e, ck_N_th c e]
    all_goals have := ht q
    all_goals try simp only [co_ev_zero (hv q).1]
    all_goals try simp only [eq_self, if_true, ck_ml, ck_mh, ck_mlm, ck_mhm, ck_gr, ck_lw, ck_wo, ck_bL, ck_bH, ck_mx, ck_mn]
    all_goals ((repeat' split) <;> first | rfl | omega)
  · skip
    try unfold ck_dNot
    all_goals try simp only [co_e_K (n := x) hx.1 hx.2, co_e_I (n := x) hx.1 hx.2, co_e_L (n := x) hx.1 hx.2, co_e_V (r := q) c e, co_e_T (r := q) c e, co_e_G (r := q) c e, ck_N_va c e, ck_N_sz c e, ck_N_th c e]
    all_goals have := hz q
    all_goals have := hk x
    all_goals have := hj x hx.1 hx.2
    all_goals try simp only [eq_self, if_true, ck_ml, ck_mh, ck_mlm, ck_mhm, ck_gr, ck_lw, ck_wo, ck_bL, ck_bH, ck_mx, ck_mn]
    all_goals ((repeat' split) <;> first | rfl | omega)
  · skip
    try unfold ck_dNot
    all_goals try simp only [co_e_K (n := n) a b, co_e_I (n := n) a b, co_e_L (n := n) a b, co_e_K (n := x) hx.1 hx.2, co_e_I (n := x) hx.1 hx.2, co_e_L (n := x) hx.1 hx.2, co_e_V (r := q) c e, co_e_T (r := q) c e, co_e_G (r := q) c e, co_e_H (n := n) (r := q) a b c e, co_e_H (n := x) (r := q) hx.1 hx.2 c e, ck_N_hi a b c e, ck_hoc, ck_ag]
    all_goals have := hh n q
    all_goals have := hh x q
    all_goals have := hz q
    all_goals try simp only [co_ev_zero (hv q).1]
    all_goals try simp only [eq_self, if_true, ck_ml, ck_mh, ck_mlm, ck_mhm, ck_gr, ck_lw, ck_wo, ck_bL, ck_bH, ck_mx, ck_mn]
    all_goals ((repeat' split) <;> first | rfl | omega)
theorem co_q_dFc {k : Int} (hk0 : 0 ≤ k ∧ k < 64) {f : ck_D} {j : Int → Int} (hf : co_wb k f) (hj : co_js f j) (nb ab : Int) : ck_qFc nb ab k (co_enc f j) = co_enc (ck_dFc nb ab k f) (j) := by
  obtain ⟨hk, hl, hh, hv, hz, ht⟩ := hf
  refine ck_P_ext (fun n a b => ?_) (fun n a b => ?_) (fun n a b => ?_) (fun q c e => ?_) (fun q c e => ?_) (fun q c e => ?_) (fun n q a b c e => ?_)
  · skip
    try unfold ck_dFc ck_dFcv
    all_goals try simp only [co_e_K (n := n) a b, co_e_I (n := n) a b, co_e_L (n := n) a b, ck_N_kn a b, ck_N_lo a b]
    all_goals have := hk n
    all_goals try simp only [eq_self, if_true, ck_ml, ck_mh, ck_mlm, ck_mhm, ck_gr, ck_lw, ck_wo, ck_bL, ck_bH, ck_mx, ck_mn]
    all_goals ((repeat' split) <;> first | rfl | omega)
  · skip
    try unfold ck_dFc ck_dFcv
    all_goals try simp only [co_e_K (n := n) a b, co_e_I (n := n) a b, co_e_L (n := n) a b, ck_N_kn a b, ck_N_lo a b]
    all_goals try simp only [eq_self, if_true, ck_ml, ck_mh, ck_mlm, ck_mhm, ck_gr, ck_lw, ck_wo, ck_bL, ck_bH, ck_mx, ck_mn]
    all_goals ((repeat' split) <;> first | rfl | omega)
  · skip
    try unfold ck_dFc ck_dFcv
    all_goals try simp only [co_e_K (n := n) a b, co_e_I (n := n) a b, co_e_L (n := n) a b, ck_N_kn a b, ck_N_lo a b]
    all_goals have := hl n
    all_goals try simp only [eq_self, if_true, ck_ml, ck_mh, ck_mlm, ck_mhm, ck_gr, ck_lw, ck_wo, ck_bL, ck_bH, ck_mx, ck_mn]
    all_goals ((repeat' split) <;> first | rfl | omega)
  · skip
    try unfold ck_dFc ck_dFcv
    all_goals try simp only [co_e_V (r := q) c e, co_e_T (r := q) c e, co_e_G (r := q) c e, ck_N_va c e, ck_N_sz c e, ck_N_th c e]
    all_goals have := (hv q)
    all_goals try simp only [eq_self, if_true, ck_ml, ck_mh, ck_mlm, ck_mhm, ck_gr, ck_lw, ck_wo, ck_bL, ck_bH, ck_mx, ck_mn]
    all_goals ((repeat' split) <;> first | rfl | omega)
  · skip
    try unfold ck_dFc ck_dFcv
    all_goals try simp only [co_e_V (r := q) c e, co_e_T (r := q) c e, co_e_G (r := q) c e, ck_N_va c e, ck_N_sz c e, ck_N_th c e]
    all_goals have := ht q
    all_goals try simp only [co_ev_zero (hv q).1]
    all_goals try simp only [eq_self, if_true, ck_ml, ck_mh, ck_mlm, ck_mhm, ck_gr, ck_lw, ck_wo, ck_bL, ck_bH, ck_mx, ck_mn]
    all_goals ((repeat' split) <;> first | rfl | omega)
  · skip
    try unfold ck_dFc ck_dFcv
    all_goals try simp only [co_e_V (r := q) c e, co_e_T (r := q) c e, co_e_G (r := q) c e, ck_N_va c e, ck_N_sz c e, ck_N_th c e]
    all_goals have := hz q
    all_goals try simp only [eq_self, if_true, ck_ml, ck_mh, ck_mlm, ck_mhm, ck_gr, ck_lw, ck_wo, ck_bL, ck_bH, ck_mx, ck_mn]
    all_goals ((repeat' split) <;> first | rfl | omega)
  · skip
    try unfold ck_dFc ck_dFcv
    all_goals try simp only [co_e_K (n := n) a b, co_e_I (n := n) a b, co_e_L (n := n) a b, co_e_V (r := q) c e, co_e_T (r := q) c e, co_e_G (r := q) c e, co_e_H (n := n) (r := q) a b c e, ck_N_hi a b c e, ck_hoc, ck_ag]
    all_goals have := hh n q
    all_goals have := hz q
    all_goals try simp only [co_ev_zero (hv q).1]
    all_goals try simp only [eq_self, if_true, ck_ml, ck_mh, ck_mlm, ck_mhm, ck_gr, ck_lw, ck_wo, ck_bL, ck_bH, ck_mx, ck_mn]
    all_goals ((repeat' split) <;> first | rfl | omega)
