/-! One turn of the law, its calls with an exception to catch: both sides alike. -/
def lw_St (l : Launch) (s0 : State) (D : va_G) (ad : Nat → Nat) (cs : ck_Cs) (ao : Nat) (cL : ClassId) (y : MethodName) (ws : List Cond) (md2 : ck_MD) (d2 : Nat) (as2 : List ck_PV) (f : Nat → Int64) (c : Int) (σ : ck_M) : Prop :=
  ∃ (k : Int32) (b : Int) (σ1 σ2 : ck_M) (Pf : (Nat → Int64) → Prop), wr_Met l s0 D ad cs ao cL y ws as2 f σ k σ1 Pf ∧ ck_call d2 md2 (.inr (480, 3, 6) :: as2) σ1 (some b) σ2 ∧ Int32.ofInt (σ2 480 0) = k ∧ (k = 0 → ∀ f', Pf f' → f' 0 = (Int32.ofInt b).toInt64) ∧ co_GI (c + 8000) σ2
/-- the others -/
def lw_Su (md1 : ck_MD) (d1 : Nat) (md2 : ck_MD) (d2 : Nat) (as2 : List ck_PV) (c : Int) (σ : ck_M) : Prop :=
  ∃ (a : Int) (σ1 σ2 : ck_M), ck_call d1 md1 (.inr (0, 3, 5) :: as2) σ (some a) σ1 ∧ ck_call d2 md2 (.inr (480, 3, 6) :: as2) σ1 (some a) σ2 ∧ co_GI (c + 8000) σ2
section LST
variable {l : Launch} {s0 : State} {D : va_G} {ad : Nat → Nat} {cs : ck_Cs} {ao : Nat} {cL : ClassId} {f : Nat → Int64} {c : Int} {σ : ck_M}
theorem lw_st_ok {y : MethodName} {ws : List Cond} {md1 md2 : ck_MD} {d1 d2 : Nat} {as2 : List ck_PV} {c' : Int} (hc : c' ≤ c + 8000) (hcal : ck_cal d1 md1 (.inr (0, 3, 5) :: as2) σ (fun q σ1 => ∃ a, q = some a ∧ ck_cal d2 md2 (.inr (480, 3, 6) :: as2) σ1 (fun q2 σ2 => q2 = some a ∧ σ2 480 0 = 0 ∧ co_GI c' σ2))) (hw : ∀ a σ1, ck_call d1 md1 (.inr (0, 3, 5) :: as2) σ (some a) σ1 → wr_Met l s0 D ad cs ao cL y ws as2 f σ 0 σ1 (fun f' => f' 0 = (Int32.ofInt a).toInt64)) : lw_St l s0 D ad cs ao cL y ws md2 d2 as2 f c σ := by
  obtain ⟨q, σ1, h1, a, rfl, q2, σ2, h2, rfl, h3, h4⟩ := hcal
  exact ⟨0, a, σ1, σ2, _, hw a σ1 h1, h2, by rw [h3]; rfl, fun _ f' h => h, co_GI_up hc h4⟩
theorem lw_st_th {y : MethodName} {ws : List Cond} {md2 : ck_MD} {d2 : Nat} {as2 : List ck_PV} {k : Int32} {kk : Int} (hk : Int32.ofInt kk = k) (hk0 : k ≠ 0) (hcal : ck_cal d2 md2 (.inr (480, 3, 6) :: as2) σ (fun q2 σ2 => q2 = some 0 ∧ σ2 480 0 = kk ∧ co_GI c σ2)) (hw : wr_Met l s0 D ad cs ao cL y ws as2 f σ k σ (fun _ => True)) : lw_St l s0 D ad cs ao cL y ws md2 d2 as2 f c σ := by
  obtain ⟨q2, σ2, h2, rfl, h3, h4⟩ := hcal
  exact ⟨k, 0, σ, σ2, _, hw, h2, by rw [h3]; exact hk, fun h => absurd h hk0, co_GI_up (by omega) h4⟩
theorem lw_su_ok {md1 md2 : ck_MD} {d1 d2 : Nat} {as2 : List ck_PV} (hcal : ck_cal d1 md1 (.inr (0, 3, 5) :: as2) σ (fun q σ1 => ∃ a, q = some a ∧ ck_cal d2 md2 (.inr (480, 3, 6) :: as2) σ1 (fun q2 σ2 => q2 = some a ∧ co_GI c σ2))) : lw_Su md1 d1 md2 d2 as2 c σ := by
  obtain ⟨q, σ1, h1, a, rfl, q2, σ2, h2, rfl, h4⟩ := hcal
  exact ⟨a, σ1, σ2, h1, h2, co_GI_up (by omega) h4⟩
theorem lw_st_put {t x y z : Int} (hfl : l.flags = flags0) (h0 : tw_W0 s0) (hwd : wr_D s0 ad ao) (ht : ck_rg t) (hx : ck_rg x) (hy : ck_rg y) (hz : ck_rg z) (h : co_GI c σ) : lw_St l s0 D ad cs ao cL wy_put ww_put cm_Mo_put 3 [.inl t, .inl x, .inl y, .inl z] f c σ := by
  by_cases hf : co_fit t x y z ∧ co_own t (σ 5 11) (σ 6 (σ 15 (σ 5 11 - 1))) (σ 11 (σ 15 (σ 5 11 - 1)))
  · exact lw_st_ok (c' := c) (by omega) (co_c_put ht hx hy hz h hf.1 hf.2) (fun a σ1 q => wr_put_0 hwd q)
  · obtain ⟨n1, n2, n3, n4, n5, n6⟩ := co_GI_n h
    obtain ⟨a1, a2⟩ := co_put_pre h
    refine lw_st_th (k := 1) (kk := 1) rfl (by decide) (co_x_put ht hx hy hz h hf) (wr_put_1 hfl h0 hwd (tw_put ht hx hy hz n2 (fun q => by have := a1 q; omega) (fun q => ?_) hf))
    have := a1 q
    exact ⟨ck_rgo (by omega) (by omega), ck_rgo (by omega) (by omega)⟩
theorem lw_st_give {v : Int} (hfl : l.flags = flags0) (h0 : tw_W0 s0) (hwd : wr_D s0 ad ao) (hv : ck_rg v) (h : co_GI c σ) : lw_St l s0 D ad cs ao cL wy_give ww_give cm_Mo_give 2 [.inl v] f c σ := by
  by_cases hf : -1000000 ≤ v ∧ v ≤ 1000000
  · exact lw_st_ok (c' := c) (by omega) (co_c_give hf h) (fun a σ1 q => wr_give_0 hwd q)
  · exact lw_st_th (k := 1) (kk := 1) rfl (by decide) (co_x_give hv h hf) (wr_give_1 hfl h0 hwd (tw_give hv hf))
theorem lw_st_start (hfl : l.flags = flags0) (h0 : tw_W0 s0) (hwd : wr_D s0 ad ao) (hc : 0 ≤ c) (h : co_GI c σ) : lw_St l s0 D ad cs ao cL wy_start ww_start cm_Mo_start 6 [] f c σ := by
  obtain ⟨n1, n2, n3, n4, n5, n6⟩ := co_GI_n h
  by_cases hf : σ 5 11 = 0
  · exact lw_st_ok (c' := c) (by omega) (co_c_start h hc hf) (fun a σ1 q => wr_start_0 hwd q)
  · exact lw_st_th (k := 1) (kk := 1) rfl (by decide) (co_x_start h (by omega)) (wr_start_1 hfl h0 hwd (tw_start ⟨by omega, by omega⟩))
theorem lw_st_run {n : Int} (hfl : l.flags = flags0) (h0 : tw_W0 s0) (hwd : wr_D s0 ad ao) (hn : ck_rg n) (hc : c ≤ 100000000) (h : co_GI c σ) : lw_St l s0 D ad cs ao cL wy_run ww_run cm_Mo_run 7 [.inl n] f c σ := by
  obtain ⟨n1, n2, n3, n4, n5, n6⟩ := co_GI_n h
  by_cases hf : σ 1 8 = 1 ∧ σ 1 9 = 0
  · by_cases hN : 1 ≤ n ∧ n ≤ 2000
    · exact lw_st_ok (c' := c + 8000) (by omega) (co_c_run hN h hc hf.1 hf.2) (fun a σ1 q => wr_run_0 hwd q)
    · exact lw_st_th (k := 2) (kk := 2) rfl (by decide) (co_x_run2 hn h hf.1 hf.2 hN) (wr_run_2 hfl h0 hwd (tw_run2 hn hf.1 hf.2 hN))
  · refine lw_st_th (k := 1) (kk := 1) rfl (by decide) (co_x_run1 hn h hf) (wr_run_1 hfl h0 hwd (tw_run1 n6 (fun q => ?_) hf))
    have e9 : σ 1 9 = σ 480 21 := h.2.2.2.1.2.2.2.2.2.1.1
    obtain ⟨p, l, -, -, -, -, -, hi⟩ := co_GI_run h q
    have := hi.2.2.1
    exact ck_rgo (by omega) (by omega)
theorem lw_st_needless {k : Int} (hfl : l.flags = flags0) (h0 : tw_W0 s0) (hwd : wr_D s0 ad ao) (hk : ck_rg k) (h : co_GI c σ) : lw_St l s0 D ad cs ao cL wy_needless ww_needless cm_Mo_needless 3 [.inl k] f c σ := by
  obtain ⟨n1, n2, n3, n4, n5, n6⟩ := co_GI_n h
  rcases n6 with hb | hb
  · exact lw_st_th (k := 1) (kk := 1) rfl (by decide) (co_x_needless1 hk h hb) (wr_needless_1 hfl h0 hwd (tw_needless1 hb))
  · by_cases hf : 0 ≤ k ∧ k < σ 5 10
    · exact lw_st_ok (c' := c) (by omega) (co_c_needless h hb hf) (fun a σ1 q => wr_needless_0 hwd q)
    · exact lw_st_th (k := 2) (kk := 2) rfl (by decide) (co_x_needless2 hk h hb hf) (wr_needless_2 hfl h0 hwd (tw_needless2 hk hb n1 hf))
theorem lw_st_least {k u : Int} (hfl : l.flags = flags0) (h0 : tw_W0 s0) (hwd : wr_D s0 ad ao) (hk : ck_rg k) (hu : ck_rg u) (h : co_GI c σ) : lw_St l s0 D ad cs ao cL wy_least ww_least cm_Mo_least 3 [.inl k, .inl u] f c σ := by
  obtain ⟨n1, n2, n3, n4, n5, n6⟩ := co_GI_n h
  rcases n6 with hb | hb
  · exact lw_st_th (k := 1) (kk := 1) rfl (by decide) (co_x_least1 hk hu h hb) (wr_least_1 hfl h0 hwd (tw_least1 hb))
  · by_cases hf : (0 ≤ k ∧ k < σ 5 10) ∧ 0 ≤ u ∧ u < 10
    · exact lw_st_ok (c' := c) (by omega) (co_c_least h hb hf.1 hf.2) (fun a σ1 q => wr_least_0 hwd q)
    · exact lw_st_th (k := 2) (kk := 2) rfl (by decide) (co_x_least2 hk hu h hb hf) (wr_least_2 hfl h0 hwd (tw_least2 hk hu hb n1 hf))
theorem lw_st_highest {k u r : Int} (hfl : l.flags = flags0) (h0 : tw_W0 s0) (hwd : wr_D s0 ad ao) (hk : ck_rg k) (hu : ck_rg u) (hr : ck_rg r) (h : co_GI c σ) : lw_St l s0 D ad cs ao cL wy_highest ww_highest cm_Mo_highest 3 [.inl k, .inl u, .inl r] f c σ := by
  obtain ⟨n1, n2, n3, n4, n5, n6⟩ := co_GI_n h
  rcases n6 with hb | hb
  · exact lw_st_th (k := 1) (kk := 1) rfl (by decide) (co_x_highest1 hk hu hr h hb) (wr_highest_1 hfl h0 hwd (tw_highest1 hb))
  · by_cases hf : (0 ≤ k ∧ k < σ 5 10) ∧ (0 ≤ u ∧ u < 10) ∧ 0 ≤ r ∧ r < 4
    · exact lw_st_ok (c' := c) (by omega) (co_c_highest h hb hf.1 hf.2.1 hf.2.2) (fun a σ1 q => wr_highest_0 hwd q)
    · exact lw_st_th (k := 2) (kk := 2) rfl (by decide) (co_x_highest2 hk hu hr h hb hf) (wr_highest_2 hfl h0 hwd (tw_highest2 hk hu hr hb n1 hf))
theorem lw_su_clear (h : co_GI c σ) : lw_Su cm_Cs_clear 2 cm_Mo_clear 1 [] c σ := lw_su_ok (co_c_clear h)
theorem lw_su_output {k : Int} (hk : ck_rg k) (hc : c ≤ 1000000000) (h : co_GI c σ) : lw_Su cm_Cs_output 3 cm_Mo_output 2 [.inl k] c σ := lw_su_ok (co_c_output hk h hc)
theorem lw_su_state {k : Int} (hk : ck_rg k) (h : co_GI c σ) : lw_Su cm_Cs_state 2 cm_Mo_state 1 [.inl k] c σ := lw_su_ok (co_c_state hk h)
theorem lw_su_number {k : Int} (hk : ck_rg k) (h : co_GI c σ) : lw_Su cm_Cs_number 2 cm_Mo_number 2 [.inl k] c σ := lw_su_ok (co_c_number hk h)
theorem lw_su_length {k : Int} (hk : ck_rg k) (h : co_GI c σ) : lw_Su cm_Cs_length 2 cm_Mo_length 2 [.inl k] c σ := lw_su_ok (co_c_length hk h)
theorem lw_su_place {k j : Int} (hk : ck_rg k) (hj : ck_rg j) (h : co_GI c σ) : lw_Su cm_Cs_place 4 cm_Mo_place 2 [.inl k, .inl j] c σ := lw_su_ok (co_c_place hk hj h)
end LST
