/-! Which calls throw, and what. -/
def tw_T (d : Nat) (md : ck_MD) (σ : ck_M) (E : String) : ck_F → Prop := fun X => X.2.2.2 = σ ∧ ((tw_site md X.1 E ∧ X.2.2.1 = []) ∨ ((ck_mN md).cls = "CheckSaver" ∧ ∃ md' as' rest, ck_at md X md' as' rest ∧ tw_thw d md' as' σ E))
theorem tw_of {d : Nat} {md : ck_MD} {as : List ck_PV} {σ : ck_M} {E : String} (h : ck_go d md (ck_ent md as σ) (tw_T d md σ E)) : tw_thw (d + 1) md as σ E := h
theorem tw_end {d : Nat} {md : ck_MD} {pc : Nat} {ls : ck_Ls} {σ : ck_M} {E : String} (hs : tw_site md pc E) : ck_go d md (pc, ls, [], σ) (tw_T d md σ E) := ck_go_T ⟨rfl, Or.inl ⟨hs, rfl⟩⟩
theorem tw_pass {d : Nat} {md md' : ck_MD} {pc : Nat} {ls : ck_Ls} {st as rest : List ck_PV} {σ : ck_M} {E : String} (hn : (ck_mN md).cls = "CheckSaver") (hat : ck_at md (pc, ls, st, σ) md' as rest) (h : tw_thw d md' as σ E) : ck_go d md (pc, ls, st, σ) (tw_T d md σ E) := ck_go_T ⟨rfl, Or.inr ⟨hn, md', as, rest, hat, h⟩⟩
theorem tw_s_put : tw_site cm_Cs_put 22 "java/lang/IllegalArgumentException" := ⟨rfl, 43, 45, by decide, by decide +kernel, by decide +kernel, by decide +kernel, by decide +kernel⟩
theorem tw_s_give : tw_site cm_Cs_give 12 "java/lang/IllegalArgumentException" := ⟨rfl, 43, 45, by decide, by decide +kernel, by decide +kernel, by decide +kernel, by decide +kernel⟩
theorem tw_s_start : tw_site cm_Cs_start 10 "java/lang/IllegalStateException" := ⟨rfl, 74, 76, by decide, by decide +kernel, by decide +kernel, by decide +kernel, by decide +kernel⟩
theorem tw_s_run1 : tw_site cm_Cs_run 20 "java/lang/IllegalStateException" := ⟨rfl, 74, 76, by decide, by decide +kernel, by decide +kernel, by decide +kernel, by decide +kernel⟩
theorem tw_s_run2 : tw_site cm_Cs_run 40 "java/lang/IllegalArgumentException" := ⟨rfl, 43, 45, by decide, by decide +kernel, by decide +kernel, by decide +kernel, by decide +kernel⟩
theorem tw_s_reqS : tw_site cm_Cs_requireStatement 10 "java/lang/IllegalStateException" := ⟨rfl, 74, 76, by decide, by decide +kernel, by decide +kernel, by decide +kernel, by decide +kernel⟩
theorem tw_s_reqI : tw_site cm_Cs_requireIndex 9 "java/lang/IndexOutOfBoundsException" := ⟨rfl, 145, 147, by decide, by decide +kernel, by decide +kernel, by decide +kernel, by decide +kernel⟩
theorem tw_reqI (d : Nat) {j b : Int} (hj : ck_rg j) (hb : 0 ≤ b ∧ b ≤ 64) (h : ¬ (0 ≤ j ∧ j < b)) (σ : ck_M) : tw_thw (d + 1) cm_Cs_requireIndex [.inl j, .inl b] σ "java/lang/IndexOutOfBoundsException" := by
  refine tw_of ?_
  refine ck_go_run 2 (X1 := (if j < 0 then 9 else 4, [some (.inl j), some (.inl b)], [], σ)) (ps := [ck_rg j]) rfl ⟨hj, trivial⟩ ?_
  refine ck_go_ite (fun _ => tw_end tw_s_reqI) (fun h1 => ?_)
  refine ck_go_run 3 (X1 := (if j < b then 17 else 9, [some (.inl j), some (.inl b)], [], σ)) (ps := [ck_rg j, ck_rg b]) rfl ⟨hj, (ck_rgo (by omega) (by omega)), trivial⟩ ?_
  exact ck_go_f (by omega) (tw_end tw_s_reqI)
theorem tw_reqS1 (d : Nat) {k : Int} {σ : ck_M} (hb : σ 1 8 = 0) : tw_thw (d + 1) cm_Cs_requireStatement [.inr (0, 3, 5), .inl k] σ "java/lang/IllegalStateException" := by
  refine tw_of ?_
  refine ck_go_run 4 (X1 := (if σ 1 8 = 0 then 10 else 18, [some (.inr (0, 3, 5)), some (.inl k)], [], σ)) (ps := [ck_rg (σ 1 8)]) rfl ⟨(ck_rgo (by omega) (by omega)), trivial⟩ ?_
  exact ck_go_t hb (tw_end tw_s_reqS)
theorem tw_reqS2 (d : Nat) {k : Int} {σ : ck_M} (hk : ck_rg k) (hb : σ 1 8 = 1) (hn : 0 ≤ σ 5 10 ∧ σ 5 10 ≤ 64) (h : ¬ (0 ≤ k ∧ k < σ 5 10)) : tw_thw (d + 2) cm_Cs_requireStatement [.inr (0, 3, 5), .inl k] σ "java/lang/IndexOutOfBoundsException" := by
  refine tw_of ?_
  refine ck_go_run 4 (X1 := (if σ 1 8 = 0 then 10 else 18, [some (.inr (0, 3, 5)), some (.inl k)], [], σ)) (ps := [ck_rg (σ 1 8)]) rfl ⟨(ck_rgo (by omega) (by omega)), trivial⟩ ?_
  refine ck_go_f (by omega) ?_
  refine ck_go_run 4 (X1 := (26, [some (.inr (0, 3, 5)), some (.inl k)], [.inl (σ 5 10), .inl k], σ)) (ps := []) rfl trivial ?_
  exact tw_pass (rest := []) rfl ⟨_, rfl, Or.inr ⟨_, rfl⟩, rfl, rfl, rfl, Nat.le_of_ble_eq_true rfl, fun h => absurd h (by decide)⟩ (tw_reqI d hk hn h σ)
theorem tw_put {t x y z : Int} (ht : ck_rg t) (hx : ck_rg x) (hy : ck_rg y) (hz : ck_rg z) {σ : ck_M} (hd : 0 ≤ σ 5 11 ∧ σ 5 11 ≤ 8) (ho : 0 < σ 5 11 → 0 ≤ σ 15 (σ 5 11 - 1) ∧ σ 15 (σ 5 11 - 1) < 64) (hs : 0 < σ 5 11 → ck_rg (σ 6 (σ 15 (σ 5 11 - 1))) ∧ ck_rg (σ 11 (σ 15 (σ 5 11 - 1)))) (hf : ¬ (co_fit t x y z ∧ co_own t (σ 5 11) (σ 6 (σ 15 (σ 5 11 - 1))) (σ 11 (σ 15 (σ 5 11 - 1))))) : tw_thw 3 cm_Cs_put [.inr (0, 3, 5), .inl t, .inl x, .inl y, .inl z] σ "java/lang/IllegalArgumentException" := by
  refine tw_of ?_
  refine ck_go_run 4 (X1 := (5, [some (.inr (0, 3, 5)), some (.inl t), some (.inl x), some (.inl y), some (.inl z)], [.inl z, .inl y, .inl x, .inl t], σ)) (ps := []) rfl trivial ?_
  refine ck_go_cal (rest := []) (ck_cal_le (by decide) (cx_fits ht hx hy hz _)) ⟨_, rfl, Or.inr ⟨_, rfl⟩, rfl, rfl, rfl, Nat.le_of_ble_eq_true rfl, fun h => absurd h (by decide)⟩ ?_
  rintro _ s' ⟨⟨r, rfl, hr⟩, e'⟩
  rw [e']
  clear e' s'
  refine ck_go_run 1 (X1 := (if r = 0 then 22 else 11, [some (.inr (0, 3, 5)), some (.inl t), some (.inl x), some (.inl y), some (.inl z)], [], σ)) (ps := [ck_rg r]) rfl ⟨by rcases hr with ⟨e, -⟩ | ⟨e, -⟩ <;> subst e <;> exact ⟨by decide, by decide⟩, trivial⟩ ?_
  refine ck_go_ite (fun _ => tw_end tw_s_put) (fun h1 => ?_)
  have hF : co_fit t x y z := by
    rcases hr with ⟨-, z2⟩ | ⟨z1, -⟩
    · exact z2
    · exact absurd z1 h1
  refine ck_go_run 3 (X1 := (16, [some (.inr (0, 3, 5)), some (.inl t), some (.inl x), some (.inl y), some (.inl z)], [.inl t, .inr (5, 3, 4)], σ)) (ps := []) rfl trivial ?_
  refine ck_go_cal (rest := []) (ck_cal_le (by decide) (cx_hasOwner (σ := σ) ht hd ho hs)) ⟨_, rfl, Or.inl ⟨_, rfl⟩, rfl, rfl, rfl, Nat.le_of_ble_eq_true rfl, fun _ => ⟨_, _, rfl⟩⟩ ?_
  rintro _ s' ⟨⟨r2, rfl, hr2⟩, e'⟩
  rw [e']
  clear e' s'
  have hr3 : r2 = 0 := by
    rcases hr2 with ⟨z1, z2⟩ | ⟨z1, z2⟩
    · exact absurd ⟨hF, z2⟩ hf
    · exact z1
  refine ck_go_run 1 (X1 := (if r2 = 0 then 22 else 30, [some (.inr (0, 3, 5)), some (.inl t), some (.inl x), some (.inl y), some (.inl z)], [], σ)) (ps := [ck_rg r2]) rfl ⟨(ck_rgo (by omega) (by omega)), trivial⟩ ?_
  exact ck_go_t hr3 (tw_end tw_s_put)
theorem tw_give {v : Int} (hv : ck_rg v) {σ : ck_M} (hf : ¬ (-1000000 ≤ v ∧ v ≤ 1000000)) : tw_thw 1 cm_Cs_give [.inr (0, 3, 5), .inl v] σ "java/lang/IllegalArgumentException" := by
  refine tw_of ?_
  refine ck_go_run 3 (X1 := (if v < (-1000000) then 12 else 6, [some (.inr (0, 3, 5)), some (.inl v)], [], σ)) (ps := [ck_rg v, ck_rg ((-1000000))]) rfl ⟨hv, (ck_rgo (by omega) (by omega)), trivial⟩ ?_
  refine ck_go_ite (fun _ => tw_end tw_s_give) (fun h1 => ?_)
  refine ck_go_run 3 (X1 := (if 1000000 < v then 12 else 20, [some (.inr (0, 3, 5)), some (.inl v)], [], σ)) (ps := [ck_rg v, ck_rg 1000000]) rfl ⟨hv, (ck_rgo (by omega) (by omega)), trivial⟩ ?_
  exact ck_go_t (by omega) (tw_end tw_s_give)
theorem tw_start {σ : ck_M} (hd : 0 < σ 5 11 ∧ σ 5 11 ≤ 8) : tw_thw 1 cm_Cs_start [.inr (0, 3, 5)] σ "java/lang/IllegalStateException" := by
  refine tw_of ?_
  refine ck_go_run 4 (X1 := (if 0 < σ 5 11 then 10 else 18, [some (.inr (0, 3, 5))], [], σ)) (ps := [ck_rg (σ 5 11)]) rfl ⟨(ck_rgo (by omega) (by omega)), trivial⟩ ?_
  exact ck_go_t hd.1 (tw_end tw_s_start)
theorem tw_run1 {N : Int} {σ : ck_M} (hb : σ 1 8 = 0 ∨ σ 1 8 = 1) (h9 : σ 1 8 = 1 → ck_rg (σ 1 9)) (hf : ¬ (σ 1 8 = 1 ∧ σ 1 9 = 0)) : tw_thw 1 cm_Cs_run [.inr (0, 3, 5), .inl N] σ "java/lang/IllegalStateException" := by
  refine tw_of ?_
  refine ck_go_run 4 (X1 := (if σ 1 8 = 0 then 20 else 10, [some (.inr (0, 3, 5)), some (.inl N)], [], σ)) (ps := [ck_rg (σ 1 8)]) rfl ⟨(ck_rgo (by omega) (by omega)), trivial⟩ ?_
  refine ck_go_ite (fun _ => tw_end tw_s_run1) (fun h1 => ?_)
  have h8 : σ 1 8 = 1 := hb.resolve_left h1
  refine ck_go_run 4 (X1 := (if σ 1 9 = 0 then 28 else 20, [some (.inr (0, 3, 5)), some (.inl N)], [], σ)) (ps := [ck_rg (σ 1 9)]) rfl ⟨h9 h8, trivial⟩ ?_
  exact ck_go_f (fun q => hf ⟨h8, q⟩) (tw_end tw_s_run1)
theorem tw_run2 {N : Int} {σ : ck_M} (hN : ck_rg N) (hb : σ 1 8 = 1) (h9 : σ 1 9 = 0) (hf : ¬ (1 ≤ N ∧ N ≤ 2000)) : tw_thw 1 cm_Cs_run [.inr (0, 3, 5), .inl N] σ "java/lang/IllegalArgumentException" := by
  refine tw_of ?_
  refine ck_go_run 4 (X1 := (if σ 1 8 = 0 then 20 else 10, [some (.inr (0, 3, 5)), some (.inl N)], [], σ)) (ps := [ck_rg (σ 1 8)]) rfl ⟨(ck_rgo (by omega) (by omega)), trivial⟩ ?_
  refine ck_go_f (by omega) ?_
  refine ck_go_run 4 (X1 := (if σ 1 9 = 0 then 28 else 20, [some (.inr (0, 3, 5)), some (.inl N)], [], σ)) (ps := [ck_rg (σ 1 9)]) rfl ⟨(ck_rgo (by omega) (by omega)), trivial⟩ ?_
  refine ck_go_t h9 ?_
  refine ck_go_run 3 (X1 := (if N < 1 then 40 else 33, [some (.inr (0, 3, 5)), some (.inl N)], [], σ)) (ps := [ck_rg N, ck_rg 1]) rfl ⟨hN, (ck_rgo (by omega) (by omega)), trivial⟩ ?_
  refine ck_go_ite (fun _ => tw_end tw_s_run2) (fun h1 => ?_)
  refine ck_go_run 3 (X1 := (if 2000 < N then 40 else 48, [some (.inr (0, 3, 5)), some (.inl N)], [], σ)) (ps := [ck_rg N, ck_rg 2000]) rfl ⟨hN, (ck_rgo (by omega) (by omega)), trivial⟩ ?_
  exact ck_go_t (by omega) (tw_end tw_s_run2)
theorem tw_needless1 {k : Int} {σ : ck_M} (hb : σ 1 8 = 0) : tw_thw 3 cm_Cs_needless [.inr (0, 3, 5), .inl k] σ "java/lang/IllegalStateException" := by
  refine tw_of ?_
  refine ck_go_run 2 (X1 := (2, [some (.inr (0, 3, 5)), some (.inl k)], [.inl k, .inr (0, 3, 5)], σ)) (ps := []) rfl trivial ?_
  exact tw_pass (rest := []) rfl ⟨_, rfl, Or.inl ⟨_, rfl⟩, rfl, rfl, rfl, Nat.le_of_ble_eq_true rfl, fun _ => ⟨_, _, rfl⟩⟩ (tw_reqS1 1 hb)
theorem tw_needless2 {k : Int} {σ : ck_M} (hk : ck_rg k) (hb : σ 1 8 = 1) (hn : 0 ≤ σ 5 10 ∧ σ 5 10 ≤ 64) (hf : ¬ (0 ≤ k ∧ k < σ 5 10)) : tw_thw 3 cm_Cs_needless [.inr (0, 3, 5), .inl k] σ "java/lang/IndexOutOfBoundsException" := by
  refine tw_of ?_
  refine ck_go_run 2 (X1 := (2, [some (.inr (0, 3, 5)), some (.inl k)], [.inl k, .inr (0, 3, 5)], σ)) (ps := []) rfl trivial ?_
  exact tw_pass (rest := []) rfl ⟨_, rfl, Or.inl ⟨_, rfl⟩, rfl, rfl, rfl, Nat.le_of_ble_eq_true rfl, fun _ => ⟨_, _, rfl⟩⟩ (tw_reqS2 0 hk hb hn hf)
theorem tw_least1 {k m : Int} {σ : ck_M} (hb : σ 1 8 = 0) : tw_thw 3 cm_Cs_least [.inr (0, 3, 5), .inl k, .inl m] σ "java/lang/IllegalStateException" := by
  refine tw_of ?_
  refine ck_go_run 2 (X1 := (2, [some (.inr (0, 3, 5)), some (.inl k), some (.inl m), none], [.inl k, .inr (0, 3, 5)], σ)) (ps := []) rfl trivial ?_
  exact tw_pass (rest := []) rfl ⟨_, rfl, Or.inl ⟨_, rfl⟩, rfl, rfl, rfl, Nat.le_of_ble_eq_true rfl, fun _ => ⟨_, _, rfl⟩⟩ (tw_reqS1 1 hb)
theorem tw_least2 {k m : Int} {σ : ck_M} (hk : ck_rg k) (hm : ck_rg m) (hb : σ 1 8 = 1) (hn : 0 ≤ σ 5 10 ∧ σ 5 10 ≤ 64) (hf : ¬ ((0 ≤ k ∧ k < σ 5 10) ∧ 0 ≤ m ∧ m < 10)) : tw_thw 3 cm_Cs_least [.inr (0, 3, 5), .inl k, .inl m] σ "java/lang/IndexOutOfBoundsException" := by
  refine tw_of ?_
  refine ck_go_run 2 (X1 := (2, [some (.inr (0, 3, 5)), some (.inl k), some (.inl m), none], [.inl k, .inr (0, 3, 5)], σ)) (ps := []) rfl trivial ?_
  by_cases c1 : 0 ≤ k ∧ k < σ 5 10
  · refine ck_go_cal (rest := []) (ck_cal_le (by decide) (cx_reqS (σ := σ) hb hn c1)) ⟨_, rfl, Or.inl ⟨_, rfl⟩, rfl, rfl, rfl, Nat.le_of_ble_eq_true rfl, fun _ => ⟨_, _, rfl⟩⟩ ?_
    rintro _ s' ⟨rfl, e'⟩
    rw [e']
    clear e' s'
    refine ck_go_run 2 (X1 := (8, [some (.inr (0, 3, 5)), some (.inl k), some (.inl m), none], [.inl 10, .inl m], σ)) (ps := []) rfl trivial ?_
    exact tw_pass (rest := []) rfl ⟨_, rfl, Or.inr ⟨_, rfl⟩, rfl, rfl, rfl, Nat.le_of_ble_eq_true rfl, fun h => absurd h (by decide)⟩ (tw_reqI 1 hm (by decide) (fun q => hf ⟨c1, q⟩) σ)
  · exact tw_pass (rest := []) rfl ⟨_, rfl, Or.inl ⟨_, rfl⟩, rfl, rfl, rfl, Nat.le_of_ble_eq_true rfl, fun _ => ⟨_, _, rfl⟩⟩ (tw_reqS2 0 hk hb hn c1)
theorem tw_highest1 {k m r : Int} {σ : ck_M} (hb : σ 1 8 = 0) : tw_thw 3 cm_Cs_highest [.inr (0, 3, 5), .inl k, .inl m, .inl r] σ "java/lang/IllegalStateException" := by
  refine tw_of ?_
  refine ck_go_run 2 (X1 := (2, [some (.inr (0, 3, 5)), some (.inl k), some (.inl m), some (.inl r)], [.inl k, .inr (0, 3, 5)], σ)) (ps := []) rfl trivial ?_
  exact tw_pass (rest := []) rfl ⟨_, rfl, Or.inl ⟨_, rfl⟩, rfl, rfl, rfl, Nat.le_of_ble_eq_true rfl, fun _ => ⟨_, _, rfl⟩⟩ (tw_reqS1 1 hb)
theorem tw_highest2 {k m r : Int} {σ : ck_M} (hk : ck_rg k) (hm : ck_rg m) (hr : ck_rg r) (hb : σ 1 8 = 1) (hn : 0 ≤ σ 5 10 ∧ σ 5 10 ≤ 64) (hf : ¬ ((0 ≤ k ∧ k < σ 5 10) ∧ (0 ≤ m ∧ m < 10) ∧ 0 ≤ r ∧ r < 4)) : tw_thw 3 cm_Cs_highest [.inr (0, 3, 5), .inl k, .inl m, .inl r] σ "java/lang/IndexOutOfBoundsException" := by
  refine tw_of ?_
  refine ck_go_run 2 (X1 := (2, [some (.inr (0, 3, 5)), some (.inl k), some (.inl m), some (.inl r)], [.inl k, .inr (0, 3, 5)], σ)) (ps := []) rfl trivial ?_
  by_cases c1 : 0 ≤ k ∧ k < σ 5 10
  · refine ck_go_cal (rest := []) (ck_cal_le (by decide) (cx_reqS (σ := σ) hb hn c1)) ⟨_, rfl, Or.inl ⟨_, rfl⟩, rfl, rfl, rfl, Nat.le_of_ble_eq_true rfl, fun _ => ⟨_, _, rfl⟩⟩ ?_
    rintro _ s' ⟨rfl, e'⟩
    rw [e']
    clear e' s'
    refine ck_go_run 2 (X1 := (8, [some (.inr (0, 3, 5)), some (.inl k), some (.inl m), some (.inl r)], [.inl 10, .inl m], σ)) (ps := []) rfl trivial ?_
    by_cases c2 : 0 ≤ m ∧ m < 10
    · refine ck_go_cal (rest := []) (ck_cal_le (by decide) (cx_reqI c2 (by decide) _)) ⟨_, rfl, Or.inr ⟨_, rfl⟩, rfl, rfl, rfl, Nat.le_of_ble_eq_true rfl, fun h => absurd h (by decide)⟩ ?_
      rintro _ s' ⟨rfl, e'⟩
      rw [e']
      clear e' s'
      refine ck_go_run 2 (X1 := (13, [some (.inr (0, 3, 5)), some (.inl k), some (.inl m), some (.inl r)], [.inl 4, .inl r], σ)) (ps := []) rfl trivial ?_
      exact tw_pass (rest := []) rfl ⟨_, rfl, Or.inr ⟨_, rfl⟩, rfl, rfl, rfl, Nat.le_of_ble_eq_true rfl, fun h => absurd h (by decide)⟩ (tw_reqI 1 hr (by decide) (fun q => hf ⟨c1, c2, q⟩) σ)
    · exact tw_pass (rest := []) rfl ⟨_, rfl, Or.inr ⟨_, rfl⟩, rfl, rfl, rfl, Nat.le_of_ble_eq_true rfl, fun h => absurd h (by decide)⟩ (tw_reqI 1 hm (by decide) c2 σ)
  · exact tw_pass (rest := []) rfl ⟨_, rfl, Or.inl ⟨_, rfl⟩, rfl, rfl, rfl, Nat.le_of_ble_eq_true rfl, fun _ => ⟨_, _, rfl⟩⟩ (tw_reqS2 0 hk hb hn c1)
