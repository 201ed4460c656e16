theorem cx_max (a b : Int) (ha : ck_rg a) (hb : ck_rg b) (σ : ck_M) : ck_call 1 cm_Jm_max [.inl a, .inl b] σ (some (if a < b then b else a)) σ := by
  refine ck_call_of ?_
  refine ck_go_run 3 (X1 := (if a < b then 9 else 5, [some (.inl a), some (.inl b)], [], σ)) (ps := [ck_rg a, ck_rg b]) rfl ⟨ha, hb, trivial⟩ ?_
  refine ck_go_ite (fun h => ?_) (fun h => ?_)
  · refine ck_go_run 1 (X1 := (10, [some (.inl a), some (.inl b)], [.inl b], σ)) (ps := []) rfl trivial ?_
    exact ck_lfI (by rw [if_pos h]) rfl rfl rfl rfl
  · refine ck_go_run 2 (X1 := (10, [some (.inl a), some (.inl b)], [.inl a], σ)) (ps := []) rfl trivial ?_
    exact ck_lfI (by rw [if_neg h]) rfl rfl rfl rfl
