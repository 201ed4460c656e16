def ck_bc (x : Int) : Int := if x = 0 then 0 else if x = 1 ∨ x = 2 ∨ x = 4 then 1 else if x = 7 then 3 else 2
theorem cx_bitCount0 (σ : ck_M) : ck_cal 1 cm_Ji_bitCount [.inl 0] σ (fun q σ' => q = some (ck_bc 0) ∧ σ' = σ) := by
  refine ck_cal_of ?_
  refine ck_go_run 41 (X1 := (52, [some (.inl (((ck_and (((ck_and (0 - (ck_and (ck_ush 0 1) 1431655765)) 858993459) + (ck_and (ck_ush (0 - (ck_and (ck_ush 0 1) 1431655765)) 2) 858993459)) + (ck_ush ((ck_and (0 - (ck_and (ck_ush 0 1) 1431655765)) 858993459) + (ck_and (ck_ush (0 - (ck_and (ck_ush 0 1) 1431655765)) 2) 858993459)) 4)) 252645135) + (ck_ush (ck_and (((ck_and (0 - (ck_and (ck_ush 0 1) 1431655765)) 858993459) + (ck_and (ck_ush (0 - (ck_and (ck_ush 0 1) 1431655765)) 2) 858993459)) + (ck_ush ((ck_and (0 - (ck_and (ck_ush 0 1) 1431655765)) 858993459) + (ck_and (ck_ush (0 - (ck_and (ck_ush 0 1) 1431655765)) 2) 858993459)) 4)) 252645135) 8)) + (ck_ush ((ck_and (((ck_and (0 - (ck_and (ck_ush 0 1) 1431655765)) 858993459) + (ck_and (ck_ush (0 - (ck_and (ck_ush 0 1) 1431655765)) 2) 858993459)) + (ck_ush ((ck_and (0 - (ck_and (ck_ush 0 1) 1431655765)) 858993459) + (ck_and (ck_ush (0 - (ck_and (ck_ush 0 1) 1431655765)) 2) 858993459)) 4)) 252645135) + (ck_ush (ck_and (((ck_and (0 - (ck_and (ck_ush 0 1) 1431655765)) 858993459) + (ck_and (ck_ush (0 - (ck_and (ck_ush 0 1) 1431655765)) 2) 858993459)) + (ck_ush ((ck_and (0 - (ck_and (ck_ush 0 1) 1431655765)) 858993459) + (ck_and (ck_ush (0 - (ck_and (ck_ush 0 1) 1431655765)) 2) 858993459)) 4)) 252645135) 8)) 16)))], [.inl (ck_and (((ck_and (((ck_and (0 - (ck_and (ck_ush 0 1) 1431655765)) 858993459) + (ck_and (ck_ush (0 - (ck_and (ck_ush 0 1) 1431655765)) 2) 858993459)) + (ck_ush ((ck_and (0 - (ck_and (ck_ush 0 1) 1431655765)) 858993459) + (ck_and (ck_ush (0 - (ck_and (ck_ush 0 1) 1431655765)) 2) 858993459)) 4)) 252645135) + (ck_ush (ck_and (((ck_and (0 - (ck_and (ck_ush 0 1) 1431655765)) 858993459) + (ck_and (ck_ush (0 - (ck_and (ck_ush 0 1) 1431655765)) 2) 858993459)) + (ck_ush ((ck_and (0 - (ck_and (ck_ush 0 1) 1431655765)) 858993459) + (ck_and (ck_ush (0 - (ck_and (ck_ush 0 1) 1431655765)) 2) 858993459)) 4)) 252645135) 8)) + (ck_ush ((ck_and (((ck_and (0 - (ck_and (ck_ush 0 1) 1431655765)) 858993459) + (ck_and (ck_ush (0 - (ck_and (ck_ush 0 1) 1431655765)) 2) 858993459)) + (ck_ush ((ck_and (0 - (ck_and (ck_ush 0 1) 1431655765)) 858993459) + (ck_and (ck_ush (0 - (ck_and (ck_ush 0 1) 1431655765)) 2) 858993459)) 4)) 252645135) + (ck_ush (ck_and (((ck_and (0 - (ck_and (ck_ush 0 1) 1431655765)) 858993459) + (ck_and (ck_ush (0 - (ck_and (ck_ush 0 1) 1431655765)) 2) 858993459)) + (ck_ush ((ck_and (0 - (ck_and (ck_ush 0 1) 1431655765)) 858993459) + (ck_and (ck_ush (0 - (ck_and (ck_ush 0 1) 1431655765)) 2) 858993459)) 4)) 252645135) 8)) 16)) 63)], σ)) (ps := []) rfl trivial ?_
  exact ck_eI ⟨by decide +kernel, rfl⟩ rfl rfl rfl
theorem cx_bitCount1 (σ : ck_M) : ck_cal 1 cm_Ji_bitCount [.inl 1] σ (fun q σ' => q = some (ck_bc 1) ∧ σ' = σ) := by
  refine ck_cal_of ?_
  refine ck_go_run 41 (X1 := (52, [some (.inl (((ck_and (((ck_and (1 - (ck_and (ck_ush 1 1) 1431655765)) 858993459) + (ck_and (ck_ush (1 - (ck_and (ck_ush 1 1) 1431655765)) 2) 858993459)) + (ck_ush ((ck_and (1 - (ck_and (ck_ush 1 1) 1431655765)) 858993459) + (ck_and (ck_ush (1 - (ck_and (ck_ush 1 1) 1431655765)) 2) 858993459)) 4)) 252645135) + (ck_ush (ck_and (((ck_and (1 - (ck_and (ck_ush 1 1) 1431655765)) 858993459) + (ck_and (ck_ush (1 - (ck_and (ck_ush 1 1) 1431655765)) 2) 858993459)) + (ck_ush ((ck_and (1 - (ck_and (ck_ush 1 1) 1431655765)) 858993459) + (ck_and (ck_ush (1 - (ck_and (ck_ush 1 1) 1431655765)) 2) 858993459)) 4)) 252645135) 8)) + (ck_ush ((ck_and (((ck_and (1 - (ck_and (ck_ush 1 1) 1431655765)) 858993459) + (ck_and (ck_ush (1 - (ck_and (ck_ush 1 1) 1431655765)) 2) 858993459)) + (ck_ush ((ck_and (1 - (ck_and (ck_ush 1 1) 1431655765)) 858993459) + (ck_and (ck_ush (1 - (ck_and (ck_ush 1 1) 1431655765)) 2) 858993459)) 4)) 252645135) + (ck_ush (ck_and (((ck_and (1 - (ck_and (ck_ush 1 1) 1431655765)) 858993459) + (ck_and (ck_ush (1 - (ck_and (ck_ush 1 1) 1431655765)) 2) 858993459)) + (ck_ush ((ck_and (1 - (ck_and (ck_ush 1 1) 1431655765)) 858993459) + (ck_and (ck_ush (1 - (ck_and (ck_ush 1 1) 1431655765)) 2) 858993459)) 4)) 252645135) 8)) 16)))], [.inl (ck_and (((ck_and (((ck_and (1 - (ck_and (ck_ush 1 1) 1431655765)) 858993459) + (ck_and (ck_ush (1 - (ck_and (ck_ush 1 1) 1431655765)) 2) 858993459)) + (ck_ush ((ck_and (1 - (ck_and (ck_ush 1 1) 1431655765)) 858993459) + (ck_and (ck_ush (1 - (ck_and (ck_ush 1 1) 1431655765)) 2) 858993459)) 4)) 252645135) + (ck_ush (ck_and (((ck_and (1 - (ck_and (ck_ush 1 1) 1431655765)) 858993459) + (ck_and (ck_ush (1 - (ck_and (ck_ush 1 1) 1431655765)) 2) 858993459)) + (ck_ush ((ck_and (1 - (ck_and (ck_ush 1 1) 1431655765)) 858993459) + (ck_and (ck_ush (1 - (ck_and (ck_ush 1 1) 1431655765)) 2) 858993459)) 4)) 252645135) 8)) + (ck_ush ((ck_and (((ck_and (1 - (ck_and (ck_ush 1 1) 1431655765)) 858993459) + (ck_and (ck_ush (1 - (ck_and (ck_ush 1 1) 1431655765)) 2) 858993459)) + (ck_ush ((ck_and (1 - (ck_and (ck_ush 1 1) 1431655765)) 858993459) + (ck_and (ck_ush (1 - (ck_and (ck_ush 1 1) 1431655765)) 2) 858993459)) 4)) 252645135) + (ck_ush (ck_and (((ck_and (1 - (ck_and (ck_ush 1 1) 1431655765)) 858993459) + (ck_and (ck_ush (1 - (ck_and (ck_ush 1 1) 1431655765)) 2) 858993459)) + (ck_ush ((ck_and (1 - (ck_and (ck_ush 1 1) 1431655765)) 858993459) + (ck_and (ck_ush (1 - (ck_and (ck_ush 1 1) 1431655765)) 2) 858993459)) 4)) 252645135) 8)) 16)) 63)], σ)) (ps := []) rfl trivial ?_
  exact ck_eI ⟨by decide +kernel, rfl⟩ rfl rfl rfl
theorem cx_bitCount2 (σ : ck_M) : ck_cal 1 cm_Ji_bitCount [.inl 2] σ (fun q σ' => q = some (ck_bc 2) ∧ σ' = σ) := by
  refine ck_cal_of ?_
  refine ck_go_run 41 (X1 := (52, [some (.inl (((ck_and (((ck_and (2 - (ck_and (ck_ush 2 1) 1431655765)) 858993459) + (ck_and (ck_ush (2 - (ck_and (ck_ush 2 1) 1431655765)) 2) 858993459)) + (ck_ush ((ck_and (2 - (ck_and (ck_ush 2 1) 1431655765)) 858993459) + (ck_and (ck_ush (2 - (ck_and (ck_ush 2 1) 1431655765)) 2) 858993459)) 4)) 252645135) + (ck_ush (ck_and (((ck_and (2 - (ck_and (ck_ush 2 1) 1431655765)) 858993459) + (ck_and (ck_ush (2 - (ck_and (ck_ush 2 1) 1431655765)) 2) 858993459)) + (ck_ush ((ck_and (2 - (ck_and (ck_ush 2 1) 1431655765)) 858993459) + (ck_and (ck_ush (2 - (ck_and (ck_ush 2 1) 1431655765)) 2) 858993459)) 4)) 252645135) 8)) + (ck_ush ((ck_and (((ck_and (2 - (ck_and (ck_ush 2 1) 1431655765)) 858993459) + (ck_and (ck_ush (2 - (ck_and (ck_ush 2 1) 1431655765)) 2) 858993459)) + (ck_ush ((ck_and (2 - (ck_and (ck_ush 2 1) 1431655765)) 858993459) + (ck_and (ck_ush (2 - (ck_and (ck_ush 2 1) 1431655765)) 2) 858993459)) 4)) 252645135) + (ck_ush (ck_and (((ck_and (2 - (ck_and (ck_ush 2 1) 1431655765)) 858993459) + (ck_and (ck_ush (2 - (ck_and (ck_ush 2 1) 1431655765)) 2) 858993459)) + (ck_ush ((ck_and (2 - (ck_and (ck_ush 2 1) 1431655765)) 858993459) + (ck_and (ck_ush (2 - (ck_and (ck_ush 2 1) 1431655765)) 2) 858993459)) 4)) 252645135) 8)) 16)))], [.inl (ck_and (((ck_and (((ck_and (2 - (ck_and (ck_ush 2 1) 1431655765)) 858993459) + (ck_and (ck_ush (2 - (ck_and (ck_ush 2 1) 1431655765)) 2) 858993459)) + (ck_ush ((ck_and (2 - (ck_and (ck_ush 2 1) 1431655765)) 858993459) + (ck_and (ck_ush (2 - (ck_and (ck_ush 2 1) 1431655765)) 2) 858993459)) 4)) 252645135) + (ck_ush (ck_and (((ck_and (2 - (ck_and (ck_ush 2 1) 1431655765)) 858993459) + (ck_and (ck_ush (2 - (ck_and (ck_ush 2 1) 1431655765)) 2) 858993459)) + (ck_ush ((ck_and (2 - (ck_and (ck_ush 2 1) 1431655765)) 858993459) + (ck_and (ck_ush (2 - (ck_and (ck_ush 2 1) 1431655765)) 2) 858993459)) 4)) 252645135) 8)) + (ck_ush ((ck_and (((ck_and (2 - (ck_and (ck_ush 2 1) 1431655765)) 858993459) + (ck_and (ck_ush (2 - (ck_and (ck_ush 2 1) 1431655765)) 2) 858993459)) + (ck_ush ((ck_and (2 - (ck_and (ck_ush 2 1) 1431655765)) 858993459) + (ck_and (ck_ush (2 - (ck_and (ck_ush 2 1) 1431655765)) 2) 858993459)) 4)) 252645135) + (ck_ush (ck_and (((ck_and (2 - (ck_and (ck_ush 2 1) 1431655765)) 858993459) + (ck_and (ck_ush (2 - (ck_and (ck_ush 2 1) 1431655765)) 2) 858993459)) + (ck_ush ((ck_and (2 - (ck_and (ck_ush 2 1) 1431655765)) 858993459) + (ck_and (ck_ush (2 - (ck_and (ck_ush 2 1) 1431655765)) 2) 858993459)) 4)) 252645135) 8)) 16)) 63)], σ)) (ps := []) rfl trivial ?_
  exact ck_eI ⟨by decide +kernel, rfl⟩ rfl rfl rfl
theorem cx_bitCount3 (σ : ck_M) : ck_cal 1 cm_Ji_bitCount [.inl 3] σ (fun q σ' => q = some (ck_bc 3) ∧ σ' = σ) := by
  refine ck_cal_of ?_
  refine ck_go_run 41 (X1 := (52, [some (.inl (((ck_and (((ck_and (3 - (ck_and (ck_ush 3 1) 1431655765)) 858993459) + (ck_and (ck_ush (3 - (ck_and (ck_ush 3 1) 1431655765)) 2) 858993459)) + (ck_ush ((ck_and (3 - (ck_and (ck_ush 3 1) 1431655765)) 858993459) + (ck_and (ck_ush (3 - (ck_and (ck_ush 3 1) 1431655765)) 2) 858993459)) 4)) 252645135) + (ck_ush (ck_and (((ck_and (3 - (ck_and (ck_ush 3 1) 1431655765)) 858993459) + (ck_and (ck_ush (3 - (ck_and (ck_ush 3 1) 1431655765)) 2) 858993459)) + (ck_ush ((ck_and (3 - (ck_and (ck_ush 3 1) 1431655765)) 858993459) + (ck_and (ck_ush (3 - (ck_and (ck_ush 3 1) 1431655765)) 2) 858993459)) 4)) 252645135) 8)) + (ck_ush ((ck_and (((ck_and (3 - (ck_and (ck_ush 3 1) 1431655765)) 858993459) + (ck_and (ck_ush (3 - (ck_and (ck_ush 3 1) 1431655765)) 2) 858993459)) + (ck_ush ((ck_and (3 - (ck_and (ck_ush 3 1) 1431655765)) 858993459) + (ck_and (ck_ush (3 - (ck_and (ck_ush 3 1) 1431655765)) 2) 858993459)) 4)) 252645135) + (ck_ush (ck_and (((ck_and (3 - (ck_and (ck_ush 3 1) 1431655765)) 858993459) + (ck_and (ck_ush (3 - (ck_and (ck_ush 3 1) 1431655765)) 2) 858993459)) + (ck_ush ((ck_and (3 - (ck_and (ck_ush 3 1) 1431655765)) 858993459) + (ck_and (ck_ush (3 - (ck_and (ck_ush 3 1) 1431655765)) 2) 858993459)) 4)) 252645135) 8)) 16)))], [.inl (ck_and (((ck_and (((ck_and (3 - (ck_and (ck_ush 3 1) 1431655765)) 858993459) + (ck_and (ck_ush (3 - (ck_and (ck_ush 3 1) 1431655765)) 2) 858993459)) + (ck_ush ((ck_and (3 - (ck_and (ck_ush 3 1) 1431655765)) 858993459) + (ck_and (ck_ush (3 - (ck_and (ck_ush 3 1) 1431655765)) 2) 858993459)) 4)) 252645135) + (ck_ush (ck_and (((ck_and (3 - (ck_and (ck_ush 3 1) 1431655765)) 858993459) + (ck_and (ck_ush (3 - (ck_and (ck_ush 3 1) 1431655765)) 2) 858993459)) + (ck_ush ((ck_and (3 - (ck_and (ck_ush 3 1) 1431655765)) 858993459) + (ck_and (ck_ush (3 - (ck_and (ck_ush 3 1) 1431655765)) 2) 858993459)) 4)) 252645135) 8)) + (ck_ush ((ck_and (((ck_and (3 - (ck_and (ck_ush 3 1) 1431655765)) 858993459) + (ck_and (ck_ush (3 - (ck_and (ck_ush 3 1) 1431655765)) 2) 858993459)) + (ck_ush ((ck_and (3 - (ck_and (ck_ush 3 1) 1431655765)) 858993459) + (ck_and (ck_ush (3 - (ck_and (ck_ush 3 1) 1431655765)) 2) 858993459)) 4)) 252645135) + (ck_ush (ck_and (((ck_and (3 - (ck_and (ck_ush 3 1) 1431655765)) 858993459) + (ck_and (ck_ush (3 - (ck_and (ck_ush 3 1) 1431655765)) 2) 858993459)) + (ck_ush ((ck_and (3 - (ck_and (ck_ush 3 1) 1431655765)) 858993459) + (ck_and (ck_ush (3 - (ck_and (ck_ush 3 1) 1431655765)) 2) 858993459)) 4)) 252645135) 8)) 16)) 63)], σ)) (ps := []) rfl trivial ?_
  exact ck_eI ⟨by decide +kernel, rfl⟩ rfl rfl rfl
theorem cx_bitCount4 (σ : ck_M) : ck_cal 1 cm_Ji_bitCount [.inl 4] σ (fun q σ' => q = some (ck_bc 4) ∧ σ' = σ) := by
  refine ck_cal_of ?_
  refine ck_go_run 41 (X1 := (52, [some (.inl (((ck_and (((ck_and (4 - (ck_and (ck_ush 4 1) 1431655765)) 858993459) + (ck_and (ck_ush (4 - (ck_and (ck_ush 4 1) 1431655765)) 2) 858993459)) + (ck_ush ((ck_and (4 - (ck_and (ck_ush 4 1) 1431655765)) 858993459) + (ck_and (ck_ush (4 - (ck_and (ck_ush 4 1) 1431655765)) 2) 858993459)) 4)) 252645135) + (ck_ush (ck_and (((ck_and (4 - (ck_and (ck_ush 4 1) 1431655765)) 858993459) + (ck_and (ck_ush (4 - (ck_and (ck_ush 4 1) 1431655765)) 2) 858993459)) + (ck_ush ((ck_and (4 - (ck_and (ck_ush 4 1) 1431655765)) 858993459) + (ck_and (ck_ush (4 - (ck_and (ck_ush 4 1) 1431655765)) 2) 858993459)) 4)) 252645135) 8)) + (ck_ush ((ck_and (((ck_and (4 - (ck_and (ck_ush 4 1) 1431655765)) 858993459) + (ck_and (ck_ush (4 - (ck_and (ck_ush 4 1) 1431655765)) 2) 858993459)) + (ck_ush ((ck_and (4 - (ck_and (ck_ush 4 1) 1431655765)) 858993459) + (ck_and (ck_ush (4 - (ck_and (ck_ush 4 1) 1431655765)) 2) 858993459)) 4)) 252645135) + (ck_ush (ck_and (((ck_and (4 - (ck_and (ck_ush 4 1) 1431655765)) 858993459) + (ck_and (ck_ush (4 - (ck_and (ck_ush 4 1) 1431655765)) 2) 858993459)) + (ck_ush ((ck_and (4 - (ck_and (ck_ush 4 1) 1431655765)) 858993459) + (ck_and (ck_ush (4 - (ck_and (ck_ush 4 1) 1431655765)) 2) 858993459)) 4)) 252645135) 8)) 16)))], [.inl (ck_and (((ck_and (((ck_and (4 - (ck_and (ck_ush 4 1) 1431655765)) 858993459) + (ck_and (ck_ush (4 - (ck_and (ck_ush 4 1) 1431655765)) 2) 858993459)) + (ck_ush ((ck_and (4 - (ck_and (ck_ush 4 1) 1431655765)) 858993459) + (ck_and (ck_ush (4 - (ck_and (ck_ush 4 1) 1431655765)) 2) 858993459)) 4)) 252645135) + (ck_ush (ck_and (((ck_and (4 - (ck_and (ck_ush 4 1) 1431655765)) 858993459) + (ck_and (ck_ush (4 - (ck_and (ck_ush 4 1) 1431655765)) 2) 858993459)) + (ck_ush ((ck_and (4 - (ck_and (ck_ush 4 1) 1431655765)) 858993459) + (ck_and (ck_ush (4 - (ck_and (ck_ush 4 1) 1431655765)) 2) 858993459)) 4)) 252645135) 8)) + (ck_ush ((ck_and (((ck_and (4 - (ck_and (ck_ush 4 1) 1431655765)) 858993459) + (ck_and (ck_ush (4 - (ck_and (ck_ush 4 1) 1431655765)) 2) 858993459)) + (ck_ush ((ck_and (4 - (ck_and (ck_ush 4 1) 1431655765)) 858993459) + (ck_and (ck_ush (4 - (ck_and (ck_ush 4 1) 1431655765)) 2) 858993459)) 4)) 252645135) + (ck_ush (ck_and (((ck_and (4 - (ck_and (ck_ush 4 1) 1431655765)) 858993459) + (ck_and (ck_ush (4 - (ck_and (ck_ush 4 1) 1431655765)) 2) 858993459)) + (ck_ush ((ck_and (4 - (ck_and (ck_ush 4 1) 1431655765)) 858993459) + (ck_and (ck_ush (4 - (ck_and (ck_ush 4 1) 1431655765)) 2) 858993459)) 4)) 252645135) 8)) 16)) 63)], σ)) (ps := []) rfl trivial ?_
  exact ck_eI ⟨by decide +kernel, rfl⟩ rfl rfl rfl
theorem cx_bitCount5 (σ : ck_M) : ck_cal 1 cm_Ji_bitCount [.inl 5] σ (fun q σ' => q = some (ck_bc 5) ∧ σ' = σ) := by
  refine ck_cal_of ?_
  refine ck_go_run 41 (X1 := (52, [some (.inl (((ck_and (((ck_and (5 - (ck_and (ck_ush 5 1) 1431655765)) 858993459) + (ck_and (ck_ush (5 - (ck_and (ck_ush 5 1) 1431655765)) 2) 858993459)) + (ck_ush ((ck_and (5 - (ck_and (ck_ush 5 1) 1431655765)) 858993459) + (ck_and (ck_ush (5 - (ck_and (ck_ush 5 1) 1431655765)) 2) 858993459)) 4)) 252645135) + (ck_ush (ck_and (((ck_and (5 - (ck_and (ck_ush 5 1) 1431655765)) 858993459) + (ck_and (ck_ush (5 - (ck_and (ck_ush 5 1) 1431655765)) 2) 858993459)) + (ck_ush ((ck_and (5 - (ck_and (ck_ush 5 1) 1431655765)) 858993459) + (ck_and (ck_ush (5 - (ck_and (ck_ush 5 1) 1431655765)) 2) 858993459)) 4)) 252645135) 8)) + (ck_ush ((ck_and (((ck_and (5 - (ck_and (ck_ush 5 1) 1431655765)) 858993459) + (ck_and (ck_ush (5 - (ck_and (ck_ush 5 1) 1431655765)) 2) 858993459)) + (ck_ush ((ck_and (5 - (ck_and (ck_ush 5 1) 1431655765)) 858993459) + (ck_and (ck_ush (5 - (ck_and (ck_ush 5 1) 1431655765)) 2) 858993459)) 4)) 252645135) + (ck_ush (ck_and (((ck_and (5 - (ck_and (ck_ush 5 1) 1431655765)) 858993459) + (ck_and (ck_ush (5 - (ck_and (ck_ush 5 1) 1431655765)) 2) 858993459)) + (ck_ush ((ck_and (5 - (ck_and (ck_ush 5 1) 1431655765)) 858993459) + (ck_and (ck_ush (5 - (ck_and (ck_ush 5 1) 1431655765)) 2) 858993459)) 4)) 252645135) 8)) 16)))], [.inl (ck_and (((ck_and (((ck_and (5 - (ck_and (ck_ush 5 1) 1431655765)) 858993459) + (ck_and (ck_ush (5 - (ck_and (ck_ush 5 1) 1431655765)) 2) 858993459)) + (ck_ush ((ck_and (5 - (ck_and (ck_ush 5 1) 1431655765)) 858993459) + (ck_and (ck_ush (5 - (ck_and (ck_ush 5 1) 1431655765)) 2) 858993459)) 4)) 252645135) + (ck_ush (ck_and (((ck_and (5 - (ck_and (ck_ush 5 1) 1431655765)) 858993459) + (ck_and (ck_ush (5 - (ck_and (ck_ush 5 1) 1431655765)) 2) 858993459)) + (ck_ush ((ck_and (5 - (ck_and (ck_ush 5 1) 1431655765)) 858993459) + (ck_and (ck_ush (5 - (ck_and (ck_ush 5 1) 1431655765)) 2) 858993459)) 4)) 252645135) 8)) + (ck_ush ((ck_and (((ck_and (5 - (ck_and (ck_ush 5 1) 1431655765)) 858993459) + (ck_and (ck_ush (5 - (ck_and (ck_ush 5 1) 1431655765)) 2) 858993459)) + (ck_ush ((ck_and (5 - (ck_and (ck_ush 5 1) 1431655765)) 858993459) + (ck_and (ck_ush (5 - (ck_and (ck_ush 5 1) 1431655765)) 2) 858993459)) 4)) 252645135) + (ck_ush (ck_and (((ck_and (5 - (ck_and (ck_ush 5 1) 1431655765)) 858993459) + (ck_and (ck_ush (5 - (ck_and (ck_ush 5 1) 1431655765)) 2) 858993459)) + (ck_ush ((ck_and (5 - (ck_and (ck_ush 5 1) 1431655765)) 858993459) + (ck_and (ck_ush (5 - (ck_and (ck_ush 5 1) 1431655765)) 2) 858993459)) 4)) 252645135) 8)) 16)) 63)], σ)) (ps := []) rfl trivial ?_
  exact ck_eI ⟨by decide +kernel, rfl⟩ rfl rfl rfl
theorem cx_bitCount6 (σ : ck_M) : ck_cal 1 cm_Ji_bitCount [.inl 6] σ (fun q σ' => q = some (ck_bc 6) ∧ σ' = σ) := by
  refine ck_cal_of ?_
  refine ck_go_run 41 (X1 := (52, [some (.inl (((ck_and (((ck_and (6 - (ck_and (ck_ush 6 1) 1431655765)) 858993459) + (ck_and (ck_ush (6 - (ck_and (ck_ush 6 1) 1431655765)) 2) 858993459)) + (ck_ush ((ck_and (6 - (ck_and (ck_ush 6 1) 1431655765)) 858993459) + (ck_and (ck_ush (6 - (ck_and (ck_ush 6 1) 1431655765)) 2) 858993459)) 4)) 252645135) + (ck_ush (ck_and (((ck_and (6 - (ck_and (ck_ush 6 1) 1431655765)) 858993459) + (ck_and (ck_ush (6 - (ck_and (ck_ush 6 1) 1431655765)) 2) 858993459)) + (ck_ush ((ck_and (6 - (ck_and (ck_ush 6 1) 1431655765)) 858993459) + (ck_and (ck_ush (6 - (ck_and (ck_ush 6 1) 1431655765)) 2) 858993459)) 4)) 252645135) 8)) + (ck_ush ((ck_and (((ck_and (6 - (ck_and (ck_ush 6 1) 1431655765)) 858993459) + (ck_and (ck_ush (6 - (ck_and (ck_ush 6 1) 1431655765)) 2) 858993459)) + (ck_ush ((ck_and (6 - (ck_and (ck_ush 6 1) 1431655765)) 858993459) + (ck_and (ck_ush (6 - (ck_and (ck_ush 6 1) 1431655765)) 2) 858993459)) 4)) 252645135) + (ck_ush (ck_and (((ck_and (6 - (ck_and (ck_ush 6 1) 1431655765)) 858993459) + (ck_and (ck_ush (6 - (ck_and (ck_ush 6 1) 1431655765)) 2) 858993459)) + (ck_ush ((ck_and (6 - (ck_and (ck_ush 6 1) 1431655765)) 858993459) + (ck_and (ck_ush (6 - (ck_and (ck_ush 6 1) 1431655765)) 2) 858993459)) 4)) 252645135) 8)) 16)))], [.inl (ck_and (((ck_and (((ck_and (6 - (ck_and (ck_ush 6 1) 1431655765)) 858993459) + (ck_and (ck_ush (6 - (ck_and (ck_ush 6 1) 1431655765)) 2) 858993459)) + (ck_ush ((ck_and (6 - (ck_and (ck_ush 6 1) 1431655765)) 858993459) + (ck_and (ck_ush (6 - (ck_and (ck_ush 6 1) 1431655765)) 2) 858993459)) 4)) 252645135) + (ck_ush (ck_and (((ck_and (6 - (ck_and (ck_ush 6 1) 1431655765)) 858993459) + (ck_and (ck_ush (6 - (ck_and (ck_ush 6 1) 1431655765)) 2) 858993459)) + (ck_ush ((ck_and (6 - (ck_and (ck_ush 6 1) 1431655765)) 858993459) + (ck_and (ck_ush (6 - (ck_and (ck_ush 6 1) 1431655765)) 2) 858993459)) 4)) 252645135) 8)) + (ck_ush ((ck_and (((ck_and (6 - (ck_and (ck_ush 6 1) 1431655765)) 858993459) + (ck_and (ck_ush (6 - (ck_and (ck_ush 6 1) 1431655765)) 2) 858993459)) + (ck_ush ((ck_and (6 - (ck_and (ck_ush 6 1) 1431655765)) 858993459) + (ck_and (ck_ush (6 - (ck_and (ck_ush 6 1) 1431655765)) 2) 858993459)) 4)) 252645135) + (ck_ush (ck_and (((ck_and (6 - (ck_and (ck_ush 6 1) 1431655765)) 858993459) + (ck_and (ck_ush (6 - (ck_and (ck_ush 6 1) 1431655765)) 2) 858993459)) + (ck_ush ((ck_and (6 - (ck_and (ck_ush 6 1) 1431655765)) 858993459) + (ck_and (ck_ush (6 - (ck_and (ck_ush 6 1) 1431655765)) 2) 858993459)) 4)) 252645135) 8)) 16)) 63)], σ)) (ps := []) rfl trivial ?_
  exact ck_eI ⟨by decide +kernel, rfl⟩ rfl rfl rfl
theorem cx_bitCount7 (σ : ck_M) : ck_cal 1 cm_Ji_bitCount [.inl 7] σ (fun q σ' => q = some (ck_bc 7) ∧ σ' = σ) := by
  refine ck_cal_of ?_
  refine ck_go_run 41 (X1 := (52, [some (.inl (((ck_and (((ck_and (7 - (ck_and (ck_ush 7 1) 1431655765)) 858993459) + (ck_and (ck_ush (7 - (ck_and (ck_ush 7 1) 1431655765)) 2) 858993459)) + (ck_ush ((ck_and (7 - (ck_and (ck_ush 7 1) 1431655765)) 858993459) + (ck_and (ck_ush (7 - (ck_and (ck_ush 7 1) 1431655765)) 2) 858993459)) 4)) 252645135) + (ck_ush (ck_and (((ck_and (7 - (ck_and (ck_ush 7 1) 1431655765)) 858993459) + (ck_and (ck_ush (7 - (ck_and (ck_ush 7 1) 1431655765)) 2) 858993459)) + (ck_ush ((ck_and (7 - (ck_and (ck_ush 7 1) 1431655765)) 858993459) + (ck_and (ck_ush (7 - (ck_and (ck_ush 7 1) 1431655765)) 2) 858993459)) 4)) 252645135) 8)) + (ck_ush ((ck_and (((ck_and (7 - (ck_and (ck_ush 7 1) 1431655765)) 858993459) + (ck_and (ck_ush (7 - (ck_and (ck_ush 7 1) 1431655765)) 2) 858993459)) + (ck_ush ((ck_and (7 - (ck_and (ck_ush 7 1) 1431655765)) 858993459) + (ck_and (ck_ush (7 - (ck_and (ck_ush 7 1) 1431655765)) 2) 858993459)) 4)) 252645135) + (ck_ush (ck_and (((ck_and (7 - (ck_and (ck_ush 7 1) 1431655765)) 858993459) + (ck_and (ck_ush (7 - (ck_and (ck_ush 7 1) 1431655765)) 2) 858993459)) + (ck_ush ((ck_and (7 - (ck_and (ck_ush 7 1) 1431655765)) 858993459) + (ck_and (ck_ush (7 - (ck_and (ck_ush 7 1) 1431655765)) 2) 858993459)) 4)) 252645135) 8)) 16)))], [.inl (ck_and (((ck_and (((ck_and (7 - (ck_and (ck_ush 7 1) 1431655765)) 858993459) + (ck_and (ck_ush (7 - (ck_and (ck_ush 7 1) 1431655765)) 2) 858993459)) + (ck_ush ((ck_and (7 - (ck_and (ck_ush 7 1) 1431655765)) 858993459) + (ck_and (ck_ush (7 - (ck_and (ck_ush 7 1) 1431655765)) 2) 858993459)) 4)) 252645135) + (ck_ush (ck_and (((ck_and (7 - (ck_and (ck_ush 7 1) 1431655765)) 858993459) + (ck_and (ck_ush (7 - (ck_and (ck_ush 7 1) 1431655765)) 2) 858993459)) + (ck_ush ((ck_and (7 - (ck_and (ck_ush 7 1) 1431655765)) 858993459) + (ck_and (ck_ush (7 - (ck_and (ck_ush 7 1) 1431655765)) 2) 858993459)) 4)) 252645135) 8)) + (ck_ush ((ck_and (((ck_and (7 - (ck_and (ck_ush 7 1) 1431655765)) 858993459) + (ck_and (ck_ush (7 - (ck_and (ck_ush 7 1) 1431655765)) 2) 858993459)) + (ck_ush ((ck_and (7 - (ck_and (ck_ush 7 1) 1431655765)) 858993459) + (ck_and (ck_ush (7 - (ck_and (ck_ush 7 1) 1431655765)) 2) 858993459)) 4)) 252645135) + (ck_ush (ck_and (((ck_and (7 - (ck_and (ck_ush 7 1) 1431655765)) 858993459) + (ck_and (ck_ush (7 - (ck_and (ck_ush 7 1) 1431655765)) 2) 858993459)) + (ck_ush ((ck_and (7 - (ck_and (ck_ush 7 1) 1431655765)) 858993459) + (ck_and (ck_ush (7 - (ck_and (ck_ush 7 1) 1431655765)) 2) 858993459)) 4)) 252645135) 8)) 16)) 63)], σ)) (ps := []) rfl trivial ?_
  exact ck_eI ⟨by decide +kernel, rfl⟩ rfl rfl rfl
theorem cx_bitCount {x : Int} (h : 0 ≤ x ∧ x ≤ 7) (σ : ck_M) : ck_cal 1 cm_Ji_bitCount [.inl x] σ (fun q σ' => q = some (ck_bc x) ∧ σ' = σ) := by
  have h2 : x = 0 ∨ x = 1 ∨ x = 2 ∨ x = 3 ∨ x = 4 ∨ x = 5 ∨ x = 6 ∨ x = 7 := by omega
  rcases h2 with rfl | rfl | rfl | rfl | rfl | rfl | rfl | rfl
  · exact cx_bitCount0 σ
  · exact cx_bitCount1 σ
  · exact cx_bitCount2 σ
  · exact cx_bitCount3 σ
  · exact cx_bitCount4 σ
  · exact cx_bitCount5 σ
  · exact cx_bitCount6 σ
  · exact cx_bitCount7 σ
/-- f 0 + .. + f (n - 1) -/
def ck_sum0 (f : Int → Int) : Nat → Int
  | 0 => 0
  | n + 1 => ck_sum0 f n + f n
theorem cx_countNeedless {n : Int} (hn : 0 ≤ n ∧ n ≤ 64) {σ : ck_M} (hN : σ 5 10 = n) (hC : ∀ k, 0 ≤ k → k < n → 0 ≤ σ 17 k ∧ σ 17 k ≤ 7) : ck_cal 2 cm_Fi_countNeedless [.inr (4, 3, 1)] σ (fun q σ' => q = some (ck_sum0 (fun k => ck_bc (σ 17 k)) n.toNat) ∧ σ' = σ) := by
  refine ck_cal_of ?_
  refine ck_go_run 4 (X1 := (4, [some (.inr (4, 3, 1)), some (.inl 0), some (.inl 0)], [], σ)) (ps := []) rfl trivial ?_
  refine ck_forI 4 (fun v a => [some (.inr (4, 3, 1)), some (.inl a), some (.inl v)]) n (fun v a s => (0 ≤ v ∧ v ≤ n) ∧ s = σ ∧ a = ck_sum0 (fun k => ck_bc (σ 17 k)) v.toNat) (fun v a s hv hI kk => ?_) (fun v a s hv hI => ?_) 0 0 _ ⟨⟨by omega, by omega⟩, rfl, rfl⟩
  · obtain ⟨⟨h0, h4⟩, hs, ha⟩ := hI
    have eN : s 5 10 = n := by rw [hs, hN]
    refine ck_go_run 5 (X1 := (if v < s 5 10 then 15 else 33, [some (.inr (4, 3, 1)), some (.inl a), some (.inl v)], [], s)) (ps := [ck_rg v, ck_rg (s 5 10)]) rfl ⟨(ck_rgo (by omega) (by omega)), (ck_rgo (by omega) (by omega)), trivial⟩ ?_
    refine ck_go_t (by omega) ?_
    refine ck_go_run 5 (X1 := (22, [some (.inr (4, 3, 1)), some (.inl a), some (.inl v)], [.inl (s 17 v), .inl a], s)) (ps := [0 ≤ v ∧ v < ((64 : Nat) : Int)]) rfl ⟨⟨by omega, by omega⟩, trivial⟩ ?_
    refine ck_go_cal (rest := [.inl a]) (ck_cal_le (by decide) (cx_bitCount (x := s 17 v) (by have := hC v h0 (by omega); rw [hs]; omega) _)) ⟨_, rfl, Or.inr ⟨_, rfl⟩, rfl, rfl, rfl, Nat.le_of_ble_eq_true rfl, fun h => absurd h (by decide)⟩ ?_
    rintro _ s' ⟨rfl, e'⟩
    rw [e']
    clear e' s'
    refine ck_go_run 4 (X1 := (4, [some (.inr (4, 3, 1)), some (.inl (a + (ck_bc (s 17 v)))), some (.inl (v + 1))], [], s)) (ps := []) rfl trivial ?_
    exact kk (a + (ck_bc (s 17 v))) _ ⟨⟨by omega, by omega⟩, hs, by
      have e1 : (v + 1).toNat = v.toNat + 1 := by omega
      rw [e1, ck_sum0, ha, hs, Int.toNat_of_nonneg h0]⟩
  · obtain ⟨⟨h0, h4⟩, hs, ha⟩ := hI
    have eN : s 5 10 = n := by rw [hs, hN]
    refine ck_go_run 5 (X1 := (if v < s 5 10 then 15 else 33, [some (.inr (4, 3, 1)), some (.inl a), some (.inl v)], [], s)) (ps := [ck_rg v, ck_rg (s 5 10)]) rfl ⟨(ck_rgo (by omega) (by omega)), (ck_rgo (by omega) (by omega)), trivial⟩ ?_
    refine ck_go_f (by omega) ?_
    refine ck_go_run 1 (X1 := (34, [some (.inr (4, 3, 1)), some (.inl a), some (.inl v)], [.inl a], s)) (ps := []) rfl trivial ?_
    obtain rfl : v = n := by omega
    exact ck_eI ⟨by rw [ha], hs⟩ rfl rfl rfl
/-- what is due behind a move before statement k -/
def ck_du (σ : ck_M) (k j : Int) : Prop := j = k + 1 ∨ ((σ 6 k = 9 ∨ σ 6 k = 12) ∧ (j = σ 12 k + 1 ∨ (σ 11 k ≠ -1 ∧ j = σ 11 k + 1))) ∨ (σ 6 k = 11 ∧ σ 6 (σ 10 k) = 12 ∧ j = σ 10 k)
set_option maxHeartbeats 8000000 in
theorem cx_passOn {k : Int} (hk : 0 ≤ k ∧ k < 64) {σ : ck_M} (hS : 0 ≤ σ 6 k ∧ σ 6 k ≤ 13) (hE : σ 6 k = 9 ∨ σ 6 k = 12 → (0 ≤ σ 12 k ∧ σ 12 k < 64) ∧ (-1 ≤ σ 11 k ∧ σ 11 k < 64)) (hH : σ 6 k = 11 → (0 ≤ σ 10 k ∧ σ 10 k < 64) ∧ 0 ≤ σ 6 (σ 10 k) ∧ σ 6 (σ 10 k) ≤ 13) : ck_cal 1 cm_Fi_passOn [.inr (4, 3, 1), .inl k] σ (fun q σ' => q = some (if σ 6 k = 11 ∧ σ 6 (σ 10 k) = 12 then σ 10 k else k + 1) ∧ (∀ b j, b ≠ 19 → σ' b j = σ b j) ∧ ∀ j, (ck_du σ k j → σ' 19 j = 1) ∧ (¬ ck_du σ k j → σ' 19 j = σ 19 j)) := by
  refine ck_cal_of ?_
  refine ck_go_run 16 (X1 := (if σ 6 k = 9 then 31 else 25, [some (.inr (4, 3, 1)), some (.inl k), some (.inl (σ 6 k))], [], ck_up σ 19 (k + 1) 1)) (ps := [0 ≤ k + 1 ∧ k + 1 < ((65 : Nat) : Int), 1 = 0 ∨ 1 = 1, 0 ≤ k ∧ k < ((64 : Nat) : Int), ck_rg (σ 6 k), ck_rg 9]) rfl ⟨⟨by omega, by omega⟩, Or.inr rfl, ⟨by omega, by omega⟩, (ck_rgo (by omega) (by omega)), (ck_rgo (by omega) (by omega)), trivial⟩ ?_
  refine ck_go_ite (fun h1 => ?_) (fun h1 => ?_)
  · refine ck_go_run 18 (X1 := (if σ 11 k = (-1) then 78 else 61, [some (.inr (4, 3, 1)), some (.inl k), some (.inl (σ 6 k))], [], ck_up (ck_up σ 19 (k + 1) 1) 19 ((σ 12 k) + 1) 1)) (ps := [0 ≤ k ∧ k < ((64 : Nat) : Int), 0 ≤ (σ 12 k) + 1 ∧ (σ 12 k) + 1 < ((65 : Nat) : Int), 1 = 0 ∨ 1 = 1, 0 ≤ k ∧ k < ((64 : Nat) : Int), ck_rg (σ 11 k), ck_rg ((-1))]) rfl ⟨⟨by omega, by omega⟩, ⟨by omega, by omega⟩, Or.inr rfl, ⟨by omega, by omega⟩, (ck_rgo (by omega) (by omega)), (ck_rgo (by omega) (by omega)), trivial⟩ ?_
    refine ck_go_ite (fun h2 => ?_) (fun h2 => ?_)
    · refine ck_go_run 3 (X1 := (if σ 6 k = 11 then 84 else 131, [some (.inr (4, 3, 1)), some (.inl k), some (.inl (σ 6 k))], [], ck_up (ck_up σ 19 (k + 1) 1) 19 ((σ 12 k) + 1) 1)) (ps := [ck_rg (σ 6 k), ck_rg 11]) rfl ⟨(ck_rgo (by omega) (by omega)), (ck_rgo (by omega) (by omega)), trivial⟩ ?_
      refine ck_go_f (by omega) ?_
      refine ck_go_run 3 (X1 := (134, [some (.inr (4, 3, 1)), some (.inl k), some (.inl (σ 6 k))], [.inl (k + 1)], ck_up (ck_up σ 19 (k + 1) 1) 19 ((σ 12 k) + 1) 1)) (ps := []) rfl trivial ?_
      refine ck_eI ⟨?_, ?_, fun j => ⟨fun hd => ?_, fun hd => ?_⟩⟩ rfl rfl rfl
      · first | rw [if_pos (by omega)] | rw [if_neg (by omega)]
      · intro b j hb
        simp only [ck_up]
        (repeat' split) <;> first | rfl | omega
      · unfold ck_du at hd
        simp only [ck_up, true_and]
        (repeat' split) <;> first | rfl | omega
      · unfold ck_du at hd
        simp only [ck_up, true_and]
        (repeat' split) <;> first | rfl | omega
    · refine ck_go_run 14 (X1 := (if σ 6 k = 11 then 84 else 131, [some (.inr (4, 3, 1)), some (.inl k), some (.inl (σ 6 k))], [], ck_up (ck_up (ck_up σ 19 (k + 1) 1) 19 ((σ 12 k) + 1) 1) 19 ((σ 11 k) + 1) 1)) (ps := [0 ≤ k ∧ k < ((64 : Nat) : Int), 0 ≤ (σ 11 k) + 1 ∧ (σ 11 k) + 1 < ((65 : Nat) : Int), 1 = 0 ∨ 1 = 1, ck_rg (σ 6 k), ck_rg 11]) rfl ⟨⟨by omega, by omega⟩, ⟨by omega, by omega⟩, Or.inr rfl, (ck_rgo (by omega) (by omega)), (ck_rgo (by omega) (by omega)), trivial⟩ ?_
      refine ck_go_f (by omega) ?_
      refine ck_go_run 3 (X1 := (134, [some (.inr (4, 3, 1)), some (.inl k), some (.inl (σ 6 k))], [.inl (k + 1)], ck_up (ck_up (ck_up σ 19 (k + 1) 1) 19 ((σ 12 k) + 1) 1) 19 ((σ 11 k) + 1) 1)) (ps := []) rfl trivial ?_
      refine ck_eI ⟨?_, ?_, fun j => ⟨fun hd => ?_, fun hd => ?_⟩⟩ rfl rfl rfl
      · first | rw [if_pos (by omega)] | rw [if_neg (by omega)]
      · intro b j hb
        simp only [ck_up]
        (repeat' split) <;> first | rfl | omega
      · unfold ck_du at hd
        simp only [ck_up, true_and]
        (repeat' split) <;> first | rfl | omega
      · unfold ck_du at hd
        simp only [ck_up, true_and]
        (repeat' split) <;> first | rfl | omega
  · refine ck_go_run 3 (X1 := (if σ 6 k = 12 then 31 else 78, [some (.inr (4, 3, 1)), some (.inl k), some (.inl (σ 6 k))], [], ck_up σ 19 (k + 1) 1)) (ps := [ck_rg (σ 6 k), ck_rg 12]) rfl ⟨(ck_rgo (by omega) (by omega)), (ck_rgo (by omega) (by omega)), trivial⟩ ?_
    refine ck_go_ite (fun h3 => ?_) (fun h3 => ?_)
    · refine ck_go_run 18 (X1 := (if σ 11 k = (-1) then 78 else 61, [some (.inr (4, 3, 1)), some (.inl k), some (.inl (σ 6 k))], [], ck_up (ck_up σ 19 (k + 1) 1) 19 ((σ 12 k) + 1) 1)) (ps := [0 ≤ k ∧ k < ((64 : Nat) : Int), 0 ≤ (σ 12 k) + 1 ∧ (σ 12 k) + 1 < ((65 : Nat) : Int), 1 = 0 ∨ 1 = 1, 0 ≤ k ∧ k < ((64 : Nat) : Int), ck_rg (σ 11 k), ck_rg ((-1))]) rfl ⟨⟨by omega, by omega⟩, ⟨by omega, by omega⟩, Or.inr rfl, ⟨by omega, by omega⟩, (ck_rgo (by omega) (by omega)), (ck_rgo (by omega) (by omega)), trivial⟩ ?_
      refine ck_go_ite (fun h4 => ?_) (fun h4 => ?_)
      · refine ck_go_run 3 (X1 := (if σ 6 k = 11 then 84 else 131, [some (.inr (4, 3, 1)), some (.inl k), some (.inl (σ 6 k))], [], ck_up (ck_up σ 19 (k + 1) 1) 19 ((σ 12 k) + 1) 1)) (ps := [ck_rg (σ 6 k), ck_rg 11]) rfl ⟨(ck_rgo (by omega) (by omega)), (ck_rgo (by omega) (by omega)), trivial⟩ ?_
        refine ck_go_f (by omega) ?_
        refine ck_go_run 3 (X1 := (134, [some (.inr (4, 3, 1)), some (.inl k), some (.inl (σ 6 k))], [.inl (k + 1)], ck_up (ck_up σ 19 (k + 1) 1) 19 ((σ 12 k) + 1) 1)) (ps := []) rfl trivial ?_
        refine ck_eI ⟨?_, ?_, fun j => ⟨fun hd => ?_, fun hd => ?_⟩⟩ rfl rfl rfl
        · first | rw [if_pos (by omega)] | rw [if_neg (by omega)]
        · intro b j hb
          simp only [ck_up]
          (repeat' split) <;> first | rfl | omega
        · unfold ck_du at hd
          simp only [ck_up, true_and]
          (repeat' split) <;> first | rfl | omega
        · unfold ck_du at hd
          simp only [ck_up, true_and]
          (repeat' split) <;> first | rfl | omega
      · refine ck_go_run 14 (X1 := (if σ 6 k = 11 then 84 else 131, [some (.inr (4, 3, 1)), some (.inl k), some (.inl (σ 6 k))], [], ck_up (ck_up (ck_up σ 19 (k + 1) 1) 19 ((σ 12 k) + 1) 1) 19 ((σ 11 k) + 1) 1)) (ps := [0 ≤ k ∧ k < ((64 : Nat) : Int), 0 ≤ (σ 11 k) + 1 ∧ (σ 11 k) + 1 < ((65 : Nat) : Int), 1 = 0 ∨ 1 = 1, ck_rg (σ 6 k), ck_rg 11]) rfl ⟨⟨by omega, by omega⟩, ⟨by omega, by omega⟩, Or.inr rfl, (ck_rgo (by omega) (by omega)), (ck_rgo (by omega) (by omega)), trivial⟩ ?_
        refine ck_go_f (by omega) ?_
        refine ck_go_run 3 (X1 := (134, [some (.inr (4, 3, 1)), some (.inl k), some (.inl (σ 6 k))], [.inl (k + 1)], ck_up (ck_up (ck_up σ 19 (k + 1) 1) 19 ((σ 12 k) + 1) 1) 19 ((σ 11 k) + 1) 1)) (ps := []) rfl trivial ?_
        refine ck_eI ⟨?_, ?_, fun j => ⟨fun hd => ?_, fun hd => ?_⟩⟩ rfl rfl rfl
        · first | rw [if_pos (by omega)] | rw [if_neg (by omega)]
        · intro b j hb
          simp only [ck_up]
          (repeat' split) <;> first | rfl | omega
        · unfold ck_du at hd
          simp only [ck_up, true_and]
          (repeat' split) <;> first | rfl | omega
        · unfold ck_du at hd
          simp only [ck_up, true_and]
          (repeat' split) <;> first | rfl | omega
    · refine ck_go_run 3 (X1 := (if σ 6 k = 11 then 84 else 131, [some (.inr (4, 3, 1)), some (.inl k), some (.inl (σ 6 k))], [], ck_up σ 19 (k + 1) 1)) (ps := [ck_rg (σ 6 k), ck_rg 11]) rfl ⟨(ck_rgo (by omega) (by omega)), (ck_rgo (by omega) (by omega)), trivial⟩ ?_
      refine ck_go_ite (fun h5 => ?_) (fun h5 => ?_)
      · refine ck_go_run 11 (X1 := (if σ 6 (σ 10 k) = 12 then 106 else 131, [some (.inr (4, 3, 1)), some (.inl k), some (.inl (σ 6 k))], [], ck_up σ 19 (k + 1) 1)) (ps := [0 ≤ k ∧ k < ((64 : Nat) : Int), 0 ≤ σ 10 k ∧ σ 10 k < ((64 : Nat) : Int), ck_rg (σ 6 (σ 10 k)), ck_rg 12]) rfl ⟨⟨by omega, by omega⟩, ⟨by omega, by omega⟩, (ck_rgo (by omega) (by omega)), (ck_rgo (by omega) (by omega)), trivial⟩ ?_
        refine ck_go_ite (fun h6 => ?_) (fun h6 => ?_)
        · refine ck_go_run 14 (X1 := (130, [some (.inr (4, 3, 1)), some (.inl k), some (.inl (σ 6 k))], [.inl (σ 10 k)], ck_up (ck_up σ 19 (k + 1) 1) 19 (σ 10 k) 1)) (ps := [0 ≤ k ∧ k < ((64 : Nat) : Int), 0 ≤ σ 10 k ∧ σ 10 k < ((65 : Nat) : Int), 1 = 0 ∨ 1 = 1, 0 ≤ k ∧ k < ((64 : Nat) : Int)]) rfl ⟨⟨by omega, by omega⟩, ⟨by omega, by omega⟩, Or.inr rfl, ⟨by omega, by omega⟩, trivial⟩ ?_
          refine ck_eI ⟨?_, ?_, fun j => ⟨fun hd => ?_, fun hd => ?_⟩⟩ rfl rfl rfl
          · first | rw [if_pos (by omega)] | rw [if_neg (by omega)]
          · intro b j hb
            simp only [ck_up]
            (repeat' split) <;> first | rfl | omega
          · unfold ck_du at hd
            simp only [ck_up, true_and]
            (repeat' split) <;> first | rfl | omega
          · unfold ck_du at hd
            simp only [ck_up, true_and]
            (repeat' split) <;> first | rfl | omega
        · refine ck_go_run 3 (X1 := (134, [some (.inr (4, 3, 1)), some (.inl k), some (.inl (σ 6 k))], [.inl (k + 1)], ck_up σ 19 (k + 1) 1)) (ps := []) rfl trivial ?_
          refine ck_eI ⟨?_, ?_, fun j => ⟨fun hd => ?_, fun hd => ?_⟩⟩ rfl rfl rfl
          · first | rw [if_pos (by omega)] | rw [if_neg (by omega)]
          · intro b j hb
            simp only [ck_up]
            (repeat' split) <;> first | rfl | omega
          · unfold ck_du at hd
            simp only [ck_up, true_and]
            (repeat' split) <;> first | rfl | omega
          · unfold ck_du at hd
            simp only [ck_up, true_and]
            (repeat' split) <;> first | rfl | omega
      · refine ck_go_run 3 (X1 := (134, [some (.inr (4, 3, 1)), some (.inl k), some (.inl (σ 6 k))], [.inl (k + 1)], ck_up σ 19 (k + 1) 1)) (ps := []) rfl trivial ?_
        refine ck_eI ⟨?_, ?_, fun j => ⟨fun hd => ?_, fun hd => ?_⟩⟩ rfl rfl rfl
        · first | rw [if_pos (by omega)] | rw [if_neg (by omega)]
        · intro b j hb
          simp only [ck_up]
          (repeat' split) <;> first | rfl | omega
        · unfold ck_du at hd
          simp only [ck_up, true_and]
          (repeat' split) <;> first | rfl | omega
        · unfold ck_du at hd
          simp only [ck_up, true_and]
          (repeat' split) <;> first | rfl | omega
