set_option maxRecDepth 20000 in
theorem cc_Mo_thrown : ck_chk cm_Mo_thrown = true := by decide +kernel
set_option maxRecDepth 20000 in
theorem ck_ok_Mo_thrown : ck_mok cm_Mo_thrown := ⟨ck_gw 858 (by decide +kernel) (by decide +kernel), ck_gw 64 (by decide +kernel) (by decide +kernel), by decide +kernel, ⟨by decide +kernel, by decide +kernel, by decide +kernel⟩, fun h => absurd h (by decide +kernel), fun _ => ⟨ck_gw 856 (by decide +kernel) (by decide +kernel), ck_gw 857 (by decide +kernel) (by decide +kernel), by decide +kernel⟩, by decide +kernel, cc_Mo_thrown⟩
set_option maxRecDepth 20000 in
theorem cc_Mo_put : ck_chk cm_Mo_put = true := by decide +kernel
set_option maxRecDepth 20000 in
theorem ck_ok_Mo_put : ck_mok cm_Mo_put := ⟨ck_gw 862 (by decide +kernel) (by decide +kernel), ck_gw 64 (by decide +kernel) (by decide +kernel), by decide +kernel, ⟨by decide +kernel, by decide +kernel, by decide +kernel⟩, fun h => absurd h (by decide +kernel), fun _ => ⟨ck_gw 860 (by decide +kernel) (by decide +kernel), ck_gw 861 (by decide +kernel) (by decide +kernel), by decide +kernel⟩, by decide +kernel, cc_Mo_put⟩
set_option maxRecDepth 20000 in
theorem cc_Mo_isSaid : ck_chk cm_Mo_isSaid = true := by decide +kernel
set_option maxRecDepth 20000 in
theorem ck_ok_Mo_isSaid : ck_mok cm_Mo_isSaid := ⟨ck_gw 866 (by decide +kernel) (by decide +kernel), ck_gw 64 (by decide +kernel) (by decide +kernel), by decide +kernel, ⟨by decide +kernel, by decide +kernel, by decide +kernel⟩, fun h => absurd h (by decide +kernel), fun _ => ⟨ck_gw 865 (by decide +kernel) (by decide +kernel), ck_gw 25 (by decide +kernel) (by decide +kernel), by decide +kernel⟩, by decide +kernel, cc_Mo_isSaid⟩
set_option maxRecDepth 20000 in
theorem cc_Mo_in : ck_chk cm_Mo_in = true := by decide +kernel
set_option maxRecDepth 20000 in
theorem ck_ok_Mo_in : ck_mok cm_Mo_in := ⟨ck_gw 869 (by decide +kernel) (by decide +kernel), ck_gw 64 (by decide +kernel) (by decide +kernel), by decide +kernel, ⟨by decide +kernel, by decide +kernel, by decide +kernel⟩, fun _ => ck_gw 868 (by decide +kernel) (by decide +kernel), fun h => absurd h (by decide +kernel), by decide +kernel, cc_Mo_in⟩
set_option maxRecDepth 20000 in
theorem cc_Mo_fails : ck_chk cm_Mo_fails = true := by decide +kernel
set_option maxRecDepth 20000 in
theorem ck_ok_Mo_fails : ck_mok cm_Mo_fails := ⟨ck_gw 873 (by decide +kernel) (by decide +kernel), ck_gw 64 (by decide +kernel) (by decide +kernel), by decide +kernel, ⟨by decide +kernel, by decide +kernel, by decide +kernel⟩, fun h => absurd h (by decide +kernel), fun _ => ⟨ck_gw 872 (by decide +kernel) (by decide +kernel), ck_gw 26 (by decide +kernel) (by decide +kernel), by decide +kernel⟩, by decide +kernel, cc_Mo_fails⟩
set_option maxRecDepth 20000 in
theorem cc_Mo_clear : ck_chk cm_Mo_clear = true := by decide +kernel
set_option maxRecDepth 20000 in
theorem ck_ok_Mo_clear : ck_mok cm_Mo_clear := ⟨ck_gw 877 (by decide +kernel) (by decide +kernel), ck_gw 64 (by decide +kernel) (by decide +kernel), by decide +kernel, ⟨by decide +kernel, by decide +kernel, by decide +kernel⟩, fun h => absurd h (by decide +kernel), fun _ => ⟨ck_gw 875 (by decide +kernel) (by decide +kernel), ck_gw 876 (by decide +kernel) (by decide +kernel), by decide +kernel⟩, by decide +kernel, cc_Mo_clear⟩
set_option maxRecDepth 20000 in
theorem cc_Mo_give : ck_chk cm_Mo_give = true := by decide +kernel
set_option maxRecDepth 20000 in
theorem ck_ok_Mo_give : ck_mok cm_Mo_give := ⟨ck_gw 881 (by decide +kernel) (by decide +kernel), ck_gw 64 (by decide +kernel) (by decide +kernel), by decide +kernel, ⟨by decide +kernel, by decide +kernel, by decide +kernel⟩, fun h => absurd h (by decide +kernel), fun _ => ⟨ck_gw 879 (by decide +kernel) (by decide +kernel), ck_gw 880 (by decide +kernel) (by decide +kernel), by decide +kernel⟩, by decide +kernel, cc_Mo_give⟩
set_option maxRecDepth 20000 in
theorem cc_Mo_start : ck_chk cm_Mo_start = true := by decide +kernel
set_option maxRecDepth 20000 in
theorem ck_ok_Mo_start : ck_mok cm_Mo_start := ⟨ck_gw 887 (by decide +kernel) (by decide +kernel), ck_gw 64 (by decide +kernel) (by decide +kernel), by decide +kernel, ⟨by decide +kernel, by decide +kernel, by decide +kernel⟩, fun h => absurd h (by decide +kernel), fun _ => ⟨ck_gw 885 (by decide +kernel) (by decide +kernel), ck_gw 886 (by decide +kernel) (by decide +kernel), by decide +kernel⟩, by decide +kernel, cc_Mo_start⟩
set_option maxRecDepth 20000 in
theorem cc_Mo_pass : ck_chk cm_Mo_pass = true := by decide +kernel
set_option maxRecDepth 20000 in
theorem ck_ok_Mo_pass : ck_mok cm_Mo_pass := ⟨ck_gw 891 (by decide +kernel) (by decide +kernel), ck_gw 64 (by decide +kernel) (by decide +kernel), by decide +kernel, ⟨by decide +kernel, by decide +kernel, by decide +kernel⟩, fun h => absurd h (by decide +kernel), fun _ => ⟨ck_gw 890 (by decide +kernel) (by decide +kernel), ck_gw 27 (by decide +kernel) (by decide +kernel), by decide +kernel⟩, by decide +kernel, cc_Mo_pass⟩
set_option maxRecDepth 20000 in
theorem cc_Mo_nothing : ck_chk cm_Mo_nothing = true := by decide +kernel
set_option maxRecDepth 20000 in
theorem ck_ok_Mo_nothing : ck_mok cm_Mo_nothing := ⟨ck_gw 895 (by decide +kernel) (by decide +kernel), ck_gw 64 (by decide +kernel) (by decide +kernel), by decide +kernel, ⟨by decide +kernel, by decide +kernel, by decide +kernel⟩, fun h => absurd h (by decide +kernel), fun _ => ⟨ck_gw 894 (by decide +kernel) (by decide +kernel), ck_gw 28 (by decide +kernel) (by decide +kernel), by decide +kernel⟩, by decide +kernel, cc_Mo_nothing⟩
set_option maxRecDepth 20000 in
theorem cc_Mo_loosen : ck_chk cm_Mo_loosen = true := by decide +kernel
set_option maxRecDepth 20000 in
theorem ck_ok_Mo_loosen : ck_mok cm_Mo_loosen := ⟨ck_gw 900 (by decide +kernel) (by decide +kernel), ck_gw 64 (by decide +kernel) (by decide +kernel), by decide +kernel, ⟨by decide +kernel, by decide +kernel, by decide +kernel⟩, fun h => absurd h (by decide +kernel), fun _ => ⟨ck_gw 899 (by decide +kernel) (by decide +kernel), ck_gw 29 (by decide +kernel) (by decide +kernel), by decide +kernel⟩, by decide +kernel, cc_Mo_loosen⟩
set_option maxRecDepth 20000 in
theorem cc_Mo_joinBack : ck_chk cm_Mo_joinBack = true := by decide +kernel
set_option maxRecDepth 20000 in
theorem ck_ok_Mo_joinBack : ck_mok cm_Mo_joinBack := ⟨ck_gw 904 (by decide +kernel) (by decide +kernel), ck_gw 64 (by decide +kernel) (by decide +kernel), by decide +kernel, ⟨by decide +kernel, by decide +kernel, by decide +kernel⟩, fun h => absurd h (by decide +kernel), fun _ => ⟨ck_gw 903 (by decide +kernel) (by decide +kernel), ck_gw 30 (by decide +kernel) (by decide +kernel), by decide +kernel⟩, by decide +kernel, cc_Mo_joinBack⟩
set_option maxRecDepth 20000 in
theorem cc_Mo_join : ck_chk cm_Mo_join = true := by decide +kernel
set_option maxRecDepth 20000 in
theorem ck_ok_Mo_join : ck_mok cm_Mo_join := ⟨ck_gw 908 (by decide +kernel) (by decide +kernel), ck_gw 64 (by decide +kernel) (by decide +kernel), by decide +kernel, ⟨by decide +kernel, by decide +kernel, by decide +kernel⟩, fun h => absurd h (by decide +kernel), fun _ => ⟨ck_gw 907 (by decide +kernel) (by decide +kernel), ck_gw 31 (by decide +kernel) (by decide +kernel), by decide +kernel⟩, by decide +kernel, cc_Mo_join⟩
set_option maxRecDepth 20000 in
theorem cc_Mo_worst : ck_chk cm_Mo_worst = true := by decide +kernel
set_option maxRecDepth 20000 in
theorem ck_ok_Mo_worst : ck_mok cm_Mo_worst := ⟨ck_gw 911 (by decide +kernel) (by decide +kernel), ck_gw 64 (by decide +kernel) (by decide +kernel), by decide +kernel, ⟨by decide +kernel, by decide +kernel, by decide +kernel⟩, fun _ => ck_gw 910 (by decide +kernel) (by decide +kernel), fun h => absurd h (by decide +kernel), by decide +kernel, cc_Mo_worst⟩
set_option maxRecDepth 20000 in
theorem cc_Mo_tell : ck_chk cm_Mo_tell = true := by decide +kernel
set_option maxRecDepth 20000 in
theorem ck_ok_Mo_tell : ck_mok cm_Mo_tell := ⟨ck_gw 915 (by decide +kernel) (by decide +kernel), ck_gw 64 (by decide +kernel) (by decide +kernel), by decide +kernel, ⟨by decide +kernel, by decide +kernel, by decide +kernel⟩, fun h => absurd h (by decide +kernel), fun _ => ⟨ck_gw 914 (by decide +kernel) (by decide +kernel), ck_gw 32 (by decide +kernel) (by decide +kernel), by decide +kernel⟩, by decide +kernel, cc_Mo_tell⟩
set_option maxRecDepth 20000 in
theorem cc_Mo_keep : ck_chk cm_Mo_keep = true := by decide +kernel
set_option maxRecDepth 20000 in
theorem ck_ok_Mo_keep : ck_mok cm_Mo_keep := ⟨ck_gw 919 (by decide +kernel) (by decide +kernel), ck_gw 64 (by decide +kernel) (by decide +kernel), by decide +kernel, ⟨by decide +kernel, by decide +kernel, by decide +kernel⟩, fun h => absurd h (by decide +kernel), fun _ => ⟨ck_gw 918 (by decide +kernel) (by decide +kernel), ck_gw 33 (by decide +kernel) (by decide +kernel), by decide +kernel⟩, by decide +kernel, cc_Mo_keep⟩
set_option maxRecDepth 20000 in
theorem cc_Mo_branch : ck_chk cm_Mo_branch = true := by decide +kernel
set_option maxRecDepth 20000 in
theorem ck_ok_Mo_branch : ck_mok cm_Mo_branch := ⟨ck_gw 923 (by decide +kernel) (by decide +kernel), ck_gw 64 (by decide +kernel) (by decide +kernel), by decide +kernel, ⟨by decide +kernel, by decide +kernel, by decide +kernel⟩, fun h => absurd h (by decide +kernel), fun _ => ⟨ck_gw 922 (by decide +kernel) (by decide +kernel), ck_gw 34 (by decide +kernel) (by decide +kernel), by decide +kernel⟩, by decide +kernel, cc_Mo_branch⟩
set_option maxRecDepth 20000 in
theorem cc_Mo_leastMore : ck_chk cm_Mo_leastMore = true := by decide +kernel
set_option maxRecDepth 20000 in
theorem ck_ok_Mo_leastMore : ck_mok cm_Mo_leastMore := ⟨ck_gw 926 (by decide +kernel) (by decide +kernel), ck_gw 64 (by decide +kernel) (by decide +kernel), by decide +kernel, ⟨by decide +kernel, by decide +kernel, by decide +kernel⟩, fun _ => ck_gw 925 (by decide +kernel) (by decide +kernel), fun h => absurd h (by decide +kernel), by decide +kernel, cc_Mo_leastMore⟩
set_option maxRecDepth 20000 in
theorem cc_Mo_leastOf : ck_chk cm_Mo_leastOf = true := by decide +kernel
set_option maxRecDepth 20000 in
theorem ck_ok_Mo_leastOf : ck_mok cm_Mo_leastOf := ⟨ck_gw 929 (by decide +kernel) (by decide +kernel), ck_gw 64 (by decide +kernel) (by decide +kernel), by decide +kernel, ⟨by decide +kernel, by decide +kernel, by decide +kernel⟩, fun _ => ck_gw 928 (by decide +kernel) (by decide +kernel), fun h => absurd h (by decide +kernel), by decide +kernel, cc_Mo_leastOf⟩
set_option maxRecDepth 20000 in
theorem cc_Mo_greater : ck_chk cm_Mo_greater = true := by decide +kernel
set_option maxRecDepth 20000 in
theorem ck_ok_Mo_greater : ck_mok cm_Mo_greater := ⟨ck_gw 932 (by decide +kernel) (by decide +kernel), ck_gw 64 (by decide +kernel) (by decide +kernel), by decide +kernel, ⟨by decide +kernel, by decide +kernel, by decide +kernel⟩, fun _ => ck_gw 931 (by decide +kernel) (by decide +kernel), fun h => absurd h (by decide +kernel), by decide +kernel, cc_Mo_greater⟩
set_option maxRecDepth 20000 in
theorem cc_Mo_against : ck_chk cm_Mo_against = true := by decide +kernel
set_option maxRecDepth 20000 in
theorem ck_ok_Mo_against : ck_mok cm_Mo_against := ⟨ck_gw 936 (by decide +kernel) (by decide +kernel), ck_gw 64 (by decide +kernel) (by decide +kernel), by decide +kernel, ⟨by decide +kernel, by decide +kernel, by decide +kernel⟩, fun h => absurd h (by decide +kernel), fun _ => ⟨ck_gw 935 (by decide +kernel) (by decide +kernel), ck_gw 35 (by decide +kernel) (by decide +kernel), by decide +kernel⟩, by decide +kernel, cc_Mo_against⟩
set_option maxRecDepth 20000 in
theorem cc_Mo_high : ck_chk cm_Mo_high = true := by decide +kernel
set_option maxRecDepth 20000 in
theorem ck_ok_Mo_high : ck_mok cm_Mo_high := ⟨ck_gw 939 (by decide +kernel) (by decide +kernel), ck_gw 64 (by decide +kernel) (by decide +kernel), by decide +kernel, ⟨by decide +kernel, by decide +kernel, by decide +kernel⟩, fun _ => ck_gw 938 (by decide +kernel) (by decide +kernel), fun h => absurd h (by decide +kernel), by decide +kernel, cc_Mo_high⟩
set_option maxRecDepth 20000 in
theorem cc_Mo_highMore : ck_chk cm_Mo_highMore = true := by decide +kernel
set_option maxRecDepth 20000 in
theorem ck_ok_Mo_highMore : ck_mok cm_Mo_highMore := ⟨ck_gw 942 (by decide +kernel) (by decide +kernel), ck_gw 64 (by decide +kernel) (by decide +kernel), by decide +kernel, ⟨by decide +kernel, by decide +kernel, by decide +kernel⟩, fun _ => ck_gw 941 (by decide +kernel) (by decide +kernel), fun h => absurd h (by decide +kernel), by decide +kernel, cc_Mo_highMore⟩
set_option maxRecDepth 20000 in
theorem cc_Mo_lower : ck_chk cm_Mo_lower = true := by decide +kernel
set_option maxRecDepth 20000 in
theorem ck_ok_Mo_lower : ck_mok cm_Mo_lower := ⟨ck_gw 945 (by decide +kernel) (by decide +kernel), ck_gw 64 (by decide +kernel) (by decide +kernel), by decide +kernel, ⟨by decide +kernel, by decide +kernel, by decide +kernel⟩, fun _ => ck_gw 944 (by decide +kernel) (by decide +kernel), fun h => absurd h (by decide +kernel), by decide +kernel, cc_Mo_lower⟩
set_option maxRecDepth 20000 in
theorem cc_Mo_take : ck_chk cm_Mo_take = true := by decide +kernel
set_option maxRecDepth 20000 in
theorem ck_ok_Mo_take : ck_mok cm_Mo_take := ⟨ck_gw 949 (by decide +kernel) (by decide +kernel), ck_gw 64 (by decide +kernel) (by decide +kernel), by decide +kernel, ⟨by decide +kernel, by decide +kernel, by decide +kernel⟩, fun h => absurd h (by decide +kernel), fun _ => ⟨ck_gw 948 (by decide +kernel) (by decide +kernel), ck_gw 36 (by decide +kernel) (by decide +kernel), by decide +kernel⟩, by decide +kernel, cc_Mo_take⟩
set_option maxRecDepth 20000 in
theorem cc_Mo_close : ck_chk cm_Mo_close = true := by decide +kernel
set_option maxRecDepth 20000 in
theorem ck_ok_Mo_close : ck_mok cm_Mo_close := ⟨ck_gw 953 (by decide +kernel) (by decide +kernel), ck_gw 64 (by decide +kernel) (by decide +kernel), by decide +kernel, ⟨by decide +kernel, by decide +kernel, by decide +kernel⟩, fun h => absurd h (by decide +kernel), fun _ => ⟨ck_gw 952 (by decide +kernel) (by decide +kernel), ck_gw 37 (by decide +kernel) (by decide +kernel), by decide +kernel⟩, by decide +kernel, cc_Mo_close⟩
set_option maxRecDepth 20000 in
theorem cc_Mo_effect : ck_chk cm_Mo_effect = true := by decide +kernel
set_option maxRecDepth 20000 in
theorem ck_ok_Mo_effect : ck_mok cm_Mo_effect := ⟨ck_gw 957 (by decide +kernel) (by decide +kernel), ck_gw 64 (by decide +kernel) (by decide +kernel), by decide +kernel, ⟨by decide +kernel, by decide +kernel, by decide +kernel⟩, fun h => absurd h (by decide +kernel), fun _ => ⟨ck_gw 956 (by decide +kernel) (by decide +kernel), ck_gw 38 (by decide +kernel) (by decide +kernel), by decide +kernel⟩, by decide +kernel, cc_Mo_effect⟩
