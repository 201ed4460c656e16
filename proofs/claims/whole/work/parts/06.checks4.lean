set_option maxRecDepth 20000 in
theorem cc_Mo_set : ck_chk cm_Mo_set = true := by decide +kernel
set_option maxRecDepth 20000 in
theorem ck_ok_Mo_set : ck_mok cm_Mo_set := ⟨ck_gw 961 (by decide +kernel) (by decide +kernel), ck_gw 64 (by decide +kernel) (by decide +kernel), by decide +kernel, ⟨by decide +kernel, by decide +kernel, by decide +kernel⟩, fun h => absurd h (by decide +kernel), fun _ => ⟨ck_gw 960 (by decide +kernel) (by decide +kernel), ck_gw 39 (by decide +kernel) (by decide +kernel), by decide +kernel⟩, by decide +kernel, cc_Mo_set⟩
set_option maxRecDepth 20000 in
theorem cc_Mo_add : ck_chk cm_Mo_add = true := by decide +kernel
set_option maxRecDepth 20000 in
theorem ck_ok_Mo_add : ck_mok cm_Mo_add := ⟨ck_gw 965 (by decide +kernel) (by decide +kernel), ck_gw 64 (by decide +kernel) (by decide +kernel), by decide +kernel, ⟨by decide +kernel, by decide +kernel, by decide +kernel⟩, fun h => absurd h (by decide +kernel), fun _ => ⟨ck_gw 964 (by decide +kernel) (by decide +kernel), ck_gw 40 (by decide +kernel) (by decide +kernel), by decide +kernel⟩, by decide +kernel, cc_Mo_add⟩
set_option maxRecDepth 20000 in
theorem cc_Mo_forget : ck_chk cm_Mo_forget = true := by decide +kernel
set_option maxRecDepth 20000 in
theorem ck_ok_Mo_forget : ck_mok cm_Mo_forget := ⟨ck_gw 969 (by decide +kernel) (by decide +kernel), ck_gw 64 (by decide +kernel) (by decide +kernel), by decide +kernel, ⟨by decide +kernel, by decide +kernel, by decide +kernel⟩, fun h => absurd h (by decide +kernel), fun _ => ⟨ck_gw 968 (by decide +kernel) (by decide +kernel), ck_gw 41 (by decide +kernel) (by decide +kernel), by decide +kernel⟩, by decide +kernel, cc_Mo_forget⟩
set_option maxRecDepth 20000 in
theorem cc_Mo_measured : ck_chk cm_Mo_measured = true := by decide +kernel
set_option maxRecDepth 20000 in
theorem ck_ok_Mo_measured : ck_mok cm_Mo_measured := ⟨ck_gw 973 (by decide +kernel) (by decide +kernel), ck_gw 64 (by decide +kernel) (by decide +kernel), by decide +kernel, ⟨by decide +kernel, by decide +kernel, by decide +kernel⟩, fun h => absurd h (by decide +kernel), fun _ => ⟨ck_gw 972 (by decide +kernel) (by decide +kernel), ck_gw 42 (by decide +kernel) (by decide +kernel), by decide +kernel⟩, by decide +kernel, cc_Mo_measured⟩
set_option maxRecDepth 20000 in
theorem cc_Mo_found : ck_chk cm_Mo_found = true := by decide +kernel
set_option maxRecDepth 20000 in
theorem ck_ok_Mo_found : ck_mok cm_Mo_found := ⟨ck_gw 977 (by decide +kernel) (by decide +kernel), ck_gw 64 (by decide +kernel) (by decide +kernel), by decide +kernel, ⟨by decide +kernel, by decide +kernel, by decide +kernel⟩, fun h => absurd h (by decide +kernel), fun _ => ⟨ck_gw 976 (by decide +kernel) (by decide +kernel), ck_gw 43 (by decide +kernel) (by decide +kernel), by decide +kernel⟩, by decide +kernel, cc_Mo_found⟩
set_option maxRecDepth 20000 in
theorem cc_Mo_indexed : ck_chk cm_Mo_indexed = true := by decide +kernel
set_option maxRecDepth 20000 in
theorem ck_ok_Mo_indexed : ck_mok cm_Mo_indexed := ⟨ck_gw 981 (by decide +kernel) (by decide +kernel), ck_gw 64 (by decide +kernel) (by decide +kernel), by decide +kernel, ⟨by decide +kernel, by decide +kernel, by decide +kernel⟩, fun h => absurd h (by decide +kernel), fun _ => ⟨ck_gw 980 (by decide +kernel) (by decide +kernel), ck_gw 44 (by decide +kernel) (by decide +kernel), by decide +kernel⟩, by decide +kernel, cc_Mo_indexed⟩
set_option maxRecDepth 20000 in
theorem cc_Mo_make : ck_chk cm_Mo_make = true := by decide +kernel
set_option maxRecDepth 20000 in
theorem ck_ok_Mo_make : ck_mok cm_Mo_make := ⟨ck_gw 985 (by decide +kernel) (by decide +kernel), ck_gw 64 (by decide +kernel) (by decide +kernel), by decide +kernel, ⟨by decide +kernel, by decide +kernel, by decide +kernel⟩, fun h => absurd h (by decide +kernel), fun _ => ⟨ck_gw 984 (by decide +kernel) (by decide +kernel), ck_gw 45 (by decide +kernel) (by decide +kernel), by decide +kernel⟩, by decide +kernel, cc_Mo_make⟩
set_option maxRecDepth 20000 in
theorem cc_Mo_let : ck_chk cm_Mo_let = true := by decide +kernel
set_option maxRecDepth 20000 in
theorem ck_ok_Mo_let : ck_mok cm_Mo_let := ⟨ck_gw 989 (by decide +kernel) (by decide +kernel), ck_gw 64 (by decide +kernel) (by decide +kernel), by decide +kernel, ⟨by decide +kernel, by decide +kernel, by decide +kernel⟩, fun h => absurd h (by decide +kernel), fun _ => ⟨ck_gw 988 (by decide +kernel) (by decide +kernel), ck_gw 46 (by decide +kernel) (by decide +kernel), by decide +kernel⟩, by decide +kernel, cc_Mo_let⟩
set_option maxRecDepth 20000 in
theorem cc_Mo_spared : ck_chk cm_Mo_spared = true := by decide +kernel
set_option maxRecDepth 20000 in
theorem ck_ok_Mo_spared : ck_mok cm_Mo_spared := ⟨ck_gw 993 (by decide +kernel) (by decide +kernel), ck_gw 64 (by decide +kernel) (by decide +kernel), by decide +kernel, ⟨by decide +kernel, by decide +kernel, by decide +kernel⟩, fun h => absurd h (by decide +kernel), fun _ => ⟨ck_gw 992 (by decide +kernel) (by decide +kernel), ck_gw 47 (by decide +kernel) (by decide +kernel), by decide +kernel⟩, by decide +kernel, cc_Mo_spared⟩
set_option maxRecDepth 20000 in
theorem cc_Mo_needless : ck_chk cm_Mo_needless = true := by decide +kernel
set_option maxRecDepth 20000 in
theorem ck_ok_Mo_needless : ck_mok cm_Mo_needless := ⟨ck_gw 997 (by decide +kernel) (by decide +kernel), ck_gw 64 (by decide +kernel) (by decide +kernel), by decide +kernel, ⟨by decide +kernel, by decide +kernel, by decide +kernel⟩, fun h => absurd h (by decide +kernel), fun _ => ⟨ck_gw 995 (by decide +kernel) (by decide +kernel), ck_gw 996 (by decide +kernel) (by decide +kernel), by decide +kernel⟩, by decide +kernel, cc_Mo_needless⟩
set_option maxRecDepth 20000 in
theorem cc_Mo_refuses : ck_chk cm_Mo_refuses = true := by decide +kernel
set_option maxRecDepth 20000 in
theorem ck_ok_Mo_refuses : ck_mok cm_Mo_refuses := ⟨ck_gw 1001 (by decide +kernel) (by decide +kernel), ck_gw 64 (by decide +kernel) (by decide +kernel), by decide +kernel, ⟨by decide +kernel, by decide +kernel, by decide +kernel⟩, fun h => absurd h (by decide +kernel), fun _ => ⟨ck_gw 1000 (by decide +kernel) (by decide +kernel), ck_gw 48 (by decide +kernel) (by decide +kernel), by decide +kernel⟩, by decide +kernel, cc_Mo_refuses⟩
set_option maxRecDepth 20000 in
theorem cc_Mo_least : ck_chk cm_Mo_least = true := by decide +kernel
set_option maxRecDepth 20000 in
theorem ck_ok_Mo_least : ck_mok cm_Mo_least := ⟨ck_gw 1005 (by decide +kernel) (by decide +kernel), ck_gw 64 (by decide +kernel) (by decide +kernel), by decide +kernel, ⟨by decide +kernel, by decide +kernel, by decide +kernel⟩, fun h => absurd h (by decide +kernel), fun _ => ⟨ck_gw 1003 (by decide +kernel) (by decide +kernel), ck_gw 1004 (by decide +kernel) (by decide +kernel), by decide +kernel⟩, by decide +kernel, cc_Mo_least⟩
set_option maxRecDepth 20000 in
theorem cc_Mo_highest : ck_chk cm_Mo_highest = true := by decide +kernel
set_option maxRecDepth 20000 in
theorem ck_ok_Mo_highest : ck_mok cm_Mo_highest := ⟨ck_gw 1009 (by decide +kernel) (by decide +kernel), ck_gw 64 (by decide +kernel) (by decide +kernel), by decide +kernel, ⟨by decide +kernel, by decide +kernel, by decide +kernel⟩, fun h => absurd h (by decide +kernel), fun _ => ⟨ck_gw 1007 (by decide +kernel) (by decide +kernel), ck_gw 1008 (by decide +kernel) (by decide +kernel), by decide +kernel⟩, by decide +kernel, cc_Mo_highest⟩
set_option maxRecDepth 20000 in
theorem cc_Mo_run : ck_chk cm_Mo_run = true := by decide +kernel
set_option maxRecDepth 20000 in
theorem ck_ok_Mo_run : ck_mok cm_Mo_run := ⟨ck_gw 1013 (by decide +kernel) (by decide +kernel), ck_gw 64 (by decide +kernel) (by decide +kernel), by decide +kernel, ⟨by decide +kernel, by decide +kernel, by decide +kernel⟩, fun h => absurd h (by decide +kernel), fun _ => ⟨ck_gw 1011 (by decide +kernel) (by decide +kernel), ck_gw 1012 (by decide +kernel) (by decide +kernel), by decide +kernel⟩, by decide +kernel, cc_Mo_run⟩
set_option maxRecDepth 20000 in
theorem cc_Mo_one : ck_chk cm_Mo_one = true := by decide +kernel
set_option maxRecDepth 20000 in
theorem ck_ok_Mo_one : ck_mok cm_Mo_one := ⟨ck_gw 1017 (by decide +kernel) (by decide +kernel), ck_gw 64 (by decide +kernel) (by decide +kernel), by decide +kernel, ⟨by decide +kernel, by decide +kernel, by decide +kernel⟩, fun h => absurd h (by decide +kernel), fun _ => ⟨ck_gw 1016 (by decide +kernel) (by decide +kernel), ck_gw 49 (by decide +kernel) (by decide +kernel), by decide +kernel⟩, by decide +kernel, cc_Mo_one⟩
set_option maxRecDepth 20000 in
theorem cc_Mo_sum : ck_chk cm_Mo_sum = true := by decide +kernel
set_option maxRecDepth 20000 in
theorem ck_ok_Mo_sum : ck_mok cm_Mo_sum := ⟨ck_gw 1021 (by decide +kernel) (by decide +kernel), ck_gw 64 (by decide +kernel) (by decide +kernel), by decide +kernel, ⟨by decide +kernel, by decide +kernel, by decide +kernel⟩, fun h => absurd h (by decide +kernel), fun _ => ⟨ck_gw 1020 (by decide +kernel) (by decide +kernel), ck_gw 50 (by decide +kernel) (by decide +kernel), by decide +kernel⟩, by decide +kernel, cc_Mo_sum⟩
set_option maxRecDepth 20000 in
theorem cc_Mo_stops : ck_chk cm_Mo_stops = true := by decide +kernel
set_option maxRecDepth 20000 in
theorem ck_ok_Mo_stops : ck_mok cm_Mo_stops := ⟨ck_gw 1025 (by decide +kernel) (by decide +kernel), ck_gw 64 (by decide +kernel) (by decide +kernel), by decide +kernel, ⟨by decide +kernel, by decide +kernel, by decide +kernel⟩, fun h => absurd h (by decide +kernel), fun _ => ⟨ck_gw 1024 (by decide +kernel) (by decide +kernel), ck_gw 51 (by decide +kernel) (by decide +kernel), by decide +kernel⟩, by decide +kernel, cc_Mo_stops⟩
set_option maxRecDepth 20000 in
theorem cc_Mo_act : ck_chk cm_Mo_act = true := by decide +kernel
set_option maxRecDepth 20000 in
theorem ck_ok_Mo_act : ck_mok cm_Mo_act := ⟨ck_gw 1029 (by decide +kernel) (by decide +kernel), ck_gw 64 (by decide +kernel) (by decide +kernel), by decide +kernel, ⟨by decide +kernel, by decide +kernel, by decide +kernel⟩, fun h => absurd h (by decide +kernel), fun _ => ⟨ck_gw 1028 (by decide +kernel) (by decide +kernel), ck_gw 52 (by decide +kernel) (by decide +kernel), by decide +kernel⟩, by decide +kernel, cc_Mo_act⟩
set_option maxRecDepth 20000 in
theorem cc_Mo_input : ck_chk cm_Mo_input = true := by decide +kernel
set_option maxRecDepth 20000 in
theorem ck_ok_Mo_input : ck_mok cm_Mo_input := ⟨ck_gw 1033 (by decide +kernel) (by decide +kernel), ck_gw 64 (by decide +kernel) (by decide +kernel), by decide +kernel, ⟨by decide +kernel, by decide +kernel, by decide +kernel⟩, fun h => absurd h (by decide +kernel), fun _ => ⟨ck_gw 1032 (by decide +kernel) (by decide +kernel), ck_gw 53 (by decide +kernel) (by decide +kernel), by decide +kernel⟩, by decide +kernel, cc_Mo_input⟩
set_option maxRecDepth 20000 in
theorem cc_Mo_check : ck_chk cm_Mo_check = true := by decide +kernel
set_option maxRecDepth 20000 in
theorem ck_ok_Mo_check : ck_mok cm_Mo_check := ⟨ck_gw 1037 (by decide +kernel) (by decide +kernel), ck_gw 64 (by decide +kernel) (by decide +kernel), by decide +kernel, ⟨by decide +kernel, by decide +kernel, by decide +kernel⟩, fun h => absurd h (by decide +kernel), fun _ => ⟨ck_gw 1036 (by decide +kernel) (by decide +kernel), ck_gw 54 (by decide +kernel) (by decide +kernel), by decide +kernel⟩, by decide +kernel, cc_Mo_check⟩
set_option maxRecDepth 20000 in
theorem cc_Mo_checks : ck_chk cm_Mo_checks = true := by decide +kernel
set_option maxRecDepth 20000 in
theorem ck_ok_Mo_checks : ck_mok cm_Mo_checks := ⟨ck_gw 1041 (by decide +kernel) (by decide +kernel), ck_gw 64 (by decide +kernel) (by decide +kernel), by decide +kernel, ⟨by decide +kernel, by decide +kernel, by decide +kernel⟩, fun h => absurd h (by decide +kernel), fun _ => ⟨ck_gw 1040 (by decide +kernel) (by decide +kernel), ck_gw 55 (by decide +kernel) (by decide +kernel), by decide +kernel⟩, by decide +kernel, cc_Mo_checks⟩
set_option maxRecDepth 20000 in
theorem cc_Mo_room : ck_chk cm_Mo_room = true := by decide +kernel
set_option maxRecDepth 20000 in
theorem ck_ok_Mo_room : ck_mok cm_Mo_room := ⟨ck_gw 1045 (by decide +kernel) (by decide +kernel), ck_gw 64 (by decide +kernel) (by decide +kernel), by decide +kernel, ⟨by decide +kernel, by decide +kernel, by decide +kernel⟩, fun h => absurd h (by decide +kernel), fun _ => ⟨ck_gw 1044 (by decide +kernel) (by decide +kernel), ck_gw 56 (by decide +kernel) (by decide +kernel), by decide +kernel⟩, by decide +kernel, cc_Mo_room⟩
set_option maxRecDepth 20000 in
theorem cc_Mo_output : ck_chk cm_Mo_output = true := by decide +kernel
set_option maxRecDepth 20000 in
theorem ck_ok_Mo_output : ck_mok cm_Mo_output := ⟨ck_gw 1049 (by decide +kernel) (by decide +kernel), ck_gw 64 (by decide +kernel) (by decide +kernel), by decide +kernel, ⟨by decide +kernel, by decide +kernel, by decide +kernel⟩, fun h => absurd h (by decide +kernel), fun _ => ⟨ck_gw 1047 (by decide +kernel) (by decide +kernel), ck_gw 1048 (by decide +kernel) (by decide +kernel), by decide +kernel⟩, by decide +kernel, cc_Mo_output⟩
set_option maxRecDepth 20000 in
theorem cc_Mo_state : ck_chk cm_Mo_state = true := by decide +kernel
set_option maxRecDepth 20000 in
theorem ck_ok_Mo_state : ck_mok cm_Mo_state := ⟨ck_gw 1053 (by decide +kernel) (by decide +kernel), ck_gw 64 (by decide +kernel) (by decide +kernel), by decide +kernel, ⟨by decide +kernel, by decide +kernel, by decide +kernel⟩, fun h => absurd h (by decide +kernel), fun _ => ⟨ck_gw 1051 (by decide +kernel) (by decide +kernel), ck_gw 1052 (by decide +kernel) (by decide +kernel), by decide +kernel⟩, by decide +kernel, cc_Mo_state⟩
set_option maxRecDepth 20000 in
theorem cc_Mo_number : ck_chk cm_Mo_number = true := by decide +kernel
set_option maxRecDepth 20000 in
theorem ck_ok_Mo_number : ck_mok cm_Mo_number := ⟨ck_gw 1057 (by decide +kernel) (by decide +kernel), ck_gw 64 (by decide +kernel) (by decide +kernel), by decide +kernel, ⟨by decide +kernel, by decide +kernel, by decide +kernel⟩, fun h => absurd h (by decide +kernel), fun _ => ⟨ck_gw 1055 (by decide +kernel) (by decide +kernel), ck_gw 1056 (by decide +kernel) (by decide +kernel), by decide +kernel⟩, by decide +kernel, cc_Mo_number⟩
set_option maxRecDepth 20000 in
theorem cc_Mo_length : ck_chk cm_Mo_length = true := by decide +kernel
set_option maxRecDepth 20000 in
theorem ck_ok_Mo_length : ck_mok cm_Mo_length := ⟨ck_gw 1061 (by decide +kernel) (by decide +kernel), ck_gw 64 (by decide +kernel) (by decide +kernel), by decide +kernel, ⟨by decide +kernel, by decide +kernel, by decide +kernel⟩, fun h => absurd h (by decide +kernel), fun _ => ⟨ck_gw 1059 (by decide +kernel) (by decide +kernel), ck_gw 1060 (by decide +kernel) (by decide +kernel), by decide +kernel⟩, by decide +kernel, cc_Mo_length⟩
set_option maxRecDepth 20000 in
theorem cc_Mo_place : ck_chk cm_Mo_place = true := by decide +kernel
set_option maxRecDepth 20000 in
theorem ck_ok_Mo_place : ck_mok cm_Mo_place := ⟨ck_gw 1065 (by decide +kernel) (by decide +kernel), ck_gw 64 (by decide +kernel) (by decide +kernel), by decide +kernel, ⟨by decide +kernel, by decide +kernel, by decide +kernel⟩, fun h => absurd h (by decide +kernel), fun _ => ⟨ck_gw 1063 (by decide +kernel) (by decide +kernel), ck_gw 1064 (by decide +kernel) (by decide +kernel), by decide +kernel⟩, by decide +kernel, cc_Mo_place⟩
