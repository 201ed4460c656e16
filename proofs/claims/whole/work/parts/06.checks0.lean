set_option maxRecDepth 20000 in
theorem cc_Cs_clear : ck_chk cm_Cs_clear = true := by decide +kernel
set_option maxRecDepth 20000 in
theorem ck_ok_Cs_clear : ck_mok cm_Cs_clear := ⟨ck_gw 303 (by decide +kernel) (by decide +kernel), ck_gw 58 (by decide +kernel) (by decide +kernel), by decide +kernel, ⟨by decide +kernel, by decide +kernel, by decide +kernel⟩, fun h => absurd h (by decide +kernel), fun _ => ⟨ck_gw 301 (by decide +kernel) (by decide +kernel), ck_gw 302 (by decide +kernel) (by decide +kernel), by decide +kernel⟩, by decide +kernel, cc_Cs_clear⟩
set_option maxRecDepth 20000 in
theorem cc_Pr_empty : ck_chk cm_Pr_empty = true := by decide +kernel
set_option maxRecDepth 20000 in
theorem ck_ok_Pr_empty : ck_mok cm_Pr_empty := ⟨ck_gw 307 (by decide +kernel) (by decide +kernel), ck_gw 62 (by decide +kernel) (by decide +kernel), by decide +kernel, ⟨by decide +kernel, by decide +kernel, by decide +kernel⟩, fun h => absurd h (by decide +kernel), fun _ => ⟨ck_gw 305 (by decide +kernel) (by decide +kernel), ck_gw 306 (by decide +kernel) (by decide +kernel), by decide +kernel⟩, by decide +kernel, cc_Pr_empty⟩
set_option maxRecDepth 20000 in
theorem cc_In_empty : ck_chk cm_In_empty = true := by decide +kernel
set_option maxRecDepth 20000 in
theorem ck_ok_In_empty : ck_mok cm_In_empty := ⟨ck_gw 311 (by decide +kernel) (by decide +kernel), ck_gw 60 (by decide +kernel) (by decide +kernel), by decide +kernel, ⟨by decide +kernel, by decide +kernel, by decide +kernel⟩, fun h => absurd h (by decide +kernel), fun _ => ⟨ck_gw 309 (by decide +kernel) (by decide +kernel), ck_gw 310 (by decide +kernel) (by decide +kernel), by decide +kernel⟩, by decide +kernel, cc_In_empty⟩
set_option maxRecDepth 20000 in
theorem cc_Ma_leave : ck_chk cm_Ma_leave = true := by decide +kernel
set_option maxRecDepth 20000 in
theorem ck_ok_Ma_leave : ck_mok cm_Ma_leave := ⟨ck_gw 315 (by decide +kernel) (by decide +kernel), ck_gw 59 (by decide +kernel) (by decide +kernel), by decide +kernel, ⟨by decide +kernel, by decide +kernel, by decide +kernel⟩, fun h => absurd h (by decide +kernel), fun _ => ⟨ck_gw 313 (by decide +kernel) (by decide +kernel), ck_gw 314 (by decide +kernel) (by decide +kernel), by decide +kernel⟩, by decide +kernel, cc_Ma_leave⟩
set_option maxRecDepth 20000 in
theorem cc_Fi_forgetAll : ck_chk cm_Fi_forgetAll = true := by decide +kernel
set_option maxRecDepth 20000 in
theorem ck_ok_Fi_forgetAll : ck_mok cm_Fi_forgetAll := ⟨ck_gw 319 (by decide +kernel) (by decide +kernel), ck_gw 61 (by decide +kernel) (by decide +kernel), by decide +kernel, ⟨by decide +kernel, by decide +kernel, by decide +kernel⟩, fun h => absurd h (by decide +kernel), fun _ => ⟨ck_gw 317 (by decide +kernel) (by decide +kernel), ck_gw 318 (by decide +kernel) (by decide +kernel), by decide +kernel⟩, by decide +kernel, cc_Fi_forgetAll⟩
set_option maxRecDepth 20000 in
theorem cc_Cs_output : ck_chk cm_Cs_output = true := by decide +kernel
set_option maxRecDepth 20000 in
theorem ck_ok_Cs_output : ck_mok cm_Cs_output := ⟨ck_gw 323 (by decide +kernel) (by decide +kernel), ck_gw 58 (by decide +kernel) (by decide +kernel), by decide +kernel, ⟨by decide +kernel, by decide +kernel, by decide +kernel⟩, fun h => absurd h (by decide +kernel), fun _ => ⟨ck_gw 321 (by decide +kernel) (by decide +kernel), ck_gw 322 (by decide +kernel) (by decide +kernel), by decide +kernel⟩, by decide +kernel, cc_Cs_output⟩
set_option maxRecDepth 20000 in
theorem cc_Ma_outputBack : ck_chk cm_Ma_outputBack = true := by decide +kernel
set_option maxRecDepth 20000 in
theorem ck_ok_Ma_outputBack : ck_mok cm_Ma_outputBack := ⟨ck_gw 327 (by decide +kernel) (by decide +kernel), ck_gw 59 (by decide +kernel) (by decide +kernel), by decide +kernel, ⟨by decide +kernel, by decide +kernel, by decide +kernel⟩, fun h => absurd h (by decide +kernel), fun _ => ⟨ck_gw 325 (by decide +kernel) (by decide +kernel), ck_gw 326 (by decide +kernel) (by decide +kernel), by decide +kernel⟩, by decide +kernel, cc_Ma_outputBack⟩
set_option maxRecDepth 20000 in
theorem cc_Jm_floorMod : ck_chk cm_Jm_floorMod = true := by decide +kernel
set_option maxRecDepth 20000 in
theorem ck_ok_Jm_floorMod : ck_mok cm_Jm_floorMod := ⟨ck_gw 331 (by decide +kernel) (by decide +kernel), ck_gw 71 (by decide +kernel) (by decide +kernel), by decide +kernel, ⟨by decide +kernel, by decide +kernel, by decide +kernel⟩, fun _ => ck_gw 330 (by decide +kernel) (by decide +kernel), fun h => absurd h (by decide +kernel), by decide +kernel, cc_Jm_floorMod⟩
set_option maxRecDepth 20000 in
theorem cc_Cs_state : ck_chk cm_Cs_state = true := by decide +kernel
set_option maxRecDepth 20000 in
theorem ck_ok_Cs_state : ck_mok cm_Cs_state := ⟨ck_gw 336 (by decide +kernel) (by decide +kernel), ck_gw 58 (by decide +kernel) (by decide +kernel), by decide +kernel, ⟨by decide +kernel, by decide +kernel, by decide +kernel⟩, fun h => absurd h (by decide +kernel), fun _ => ⟨ck_gw 334 (by decide +kernel) (by decide +kernel), ck_gw 335 (by decide +kernel) (by decide +kernel), by decide +kernel⟩, by decide +kernel, cc_Cs_state⟩
set_option maxRecDepth 20000 in
theorem cc_Ma_tell : ck_chk cm_Ma_tell = true := by decide +kernel
set_option maxRecDepth 20000 in
theorem ck_ok_Ma_tell : ck_mok cm_Ma_tell := ⟨ck_gw 340 (by decide +kernel) (by decide +kernel), ck_gw 59 (by decide +kernel) (by decide +kernel), by decide +kernel, ⟨by decide +kernel, by decide +kernel, by decide +kernel⟩, fun h => absurd h (by decide +kernel), fun _ => ⟨ck_gw 338 (by decide +kernel) (by decide +kernel), ck_gw 339 (by decide +kernel) (by decide +kernel), by decide +kernel⟩, by decide +kernel, cc_Ma_tell⟩
set_option maxRecDepth 20000 in
theorem cc_Cs_number : ck_chk cm_Cs_number = true := by decide +kernel
set_option maxRecDepth 20000 in
theorem ck_ok_Cs_number : ck_mok cm_Cs_number := ⟨ck_gw 344 (by decide +kernel) (by decide +kernel), ck_gw 58 (by decide +kernel) (by decide +kernel), by decide +kernel, ⟨by decide +kernel, by decide +kernel, by decide +kernel⟩, fun h => absurd h (by decide +kernel), fun _ => ⟨ck_gw 342 (by decide +kernel) (by decide +kernel), ck_gw 343 (by decide +kernel) (by decide +kernel), by decide +kernel⟩, by decide +kernel, cc_Cs_number⟩
set_option maxRecDepth 20000 in
theorem cc_Cs_isNumber : ck_chk cm_Cs_isNumber = true := by decide +kernel
set_option maxRecDepth 20000 in
theorem ck_ok_Cs_isNumber : ck_mok cm_Cs_isNumber := ⟨ck_gw 347 (by decide +kernel) (by decide +kernel), ck_gw 58 (by decide +kernel) (by decide +kernel), by decide +kernel, ⟨by decide +kernel, by decide +kernel, by decide +kernel⟩, fun _ => ck_gw 346 (by decide +kernel) (by decide +kernel), fun h => absurd h (by decide +kernel), by decide +kernel, cc_Cs_isNumber⟩
set_option maxRecDepth 20000 in
theorem cc_Cs_length : ck_chk cm_Cs_length = true := by decide +kernel
set_option maxRecDepth 20000 in
theorem ck_ok_Cs_length : ck_mok cm_Cs_length := ⟨ck_gw 351 (by decide +kernel) (by decide +kernel), ck_gw 58 (by decide +kernel) (by decide +kernel), by decide +kernel, ⟨by decide +kernel, by decide +kernel, by decide +kernel⟩, fun h => absurd h (by decide +kernel), fun _ => ⟨ck_gw 349 (by decide +kernel) (by decide +kernel), ck_gw 350 (by decide +kernel) (by decide +kernel), by decide +kernel⟩, by decide +kernel, cc_Cs_length⟩
set_option maxRecDepth 20000 in
theorem cc_Cs_isArray : ck_chk cm_Cs_isArray = true := by decide +kernel
set_option maxRecDepth 20000 in
theorem ck_ok_Cs_isArray : ck_mok cm_Cs_isArray := ⟨ck_gw 354 (by decide +kernel) (by decide +kernel), ck_gw 58 (by decide +kernel) (by decide +kernel), by decide +kernel, ⟨by decide +kernel, by decide +kernel, by decide +kernel⟩, fun _ => ck_gw 353 (by decide +kernel) (by decide +kernel), fun h => absurd h (by decide +kernel), by decide +kernel, cc_Cs_isArray⟩
set_option maxRecDepth 20000 in
theorem cc_Ma_lengthOf : ck_chk cm_Ma_lengthOf = true := by decide +kernel
set_option maxRecDepth 20000 in
theorem ck_ok_Ma_lengthOf : ck_mok cm_Ma_lengthOf := ⟨ck_gw 358 (by decide +kernel) (by decide +kernel), ck_gw 59 (by decide +kernel) (by decide +kernel), by decide +kernel, ⟨by decide +kernel, by decide +kernel, by decide +kernel⟩, fun h => absurd h (by decide +kernel), fun _ => ⟨ck_gw 356 (by decide +kernel) (by decide +kernel), ck_gw 357 (by decide +kernel) (by decide +kernel), by decide +kernel⟩, by decide +kernel, cc_Ma_lengthOf⟩
set_option maxRecDepth 20000 in
theorem cc_Cs_place : ck_chk cm_Cs_place = true := by decide +kernel
set_option maxRecDepth 20000 in
theorem ck_ok_Cs_place : ck_mok cm_Cs_place := ⟨ck_gw 362 (by decide +kernel) (by decide +kernel), ck_gw 58 (by decide +kernel) (by decide +kernel), by decide +kernel, ⟨by decide +kernel, by decide +kernel, by decide +kernel⟩, fun h => absurd h (by decide +kernel), fun _ => ⟨ck_gw 360 (by decide +kernel) (by decide +kernel), ck_gw 361 (by decide +kernel) (by decide +kernel), by decide +kernel⟩, by decide +kernel, cc_Cs_place⟩
set_option maxRecDepth 20000 in
theorem cc_Ma_placeOf : ck_chk cm_Ma_placeOf = true := by decide +kernel
set_option maxRecDepth 20000 in
theorem ck_ok_Ma_placeOf : ck_mok cm_Ma_placeOf := ⟨ck_gw 366 (by decide +kernel) (by decide +kernel), ck_gw 59 (by decide +kernel) (by decide +kernel), by decide +kernel, ⟨by decide +kernel, by decide +kernel, by decide +kernel⟩, fun h => absurd h (by decide +kernel), fun _ => ⟨ck_gw 364 (by decide +kernel) (by decide +kernel), ck_gw 365 (by decide +kernel) (by decide +kernel), by decide +kernel⟩, by decide +kernel, cc_Ma_placeOf⟩
set_option maxRecDepth 20000 in
theorem cc_Ma_hasPlace : ck_chk cm_Ma_hasPlace = true := by decide +kernel
set_option maxRecDepth 20000 in
theorem ck_ok_Ma_hasPlace : ck_mok cm_Ma_hasPlace := ⟨ck_gw 370 (by decide +kernel) (by decide +kernel), ck_gw 59 (by decide +kernel) (by decide +kernel), by decide +kernel, ⟨by decide +kernel, by decide +kernel, by decide +kernel⟩, fun h => absurd h (by decide +kernel), fun _ => ⟨ck_gw 369 (by decide +kernel) (by decide +kernel), ck_gw 0 (by decide +kernel) (by decide +kernel), by decide +kernel⟩, by decide +kernel, cc_Ma_hasPlace⟩
set_option maxRecDepth 20000 in
theorem cc_Cs_put : ck_chk cm_Cs_put = true := by decide +kernel
set_option maxRecDepth 20000 in
theorem ck_ok_Cs_put : ck_mok cm_Cs_put := ⟨ck_gw 379 (by decide +kernel) (by decide +kernel), ck_gw 58 (by decide +kernel) (by decide +kernel), by decide +kernel, ⟨by decide +kernel, by decide +kernel, by decide +kernel⟩, fun h => absurd h (by decide +kernel), fun _ => ⟨ck_gw 377 (by decide +kernel) (by decide +kernel), ck_gw 378 (by decide +kernel) (by decide +kernel), by decide +kernel⟩, by decide +kernel, cc_Cs_put⟩
set_option maxRecDepth 20000 in
theorem cc_Pr_fits : ck_chk cm_Pr_fits = true := by decide +kernel
set_option maxRecDepth 20000 in
theorem ck_ok_Pr_fits : ck_mok cm_Pr_fits := ⟨ck_gw 382 (by decide +kernel) (by decide +kernel), ck_gw 62 (by decide +kernel) (by decide +kernel), by decide +kernel, ⟨by decide +kernel, by decide +kernel, by decide +kernel⟩, fun _ => ck_gw 381 (by decide +kernel) (by decide +kernel), fun h => absurd h (by decide +kernel), by decide +kernel, cc_Pr_fits⟩
set_option maxRecDepth 20000 in
theorem cc_Pr_isConstant : ck_chk cm_Pr_isConstant = true := by decide +kernel
set_option maxRecDepth 20000 in
theorem ck_ok_Pr_isConstant : ck_mok cm_Pr_isConstant := ⟨ck_gw 386 (by decide +kernel) (by decide +kernel), ck_gw 62 (by decide +kernel) (by decide +kernel), by decide +kernel, ⟨by decide +kernel, by decide +kernel, by decide +kernel⟩, fun _ => ck_gw 385 (by decide +kernel) (by decide +kernel), fun h => absurd h (by decide +kernel), by decide +kernel, cc_Pr_isConstant⟩
set_option maxRecDepth 20000 in
theorem cc_Pr_hasOwner : ck_chk cm_Pr_hasOwner = true := by decide +kernel
set_option maxRecDepth 20000 in
theorem ck_ok_Pr_hasOwner : ck_mok cm_Pr_hasOwner := ⟨ck_gw 391 (by decide +kernel) (by decide +kernel), ck_gw 62 (by decide +kernel) (by decide +kernel), by decide +kernel, ⟨by decide +kernel, by decide +kernel, by decide +kernel⟩, fun h => absurd h (by decide +kernel), fun _ => ⟨ck_gw 389 (by decide +kernel) (by decide +kernel), ck_gw 390 (by decide +kernel) (by decide +kernel), by decide +kernel⟩, by decide +kernel, cc_Pr_hasOwner⟩
set_option maxRecDepth 20000 in
theorem cc_Pr_append : ck_chk cm_Pr_append = true := by decide +kernel
set_option maxRecDepth 20000 in
theorem ck_ok_Pr_append : ck_mok cm_Pr_append := ⟨ck_gw 458 (by decide +kernel) (by decide +kernel), ck_gw 62 (by decide +kernel) (by decide +kernel), by decide +kernel, ⟨by decide +kernel, by decide +kernel, by decide +kernel⟩, fun h => absurd h (by decide +kernel), fun _ => ⟨ck_gw 456 (by decide +kernel) (by decide +kernel), ck_gw 457 (by decide +kernel) (by decide +kernel), by decide +kernel⟩, by decide +kernel, cc_Pr_append⟩
set_option maxRecDepth 20000 in
theorem cc_Pr_close : ck_chk cm_Pr_close = true := by decide +kernel
set_option maxRecDepth 20000 in
theorem ck_ok_Pr_close : ck_mok cm_Pr_close := ⟨ck_gw 462 (by decide +kernel) (by decide +kernel), ck_gw 62 (by decide +kernel) (by decide +kernel), by decide +kernel, ⟨by decide +kernel, by decide +kernel, by decide +kernel⟩, fun h => absurd h (by decide +kernel), fun _ => ⟨ck_gw 461 (by decide +kernel) (by decide +kernel), ck_gw 2 (by decide +kernel) (by decide +kernel), by decide +kernel⟩, by decide +kernel, cc_Pr_close⟩
set_option maxRecDepth 20000 in
theorem cc_Cs_give : ck_chk cm_Cs_give = true := by decide +kernel
set_option maxRecDepth 20000 in
theorem ck_ok_Cs_give : ck_mok cm_Cs_give := ⟨ck_gw 469 (by decide +kernel) (by decide +kernel), ck_gw 58 (by decide +kernel) (by decide +kernel), by decide +kernel, ⟨by decide +kernel, by decide +kernel, by decide +kernel⟩, fun h => absurd h (by decide +kernel), fun _ => ⟨ck_gw 467 (by decide +kernel) (by decide +kernel), ck_gw 468 (by decide +kernel) (by decide +kernel), by decide +kernel⟩, by decide +kernel, cc_Cs_give⟩
set_option maxRecDepth 20000 in
theorem cc_In_append : ck_chk cm_In_append = true := by decide +kernel
set_option maxRecDepth 20000 in
theorem ck_ok_In_append : ck_mok cm_In_append := ⟨ck_gw 475 (by decide +kernel) (by decide +kernel), ck_gw 60 (by decide +kernel) (by decide +kernel), by decide +kernel, ⟨by decide +kernel, by decide +kernel, by decide +kernel⟩, fun h => absurd h (by decide +kernel), fun _ => ⟨ck_gw 473 (by decide +kernel) (by decide +kernel), ck_gw 474 (by decide +kernel) (by decide +kernel), by decide +kernel⟩, by decide +kernel, cc_In_append⟩
set_option maxRecDepth 20000 in
theorem cc_Cs_start : ck_chk cm_Cs_start = true := by decide +kernel
set_option maxRecDepth 20000 in
theorem ck_ok_Cs_start : ck_mok cm_Cs_start := ⟨ck_gw 483 (by decide +kernel) (by decide +kernel), ck_gw 58 (by decide +kernel) (by decide +kernel), by decide +kernel, ⟨by decide +kernel, by decide +kernel, by decide +kernel⟩, fun h => absurd h (by decide +kernel), fun _ => ⟨ck_gw 481 (by decide +kernel) (by decide +kernel), ck_gw 482 (by decide +kernel) (by decide +kernel), by decide +kernel⟩, by decide +kernel, cc_Cs_start⟩
