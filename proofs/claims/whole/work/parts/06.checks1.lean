set_option maxRecDepth 20000 in
theorem cc_Fi_work : ck_chk cm_Fi_work = true := by decide +kernel
set_option maxRecDepth 20000 in
theorem ck_ok_Fi_work : ck_mok cm_Fi_work := ⟨ck_gw 502 (by decide +kernel) (by decide +kernel), ck_gw 61 (by decide +kernel) (by decide +kernel), by decide +kernel, ⟨by decide +kernel, by decide +kernel, by decide +kernel⟩, fun h => absurd h (by decide +kernel), fun _ => ⟨ck_gw 500 (by decide +kernel) (by decide +kernel), ck_gw 501 (by decide +kernel) (by decide +kernel), by decide +kernel⟩, by decide +kernel, cc_Fi_work⟩
set_option maxRecDepth 20000 in
theorem cc_Fi_markAllDue : ck_chk cm_Fi_markAllDue = true := by decide +kernel
set_option maxRecDepth 20000 in
theorem ck_ok_Fi_markAllDue : ck_mok cm_Fi_markAllDue := ⟨ck_gw 506 (by decide +kernel) (by decide +kernel), ck_gw 61 (by decide +kernel) (by decide +kernel), by decide +kernel, ⟨by decide +kernel, by decide +kernel, by decide +kernel⟩, fun h => absurd h (by decide +kernel), fun _ => ⟨ck_gw 505 (by decide +kernel) (by decide +kernel), ck_gw 3 (by decide +kernel) (by decide +kernel), by decide +kernel⟩, by decide +kernel, cc_Fi_markAllDue⟩
set_option maxRecDepth 20000 in
theorem cc_Fi_arrive : ck_chk cm_Fi_arrive = true := by decide +kernel
set_option maxRecDepth 20000 in
theorem ck_ok_Fi_arrive : ck_mok cm_Fi_arrive := ⟨ck_gw 511 (by decide +kernel) (by decide +kernel), ck_gw 61 (by decide +kernel) (by decide +kernel), by decide +kernel, ⟨by decide +kernel, by decide +kernel, by decide +kernel⟩, fun h => absurd h (by decide +kernel), fun _ => ⟨ck_gw 510 (by decide +kernel) (by decide +kernel), ck_gw 4 (by decide +kernel) (by decide +kernel), by decide +kernel⟩, by decide +kernel, cc_Fi_arrive⟩
set_option maxRecDepth 20000 in
theorem cc_Fa_setFirst : ck_chk cm_Fa_setFirst = true := by decide +kernel
set_option maxRecDepth 20000 in
theorem ck_ok_Fa_setFirst : ck_mok cm_Fa_setFirst := ⟨ck_gw 515 (by decide +kernel) (by decide +kernel), ck_gw 63 (by decide +kernel) (by decide +kernel), by decide +kernel, ⟨by decide +kernel, by decide +kernel, by decide +kernel⟩, fun h => absurd h (by decide +kernel), fun _ => ⟨ck_gw 513 (by decide +kernel) (by decide +kernel), ck_gw 514 (by decide +kernel) (by decide +kernel), by decide +kernel⟩, by decide +kernel, cc_Fa_setFirst⟩
set_option maxRecDepth 20000 in
theorem cc_Fa_setNull : ck_chk cm_Fa_setNull = true := by decide +kernel
set_option maxRecDepth 20000 in
theorem ck_ok_Fa_setNull : ck_mok cm_Fa_setNull := ⟨ck_gw 519 (by decide +kernel) (by decide +kernel), ck_gw 63 (by decide +kernel) (by decide +kernel), by decide +kernel, ⟨by decide +kernel, by decide +kernel, by decide +kernel⟩, fun h => absurd h (by decide +kernel), fun _ => ⟨ck_gw 517 (by decide +kernel) (by decide +kernel), ck_gw 518 (by decide +kernel) (by decide +kernel), by decide +kernel⟩, by decide +kernel, cc_Fa_setNull⟩
set_option maxRecDepth 20000 in
theorem cc_Fi_follow : ck_chk cm_Fi_follow = true := by decide +kernel
set_option maxRecDepth 20000 in
theorem ck_ok_Fi_follow : ck_mok cm_Fi_follow := ⟨ck_gw 524 (by decide +kernel) (by decide +kernel), ck_gw 61 (by decide +kernel) (by decide +kernel), by decide +kernel, ⟨by decide +kernel, by decide +kernel, by decide +kernel⟩, fun h => absurd h (by decide +kernel), fun _ => ⟨ck_gw 523 (by decide +kernel) (by decide +kernel), ck_gw 5 (by decide +kernel) (by decide +kernel), by decide +kernel⟩, by decide +kernel, cc_Fi_follow⟩
set_option maxRecDepth 20000 in
theorem cc_Fa_copy : ck_chk cm_Fa_copy = true := by decide +kernel
set_option maxRecDepth 20000 in
theorem ck_ok_Fa_copy : ck_mok cm_Fa_copy := ⟨ck_gw 528 (by decide +kernel) (by decide +kernel), ck_gw 63 (by decide +kernel) (by decide +kernel), by decide +kernel, ⟨by decide +kernel, by decide +kernel, by decide +kernel⟩, fun h => absurd h (by decide +kernel), fun _ => ⟨ck_gw 526 (by decide +kernel) (by decide +kernel), ck_gw 527 (by decide +kernel) (by decide +kernel), by decide +kernel⟩, by decide +kernel, cc_Fa_copy⟩
set_option maxRecDepth 20000 in
theorem cc_Fa_setConstant : ck_chk cm_Fa_setConstant = true := by decide +kernel
set_option maxRecDepth 20000 in
theorem ck_ok_Fa_setConstant : ck_mok cm_Fa_setConstant := ⟨ck_gw 535 (by decide +kernel) (by decide +kernel), ck_gw 63 (by decide +kernel) (by decide +kernel), by decide +kernel, ⟨by decide +kernel, by decide +kernel, by decide +kernel⟩, fun h => absurd h (by decide +kernel), fun _ => ⟨ck_gw 533 (by decide +kernel) (by decide +kernel), ck_gw 534 (by decide +kernel) (by decide +kernel), by decide +kernel⟩, by decide +kernel, cc_Fa_setConstant⟩
set_option maxRecDepth 20000 in
theorem cc_Fa_highOfConstant : ck_chk cm_Fa_highOfConstant = true := by decide +kernel
set_option maxRecDepth 20000 in
theorem ck_ok_Fa_highOfConstant : ck_mok cm_Fa_highOfConstant := ⟨ck_gw 539 (by decide +kernel) (by decide +kernel), ck_gw 63 (by decide +kernel) (by decide +kernel), by decide +kernel, ⟨by decide +kernel, by decide +kernel, by decide +kernel⟩, fun h => absurd h (by decide +kernel), fun _ => ⟨ck_gw 538 (by decide +kernel) (by decide +kernel), ck_gw 6 (by decide +kernel) (by decide +kernel), by decide +kernel⟩, by decide +kernel, cc_Fa_highOfConstant⟩
set_option maxRecDepth 20000 in
theorem cc_Fa_boundedHigh : ck_chk cm_Fa_boundedHigh = true := by decide +kernel
set_option maxRecDepth 20000 in
theorem ck_ok_Fa_boundedHigh : ck_mok cm_Fa_boundedHigh := ⟨ck_gw 542 (by decide +kernel) (by decide +kernel), ck_gw 63 (by decide +kernel) (by decide +kernel), by decide +kernel, ⟨by decide +kernel, by decide +kernel, by decide +kernel⟩, fun _ => ck_gw 541 (by decide +kernel) (by decide +kernel), fun h => absurd h (by decide +kernel), by decide +kernel, cc_Fa_boundedHigh⟩
set_option maxRecDepth 20000 in
theorem cc_Fa_setSum : ck_chk cm_Fa_setSum = true := by decide +kernel
set_option maxRecDepth 20000 in
theorem ck_ok_Fa_setSum : ck_mok cm_Fa_setSum := ⟨ck_gw 546 (by decide +kernel) (by decide +kernel), ck_gw 63 (by decide +kernel) (by decide +kernel), by decide +kernel, ⟨by decide +kernel, by decide +kernel, by decide +kernel⟩, fun h => absurd h (by decide +kernel), fun _ => ⟨ck_gw 544 (by decide +kernel) (by decide +kernel), ck_gw 545 (by decide +kernel) (by decide +kernel), by decide +kernel⟩, by decide +kernel, cc_Fa_setSum⟩
set_option maxRecDepth 20000 in
theorem cc_Fa_boundedLow : ck_chk cm_Fa_boundedLow = true := by decide +kernel
set_option maxRecDepth 20000 in
theorem ck_ok_Fa_boundedLow : ck_mok cm_Fa_boundedLow := ⟨ck_gw 549 (by decide +kernel) (by decide +kernel), ck_gw 63 (by decide +kernel) (by decide +kernel), by decide +kernel, ⟨by decide +kernel, by decide +kernel, by decide +kernel⟩, fun _ => ck_gw 548 (by decide +kernel) (by decide +kernel), fun h => absurd h (by decide +kernel), by decide +kernel, cc_Fa_boundedLow⟩
set_option maxRecDepth 20000 in
theorem cc_Fa_setAnything : ck_chk cm_Fa_setAnything = true := by decide +kernel
set_option maxRecDepth 20000 in
theorem ck_ok_Fa_setAnything : ck_mok cm_Fa_setAnything := ⟨ck_gw 554 (by decide +kernel) (by decide +kernel), ck_gw 63 (by decide +kernel) (by decide +kernel), by decide +kernel, ⟨by decide +kernel, by decide +kernel, by decide +kernel⟩, fun h => absurd h (by decide +kernel), fun _ => ⟨ck_gw 552 (by decide +kernel) (by decide +kernel), ck_gw 553 (by decide +kernel) (by decide +kernel), by decide +kernel⟩, by decide +kernel, cc_Fa_setAnything⟩
set_option maxRecDepth 20000 in
theorem cc_Fa_setLength : ck_chk cm_Fa_setLength = true := by decide +kernel
set_option maxRecDepth 20000 in
theorem ck_ok_Fa_setLength : ck_mok cm_Fa_setLength := ⟨ck_gw 558 (by decide +kernel) (by decide +kernel), ck_gw 63 (by decide +kernel) (by decide +kernel), by decide +kernel, ⟨by decide +kernel, by decide +kernel, by decide +kernel⟩, fun h => absurd h (by decide +kernel), fun _ => ⟨ck_gw 556 (by decide +kernel) (by decide +kernel), ck_gw 557 (by decide +kernel) (by decide +kernel), by decide +kernel⟩, by decide +kernel, cc_Fa_setLength⟩
set_option maxRecDepth 20000 in
theorem cc_Fa_markThere : ck_chk cm_Fa_markThere = true := by decide +kernel
set_option maxRecDepth 20000 in
theorem ck_ok_Fa_markThere : ck_mok cm_Fa_markThere := ⟨ck_gw 562 (by decide +kernel) (by decide +kernel), ck_gw 63 (by decide +kernel) (by decide +kernel), by decide +kernel, ⟨by decide +kernel, by decide +kernel, by decide +kernel⟩, fun h => absurd h (by decide +kernel), fun _ => ⟨ck_gw 561 (by decide +kernel) (by decide +kernel), ck_gw 7 (by decide +kernel) (by decide +kernel), by decide +kernel⟩, by decide +kernel, cc_Fa_markThere⟩
set_option maxRecDepth 20000 in
theorem cc_Fa_isSameArray : ck_chk cm_Fa_isSameArray = true := by decide +kernel
set_option maxRecDepth 20000 in
theorem ck_ok_Fa_isSameArray : ck_mok cm_Fa_isSameArray := ⟨ck_gw 566 (by decide +kernel) (by decide +kernel), ck_gw 63 (by decide +kernel) (by decide +kernel), by decide +kernel, ⟨by decide +kernel, by decide +kernel, by decide +kernel⟩, fun h => absurd h (by decide +kernel), fun _ => ⟨ck_gw 565 (by decide +kernel) (by decide +kernel), ck_gw 8 (by decide +kernel) (by decide +kernel), by decide +kernel⟩, by decide +kernel, cc_Fa_isSameArray⟩
set_option maxRecDepth 20000 in
theorem cc_Fa_useIndex : ck_chk cm_Fa_useIndex = true := by decide +kernel
set_option maxRecDepth 20000 in
theorem ck_ok_Fa_useIndex : ck_mok cm_Fa_useIndex := ⟨ck_gw 571 (by decide +kernel) (by decide +kernel), ck_gw 63 (by decide +kernel) (by decide +kernel), by decide +kernel, ⟨by decide +kernel, by decide +kernel, by decide +kernel⟩, fun h => absurd h (by decide +kernel), fun _ => ⟨ck_gw 569 (by decide +kernel) (by decide +kernel), ck_gw 570 (by decide +kernel) (by decide +kernel), by decide +kernel⟩, by decide +kernel, cc_Fa_useIndex⟩
set_option maxRecDepth 20000 in
theorem cc_Jm_max : ck_chk cm_Jm_max = true := by decide +kernel
set_option maxRecDepth 20000 in
theorem ck_ok_Jm_max : ck_mok cm_Jm_max := ⟨ck_gw 574 (by decide +kernel) (by decide +kernel), ck_gw 71 (by decide +kernel) (by decide +kernel), by decide +kernel, ⟨by decide +kernel, by decide +kernel, by decide +kernel⟩, fun _ => ck_gw 573 (by decide +kernel) (by decide +kernel), fun h => absurd h (by decide +kernel), by decide +kernel, cc_Jm_max⟩
set_option maxRecDepth 20000 in
theorem cc_Jm_min : ck_chk cm_Jm_min = true := by decide +kernel
set_option maxRecDepth 20000 in
theorem ck_ok_Jm_min : ck_mok cm_Jm_min := ⟨ck_gw 577 (by decide +kernel) (by decide +kernel), ck_gw 71 (by decide +kernel) (by decide +kernel), by decide +kernel, ⟨by decide +kernel, by decide +kernel, by decide +kernel⟩, fun _ => ck_gw 576 (by decide +kernel) (by decide +kernel), fun h => absurd h (by decide +kernel), by decide +kernel, cc_Jm_min⟩
set_option maxRecDepth 20000 in
theorem cc_Fa_setNew : ck_chk cm_Fa_setNew = true := by decide +kernel
set_option maxRecDepth 20000 in
theorem ck_ok_Fa_setNew : ck_mok cm_Fa_setNew := ⟨ck_gw 581 (by decide +kernel) (by decide +kernel), ck_gw 63 (by decide +kernel) (by decide +kernel), by decide +kernel, ⟨by decide +kernel, by decide +kernel, by decide +kernel⟩, fun h => absurd h (by decide +kernel), fun _ => ⟨ck_gw 579 (by decide +kernel) (by decide +kernel), ck_gw 580 (by decide +kernel) (by decide +kernel), by decide +kernel⟩, by decide +kernel, cc_Fa_setNew⟩
set_option maxRecDepth 20000 in
theorem cc_Fa_setArray : ck_chk cm_Fa_setArray = true := by decide +kernel
set_option maxRecDepth 20000 in
theorem ck_ok_Fa_setArray : ck_mok cm_Fa_setArray := ⟨ck_gw 586 (by decide +kernel) (by decide +kernel), ck_gw 63 (by decide +kernel) (by decide +kernel), by decide +kernel, ⟨by decide +kernel, by decide +kernel, by decide +kernel⟩, fun h => absurd h (by decide +kernel), fun _ => ⟨ck_gw 584 (by decide +kernel) (by decide +kernel), ck_gw 585 (by decide +kernel) (by decide +kernel), by decide +kernel⟩, by decide +kernel, cc_Fa_setArray⟩
set_option maxRecDepth 20000 in
theorem cc_Fa_assumeBelow : ck_chk cm_Fa_assumeBelow = true := by decide +kernel
set_option maxRecDepth 20000 in
theorem ck_ok_Fa_assumeBelow : ck_mok cm_Fa_assumeBelow := ⟨ck_gw 590 (by decide +kernel) (by decide +kernel), ck_gw 63 (by decide +kernel) (by decide +kernel), by decide +kernel, ⟨by decide +kernel, by decide +kernel, by decide +kernel⟩, fun h => absurd h (by decide +kernel), fun _ => ⟨ck_gw 588 (by decide +kernel) (by decide +kernel), ck_gw 589 (by decide +kernel) (by decide +kernel), by decide +kernel⟩, by decide +kernel, cc_Fa_assumeBelow⟩
set_option maxRecDepth 20000 in
theorem cc_Fi_takeOtherWay : ck_chk cm_Fi_takeOtherWay = true := by decide +kernel
set_option maxRecDepth 20000 in
theorem ck_ok_Fi_takeOtherWay : ck_mok cm_Fi_takeOtherWay := ⟨ck_gw 594 (by decide +kernel) (by decide +kernel), ck_gw 61 (by decide +kernel) (by decide +kernel), by decide +kernel, ⟨by decide +kernel, by decide +kernel, by decide +kernel⟩, fun h => absurd h (by decide +kernel), fun _ => ⟨ck_gw 593 (by decide +kernel) (by decide +kernel), ck_gw 9 (by decide +kernel) (by decide +kernel), by decide +kernel⟩, by decide +kernel, cc_Fi_takeOtherWay⟩
set_option maxRecDepth 20000 in
theorem cc_Fa_assumeNotBelow : ck_chk cm_Fa_assumeNotBelow = true := by decide +kernel
set_option maxRecDepth 20000 in
theorem ck_ok_Fa_assumeNotBelow : ck_mok cm_Fa_assumeNotBelow := ⟨ck_gw 598 (by decide +kernel) (by decide +kernel), ck_gw 63 (by decide +kernel) (by decide +kernel), by decide +kernel, ⟨by decide +kernel, by decide +kernel, by decide +kernel⟩, fun h => absurd h (by decide +kernel), fun _ => ⟨ck_gw 596 (by decide +kernel) (by decide +kernel), ck_gw 597 (by decide +kernel) (by decide +kernel), by decide +kernel⟩, by decide +kernel, cc_Fa_assumeNotBelow⟩
set_option maxRecDepth 20000 in
theorem cc_Fa_joinWays : ck_chk cm_Fa_joinWays = true := by decide +kernel
set_option maxRecDepth 20000 in
theorem ck_ok_Fa_joinWays : ck_mok cm_Fa_joinWays := ⟨ck_gw 602 (by decide +kernel) (by decide +kernel), ck_gw 63 (by decide +kernel) (by decide +kernel), by decide +kernel, ⟨by decide +kernel, by decide +kernel, by decide +kernel⟩, fun h => absurd h (by decide +kernel), fun _ => ⟨ck_gw 600 (by decide +kernel) (by decide +kernel), ck_gw 601 (by decide +kernel) (by decide +kernel), by decide +kernel⟩, by decide +kernel, cc_Fa_joinWays⟩
set_option maxRecDepth 20000 in
theorem cc_Fa_joinBounds : ck_chk cm_Fa_joinBounds = true := by decide +kernel
set_option maxRecDepth 20000 in
theorem ck_ok_Fa_joinBounds : ck_mok cm_Fa_joinBounds := ⟨ck_gw 606 (by decide +kernel) (by decide +kernel), ck_gw 63 (by decide +kernel) (by decide +kernel), by decide +kernel, ⟨by decide +kernel, by decide +kernel, by decide +kernel⟩, fun h => absurd h (by decide +kernel), fun _ => ⟨ck_gw 604 (by decide +kernel) (by decide +kernel), ck_gw 605 (by decide +kernel) (by decide +kernel), by decide +kernel⟩, by decide +kernel, cc_Fa_joinBounds⟩
set_option maxRecDepth 20000 in
theorem cc_Fa_setJoinedValue : ck_chk cm_Fa_setJoinedValue = true := by decide +kernel
set_option maxRecDepth 20000 in
theorem ck_ok_Fa_setJoinedValue : ck_mok cm_Fa_setJoinedValue := ⟨ck_gw 610 (by decide +kernel) (by decide +kernel), ck_gw 63 (by decide +kernel) (by decide +kernel), by decide +kernel, ⟨by decide +kernel, by decide +kernel, by decide +kernel⟩, fun h => absurd h (by decide +kernel), fun _ => ⟨ck_gw 609 (by decide +kernel) (by decide +kernel), ck_gw 10 (by decide +kernel) (by decide +kernel), by decide +kernel⟩, by decide +kernel, cc_Fa_setJoinedValue⟩
