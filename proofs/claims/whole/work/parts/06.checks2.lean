set_option maxRecDepth 20000 in
theorem cc_Fi_joinWhile : ck_chk cm_Fi_joinWhile = true := by decide +kernel
set_option maxRecDepth 20000 in
theorem ck_ok_Fi_joinWhile : ck_mok cm_Fi_joinWhile := ⟨ck_gw 614 (by decide +kernel) (by decide +kernel), ck_gw 61 (by decide +kernel) (by decide +kernel), by decide +kernel, ⟨by decide +kernel, by decide +kernel, by decide +kernel⟩, fun h => absurd h (by decide +kernel), fun _ => ⟨ck_gw 613 (by decide +kernel) (by decide +kernel), ck_gw 11 (by decide +kernel) (by decide +kernel), by decide +kernel⟩, by decide +kernel, cc_Fi_joinWhile⟩
set_option maxRecDepth 20000 in
theorem cc_Fa_forgetChanged : ck_chk cm_Fa_forgetChanged = true := by decide +kernel
set_option maxRecDepth 20000 in
theorem ck_ok_Fa_forgetChanged : ck_mok cm_Fa_forgetChanged := ⟨ck_gw 619 (by decide +kernel) (by decide +kernel), ck_gw 63 (by decide +kernel) (by decide +kernel), by decide +kernel, ⟨by decide +kernel, by decide +kernel, by decide +kernel⟩, fun h => absurd h (by decide +kernel), fun _ => ⟨ck_gw 617 (by decide +kernel) (by decide +kernel), ck_gw 618 (by decide +kernel) (by decide +kernel), by decide +kernel⟩, by decide +kernel, cc_Fa_forgetChanged⟩
set_option maxRecDepth 20000 in
theorem cc_Fa_hasSameBounds : ck_chk cm_Fa_hasSameBounds = true := by decide +kernel
set_option maxRecDepth 20000 in
theorem ck_ok_Fa_hasSameBounds : ck_mok cm_Fa_hasSameBounds := ⟨ck_gw 623 (by decide +kernel) (by decide +kernel), ck_gw 63 (by decide +kernel) (by decide +kernel), by decide +kernel, ⟨by decide +kernel, by decide +kernel, by decide +kernel⟩, fun h => absurd h (by decide +kernel), fun _ => ⟨ck_gw 621 (by decide +kernel) (by decide +kernel), ck_gw 622 (by decide +kernel) (by decide +kernel), by decide +kernel⟩, by decide +kernel, cc_Fa_hasSameBounds⟩
set_option maxRecDepth 20000 in
theorem cc_Fi_passOn : ck_chk cm_Fi_passOn = true := by decide +kernel
set_option maxRecDepth 20000 in
theorem ck_ok_Fi_passOn : ck_mok cm_Fi_passOn := ⟨ck_gw 627 (by decide +kernel) (by decide +kernel), ck_gw 61 (by decide +kernel) (by decide +kernel), by decide +kernel, ⟨by decide +kernel, by decide +kernel, by decide +kernel⟩, fun h => absurd h (by decide +kernel), fun _ => ⟨ck_gw 626 (by decide +kernel) (by decide +kernel), ck_gw 12 (by decide +kernel) (by decide +kernel), by decide +kernel⟩, by decide +kernel, cc_Fi_passOn⟩
set_option maxRecDepth 20000 in
theorem cc_Fi_findNeedless : ck_chk cm_Fi_findNeedless = true := by decide +kernel
set_option maxRecDepth 20000 in
theorem ck_ok_Fi_findNeedless : ck_mok cm_Fi_findNeedless := ⟨ck_gw 631 (by decide +kernel) (by decide +kernel), ck_gw 61 (by decide +kernel) (by decide +kernel), by decide +kernel, ⟨by decide +kernel, by decide +kernel, by decide +kernel⟩, fun h => absurd h (by decide +kernel), fun _ => ⟨ck_gw 630 (by decide +kernel) (by decide +kernel), ck_gw 13 (by decide +kernel) (by decide +kernel), by decide +kernel⟩, by decide +kernel, cc_Fi_findNeedless⟩
set_option maxRecDepth 20000 in
theorem cc_Fi_findNeedlessOfIndex : ck_chk cm_Fi_findNeedlessOfIndex = true := by decide +kernel
set_option maxRecDepth 20000 in
theorem ck_ok_Fi_findNeedlessOfIndex : ck_mok cm_Fi_findNeedlessOfIndex := ⟨ck_gw 634 (by decide +kernel) (by decide +kernel), ck_gw 61 (by decide +kernel) (by decide +kernel), by decide +kernel, ⟨by decide +kernel, by decide +kernel, by decide +kernel⟩, fun _ => ck_gw 633 (by decide +kernel) (by decide +kernel), fun h => absurd h (by decide +kernel), by decide +kernel, cc_Fi_findNeedlessOfIndex⟩
set_option maxRecDepth 20000 in
theorem cc_Ma_begin : ck_chk cm_Ma_begin = true := by decide +kernel
set_option maxRecDepth 20000 in
theorem ck_ok_Ma_begin : ck_mok cm_Ma_begin := ⟨ck_gw 638 (by decide +kernel) (by decide +kernel), ck_gw 59 (by decide +kernel) (by decide +kernel), by decide +kernel, ⟨by decide +kernel, by decide +kernel, by decide +kernel⟩, fun h => absurd h (by decide +kernel), fun _ => ⟨ck_gw 636 (by decide +kernel) (by decide +kernel), ck_gw 637 (by decide +kernel) (by decide +kernel), by decide +kernel⟩, by decide +kernel, cc_Ma_begin⟩
set_option maxRecDepth 20000 in
theorem cc_Fi_countNeedless : ck_chk cm_Fi_countNeedless = true := by decide +kernel
set_option maxRecDepth 20000 in
theorem ck_ok_Fi_countNeedless : ck_mok cm_Fi_countNeedless := ⟨ck_gw 642 (by decide +kernel) (by decide +kernel), ck_gw 61 (by decide +kernel) (by decide +kernel), by decide +kernel, ⟨by decide +kernel, by decide +kernel, by decide +kernel⟩, fun h => absurd h (by decide +kernel), fun _ => ⟨ck_gw 640 (by decide +kernel) (by decide +kernel), ck_gw 641 (by decide +kernel) (by decide +kernel), by decide +kernel⟩, by decide +kernel, cc_Fi_countNeedless⟩
set_option maxRecDepth 20000 in
theorem cc_Ji_bitCount : ck_chk cm_Ji_bitCount = true := by decide +kernel
set_option maxRecDepth 20000 in
theorem ck_ok_Ji_bitCount : ck_mok cm_Ji_bitCount := ⟨ck_gw 645 (by decide +kernel) (by decide +kernel), ck_gw 72 (by decide +kernel) (by decide +kernel), by decide +kernel, ⟨by decide +kernel, by decide +kernel, by decide +kernel⟩, fun _ => ck_gw 644 (by decide +kernel) (by decide +kernel), fun h => absurd h (by decide +kernel), by decide +kernel, cc_Ji_bitCount⟩
set_option maxRecDepth 20000 in
theorem cc_Cs_needless : ck_chk cm_Cs_needless = true := by decide +kernel
set_option maxRecDepth 20000 in
theorem ck_ok_Cs_needless : ck_mok cm_Cs_needless := ⟨ck_gw 656 (by decide +kernel) (by decide +kernel), ck_gw 58 (by decide +kernel) (by decide +kernel), by decide +kernel, ⟨by decide +kernel, by decide +kernel, by decide +kernel⟩, fun h => absurd h (by decide +kernel), fun _ => ⟨ck_gw 654 (by decide +kernel) (by decide +kernel), ck_gw 655 (by decide +kernel) (by decide +kernel), by decide +kernel⟩, by decide +kernel, cc_Cs_needless⟩
set_option maxRecDepth 20000 in
theorem cc_Cs_requireStatement : ck_chk cm_Cs_requireStatement = true := by decide +kernel
set_option maxRecDepth 20000 in
theorem ck_ok_Cs_requireStatement : ck_mok cm_Cs_requireStatement := ⟨ck_gw 660 (by decide +kernel) (by decide +kernel), ck_gw 58 (by decide +kernel) (by decide +kernel), by decide +kernel, ⟨by decide +kernel, by decide +kernel, by decide +kernel⟩, fun h => absurd h (by decide +kernel), fun _ => ⟨ck_gw 659 (by decide +kernel) (by decide +kernel), ck_gw 14 (by decide +kernel) (by decide +kernel), by decide +kernel⟩, by decide +kernel, cc_Cs_requireStatement⟩
set_option maxRecDepth 20000 in
theorem cc_Cs_requireIndex : ck_chk cm_Cs_requireIndex = true := by decide +kernel
set_option maxRecDepth 20000 in
theorem ck_ok_Cs_requireIndex : ck_mok cm_Cs_requireIndex := ⟨ck_gw 663 (by decide +kernel) (by decide +kernel), ck_gw 58 (by decide +kernel) (by decide +kernel), by decide +kernel, ⟨by decide +kernel, by decide +kernel, by decide +kernel⟩, fun _ => ck_gw 662 (by decide +kernel) (by decide +kernel), fun h => absurd h (by decide +kernel), by decide +kernel, cc_Cs_requireIndex⟩
set_option maxRecDepth 20000 in
theorem cc_Cs_least : ck_chk cm_Cs_least = true := by decide +kernel
set_option maxRecDepth 20000 in
theorem ck_ok_Cs_least : ck_mok cm_Cs_least := ⟨ck_gw 685 (by decide +kernel) (by decide +kernel), ck_gw 58 (by decide +kernel) (by decide +kernel), by decide +kernel, ⟨by decide +kernel, by decide +kernel, by decide +kernel⟩, fun h => absurd h (by decide +kernel), fun _ => ⟨ck_gw 683 (by decide +kernel) (by decide +kernel), ck_gw 684 (by decide +kernel) (by decide +kernel), by decide +kernel⟩, by decide +kernel, cc_Cs_least⟩
set_option maxRecDepth 20000 in
theorem cc_Cs_highest : ck_chk cm_Cs_highest = true := by decide +kernel
set_option maxRecDepth 20000 in
theorem ck_ok_Cs_highest : ck_mok cm_Cs_highest := ⟨ck_gw 693 (by decide +kernel) (by decide +kernel), ck_gw 58 (by decide +kernel) (by decide +kernel), by decide +kernel, ⟨by decide +kernel, by decide +kernel, by decide +kernel⟩, fun h => absurd h (by decide +kernel), fun _ => ⟨ck_gw 691 (by decide +kernel) (by decide +kernel), ck_gw 692 (by decide +kernel) (by decide +kernel), by decide +kernel⟩, by decide +kernel, cc_Cs_highest⟩
set_option maxRecDepth 20000 in
theorem cc_Cs_run : ck_chk cm_Cs_run = true := by decide +kernel
set_option maxRecDepth 20000 in
theorem ck_ok_Cs_run : ck_mok cm_Cs_run := ⟨ck_gw 700 (by decide +kernel) (by decide +kernel), ck_gw 58 (by decide +kernel) (by decide +kernel), by decide +kernel, ⟨by decide +kernel, by decide +kernel, by decide +kernel⟩, fun h => absurd h (by decide +kernel), fun _ => ⟨ck_gw 698 (by decide +kernel) (by decide +kernel), ck_gw 699 (by decide +kernel) (by decide +kernel), by decide +kernel⟩, by decide +kernel, cc_Cs_run⟩
set_option maxRecDepth 20000 in
theorem cc_Ma_advance : ck_chk cm_Ma_advance = true := by decide +kernel
set_option maxRecDepth 20000 in
theorem ck_ok_Ma_advance : ck_mok cm_Ma_advance := ⟨ck_gw 704 (by decide +kernel) (by decide +kernel), ck_gw 59 (by decide +kernel) (by decide +kernel), by decide +kernel, ⟨by decide +kernel, by decide +kernel, by decide +kernel⟩, fun h => absurd h (by decide +kernel), fun _ => ⟨ck_gw 702 (by decide +kernel) (by decide +kernel), ck_gw 703 (by decide +kernel) (by decide +kernel), by decide +kernel⟩, by decide +kernel, cc_Ma_advance⟩
set_option maxRecDepth 20000 in
theorem cc_Ma_perform : ck_chk cm_Ma_perform = true := by decide +kernel
set_option maxRecDepth 20000 in
theorem ck_ok_Ma_perform : ck_mok cm_Ma_perform := ⟨ck_gw 708 (by decide +kernel) (by decide +kernel), ck_gw 59 (by decide +kernel) (by decide +kernel), by decide +kernel, ⟨by decide +kernel, by decide +kernel, by decide +kernel⟩, fun h => absurd h (by decide +kernel), fun _ => ⟨ck_gw 707 (by decide +kernel) (by decide +kernel), ck_gw 15 (by decide +kernel) (by decide +kernel), by decide +kernel⟩, by decide +kernel, cc_Ma_perform⟩
set_option maxRecDepth 20000 in
theorem cc_Ma_isBelow : ck_chk cm_Ma_isBelow = true := by decide +kernel
set_option maxRecDepth 20000 in
theorem ck_ok_Ma_isBelow : ck_mok cm_Ma_isBelow := ⟨ck_gw 712 (by decide +kernel) (by decide +kernel), ck_gw 59 (by decide +kernel) (by decide +kernel), by decide +kernel, ⟨by decide +kernel, by decide +kernel, by decide +kernel⟩, fun h => absurd h (by decide +kernel), fun _ => ⟨ck_gw 711 (by decide +kernel) (by decide +kernel), ck_gw 16 (by decide +kernel) (by decide +kernel), by decide +kernel⟩, by decide +kernel, cc_Ma_isBelow⟩
set_option maxRecDepth 20000 in
theorem cc_Ma_sumOrStop : ck_chk cm_Ma_sumOrStop = true := by decide +kernel
set_option maxRecDepth 20000 in
theorem ck_ok_Ma_sumOrStop : ck_mok cm_Ma_sumOrStop := ⟨ck_gw 716 (by decide +kernel) (by decide +kernel), ck_gw 59 (by decide +kernel) (by decide +kernel), by decide +kernel, ⟨by decide +kernel, by decide +kernel, by decide +kernel⟩, fun h => absurd h (by decide +kernel), fun _ => ⟨ck_gw 715 (by decide +kernel) (by decide +kernel), ck_gw 17 (by decide +kernel) (by decide +kernel), by decide +kernel⟩, by decide +kernel, cc_Ma_sumOrStop⟩
set_option maxRecDepth 20000 in
theorem cc_Ma_behindFailedIf : ck_chk cm_Ma_behindFailedIf = true := by decide +kernel
set_option maxRecDepth 20000 in
theorem ck_ok_Ma_behindFailedIf : ck_mok cm_Ma_behindFailedIf := ⟨ck_gw 722 (by decide +kernel) (by decide +kernel), ck_gw 59 (by decide +kernel) (by decide +kernel), by decide +kernel, ⟨by decide +kernel, by decide +kernel, by decide +kernel⟩, fun h => absurd h (by decide +kernel), fun _ => ⟨ck_gw 721 (by decide +kernel) (by decide +kernel), ck_gw 18 (by decide +kernel) (by decide +kernel), by decide +kernel⟩, by decide +kernel, cc_Ma_behindFailedIf⟩
set_option maxRecDepth 20000 in
theorem cc_Ma_performPlain : ck_chk cm_Ma_performPlain = true := by decide +kernel
set_option maxRecDepth 20000 in
theorem ck_ok_Ma_performPlain : ck_mok cm_Ma_performPlain := ⟨ck_gw 726 (by decide +kernel) (by decide +kernel), ck_gw 59 (by decide +kernel) (by decide +kernel), by decide +kernel, ⟨by decide +kernel, by decide +kernel, by decide +kernel⟩, fun h => absurd h (by decide +kernel), fun _ => ⟨ck_gw 725 (by decide +kernel) (by decide +kernel), ck_gw 19 (by decide +kernel) (by decide +kernel), by decide +kernel⟩, by decide +kernel, cc_Ma_performPlain⟩
set_option maxRecDepth 20000 in
theorem cc_Ma_add : ck_chk cm_Ma_add = true := by decide +kernel
set_option maxRecDepth 20000 in
theorem ck_ok_Ma_add : ck_mok cm_Ma_add := ⟨ck_gw 730 (by decide +kernel) (by decide +kernel), ck_gw 59 (by decide +kernel) (by decide +kernel), by decide +kernel, ⟨by decide +kernel, by decide +kernel, by decide +kernel⟩, fun h => absurd h (by decide +kernel), fun _ => ⟨ck_gw 729 (by decide +kernel) (by decide +kernel), ck_gw 20 (by decide +kernel) (by decide +kernel), by decide +kernel⟩, by decide +kernel, cc_Ma_add⟩
set_option maxRecDepth 20000 in
theorem cc_In_takeNext : ck_chk cm_In_takeNext = true := by decide +kernel
set_option maxRecDepth 20000 in
theorem ck_ok_In_takeNext : ck_mok cm_In_takeNext := ⟨ck_gw 734 (by decide +kernel) (by decide +kernel), ck_gw 60 (by decide +kernel) (by decide +kernel), by decide +kernel, ⟨by decide +kernel, by decide +kernel, by decide +kernel⟩, fun h => absurd h (by decide +kernel), fun _ => ⟨ck_gw 732 (by decide +kernel) (by decide +kernel), ck_gw 733 (by decide +kernel) (by decide +kernel), by decide +kernel⟩, by decide +kernel, cc_In_takeNext⟩
set_option maxRecDepth 20000 in
theorem cc_Ma_passes : ck_chk cm_Ma_passes = true := by decide +kernel
set_option maxRecDepth 20000 in
theorem ck_ok_Ma_passes : ck_mok cm_Ma_passes := ⟨ck_gw 738 (by decide +kernel) (by decide +kernel), ck_gw 59 (by decide +kernel) (by decide +kernel), by decide +kernel, ⟨by decide +kernel, by decide +kernel, by decide +kernel⟩, fun h => absurd h (by decide +kernel), fun _ => ⟨ck_gw 737 (by decide +kernel) (by decide +kernel), ck_gw 21 (by decide +kernel) (by decide +kernel), by decide +kernel⟩, by decide +kernel, cc_Ma_passes⟩
set_option maxRecDepth 20000 in
theorem cc_Ma_passesAll : ck_chk cm_Ma_passesAll = true := by decide +kernel
set_option maxRecDepth 20000 in
theorem ck_ok_Ma_passesAll : ck_mok cm_Ma_passesAll := ⟨ck_gw 742 (by decide +kernel) (by decide +kernel), ck_gw 59 (by decide +kernel) (by decide +kernel), by decide +kernel, ⟨by decide +kernel, by decide +kernel, by decide +kernel⟩, fun h => absurd h (by decide +kernel), fun _ => ⟨ck_gw 741 (by decide +kernel) (by decide +kernel), ck_gw 22 (by decide +kernel) (by decide +kernel), by decide +kernel⟩, by decide +kernel, cc_Ma_passesAll⟩
set_option maxRecDepth 20000 in
theorem cc_Ma_store : ck_chk cm_Ma_store = true := by decide +kernel
set_option maxRecDepth 20000 in
theorem ck_ok_Ma_store : ck_mok cm_Ma_store := ⟨ck_gw 747 (by decide +kernel) (by decide +kernel), ck_gw 59 (by decide +kernel) (by decide +kernel), by decide +kernel, ⟨by decide +kernel, by decide +kernel, by decide +kernel⟩, fun h => absurd h (by decide +kernel), fun _ => ⟨ck_gw 746 (by decide +kernel) (by decide +kernel), ck_gw 23 (by decide +kernel) (by decide +kernel), by decide +kernel⟩, by decide +kernel, cc_Ma_store⟩
set_option maxRecDepth 20000 in
theorem cc_Ma_makeArray : ck_chk cm_Ma_makeArray = true := by decide +kernel
set_option maxRecDepth 20000 in
theorem ck_ok_Ma_makeArray : ck_mok cm_Ma_makeArray := ⟨ck_gw 751 (by decide +kernel) (by decide +kernel), ck_gw 59 (by decide +kernel) (by decide +kernel), by decide +kernel, ⟨by decide +kernel, by decide +kernel, by decide +kernel⟩, fun h => absurd h (by decide +kernel), fun _ => ⟨ck_gw 750 (by decide +kernel) (by decide +kernel), ck_gw 24 (by decide +kernel) (by decide +kernel), by decide +kernel⟩, by decide +kernel, cc_Ma_makeArray⟩
