/-! ===== words by their places; every method is as the data say; links ===== -/
theorem wb_inG {w : Cond} (i : Nat) (h : lw_tbl[i]? = some w) (hg : goodWord w = true) : w ∈ wb_GW := List.mem_filter.mpr ⟨List.mem_of_getElem? h, hg⟩
theorem wb_inN {w : Cond} (i : Nat) (h : tables_1[i]? = some w) (hg : wb_isN w = true) : w ∈ wb_NW := List.mem_filter.mpr ⟨List.mem_of_getElem? h, hg⟩
theorem wb_inT {w : Cond} (i : Nat) (h : tables_1[i]? = some w) (hg : goodWord w = true) : w ∈ wb_GW := List.mem_filter.mpr ⟨List.mem_append_right _ (List.mem_of_getElem? h), hg⟩
set_option maxRecDepth 20000 in
theorem ok_X0_init : wb_OK M_X0_init := ⟨by decide +kernel, by decide +kernel, (wb_inT 30 (by decide +kernel) rfl), (wb_inT 2 (by decide +kernel) rfl), by decide +kernel, by decide +kernel, by decide +kernel⟩
set_option maxRecDepth 20000 in
theorem ok_X0_copy : wb_OK M_X0_copy := ⟨by decide +kernel, by decide +kernel, (wb_inT 1129 (by decide +kernel) rfl), (wb_inT 2 (by decide +kernel) rfl), by decide +kernel, by decide +kernel, by decide +kernel⟩
set_option maxRecDepth 20000 in
theorem ok_X0_addMonth : wb_OK M_X0_addMonth := ⟨by decide +kernel, by decide +kernel, (wb_inT 465 (by decide +kernel) rfl), (wb_inT 2 (by decide +kernel) rfl), by decide +kernel, by decide +kernel, by decide +kernel⟩
set_option maxRecDepth 20000 in
theorem ok_X0_dropMonth : wb_OK M_X0_dropMonth := ⟨by decide +kernel, by decide +kernel, (wb_inT 493 (by decide +kernel) rfl), (wb_inT 2 (by decide +kernel) rfl), by decide +kernel, by decide +kernel, by decide +kernel⟩
set_option maxRecDepth 20000 in
theorem ok_X0_cell : wb_OK M_X0_cell := ⟨by decide +kernel, by decide +kernel, (wb_inT 481 (by decide +kernel) rfl), (wb_inT 2 (by decide +kernel) rfl), by decide +kernel, by decide +kernel, by decide +kernel⟩
set_option maxRecDepth 20000 in
theorem ok_X0_setCell : wb_OK M_X0_setCell := ⟨by decide +kernel, by decide +kernel, (wb_inT 469 (by decide +kernel) rfl), (wb_inT 2 (by decide +kernel) rfl), by decide +kernel, by decide +kernel, by decide +kernel⟩
set_option maxRecDepth 20000 in
theorem ok_X0_stockCell : wb_OK M_X0_stockCell := ⟨by decide +kernel, by decide +kernel, (wb_inT 508 (by decide +kernel) rfl), (wb_inT 2 (by decide +kernel) rfl), by decide +kernel, by decide +kernel, by decide +kernel⟩
set_option maxRecDepth 20000 in
theorem ok_X0_setStockCell : wb_OK M_X0_setStockCell := ⟨by decide +kernel, by decide +kernel, (wb_inT 512 (by decide +kernel) rfl), (wb_inT 2 (by decide +kernel) rfl), by decide +kernel, by decide +kernel, by decide +kernel⟩
set_option maxRecDepth 20000 in
theorem ok_X0_standing : wb_OK M_X0_standing := ⟨by decide +kernel, by decide +kernel, (wb_inT 520 (by decide +kernel) rfl), (wb_inT 2 (by decide +kernel) rfl), by decide +kernel, by decide +kernel, by decide +kernel⟩
set_option maxRecDepth 20000 in
theorem ok_X0_setStanding : wb_OK M_X0_setStanding := ⟨by decide +kernel, by decide +kernel, (wb_inT 524 (by decide +kernel) rfl), (wb_inT 2 (by decide +kernel) rfl), by decide +kernel, by decide +kernel, by decide +kernel⟩
set_option maxRecDepth 20000 in
theorem ok_X0_setBoths : wb_OK M_X0_setBoths := ⟨by decide +kernel, by decide +kernel, (wb_inT 613 (by decide +kernel) rfl), (wb_inT 2 (by decide +kernel) rfl), by decide +kernel, by decide +kernel, by decide +kernel⟩
set_option maxRecDepth 20000 in
theorem ok_X0_standsIn : wb_OK M_X0_standsIn := ⟨by decide +kernel, by decide +kernel, (wb_inT 672 (by decide +kernel) rfl), (wb_inT 2 (by decide +kernel) rfl), by decide +kernel, by decide +kernel, by decide +kernel⟩
set_option maxRecDepth 20000 in
theorem ok_X0_guestOf : wb_OK M_X0_guestOf := ⟨by decide +kernel, by decide +kernel, (wb_inT 711 (by decide +kernel) rfl), (wb_inT 2 (by decide +kernel) rfl), by decide +kernel, by decide +kernel, by decide +kernel⟩
set_option maxRecDepth 20000 in
theorem ok_X0_ownNeed : wb_OK M_X0_ownNeed := ⟨by decide +kernel, by decide +kernel, (wb_inT 668 (by decide +kernel) rfl), (wb_inT 2 (by decide +kernel) rfl), by decide +kernel, by decide +kernel, by decide +kernel⟩
set_option maxRecDepth 20000 in
theorem ok_X0_guestNeed : wb_OK M_X0_guestNeed := ⟨by decide +kernel, by decide +kernel, (wb_inT 681 (by decide +kernel) rfl), (wb_inT 2 (by decide +kernel) rfl), by decide +kernel, by decide +kernel, by decide +kernel⟩
set_option maxRecDepth 20000 in
theorem ok_X0_needOfPair : wb_OK M_X0_needOfPair := ⟨by decide +kernel, by decide +kernel, (wb_inT 677 (by decide +kernel) rfl), (wb_inT 2 (by decide +kernel) rfl), by decide +kernel, by decide +kernel, by decide +kernel⟩
set_option maxRecDepth 20000 in
theorem ok_X0_neededBy : wb_OK M_X0_neededBy := ⟨by decide +kernel, by decide +kernel, (wb_inT 661 (by decide +kernel) rfl), (wb_inT 2 (by decide +kernel) rfl), by decide +kernel, by decide +kernel, by decide +kernel⟩
set_option maxRecDepth 20000 in
theorem ok_X0_priceOf : wb_OK M_X0_priceOf := ⟨by decide +kernel, by decide +kernel, (wb_inT 1016 (by decide +kernel) rfl), (wb_inT 2 (by decide +kernel) rfl), by decide +kernel, by decide +kernel, by decide +kernel⟩
set_option maxRecDepth 20000 in
theorem ok_X1_init : wb_OK M_X1_init := ⟨by decide +kernel, by decide +kernel, (wb_inT 357 (by decide +kernel) rfl), (wb_inT 11 (by decide +kernel) rfl), by decide +kernel, by decide +kernel, by decide +kernel⟩
set_option maxRecDepth 20000 in
theorem ok_X1_seek : wb_OK M_X1_seek := ⟨by decide +kernel, by decide +kernel, (wb_inT 917 (by decide +kernel) rfl), (wb_inT 11 (by decide +kernel) rfl), by decide +kernel, by decide +kernel, by decide +kernel⟩
set_option maxRecDepth 20000 in
theorem ok_X1_partnerOf : wb_OK M_X1_partnerOf := ⟨by decide +kernel, by decide +kernel, (wb_inT 953 (by decide +kernel) rfl), (wb_inT 11 (by decide +kernel) rfl), by decide +kernel, by decide +kernel, by decide +kernel⟩
set_option maxRecDepth 20000 in
theorem ok_X1_hasLaters : wb_OK M_X1_hasLaters := ⟨by decide +kernel, by decide +kernel, (wb_inT 960 (by decide +kernel) rfl), (wb_inT 11 (by decide +kernel) rfl), by decide +kernel, by decide +kernel, by decide +kernel⟩
set_option maxRecDepth 20000 in
theorem ok_X1_latersOf : wb_OK M_X1_latersOf := ⟨by decide +kernel, by decide +kernel, (wb_inT 965 (by decide +kernel) rfl), (wb_inT 11 (by decide +kernel) rfl), by decide +kernel, by decide +kernel, by decide +kernel⟩
set_option maxRecDepth 20000 in
theorem ok_X1_latersWith : wb_OK M_X1_latersWith := ⟨by decide +kernel, by decide +kernel, (wb_inT 992 (by decide +kernel) rfl), (wb_inT 11 (by decide +kernel) rfl), by decide +kernel, by decide +kernel, by decide +kernel⟩
set_option maxRecDepth 20000 in
theorem ok_X1_hasStarts : wb_OK M_X1_hasStarts := ⟨by decide +kernel, by decide +kernel, (wb_inT 949 (by decide +kernel) rfl), (wb_inT 11 (by decide +kernel) rfl), by decide +kernel, by decide +kernel, by decide +kernel⟩
set_option maxRecDepth 20000 in
theorem ok_X1_isFound : wb_OK M_X1_isFound := ⟨by decide +kernel, by decide +kernel, (wb_inT 997 (by decide +kernel) rfl), (wb_inT 11 (by decide +kernel) rfl), by decide +kernel, by decide +kernel, by decide +kernel⟩
set_option maxRecDepth 20000 in
theorem ok_X1_isFoundFrom : wb_OK M_X1_isFoundFrom := ⟨by decide +kernel, by decide +kernel, (wb_inT 1002 (by decide +kernel) rfl), (wb_inT 11 (by decide +kernel) rfl), by decide +kernel, by decide +kernel, by decide +kernel⟩
set_option maxRecDepth 20000 in
theorem ok_X2_init : wb_OK M_X2_init := ⟨by decide +kernel, by decide +kernel, (wb_inT 210 (by decide +kernel) rfl), (wb_inT 8 (by decide +kernel) rfl), by decide +kernel, by decide +kernel, by decide +kernel⟩
set_option maxRecDepth 20000 in
theorem ok_X2_set : wb_OK M_X2_set := ⟨by decide +kernel, by decide +kernel, (wb_inT 720 (by decide +kernel) rfl), (wb_inT 8 (by decide +kernel) rfl), by decide +kernel, by decide +kernel, by decide +kernel⟩
set_option maxRecDepth 20000 in
theorem ok_X2_setNeeds : wb_OK M_X2_setNeeds := ⟨by decide +kernel, by decide +kernel, (wb_inT 725 (by decide +kernel) rfl), (wb_inT 8 (by decide +kernel) rfl), by decide +kernel, by decide +kernel, by decide +kernel⟩
set_option maxRecDepth 20000 in
theorem ok_X2_strain : wb_OK M_X2_strain := ⟨by decide +kernel, by decide +kernel, (wb_inT 735 (by decide +kernel) rfl), (wb_inT 8 (by decide +kernel) rfl), by decide +kernel, by decide +kernel, by decide +kernel⟩
set_option maxRecDepth 20000 in
theorem ok_X2_goesThrough : wb_OK M_X2_goesThrough := ⟨by decide +kernel, by decide +kernel, (wb_inT 743 (by decide +kernel) rfl), (wb_inT 8 (by decide +kernel) rfl), by decide +kernel, by decide +kernel, by decide +kernel⟩
set_option maxRecDepth 20000 in
theorem ok_X2_chart : wb_OK M_X2_chart := ⟨by decide +kernel, by decide +kernel, (wb_inT 925 (by decide +kernel) rfl), (wb_inT 8 (by decide +kernel) rfl), by decide +kernel, by decide +kernel, by decide +kernel⟩
set_option maxRecDepth 20000 in
theorem ok_X2_chartAhead : wb_OK M_X2_chartAhead := ⟨by decide +kernel, by decide +kernel, (wb_inT 929 (by decide +kernel) rfl), (wb_inT 8 (by decide +kernel) rfl), by decide +kernel, by decide +kernel, by decide +kernel⟩
set_option maxRecDepth 20000 in
theorem ok_X2_chartOnward : wb_OK M_X2_chartOnward := ⟨by decide +kernel, by decide +kernel, (wb_inT 936 (by decide +kernel) rfl), (wb_inT 8 (by decide +kernel) rfl), by decide +kernel, by decide +kernel, by decide +kernel⟩
set_option maxRecDepth 20000 in
theorem ok_X2_needAt : wb_OK M_X2_needAt := ⟨by decide +kernel, by decide +kernel, (wb_inT 1096 (by decide +kernel) rfl), (wb_inT 8 (by decide +kernel) rfl), by decide +kernel, by decide +kernel, by decide +kernel⟩
set_option maxRecDepth 20000 in
theorem ok_X2_aheadOf : wb_OK M_X2_aheadOf := ⟨by decide +kernel, by decide +kernel, (wb_inT 970 (by decide +kernel) rfl), (wb_inT 8 (by decide +kernel) rfl), by decide +kernel, by decide +kernel, by decide +kernel⟩
set_option maxRecDepth 20000 in
theorem ok_X2_onwardFrom : wb_OK M_X2_onwardFrom := ⟨by decide +kernel, by decide +kernel, (wb_inT 982 (by decide +kernel) rfl), (wb_inT 8 (by decide +kernel) rfl), by decide +kernel, by decide +kernel, by decide +kernel⟩
set_option maxRecDepth 20000 in
theorem ok_X2_isPlace : wb_OK M_X2_isPlace := ⟨by decide +kernel, by decide +kernel, (wb_inT 974 (by decide +kernel) rfl), (wb_inT 8 (by decide +kernel) rfl), by decide +kernel, by decide +kernel, by decide +kernel⟩
set_option maxRecDepth 20000 in
theorem ok_X2_onwardPairs : wb_OK M_X2_onwardPairs := ⟨by decide +kernel, by decide +kernel, (wb_inT 978 (by decide +kernel) rfl), (wb_inT 8 (by decide +kernel) rfl), by decide +kernel, by decide +kernel, by decide +kernel⟩
set_option maxRecDepth 20000 in
theorem ok_X3_init : wb_OK M_X3_init := ⟨by decide +kernel, by decide +kernel, (wb_inT 168 (by decide +kernel) rfl), (wb_inT 7 (by decide +kernel) rfl), by decide +kernel, by decide +kernel, by decide +kernel⟩
set_option maxRecDepth 20000 in
theorem ok_X3_set : wb_OK M_X3_set := ⟨by decide +kernel, by decide +kernel, (wb_inT 648 (by decide +kernel) rfl), (wb_inT 7 (by decide +kernel) rfl), by decide +kernel, by decide +kernel, by decide +kernel⟩
set_option maxRecDepth 20000 in
theorem ok_X3_begin : wb_OK M_X3_begin := ⟨by decide +kernel, by decide +kernel, (wb_inT 657 (by decide +kernel) rfl), (wb_inT 7 (by decide +kernel) rfl), by decide +kernel, by decide +kernel, by decide +kernel⟩
set_option maxRecDepth 20000 in
theorem ok_X3_go : wb_OK M_X3_go := ⟨by decide +kernel, by decide +kernel, (wb_inT 685 (by decide +kernel) rfl), (wb_inT 7 (by decide +kernel) rfl), by decide +kernel, by decide +kernel, by decide +kernel⟩
set_option maxRecDepth 20000 in
theorem ok_X3_beginBehind : wb_OK M_X3_beginBehind := ⟨by decide +kernel, by decide +kernel, (wb_inT 940 (by decide +kernel) rfl), (wb_inT 7 (by decide +kernel) rfl), by decide +kernel, by decide +kernel, by decide +kernel⟩
set_option maxRecDepth 20000 in
theorem ok_X3_goBack : wb_OK M_X3_goBack := ⟨by decide +kernel, by decide +kernel, (wb_inT 944 (by decide +kernel) rfl), (wb_inT 7 (by decide +kernel) rfl), by decide +kernel, by decide +kernel, by decide +kernel⟩
set_option maxRecDepth 20000 in
theorem ok_X4_init : wb_OK M_X4_init := ⟨by decide +kernel, by decide +kernel, (wb_inT 216 (by decide +kernel) rfl), (wb_inT 9 (by decide +kernel) rfl), by decide +kernel, by decide +kernel, by decide +kernel⟩
set_option maxRecDepth 20000 in
theorem ok_X4_close : wb_OK M_X4_close := ⟨by decide +kernel, by decide +kernel, (wb_inT 739 (by decide +kernel) rfl), (wb_inT 9 (by decide +kernel) rfl), by decide +kernel, by decide +kernel, by decide +kernel⟩
set_option maxRecDepth 20000 in
theorem ok_X4_pass : wb_OK M_X4_pass := ⟨by decide +kernel, by decide +kernel, (wb_inT 749 (by decide +kernel) rfl), (wb_inT 9 (by decide +kernel) rfl), by decide +kernel, by decide +kernel, by decide +kernel⟩
set_option maxRecDepth 20000 in
theorem ok_X4_narrow : wb_OK M_X4_narrow := ⟨by decide +kernel, by decide +kernel, (wb_inT 773 (by decide +kernel) rfl), (wb_inT 9 (by decide +kernel) rfl), by decide +kernel, by decide +kernel, by decide +kernel⟩
set_option maxRecDepth 20000 in
theorem ok_X5_init : wb_OK M_X5_init := ⟨by decide +kernel, by decide +kernel, (wb_inT 36 (by decide +kernel) rfl), (wb_inT 3 (by decide +kernel) rfl), by decide +kernel, by decide +kernel, by decide +kernel⟩
set_option maxRecDepth 20000 in
theorem ok_X5_low : wb_OK M_X5_low := ⟨by decide +kernel, by decide +kernel, (wb_inT 783 (by decide +kernel) rfl), (wb_inT 3 (by decide +kernel) rfl), by decide +kernel, by decide +kernel, by decide +kernel⟩
set_option maxRecDepth 20000 in
theorem ok_X5_high : wb_OK M_X5_high := ⟨by decide +kernel, by decide +kernel, (wb_inT 787 (by decide +kernel) rfl), (wb_inT 3 (by decide +kernel) rfl), by decide +kernel, by decide +kernel, by decide +kernel⟩
set_option maxRecDepth 20000 in
theorem ok_X5_addAll : wb_OK M_X5_addAll := ⟨by decide +kernel, by decide +kernel, (wb_inT 49 (by decide +kernel) rfl), (wb_inT 3 (by decide +kernel) rfl), by decide +kernel, by decide +kernel, by decide +kernel⟩
set_option maxRecDepth 20000 in
theorem ok_X5_removeAll : wb_OK M_X5_removeAll := ⟨by decide +kernel, by decide +kernel, (wb_inT 572 (by decide +kernel) rfl), (wb_inT 3 (by decide +kernel) rfl), by decide +kernel, by decide +kernel, by decide +kernel⟩
set_option maxRecDepth 20000 in
theorem ok_X5_copy : wb_OK M_X5_copy := ⟨by decide +kernel, by decide +kernel, (wb_inT 766 (by decide +kernel) rfl), (wb_inT 3 (by decide +kernel) rfl), by decide +kernel, by decide +kernel, by decide +kernel⟩
set_option maxRecDepth 20000 in
theorem ok_X5_join : wb_OK M_X5_join := ⟨by decide +kernel, by decide +kernel, (wb_inT 609 (by decide +kernel) rfl), (wb_inT 3 (by decide +kernel) rfl), by decide +kernel, by decide +kernel, by decide +kernel⟩
set_option maxRecDepth 20000 in
theorem ok_X5_narrow : wb_OK M_X5_narrow := ⟨by decide +kernel, by decide +kernel, (wb_inT 600 (by decide +kernel) rfl), (wb_inT 3 (by decide +kernel) rfl), by decide +kernel, by decide +kernel, by decide +kernel⟩
set_option maxRecDepth 20000 in
theorem ok_X5_has : wb_OK M_X5_has := ⟨by decide +kernel, by decide +kernel, (wb_inT 629 (by decide +kernel) rfl), (wb_inT 3 (by decide +kernel) rfl), by decide +kernel, by decide +kernel, by decide +kernel⟩
set_option maxRecDepth 20000 in
theorem ok_X5_count : wb_OK M_X5_count := ⟨by decide +kernel, by decide +kernel, (wb_inT 791 (by decide +kernel) rfl), (wb_inT 3 (by decide +kernel) rfl), by decide +kernel, by decide +kernel, by decide +kernel⟩
set_option maxRecDepth 20000 in
theorem ok_X5_next : wb_OK M_X5_next := ⟨by decide +kernel, by decide +kernel, (wb_inT 841 (by decide +kernel) rfl), (wb_inT 3 (by decide +kernel) rfl), by decide +kernel, by decide +kernel, by decide +kernel⟩
set_option maxRecDepth 20000 in
theorem ok_X5_nth : wb_OK M_X5_nth := ⟨by decide +kernel, by decide +kernel, (wb_inT 801 (by decide +kernel) rfl), (wb_inT 3 (by decide +kernel) rfl), by decide +kernel, by decide +kernel, by decide +kernel⟩
set_option maxRecDepth 20000 in
theorem ok_X5_withoutLowest : wb_OK M_X5_withoutLowest := ⟨by decide +kernel, by decide +kernel, (wb_inT 804 (by decide +kernel) rfl), (wb_inT 3 (by decide +kernel) rfl), by decide +kernel, by decide +kernel, by decide +kernel⟩
set_option maxRecDepth 20000 in
theorem ok_X5_wordOf : wb_OK M_X5_wordOf := ⟨by decide +kernel, by decide +kernel, (wb_inT 633 (by decide +kernel) rfl), (wb_inT 3 (by decide +kernel) rfl), by decide +kernel, by decide +kernel, by decide +kernel⟩
set_option maxRecDepth 20000 in
theorem ok_X5_bitOf : wb_OK M_X5_bitOf := ⟨by decide +kernel, by decide +kernel, (wb_inT 636 (by decide +kernel) rfl), (wb_inT 3 (by decide +kernel) rfl), by decide +kernel, by decide +kernel, by decide +kernel⟩
set_option maxRecDepth 20000 in
theorem ok_X5_numberOf : wb_OK M_X5_numberOf := ⟨by decide +kernel, by decide +kernel, (wb_inT 807 (by decide +kernel) rfl), (wb_inT 3 (by decide +kernel) rfl), by decide +kernel, by decide +kernel, by decide +kernel⟩
set_option maxRecDepth 20000 in
theorem ok_X6_init : wb_OK M_X6_init := ⟨by decide +kernel, by decide +kernel, (wb_inT 142 (by decide +kernel) rfl), (wb_inT 6 (by decide +kernel) rfl), by decide +kernel, by decide +kernel, by decide +kernel⟩
set_option maxRecDepth 20000 in
theorem ok_X6_lowWith : wb_OK M_X6_lowWith := ⟨by decide +kernel, by decide +kernel, (wb_inT 754 (by decide +kernel) rfl), (wb_inT 6 (by decide +kernel) rfl), by decide +kernel, by decide +kernel, by decide +kernel⟩
set_option maxRecDepth 20000 in
theorem ok_X6_highWith : wb_OK M_X6_highWith := ⟨by decide +kernel, by decide +kernel, (wb_inT 758 (by decide +kernel) rfl), (wb_inT 6 (by decide +kernel) rfl), by decide +kernel, by decide +kernel, by decide +kernel⟩
set_option maxRecDepth 20000 in
theorem ok_X6_lowOfThings : wb_OK M_X6_lowOfThings := ⟨by decide +kernel, by decide +kernel, (wb_inT 867 (by decide +kernel) rfl), (wb_inT 6 (by decide +kernel) rfl), by decide +kernel, by decide +kernel, by decide +kernel⟩
set_option maxRecDepth 20000 in
theorem ok_X6_highOfThings : wb_OK M_X6_highOfThings := ⟨by decide +kernel, by decide +kernel, (wb_inT 872 (by decide +kernel) rfl), (wb_inT 6 (by decide +kernel) rfl), by decide +kernel, by decide +kernel, by decide +kernel⟩
set_option maxRecDepth 20000 in
theorem ok_X7_init : wb_OK M_X7_init := ⟨by decide +kernel, by decide +kernel, (wb_inT 325 (by decide +kernel) rfl), (wb_inT 10 (by decide +kernel) rfl), by decide +kernel, by decide +kernel, by decide +kernel⟩
set_option maxRecDepth 20000 in
theorem ok_X7_seekNear : wb_OK M_X7_seekNear := ⟨by decide +kernel, by decide +kernel, (wb_inT 882 (by decide +kernel) rfl), (wb_inT 10 (by decide +kernel) rfl), by decide +kernel, by decide +kernel, by decide +kernel⟩
set_option maxRecDepth 20000 in
theorem ok_X7_leastMore : wb_OK M_X7_leastMore := ⟨by decide +kernel, by decide +kernel, (wb_inT 891 (by decide +kernel) rfl), (wb_inT 10 (by decide +kernel) rfl), by decide +kernel, by decide +kernel, by decide +kernel⟩
set_option maxRecDepth 20000 in
theorem ok_X7_seekDoubt : wb_OK M_X7_seekDoubt := ⟨by decide +kernel, by decide +kernel, (wb_inT 899 (by decide +kernel) rfl), (wb_inT 10 (by decide +kernel) rfl), by decide +kernel, by decide +kernel, by decide +kernel⟩
set_option maxRecDepth 20000 in
theorem ok_X7_seekDoubtOf : wb_OK M_X7_seekDoubtOf := ⟨by decide +kernel, by decide +kernel, (wb_inT 903 (by decide +kernel) rfl), (wb_inT 10 (by decide +kernel) rfl), by decide +kernel, by decide +kernel, by decide +kernel⟩
set_option maxRecDepth 20000 in
theorem ok_X8_init : wb_OK M_X8_init := ⟨by decide +kernel, by decide +kernel, (wb_inT 95 (by decide +kernel) rfl), (wb_inT 4 (by decide +kernel) rfl), by decide +kernel, by decide +kernel, by decide +kernel⟩
set_option maxRecDepth 20000 in
theorem ok_X8_add : wb_OK M_X8_add := ⟨by decide +kernel, by decide +kernel, (wb_inT 532 (by decide +kernel) rfl), (wb_inT 4 (by decide +kernel) rfl), by decide +kernel, by decide +kernel, by decide +kernel⟩
set_option maxRecDepth 20000 in
theorem ok_X8_empty : wb_OK M_X8_empty := ⟨by decide +kernel, by decide +kernel, (wb_inT 540 (by decide +kernel) rfl), (wb_inT 4 (by decide +kernel) rfl), by decide +kernel, by decide +kernel, by decide +kernel⟩
set_option maxRecDepth 20000 in
theorem ok_X8_firstFault : wb_OK M_X8_firstFault := ⟨by decide +kernel, by decide +kernel, (wb_inT 548 (by decide +kernel) rfl), (wb_inT 4 (by decide +kernel) rfl), by decide +kernel, by decide +kernel, by decide +kernel⟩
set_option maxRecDepth 20000 in
theorem ok_X8_behind : wb_OK M_X8_behind := ⟨by decide +kernel, by decide +kernel, (wb_inT 551 (by decide +kernel) rfl), (wb_inT 4 (by decide +kernel) rfl), by decide +kernel, by decide +kernel, by decide +kernel⟩
set_option maxRecDepth 20000 in
theorem ok_X8_isDigit : wb_OK M_X8_isDigit := ⟨by decide +kernel, by decide +kernel, (wb_inT 557 (by decide +kernel) rfl), (wb_inT 4 (by decide +kernel) rfl), by decide +kernel, by decide +kernel, by decide +kernel⟩
set_option maxRecDepth 20000 in
theorem ok_X8_isRelation : wb_OK M_X8_isRelation := ⟨by decide +kernel, by decide +kernel, (wb_inT 554 (by decide +kernel) rfl), (wb_inT 4 (by decide +kernel) rfl), by decide +kernel, by decide +kernel, by decide +kernel⟩
set_option maxRecDepth 20000 in
theorem ok_X8_isLink : wb_OK M_X8_isLink := ⟨by decide +kernel, by decide +kernel, (wb_inT 560 (by decide +kernel) rfl), (wb_inT 4 (by decide +kernel) rfl), by decide +kernel, by decide +kernel, by decide +kernel⟩
set_option maxRecDepth 20000 in
theorem ok_X8_collect : wb_OK M_X8_collect := ⟨by decide +kernel, by decide +kernel, (wb_inT 568 (by decide +kernel) rfl), (wb_inT 4 (by decide +kernel) rfl), by decide +kernel, by decide +kernel, by decide +kernel⟩
set_option maxRecDepth 20000 in
theorem ok_X8_beginTest : wb_OK M_X8_beginTest := ⟨by decide +kernel, by decide +kernel, (wb_inT 577 (by decide +kernel) rfl), (wb_inT 4 (by decide +kernel) rfl), by decide +kernel, by decide +kernel, by decide +kernel⟩
set_option maxRecDepth 20000 in
theorem ok_X8_readOn : wb_OK M_X8_readOn := ⟨by decide +kernel, by decide +kernel, (wb_inT 605 (by decide +kernel) rfl), (wb_inT 4 (by decide +kernel) rfl), by decide +kernel, by decide +kernel, by decide +kernel⟩
set_option maxRecDepth 20000 in
theorem ok_X8_endTest : wb_OK M_X8_endTest := ⟨by decide +kernel, by decide +kernel, (wb_inT 581 (by decide +kernel) rfl), (wb_inT 4 (by decide +kernel) rfl), by decide +kernel, by decide +kernel, by decide +kernel⟩
set_option maxRecDepth 20000 in
theorem ok_X8_setBelow : wb_OK M_X8_setBelow := ⟨by decide +kernel, by decide +kernel, (wb_inT 585 (by decide +kernel) rfl), (wb_inT 4 (by decide +kernel) rfl), by decide +kernel, by decide +kernel, by decide +kernel⟩
set_option maxRecDepth 20000 in
theorem ok_X8_sumOf : wb_OK M_X8_sumOf := ⟨by decide +kernel, by decide +kernel, (wb_inT 588 (by decide +kernel) rfl), (wb_inT 4 (by decide +kernel) rfl), by decide +kernel, by decide +kernel, by decide +kernel⟩
set_option maxRecDepth 20000 in
theorem ok_X8_narrowBoth : wb_OK M_X8_narrowBoth := ⟨by decide +kernel, by decide +kernel, (wb_inT 595 (by decide +kernel) rfl), (wb_inT 4 (by decide +kernel) rfl), by decide +kernel, by decide +kernel, by decide +kernel⟩
set_option maxRecDepth 20000 in
theorem ok_X9_init : wb_OK M_X9_init := ⟨by decide +kernel, by decide +kernel, (wb_inT 402 (by decide +kernel) rfl), (wb_inT 12 (by decide +kernel) rfl), by decide +kernel, by decide +kernel, by decide +kernel⟩
set_option maxRecDepth 20000 in
theorem ok_X9_settling : wb_OK M_X9_settling := ⟨by decide +kernel, by decide +kernel, (wb_inT 1050 (by decide +kernel) rfl), (wb_inT 12 (by decide +kernel) rfl), by decide +kernel, by decide +kernel, by decide +kernel⟩
set_option maxRecDepth 20000 in
theorem ok_X9_mostLeft : wb_OK M_X9_mostLeft := ⟨by decide +kernel, by decide +kernel, (wb_inT 1104 (by decide +kernel) rfl), (wb_inT 12 (by decide +kernel) rfl), by decide +kernel, by decide +kernel, by decide +kernel⟩
set_option maxRecDepth 20000 in
theorem ok_X9_hiding : wb_OK M_X9_hiding := ⟨by decide +kernel, by decide +kernel, (wb_inT 1112 (by decide +kernel) rfl), (wb_inT 12 (by decide +kernel) rfl), by decide +kernel, by decide +kernel, by decide +kernel⟩
set_option maxRecDepth 20000 in
theorem ok_X9_isBetter : wb_OK M_X9_isBetter := ⟨by decide +kernel, by decide +kernel, (wb_inT 1116 (by decide +kernel) rfl), (wb_inT 12 (by decide +kernel) rfl), by decide +kernel, by decide +kernel, by decide +kernel⟩
set_option maxRecDepth 20000 in
theorem ok_X9_hidden : wb_OK M_X9_hidden := ⟨by decide +kernel, by decide +kernel, (wb_inT 1120 (by decide +kernel) rfl), (wb_inT 12 (by decide +kernel) rfl), by decide +kernel, by decide +kernel, by decide +kernel⟩
set_option maxRecDepth 20000 in
theorem ok_X9_weighAll : wb_OK M_X9_weighAll := ⟨by decide +kernel, by decide +kernel, (wb_inT 1054 (by decide +kernel) rfl), (wb_inT 12 (by decide +kernel) rfl), by decide +kernel, by decide +kernel, by decide +kernel⟩
set_option maxRecDepth 20000 in
theorem ok_X9_weigh : wb_OK M_X9_weigh := ⟨by decide +kernel, by decide +kernel, (wb_inT 1080 (by decide +kernel) rfl), (wb_inT 12 (by decide +kernel) rfl), by decide +kernel, by decide +kernel, by decide +kernel⟩
set_option maxRecDepth 20000 in
theorem ok_X9_count : wb_OK M_X9_count := ⟨by decide +kernel, by decide +kernel, (wb_inT 1086 (by decide +kernel) rfl), (wb_inT 12 (by decide +kernel) rfl), by decide +kernel, by decide +kernel, by decide +kernel⟩
set_option maxRecDepth 20000 in
theorem ok_X9_countKey : wb_OK M_X9_countKey := ⟨by decide +kernel, by decide +kernel, (wb_inT 1090 (by decide +kernel) rfl), (wb_inT 12 (by decide +kernel) rfl), by decide +kernel, by decide +kernel, by decide +kernel⟩
set_option maxRecDepth 20000 in
theorem ok_X9_setWeights : wb_OK M_X9_setWeights := ⟨by decide +kernel, by decide +kernel, (wb_inT 1060 (by decide +kernel) rfl), (wb_inT 12 (by decide +kernel) rfl), by decide +kernel, by decide +kernel, by decide +kernel⟩
set_option maxRecDepth 20000 in
theorem ok_X9_addWeights : wb_OK M_X9_addWeights := ⟨by decide +kernel, by decide +kernel, (wb_inT 1068 (by decide +kernel) rfl), (wb_inT 12 (by decide +kernel) rfl), by decide +kernel, by decide +kernel, by decide +kernel⟩
set_option maxRecDepth 20000 in
theorem ok_X9_addGuestWeights : wb_OK M_X9_addGuestWeights := ⟨by decide +kernel, by decide +kernel, (wb_inT 1076 (by decide +kernel) rfl), (wb_inT 12 (by decide +kernel) rfl), by decide +kernel, by decide +kernel, by decide +kernel⟩
set_option maxRecDepth 20000 in
theorem ok_X10_init : wb_OK M_X10_init := ⟨by decide +kernel, by decide +kernel, (wb_inT 136 (by decide +kernel) rfl), (wb_inT 5 (by decide +kernel) rfl), by decide +kernel, by decide +kernel, by decide +kernel⟩
set_option maxRecDepth 20000 in
theorem ok_X10_course : wb_OK M_X10_course := ⟨by decide +kernel, by decide +kernel, (wb_inT 715 (by decide +kernel) rfl), (wb_inT 5 (by decide +kernel) rfl), by decide +kernel, by decide +kernel, by decide +kernel⟩
set_option maxRecDepth 20000 in
theorem ok_X10_update : wb_OK M_X10_update := ⟨by decide +kernel, by decide +kernel, (wb_inT 707 (by decide +kernel) rfl), (wb_inT 5 (by decide +kernel) rfl), by decide +kernel, by decide +kernel, by decide +kernel⟩
set_option maxRecDepth 20000 in
theorem ok_X10_strain : wb_OK M_X10_strain := ⟨by decide +kernel, by decide +kernel, (wb_inT 731 (by decide +kernel) rfl), (wb_inT 5 (by decide +kernel) rfl), by decide +kernel, by decide +kernel, by decide +kernel⟩
set_option maxRecDepth 20000 in
theorem ok_X10_firstBy : wb_OK M_X10_firstBy := ⟨by decide +kernel, by decide +kernel, (wb_inT 887 (by decide +kernel) rfl), (wb_inT 5 (by decide +kernel) rfl), by decide +kernel, by decide +kernel, by decide +kernel⟩
set_option maxRecDepth 20000 in
theorem ok_X10_sift : wb_OK M_X10_sift := ⟨by decide +kernel, by decide +kernel, (wb_inT 762 (by decide +kernel) rfl), (wb_inT 5 (by decide +kernel) rfl), by decide +kernel, by decide +kernel, by decide +kernel⟩
set_option maxRecDepth 20000 in
theorem ok_X10_chart : wb_OK M_X10_chart := ⟨by decide +kernel, by decide +kernel, (wb_inT 921 (by decide +kernel) rfl), (wb_inT 5 (by decide +kernel) rfl), by decide +kernel, by decide +kernel, by decide +kernel⟩
set_option maxRecDepth 20000 in
theorem ok_X10_first : wb_OK M_X10_first := ⟨by decide +kernel, by decide +kernel, (wb_inT 837 (by decide +kernel) rfl), (wb_inT 5 (by decide +kernel) rfl), by decide +kernel, by decide +kernel, by decide +kernel⟩
set_option maxRecDepth 20000 in
theorem ok_X10_goesTill : wb_OK M_X10_goesTill := ⟨by decide +kernel, by decide +kernel, (wb_inT 644 (by decide +kernel) rfl), (wb_inT 5 (by decide +kernel) rfl), by decide +kernel, by decide +kernel, by decide +kernel⟩
set_option maxRecDepth 20000 in
theorem ok_X10_judged : wb_OK M_X10_judged := ⟨by decide +kernel, by decide +kernel, (wb_inT 640 (by decide +kernel) rfl), (wb_inT 5 (by decide +kernel) rfl), by decide +kernel, by decide +kernel, by decide +kernel⟩
set_option maxRecDepth 20000 in
theorem ok_X10_setMade : wb_OK M_X10_setMade := ⟨by decide +kernel, by decide +kernel, (wb_inT 779 (by decide +kernel) rfl), (wb_inT 5 (by decide +kernel) rfl), by decide +kernel, by decide +kernel, by decide +kernel⟩
set_option maxRecDepth 20000 in
theorem ok_X10_amounts : wb_OK M_X10_amounts := ⟨by decide +kernel, by decide +kernel, (wb_inT 822 (by decide +kernel) rfl), (wb_inT 5 (by decide +kernel) rfl), by decide +kernel, by decide +kernel, by decide +kernel⟩
set_option maxRecDepth 20000 in
theorem ok_X10_inEvery : wb_OK M_X10_inEvery := ⟨by decide +kernel, by decide +kernel, (wb_inT 845 (by decide +kernel) rfl), (wb_inT 5 (by decide +kernel) rfl), by decide +kernel, by decide +kernel, by decide +kernel⟩
set_option maxRecDepth 20000 in
theorem ok_X10_inNone : wb_OK M_X10_inNone := ⟨by decide +kernel, by decide +kernel, (wb_inT 850 (by decide +kernel) rfl), (wb_inT 5 (by decide +kernel) rfl), by decide +kernel, by decide +kernel, by decide +kernel⟩
set_option maxRecDepth 20000 in
theorem ok_X10_plainest : wb_OK M_X10_plainest := ⟨by decide +kernel, by decide +kernel, (wb_inT 858 (by decide +kernel) rfl), (wb_inT 5 (by decide +kernel) rfl), by decide +kernel, by decide +kernel, by decide +kernel⟩
set_option maxRecDepth 20000 in
theorem ok_X10_firstWith : wb_OK M_X10_firstWith := ⟨by decide +kernel, by decide +kernel, (wb_inT 863 (by decide +kernel) rfl), (wb_inT 5 (by decide +kernel) rfl), by decide +kernel, by decide +kernel, by decide +kernel⟩
set_option maxRecDepth 20000 in
theorem ok_X10_endOfPrices : wb_OK M_X10_endOfPrices := ⟨by decide +kernel, by decide +kernel, (wb_inT 1025 (by decide +kernel) rfl), (wb_inT 5 (by decide +kernel) rfl), by decide +kernel, by decide +kernel, by decide +kernel⟩
set_option maxRecDepth 20000 in
theorem ok_X10_pairs : wb_OK M_X10_pairs := ⟨by decide +kernel, by decide +kernel, (wb_inT 1036 (by decide +kernel) rfl), (wb_inT 5 (by decide +kernel) rfl), by decide +kernel, by decide +kernel, by decide +kernel⟩
set_option maxRecDepth 20000 in
theorem ok_X11_init : wb_OK M_X11_init := ⟨by decide +kernel, by decide +kernel, (wb_inT 22 (by decide +kernel) rfl), (wb_inT 1 (by decide +kernel) rfl), by decide +kernel, by decide +kernel, by decide +kernel⟩
set_option maxRecDepth 20000 in
theorem ok_X11_month : wb_OK M_X11_month := ⟨by decide +kernel, by decide +kernel, (wb_inT 456 (by decide +kernel) rfl), (wb_inT 1 (by decide +kernel) rfl), by decide +kernel, by decide +kernel, by decide +kernel⟩
set_option maxRecDepth 20000 in
theorem ok_X11_change : wb_OK M_X11_change := ⟨by decide +kernel, by decide +kernel, (wb_inT 473 (by decide +kernel) rfl), (wb_inT 1 (by decide +kernel) rfl), by decide +kernel, by decide +kernel, by decide +kernel⟩
set_option maxRecDepth 20000 in
theorem ok_X11_about : wb_OK M_X11_about := ⟨by decide +kernel, by decide +kernel, (wb_inT 485 (by decide +kernel) rfl), (wb_inT 1 (by decide +kernel) rfl), by decide +kernel, by decide +kernel, by decide +kernel⟩
set_option maxRecDepth 20000 in
theorem ok_X11_tear : wb_OK M_X11_tear := ⟨by decide +kernel, by decide +kernel, (wb_inT 489 (by decide +kernel) rfl), (wb_inT 1 (by decide +kernel) rfl), by decide +kernel, by decide +kernel, by decide +kernel⟩
set_option maxRecDepth 20000 in
theorem ok_X11_stock : wb_OK M_X11_stock := ⟨by decide +kernel, by decide +kernel, (wb_inT 500 (by decide +kernel) rfl), (wb_inT 1 (by decide +kernel) rfl), by decide +kernel, by decide +kernel, by decide +kernel⟩
set_option maxRecDepth 20000 in
theorem ok_X11_stand : wb_OK M_X11_stand := ⟨by decide +kernel, by decide +kernel, (wb_inT 516 (by decide +kernel) rfl), (wb_inT 1 (by decide +kernel) rfl), by decide +kernel, by decide +kernel, by decide +kernel⟩
set_option maxRecDepth 20000 in
theorem ok_X11_say : wb_OK M_X11_say := ⟨by decide +kernel, by decide +kernel, (wb_inT 528 (by decide +kernel) rfl), (wb_inT 1 (by decide +kernel) rfl), by decide +kernel, by decide +kernel, by decide +kernel⟩
set_option maxRecDepth 20000 in
theorem ok_X11_wipe : wb_OK M_X11_wipe := ⟨by decide +kernel, by decide +kernel, (wb_inT 536 (by decide +kernel) rfl), (wb_inT 1 (by decide +kernel) rfl), by decide +kernel, by decide +kernel, by decide +kernel⟩
set_option maxRecDepth 20000 in
theorem ok_X11_fault : wb_OK M_X11_fault := ⟨by decide +kernel, by decide +kernel, (wb_inT 544 (by decide +kernel) rfl), (wb_inT 1 (by decide +kernel) rfl), by decide +kernel, by decide +kernel, by decide +kernel⟩
set_option maxRecDepth 20000 in
theorem ok_X11_rule : wb_OK M_X11_rule := ⟨by decide +kernel, by decide +kernel, (wb_inT 564 (by decide +kernel) rfl), (wb_inT 1 (by decide +kernel) rfl), by decide +kernel, by decide +kernel, by decide +kernel⟩
set_option maxRecDepth 20000 in
theorem ok_X11_free : wb_OK M_X11_free := ⟨by decide +kernel, by decide +kernel, (wb_inT 617 (by decide +kernel) rfl), (wb_inT 1 (by decide +kernel) rfl), by decide +kernel, by decide +kernel, by decide +kernel⟩
set_option maxRecDepth 20000 in
theorem ok_X11_fits : wb_OK M_X11_fits := ⟨by decide +kernel, by decide +kernel, (wb_inT 622 (by decide +kernel) rfl), (wb_inT 1 (by decide +kernel) rfl), by decide +kernel, by decide +kernel, by decide +kernel⟩
set_option maxRecDepth 20000 in
theorem ok_X11_needs : wb_OK M_X11_needs := ⟨by decide +kernel, by decide +kernel, (wb_inT 689 (by decide +kernel) rfl), (wb_inT 1 (by decide +kernel) rfl), by decide +kernel, by decide +kernel, by decide +kernel⟩
set_option maxRecDepth 20000 in
theorem ok_X11_judge : wb_OK M_X11_judge := ⟨by decide +kernel, by decide +kernel, (wb_inT 694 (by decide +kernel) rfl), (wb_inT 1 (by decide +kernel) rfl), by decide +kernel, by decide +kernel, by decide +kernel⟩
set_option maxRecDepth 20000 in
theorem ok_X11_lies : wb_OK M_X11_lies := ⟨by decide +kernel, by decide +kernel, (wb_inT 698 (by decide +kernel) rfl), (wb_inT 1 (by decide +kernel) rfl), by decide +kernel, by decide +kernel, by decide +kernel⟩
set_option maxRecDepth 20000 in
theorem ok_X11_all : wb_OK M_X11_all := ⟨by decide +kernel, by decide +kernel, (wb_inT 703 (by decide +kernel) rfl), (wb_inT 1 (by decide +kernel) rfl), by decide +kernel, by decide +kernel, by decide +kernel⟩
set_option maxRecDepth 20000 in
theorem ok_X11_ends : wb_OK M_X11_ends := ⟨by decide +kernel, by decide +kernel, (wb_inT 815 (by decide +kernel) rfl), (wb_inT 1 (by decide +kernel) rfl), by decide +kernel, by decide +kernel, by decide +kernel⟩
set_option maxRecDepth 20000 in
theorem ok_X11_must : wb_OK M_X11_must := ⟨by decide +kernel, by decide +kernel, (wb_inT 833 (by decide +kernel) rfl), (wb_inT 1 (by decide +kernel) rfl), by decide +kernel, by decide +kernel, by decide +kernel⟩
set_option maxRecDepth 20000 in
theorem ok_X11_plain : wb_OK M_X11_plain := ⟨by decide +kernel, by decide +kernel, (wb_inT 854 (by decide +kernel) rfl), (wb_inT 1 (by decide +kernel) rfl), by decide +kernel, by decide +kernel, by decide +kernel⟩
set_option maxRecDepth 20000 in
theorem ok_X11_near : wb_OK M_X11_near := ⟨by decide +kernel, by decide +kernel, (wb_inT 878 (by decide +kernel) rfl), (wb_inT 1 (by decide +kernel) rfl), by decide +kernel, by decide +kernel, by decide +kernel⟩
set_option maxRecDepth 20000 in
theorem ok_X11_doubt : wb_OK M_X11_doubt := ⟨by decide +kernel, by decide +kernel, (wb_inT 895 (by decide +kernel) rfl), (wb_inT 1 (by decide +kernel) rfl), by decide +kernel, by decide +kernel, by decide +kernel⟩
set_option maxRecDepth 20000 in
theorem ok_X11_changed : wb_OK M_X11_changed := ⟨by decide +kernel, by decide +kernel, (wb_inT 913 (by decide +kernel) rfl), (wb_inT 1 (by decide +kernel) rfl), by decide +kernel, by decide +kernel, by decide +kernel⟩
set_option maxRecDepth 20000 in
theorem ok_X11_cost : wb_OK M_X11_cost := ⟨by decide +kernel, by decide +kernel, (wb_inT 1012 (by decide +kernel) rfl), (wb_inT 1 (by decide +kernel) rfl), by decide +kernel, by decide +kernel, by decide +kernel⟩
set_option maxRecDepth 20000 in
theorem ok_X11_costs : wb_OK M_X11_costs := ⟨by decide +kernel, by decide +kernel, (wb_inT 1021 (by decide +kernel) rfl), (wb_inT 1 (by decide +kernel) rfl), by decide +kernel, by decide +kernel, by decide +kernel⟩
set_option maxRecDepth 20000 in
theorem ok_X11_buy : wb_OK M_X11_buy := ⟨by decide +kernel, by decide +kernel, (wb_inT 1032 (by decide +kernel) rfl), (wb_inT 1 (by decide +kernel) rfl), by decide +kernel, by decide +kernel, by decide +kernel⟩
set_option maxRecDepth 20000 in
theorem ok_X11_settle : wb_OK M_X11_settle := ⟨by decide +kernel, by decide +kernel, (wb_inT 1046 (by decide +kernel) rfl), (wb_inT 1 (by decide +kernel) rfl), by decide +kernel, by decide +kernel, by decide +kernel⟩
set_option maxRecDepth 20000 in
theorem ok_X11_hide : wb_OK M_X11_hide := ⟨by decide +kernel, by decide +kernel, (wb_inT 1108 (by decide +kernel) rfl), (wb_inT 1 (by decide +kernel) rfl), by decide +kernel, by decide +kernel, by decide +kernel⟩
set_option maxRecDepth 20000 in
theorem ok_X11_image : wb_OK M_X11_image := ⟨by decide +kernel, by decide +kernel, (wb_inT 1125 (by decide +kernel) rfl), (wb_inT 1 (by decide +kernel) rfl), by decide +kernel, by decide +kernel, by decide +kernel⟩
set_option maxRecDepth 20000 in
theorem ok_X11_restore : wb_OK M_X11_restore := ⟨by decide +kernel, by decide +kernel, (wb_inT 1135 (by decide +kernel) rfl), (wb_inT 1 (by decide +kernel) rfl), by decide +kernel, by decide +kernel, by decide +kernel⟩
set_option maxRecDepth 20000 in
theorem ok_X11_told : wb_OK M_X11_told := ⟨by decide +kernel, by decide +kernel, (wb_inT 1139 (by decide +kernel) rfl), (wb_inT 1 (by decide +kernel) rfl), by decide +kernel, by decide +kernel, by decide +kernel⟩
set_option maxRecDepth 20000 in
theorem ok_X11_within : wb_OK M_X11_within := ⟨by decide +kernel, by decide +kernel, (wb_inT 461 (by decide +kernel) rfl), (wb_inT 1 (by decide +kernel) rfl), by decide +kernel, by decide +kernel, by decide +kernel⟩
set_option maxRecDepth 20000 in
theorem ok_X11_isThing : wb_OK M_X11_isThing := ⟨by decide +kernel, by decide +kernel, (wb_inT 503 (by decide +kernel) rfl), (wb_inT 1 (by decide +kernel) rfl), by decide +kernel, by decide +kernel, by decide +kernel⟩
set_option maxRecDepth 20000 in
theorem ok_X11_isWare : wb_OK M_X11_isWare := ⟨by decide +kernel, by decide +kernel, (wb_inT 818 (by decide +kernel) rfl), (wb_inT 1 (by decide +kernel) rfl), by decide +kernel, by decide +kernel, by decide +kernel⟩
set_option maxRecDepth 20000 in
theorem ok_X11_isMixture : wb_OK M_X11_isMixture := ⟨by decide +kernel, by decide +kernel, (wb_inT 625 (by decide +kernel) rfl), (wb_inT 1 (by decide +kernel) rfl), by decide +kernel, by decide +kernel, by decide +kernel⟩
set_option maxRecDepth 20000 in
theorem ok_X11_isMonth : wb_OK M_X11_isMonth := ⟨by decide +kernel, by decide +kernel, (wb_inT 477 (by decide +kernel) rfl), (wb_inT 1 (by decide +kernel) rfl), by decide +kernel, by decide +kernel, by decide +kernel⟩
set_option maxRecDepth 20000 in
theorem ok_X11_amountIn : wb_OK M_X11_amountIn := ⟨by decide +kernel, by decide +kernel, (wb_inT 146 (by decide +kernel) rfl), (wb_inT 1 (by decide +kernel) rfl), by decide +kernel, by decide +kernel, by decide +kernel⟩
set_option maxRecDepth 20000 in
theorem ok_X11_pairOf : wb_OK M_X11_pairOf := ⟨by decide +kernel, by decide +kernel, (wb_inT 664 (by decide +kernel) rfl), (wb_inT 1 (by decide +kernel) rfl), by decide +kernel, by decide +kernel, by decide +kernel⟩
set_option maxRecDepth 20000 in
theorem ok_X11_withPair : wb_OK M_X11_withPair := ⟨by decide +kernel, by decide +kernel, (wb_inT 1006 (by decide +kernel) rfl), (wb_inT 1 (by decide +kernel) rfl), by decide +kernel, by decide +kernel, by decide +kernel⟩
set_option maxRecDepth 20000 in
theorem ok_X11_thingsInPart : wb_OK M_X11_thingsInPart := ⟨by decide +kernel, by decide +kernel, (wb_inT 149 (by decide +kernel) rfl), (wb_inT 1 (by decide +kernel) rfl), by decide +kernel, by decide +kernel, by decide +kernel⟩
set_option maxRecDepth 20000 in
theorem ok_X11_lowestPlace : wb_OK M_X11_lowestPlace := ⟨by decide +kernel, by decide +kernel, (wb_inT 810 (by decide +kernel) rfl), (wb_inT 1 (by decide +kernel) rfl), by decide +kernel, by decide +kernel, by decide +kernel⟩
set_option maxRecDepth 20000 in
theorem ok_X11_highestPlace : wb_OK M_X11_highestPlace := ⟨by decide +kernel, by decide +kernel, (wb_inT 829 (by decide +kernel) rfl), (wb_inT 1 (by decide +kernel) rfl), by decide +kernel, by decide +kernel, by decide +kernel⟩
set_option maxRecDepth 20000 in
theorem ok_X11_endOfNeeds : wb_OK M_X11_endOfNeeds := ⟨by decide +kernel, by decide +kernel, (wb_inT 1040 (by decide +kernel) rfl), (wb_inT 1 (by decide +kernel) rfl), by decide +kernel, by decide +kernel, by decide +kernel⟩
set_option maxRecDepth 20000 in
theorem ok_X11_spanOf : wb_OK M_X11_spanOf := ⟨by decide +kernel, by decide +kernel, (wb_inT 932 (by decide +kernel) rfl), (wb_inT 1 (by decide +kernel) rfl), by decide +kernel, by decide +kernel, by decide +kernel⟩
set_option maxRecDepth 20000 in
theorem ok_X11_lowOf : wb_OK M_X11_lowOf := ⟨by decide +kernel, by decide +kernel, (wb_inT 985 (by decide +kernel) rfl), (wb_inT 1 (by decide +kernel) rfl), by decide +kernel, by decide +kernel, by decide +kernel⟩
set_option maxRecDepth 20000 in
theorem ok_X11_highOf : wb_OK M_X11_highOf := ⟨by decide +kernel, by decide +kernel, (wb_inT 988 (by decide +kernel) rfl), (wb_inT 1 (by decide +kernel) rfl), by decide +kernel, by decide +kernel, by decide +kernel⟩
set_option maxRecDepth 20000 in
theorem ok_X12_init : wb_OK M_X12_init := ⟨by decide +kernel, by decide +kernel, (wb_inT 1144 (by decide +kernel) rfl), (wb_inT 13 (by decide +kernel) rfl), by decide +kernel, by decide +kernel, by decide +kernel⟩
set_option maxRecDepth 20000 in
theorem ok_X12_in : wb_OK M_X12_in := ⟨by decide +kernel, by decide +kernel, (wb_inT 1233 (by decide +kernel) rfl), (wb_inT 13 (by decide +kernel) rfl), by decide +kernel, by decide +kernel, by decide +kernel⟩
set_option maxRecDepth 20000 in
theorem ok_X12_isThing : wb_OK M_X12_isThing := ⟨by decide +kernel, by decide +kernel, (wb_inT 1259 (by decide +kernel) rfl), (wb_inT 13 (by decide +kernel) rfl), by decide +kernel, by decide +kernel, by decide +kernel⟩
set_option maxRecDepth 20000 in
theorem ok_X12_isMonth : wb_OK M_X12_isMonth := ⟨by decide +kernel, by decide +kernel, (wb_inT 1241 (by decide +kernel) rfl), (wb_inT 13 (by decide +kernel) rfl), by decide +kernel, by decide +kernel, by decide +kernel⟩
set_option maxRecDepth 20000 in
theorem ok_X12_isMixture : wb_OK M_X12_isMixture := ⟨by decide +kernel, by decide +kernel, (wb_inT 1302 (by decide +kernel) rfl), (wb_inT 13 (by decide +kernel) rfl), by decide +kernel, by decide +kernel, by decide +kernel⟩
set_option maxRecDepth 20000 in
theorem ok_X12_mostOf : wb_OK M_X12_mostOf := ⟨by decide +kernel, by decide +kernel, (wb_inT 1244 (by decide +kernel) rfl), (wb_inT 13 (by decide +kernel) rfl), by decide +kernel, by decide +kernel, by decide +kernel⟩
set_option maxRecDepth 20000 in
theorem ok_X12_month : wb_OK M_X12_month := ⟨by decide +kernel, by decide +kernel, (wb_inT 1230 (by decide +kernel) rfl), (wb_inT 13 (by decide +kernel) rfl), by decide +kernel, by decide +kernel, by decide +kernel⟩
set_option maxRecDepth 20000 in
theorem ok_X12_change : wb_OK M_X12_change := ⟨by decide +kernel, by decide +kernel, (wb_inT 1237 (by decide +kernel) rfl), (wb_inT 13 (by decide +kernel) rfl), by decide +kernel, by decide +kernel, by decide +kernel⟩
set_option maxRecDepth 20000 in
theorem ok_X12_about : wb_OK M_X12_about := ⟨by decide +kernel, by decide +kernel, (wb_inT 1248 (by decide +kernel) rfl), (wb_inT 13 (by decide +kernel) rfl), by decide +kernel, by decide +kernel, by decide +kernel⟩
set_option maxRecDepth 20000 in
theorem ok_X12_tear : wb_OK M_X12_tear := ⟨by decide +kernel, by decide +kernel, (wb_inT 1252 (by decide +kernel) rfl), (wb_inT 13 (by decide +kernel) rfl), by decide +kernel, by decide +kernel, by decide +kernel⟩
set_option maxRecDepth 20000 in
theorem ok_X12_stock : wb_OK M_X12_stock := ⟨by decide +kernel, by decide +kernel, (wb_inT 1256 (by decide +kernel) rfl), (wb_inT 13 (by decide +kernel) rfl), by decide +kernel, by decide +kernel, by decide +kernel⟩
set_option maxRecDepth 20000 in
theorem ok_X12_standOf : wb_OK M_X12_standOf := ⟨by decide +kernel, by decide +kernel, (wb_inT 1267 (by decide +kernel) rfl), (wb_inT 13 (by decide +kernel) rfl), by decide +kernel, by decide +kernel, by decide +kernel⟩
set_option maxRecDepth 20000 in
theorem ok_X12_stand : wb_OK M_X12_stand := ⟨by decide +kernel, by decide +kernel, (wb_inT 1263 (by decide +kernel) rfl), (wb_inT 13 (by decide +kernel) rfl), by decide +kernel, by decide +kernel, by decide +kernel⟩
set_option maxRecDepth 20000 in
theorem ok_X12_say : wb_OK M_X12_say := ⟨by decide +kernel, by decide +kernel, (wb_inT 1271 (by decide +kernel) rfl), (wb_inT 13 (by decide +kernel) rfl), by decide +kernel, by decide +kernel, by decide +kernel⟩
set_option maxRecDepth 20000 in
theorem ok_X12_wipe : wb_OK M_X12_wipe := ⟨by decide +kernel, by decide +kernel, (wb_inT 1275 (by decide +kernel) rfl), (wb_inT 13 (by decide +kernel) rfl), by decide +kernel, by decide +kernel, by decide +kernel⟩
set_option maxRecDepth 20000 in
theorem ok_X12_faultOf : wb_OK M_X12_faultOf := ⟨by decide +kernel, by decide +kernel, (wb_inT 1283 (by decide +kernel) rfl), (wb_inT 13 (by decide +kernel) rfl), by decide +kernel, by decide +kernel, by decide +kernel⟩
set_option maxRecDepth 20000 in
theorem ok_X12_fault : wb_OK M_X12_fault := ⟨by decide +kernel, by decide +kernel, (wb_inT 1279 (by decide +kernel) rfl), (wb_inT 13 (by decide +kernel) rfl), by decide +kernel, by decide +kernel, by decide +kernel⟩
set_option maxRecDepth 20000 in
theorem ok_X12_boths : wb_OK M_X12_boths := ⟨by decide +kernel, by decide +kernel, (wb_inT 1291 (by decide +kernel) rfl), (wb_inT 13 (by decide +kernel) rfl), by decide +kernel, by decide +kernel, by decide +kernel⟩
set_option maxRecDepth 20000 in
theorem ok_X12_rule : wb_OK M_X12_rule := ⟨by decide +kernel, by decide +kernel, (wb_inT 1287 (by decide +kernel) rfl), (wb_inT 13 (by decide +kernel) rfl), by decide +kernel, by decide +kernel, by decide +kernel⟩
set_option maxRecDepth 20000 in
theorem ok_X12_free : wb_OK M_X12_free := ⟨by decide +kernel, by decide +kernel, (wb_inT 1295 (by decide +kernel) rfl), (wb_inT 13 (by decide +kernel) rfl), by decide +kernel, by decide +kernel, by decide +kernel⟩
set_option maxRecDepth 20000 in
theorem ok_X12_digit : wb_OK M_X12_digit := ⟨by decide +kernel, by decide +kernel, (wb_inT 1309 (by decide +kernel) rfl), (wb_inT 13 (by decide +kernel) rfl), by decide +kernel, by decide +kernel, by decide +kernel⟩
set_option maxRecDepth 20000 in
theorem ok_X12_keeps : wb_OK M_X12_keeps := ⟨by decide +kernel, by decide +kernel, (wb_inT 1306 (by decide +kernel) rfl), (wb_inT 13 (by decide +kernel) rfl), by decide +kernel, by decide +kernel, by decide +kernel⟩
set_option maxRecDepth 20000 in
theorem ok_X12_isStoodIn : wb_OK M_X12_isStoodIn := ⟨by decide +kernel, by decide +kernel, (wb_inT 1328 (by decide +kernel) rfl), (wb_inT 13 (by decide +kernel) rfl), by decide +kernel, by decide +kernel, by decide +kernel⟩
set_option maxRecDepth 20000 in
theorem ok_X12_needOf : wb_OK M_X12_needOf := ⟨by decide +kernel, by decide +kernel, (wb_inT 1324 (by decide +kernel) rfl), (wb_inT 13 (by decide +kernel) rfl), by decide +kernel, by decide +kernel, by decide +kernel⟩
set_option maxRecDepth 20000 in
theorem ok_X12_pass : wb_OK M_X12_pass := ⟨by decide +kernel, by decide +kernel, (wb_inT 1332 (by decide +kernel) rfl), (wb_inT 13 (by decide +kernel) rfl), by decide +kernel, by decide +kernel, by decide +kernel⟩
set_option maxRecDepth 20000 in
theorem ok_X12_goes : wb_OK M_X12_goes := ⟨by decide +kernel, by decide +kernel, (wb_inT 1320 (by decide +kernel) rfl), (wb_inT 13 (by decide +kernel) rfl), by decide +kernel, by decide +kernel, by decide +kernel⟩
set_option maxRecDepth 20000 in
theorem ok_X12_amount : wb_OK M_X12_amount := ⟨by decide +kernel, by decide +kernel, (wb_inT 1316 (by decide +kernel) rfl), (wb_inT 13 (by decide +kernel) rfl), by decide +kernel, by decide +kernel, by decide +kernel⟩
set_option maxRecDepth 20000 in
theorem ok_X12_goesBy : wb_OK M_X12_goesBy := ⟨by decide +kernel, by decide +kernel, (wb_inT 1313 (by decide +kernel) rfl), (wb_inT 13 (by decide +kernel) rfl), by decide +kernel, by decide +kernel, by decide +kernel⟩
set_option maxRecDepth 20000 in
theorem ok_X12_layThing : wb_OK M_X12_layThing := ⟨by decide +kernel, by decide +kernel, (wb_inT 1361 (by decide +kernel) rfl), (wb_inT 13 (by decide +kernel) rfl), by decide +kernel, by decide +kernel, by decide +kernel⟩
set_option maxRecDepth 20000 in
theorem ok_X12_layThings : wb_OK M_X12_layThings := ⟨by decide +kernel, by decide +kernel, (wb_inT 1357 (by decide +kernel) rfl), (wb_inT 13 (by decide +kernel) rfl), by decide +kernel, by decide +kernel, by decide +kernel⟩
set_option maxRecDepth 20000 in
theorem ok_X12_agreesWith : wb_OK M_X12_agreesWith := ⟨by decide +kernel, by decide +kernel, (wb_inT 1369 (by decide +kernel) rfl), (wb_inT 13 (by decide +kernel) rfl), by decide +kernel, by decide +kernel, by decide +kernel⟩
set_option maxRecDepth 20000 in
theorem ok_X12_agreesWithAll : wb_OK M_X12_agreesWithAll := ⟨by decide +kernel, by decide +kernel, (wb_inT 1365 (by decide +kernel) rfl), (wb_inT 13 (by decide +kernel) rfl), by decide +kernel, by decide +kernel, by decide +kernel⟩
set_option maxRecDepth 20000 in
theorem ok_X12_lay : wb_OK M_X12_lay := ⟨by decide +kernel, by decide +kernel, (wb_inT 1353 (by decide +kernel) rfl), (wb_inT 13 (by decide +kernel) rfl), by decide +kernel, by decide +kernel, by decide +kernel⟩
set_option maxRecDepth 20000 in
theorem ok_X12_fits : wb_OK M_X12_fits := ⟨by decide +kernel, by decide +kernel, (wb_inT 1299 (by decide +kernel) rfl), (wb_inT 13 (by decide +kernel) rfl), by decide +kernel, by decide +kernel, by decide +kernel⟩
set_option maxRecDepth 20000 in
theorem ok_X12_needs : wb_OK M_X12_needs := ⟨by decide +kernel, by decide +kernel, (wb_inT 1337 (by decide +kernel) rfl), (wb_inT 13 (by decide +kernel) rfl), by decide +kernel, by decide +kernel, by decide +kernel⟩
set_option maxRecDepth 20000 in
theorem ok_X12_judge : wb_OK M_X12_judge := ⟨by decide +kernel, by decide +kernel, (wb_inT 1341 (by decide +kernel) rfl), (wb_inT 13 (by decide +kernel) rfl), by decide +kernel, by decide +kernel, by decide +kernel⟩
set_option maxRecDepth 20000 in
theorem ok_X12_lies : wb_OK M_X12_lies := ⟨by decide +kernel, by decide +kernel, (wb_inT 1345 (by decide +kernel) rfl), (wb_inT 13 (by decide +kernel) rfl), by decide +kernel, by decide +kernel, by decide +kernel⟩
set_option maxRecDepth 20000 in
theorem ok_X12_all : wb_OK M_X12_all := ⟨by decide +kernel, by decide +kernel, (wb_inT 1349 (by decide +kernel) rfl), (wb_inT 13 (by decide +kernel) rfl), by decide +kernel, by decide +kernel, by decide +kernel⟩
set_option maxRecDepth 20000 in
theorem ok_X12_ends : wb_OK M_X12_ends := ⟨by decide +kernel, by decide +kernel, (wb_inT 1373 (by decide +kernel) rfl), (wb_inT 13 (by decide +kernel) rfl), by decide +kernel, by decide +kernel, by decide +kernel⟩
set_option maxRecDepth 20000 in
theorem ok_X12_must : wb_OK M_X12_must := ⟨by decide +kernel, by decide +kernel, (wb_inT 1377 (by decide +kernel) rfl), (wb_inT 13 (by decide +kernel) rfl), by decide +kernel, by decide +kernel, by decide +kernel⟩
set_option maxRecDepth 20000 in
theorem ok_X12_things : wb_OK M_X12_things := ⟨by decide +kernel, by decide +kernel, (wb_inT 1384 (by decide +kernel) rfl), (wb_inT 13 (by decide +kernel) rfl), by decide +kernel, by decide +kernel, by decide +kernel⟩
set_option maxRecDepth 20000 in
theorem ok_X12_plain : wb_OK M_X12_plain := ⟨by decide +kernel, by decide +kernel, (wb_inT 1381 (by decide +kernel) rfl), (wb_inT 13 (by decide +kernel) rfl), by decide +kernel, by decide +kernel, by decide +kernel⟩
set_option maxRecDepth 20000 in
theorem ok_X12_firstNow : wb_OK M_X12_firstNow := ⟨by decide +kernel, by decide +kernel, (wb_inT 1392 (by decide +kernel) rfl), (wb_inT 13 (by decide +kernel) rfl), by decide +kernel, by decide +kernel, by decide +kernel⟩
set_option maxRecDepth 20000 in
theorem ok_X12_near : wb_OK M_X12_near := ⟨by decide +kernel, by decide +kernel, (wb_inT 1388 (by decide +kernel) rfl), (wb_inT 13 (by decide +kernel) rfl), by decide +kernel, by decide +kernel, by decide +kernel⟩
set_option maxRecDepth 20000 in
theorem ok_X12_bits : wb_OK M_X12_bits := ⟨by decide +kernel, by decide +kernel, (wb_inT 1399 (by decide +kernel) rfl), (wb_inT 13 (by decide +kernel) rfl), by decide +kernel, by decide +kernel, by decide +kernel⟩
set_option maxRecDepth 20000 in
theorem ok_X12_doubt : wb_OK M_X12_doubt := ⟨by decide +kernel, by decide +kernel, (wb_inT 1396 (by decide +kernel) rfl), (wb_inT 13 (by decide +kernel) rfl), by decide +kernel, by decide +kernel, by decide +kernel⟩
set_option maxRecDepth 20000 in
theorem ok_X12_agreesChanged : wb_OK M_X12_agreesChanged := ⟨by decide +kernel, by decide +kernel, (wb_inT 1411 (by decide +kernel) rfl), (wb_inT 13 (by decide +kernel) rfl), by decide +kernel, by decide +kernel, by decide +kernel⟩
set_option maxRecDepth 20000 in
theorem ok_X12_changedFrom : wb_OK M_X12_changedFrom := ⟨by decide +kernel, by decide +kernel, (wb_inT 1407 (by decide +kernel) rfl), (wb_inT 13 (by decide +kernel) rfl), by decide +kernel, by decide +kernel, by decide +kernel⟩
set_option maxRecDepth 20000 in
theorem ok_X12_changed : wb_OK M_X12_changed := ⟨by decide +kernel, by decide +kernel, (wb_inT 1403 (by decide +kernel) rfl), (wb_inT 13 (by decide +kernel) rfl), by decide +kernel, by decide +kernel, by decide +kernel⟩
set_option maxRecDepth 20000 in
theorem ok_X12_costOf : wb_OK M_X12_costOf := ⟨by decide +kernel, by decide +kernel, (wb_inT 1419 (by decide +kernel) rfl), (wb_inT 13 (by decide +kernel) rfl), by decide +kernel, by decide +kernel, by decide +kernel⟩
set_option maxRecDepth 20000 in
theorem ok_X12_cost : wb_OK M_X12_cost := ⟨by decide +kernel, by decide +kernel, (wb_inT 1415 (by decide +kernel) rfl), (wb_inT 13 (by decide +kernel) rfl), by decide +kernel, by decide +kernel, by decide +kernel⟩
set_option maxRecDepth 20000 in
theorem ok_X12_costs : wb_OK M_X12_costs := ⟨by decide +kernel, by decide +kernel, (wb_inT 1423 (by decide +kernel) rfl), (wb_inT 13 (by decide +kernel) rfl), by decide +kernel, by decide +kernel, by decide +kernel⟩
set_option maxRecDepth 20000 in
theorem ok_X12_buy : wb_OK M_X12_buy := ⟨by decide +kernel, by decide +kernel, (wb_inT 1427 (by decide +kernel) rfl), (wb_inT 13 (by decide +kernel) rfl), by decide +kernel, by decide +kernel, by decide +kernel⟩
set_option maxRecDepth 20000 in
theorem ok_X12_layOpen : wb_OK M_X12_layOpen := ⟨by decide +kernel, by decide +kernel, (wb_inT 1435 (by decide +kernel) rfl), (wb_inT 13 (by decide +kernel) rfl), by decide +kernel, by decide +kernel, by decide +kernel⟩
set_option maxRecDepth 20000 in
theorem ok_X12_countTried : wb_OK M_X12_countTried := ⟨by decide +kernel, by decide +kernel, (wb_inT 1443 (by decide +kernel) rfl), (wb_inT 13 (by decide +kernel) rfl), by decide +kernel, by decide +kernel, by decide +kernel⟩
set_option maxRecDepth 20000 in
theorem ok_X12_settle : wb_OK M_X12_settle := ⟨by decide +kernel, by decide +kernel, (wb_inT 1431 (by decide +kernel) rfl), (wb_inT 13 (by decide +kernel) rfl), by decide +kernel, by decide +kernel, by decide +kernel⟩
set_option maxRecDepth 20000 in
theorem ok_X12_mostBy : wb_OK M_X12_mostBy := ⟨by decide +kernel, by decide +kernel, (wb_inT 1439 (by decide +kernel) rfl), (wb_inT 13 (by decide +kernel) rfl), by decide +kernel, by decide +kernel, by decide +kernel⟩
set_option maxRecDepth 20000 in
theorem ok_X12_hide : wb_OK M_X12_hide := ⟨by decide +kernel, by decide +kernel, (wb_inT 1447 (by decide +kernel) rfl), (wb_inT 13 (by decide +kernel) rfl), by decide +kernel, by decide +kernel, by decide +kernel⟩
set_option maxRecDepth 20000 in
theorem ok_X12_image : wb_OK M_X12_image := ⟨by decide +kernel, by decide +kernel, (wb_inT 1451 (by decide +kernel) rfl), (wb_inT 13 (by decide +kernel) rfl), by decide +kernel, by decide +kernel, by decide +kernel⟩
set_option maxRecDepth 20000 in
theorem ok_X12_restore : wb_OK M_X12_restore := ⟨by decide +kernel, by decide +kernel, (wb_inT 1455 (by decide +kernel) rfl), (wb_inT 13 (by decide +kernel) rfl), by decide +kernel, by decide +kernel, by decide +kernel⟩
set_option maxRecDepth 20000 in
theorem ok_X12_told : wb_OK M_X12_told := ⟨by decide +kernel, by decide +kernel, (wb_inT 1459 (by decide +kernel) rfl), (wb_inT 13 (by decide +kernel) rfl), by decide +kernel, by decide +kernel, by decide +kernel⟩
set_option maxRecDepth 20000 in
theorem ok_J6_bitCount_0f7a4 : wb_OK M_J6_bitCount_0f7a4 := ⟨by decide +kernel, by decide +kernel, (wb_inT 906 (by decide +kernel) rfl), (wb_inT 17 (by decide +kernel) rfl), by decide +kernel, by decide +kernel, by decide +kernel⟩
set_option maxRecDepth 20000 in
theorem ok_J13_bitCount_95d88 : wb_OK M_J13_bitCount_95d88 := ⟨by decide +kernel, by decide +kernel, (wb_inT 794 (by decide +kernel) rfl), (wb_inT 16 (by decide +kernel) rfl), by decide +kernel, by decide +kernel, by decide +kernel⟩
