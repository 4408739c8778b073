/-! ===== the methods, and the links of the instructions: printed by gen/links.py ===== -/
abbrev M_X9_init : vx_M := (yX9_init, cX9_init, 2, none)
abbrev M_X1_init : vx_M := (yX1_init, cX1_init, 3, none)
abbrev M_X4_init : vx_M := (yX4_init, cX4_init, 3, none)
abbrev M_X0_init : vx_M := (yX0_init, cX0_init, 1, none)
abbrev M_X5_init : vx_M := (yX5_init, cX5_init, 1, none)
abbrev M_X6_init : vx_M := (yX6_init, cX6_init, 1, none)
abbrev M_X7_init : vx_M := (yX7_init, cX7_init, 1, none)
abbrev M_X2_init : vx_M := (yX2_init, cX2_init, 1, none)
abbrev M_X8_init : vx_M := (yX8_init, cX8_init, 1, none)
abbrev M_X3_init : vx_M := (yX3_init, cX3_init, 1, none)
abbrev M_X9_line : vx_M := (yX9_line, cX9_line, 6, some (.int))
abbrev M_X9_isBook : vx_M := (yX9_isBook, cX9_isBook, 1, some (.boolean))
abbrev M_X9_isWithin : vx_M := (yX9_isWithin, cX9_isWithin, 3, some (.boolean))
abbrev M_X4_write : vx_M := (yX4_write, cX4_write, 6, none)
abbrev M_X9_carriedOut : vx_M := (yX9_carriedOut, cX9_carriedOut, 4, none)
abbrev M_X0_put : vx_M := (yX0_put, cX0_put, 4, none)
abbrev M_J9_min_7cf53 : vx_M := (yJ9_min_7cf53, cJ9_min_7cf53, 2, some (.int))
abbrev M_X9_today : vx_M := (yX9_today, cX9_today, 3, some (.int))
abbrev M_X9_endUndoing : vx_M := (yX9_endUndoing, cX9_endUndoing, 1, none)
abbrev M_X9_terms : vx_M := (yX9_terms, cX9_terms, 3, some (.int))
abbrev M_X9_told : vx_M := (yX9_told, cX9_told, 5, some (.int))
abbrev M_X9_lineAt : vx_M := (yX9_lineAt, cX9_lineAt, 3, some (.object "TwoBooks$Line"))
abbrev M_X4_isBreak : vx_M := (yX4_isBreak, cX4_isBreak, 1, some (.boolean))
abbrev M_X9_fit : vx_M := (yX9_fit, cX9_fit, 5, some (.int))
abbrev M_X9_fitOf : vx_M := (yX9_fitOf, cX9_fitOf, 7, some (.int))
abbrev M_J9_abs_0f7a4 : vx_M := (yJ9_abs_0f7a4, cJ9_abs_0f7a4, 1, some (.int))
abbrev M_X9_learnt : vx_M := (yX9_learnt, cX9_learnt, 6, some (.int))
abbrev M_X3_isThere : vx_M := (yX3_isThere, cX3_isThere, 1, some (.boolean))
abbrev M_X3_hasWord : vx_M := (yX3_hasWord, cX3_hasWord, 4, some (.boolean))
abbrev M_J9_max_7cf53 : vx_M := (yJ9_max_7cf53, cJ9_max_7cf53, 2, some (.int))
abbrev M_X9_best : vx_M := (yX9_best, cX9_best, 5, some (.int))
abbrev M_X1_breaksAged : vx_M := (yX1_breaksAged, cX1_breaksAged, 5, some (.int))
abbrev M_X5_gather : vx_M := (yX5_gather, cX5_gather, 3, none)
abbrev M_X5_gatherBreaks : vx_M := (yX5_gatherBreaks, cX5_gatherBreaks, 4, some (.int))
abbrev M_X6_clear : vx_M := (yX6_clear, cX6_clear, 3, none)
abbrev M_J7_fill_53178 : vx_M := (yJ7_fill_53178, cJ7_fill_53178, 4, none)
abbrev M_X5_find : vx_M := (yX5_find, cX5_find, 3, none)
abbrev M_X6_seatAll : vx_M := (yX6_seatAll, cX6_seatAll, 2, none)
abbrev M_X6_seat : vx_M := (yX6_seat, cX6_seat, 5, none)
abbrev M_X6_clearSearch : vx_M := (yX6_clearSearch, cX6_clearSearch, 2, none)
abbrev M_X6_nextColumn : vx_M := (yX6_nextColumn, cX6_nextColumn, 7, some (.int))
abbrev M_X6_favourFirst : vx_M := (yX6_favourFirst, cX6_favourFirst, 2, none)
abbrev M_X6_settle : vx_M := (yX6_settle, cX6_settle, 3, none)
abbrev M_X6_isTight : vx_M := (yX6_isTight, cX6_isTight, 3, some (.boolean))
abbrev M_X6_canSit : vx_M := (yX6_canSit, cX6_canSit, 5, some (.boolean))
abbrev M_X6_columnOf : vx_M := (yX6_columnOf, cX6_columnOf, 3, some (.int))
abbrev M_X6_moves : vx_M := (yX6_moves, cX6_moves, 4, some (.boolean))
abbrev M_X6_total : vx_M := (yX6_total, cX6_total, 3, some (.int))
abbrev M_X6_keep : vx_M := (yX6_keep, cX6_keep, 1, none)
abbrev M_X6_totalWithout : vx_M := (yX6_totalWithout, cX6_totalWithout, 5, some (.int))
abbrev M_X6_restore : vx_M := (yX6_restore, cX6_restore, 1, none)
abbrev M_X9_with : vx_M := (yX9_with, cX9_with, 3, some (.int))
abbrev M_X9_freshRow : vx_M := (yX9_freshRow, cX9_freshRow, 2, some (.int))
abbrev M_X5_rowOf : vx_M := (yX5_rowOf, cX5_rowOf, 3, some (.int))
abbrev M_X9_rival : vx_M := (yX9_rival, cX9_rival, 3, some (.int))
abbrev M_X9_pair : vx_M := (yX9_pair, cX9_pair, 6, some (.int))
abbrev M_X5_countSure : vx_M := (yX5_countSure, cX5_countSure, 4, some (.int))
abbrev M_X5_isSure : vx_M := (yX5_isSure, cX5_isSure, 3, some (.boolean))
abbrev M_X9_makeGroup : vx_M := (yX9_makeGroup, cX9_makeGroup, 5, some (.int))
abbrev M_X3_open : vx_M := (yX3_open, cX3_open, 3, none)
abbrev M_X9_addTo : vx_M := (yX9_addTo, cX9_addTo, 3, none)
abbrev M_X3_add : vx_M := (yX3_add, cX3_add, 2, none)
abbrev M_X9_sets : vx_M := (yX9_sets, cX9_sets, 6, some (.int))
abbrev M_X7_gather : vx_M := (yX7_gather, cX7_gather, 6, none)
abbrev M_X7_boundAmounts : vx_M := (yX7_boundAmounts, cX7_boundAmounts, 3, none)
abbrev M_X7_find : vx_M := (yX7_find, cX7_find, 4, none)
abbrev M_X7_extend : vx_M := (yX7_extend, cX7_extend, 6, none)
abbrev M_X7_finish : vx_M := (yX7_finish, cX7_finish, 5, none)
abbrev M_X7_canReach : vx_M := (yX7_canReach, cX7_canReach, 4, some (.boolean))
abbrev M_X9_size : vx_M := (yX9_size, cX9_size, 2, some (.int))
abbrev M_X7_isThere : vx_M := (yX7_isThere, cX7_isThere, 2, some (.boolean))
abbrev M_X7_sizeOf : vx_M := (yX7_sizeOf, cX7_sizeOf, 2, some (.int))
abbrev M_X9_in : vx_M := (yX9_in, cX9_in, 3, some (.int))
abbrev M_X7_lineIn : vx_M := (yX7_lineIn, cX7_lineIn, 3, some (.int))
abbrev M_X9_set : vx_M := (yX9_set, cX9_set, 6, some (.int))
abbrev M_X9_hand : vx_M := (yX9_hand, cX9_hand, 6, some (.int))
abbrev M_X9_join : vx_M := (yX9_join, cX9_join, 7, some (.int))
abbrev M_X9_isGroupThere : vx_M := (yX9_isGroupThere, cX9_isGroupThere, 2, some (.boolean))
abbrev M_X9_part : vx_M := (yX9_part, cX9_part, 3, some (.int))
abbrev M_X3_claimLines : vx_M := (yX3_claimLines, cX3_claimLines, 3, none)
abbrev M_X9_lock : vx_M := (yX9_lock, cX9_lock, 4, some (.int))
abbrev M_X9_group : vx_M := (yX9_group, cX9_group, 4, some (.int))
abbrev M_X3_difference : vx_M := (yX3_difference, cX3_difference, 3, some (.int))
abbrev M_X9_breaks : vx_M := (yX9_breaks, cX9_breaks, 3, some (.int))
abbrev M_X9_broken : vx_M := (yX9_broken, cX9_broken, 3, some (.int))
abbrev M_X1_breakAt : vx_M := (yX1_breakAt, cX1_breakAt, 4, some (.int))
abbrev M_X9_sum : vx_M := (yX9_sum, cX9_sum, 2, some (.long))
abbrev M_X9_booksDifference : vx_M := (yX9_booksDifference, cX9_booksDifference, 1, some (.int))
abbrev M_X1_sumOfAll : vx_M := (yX1_sumOfAll, cX1_sumOfAll, 3, some (.int))
abbrev M_X1_sumOfBreaks : vx_M := (yX1_sumOfBreaks, cX1_sumOfBreaks, 3, some (.int))
abbrev M_X9_groupsDifference : vx_M := (yX9_groupsDifference, cX9_groupsDifference, 3, some (.int))
abbrev M_X9_as : vx_M := (yX9_as, cX9_as, 4, some (.long))
abbrev M_X9_countHolders : vx_M := (yX9_countHolders, cX9_countHolders, 4, some (.int))
abbrev M_X1_clearHolders : vx_M := (yX1_clearHolders, cX1_clearHolders, 2, none)
abbrev M_X3_isStandingOn : vx_M := (yX3_isStandingOn, cX3_isStandingOn, 2, some (.boolean))
abbrev M_X3_holdLines : vx_M := (yX3_holdLines, cX3_holdLines, 2, none)
abbrev M_X1_countUnheld : vx_M := (yX1_countUnheld, cX1_countUnheld, 4, some (.int))
abbrev M_X4_isUnheld : vx_M := (yX4_isUnheld, cX4_isUnheld, 2, some (.boolean))
abbrev M_X1_sumUnheld : vx_M := (yX1_sumUnheld, cX1_sumUnheld, 4, some (.int))
abbrev M_X9_explain : vx_M := (yX9_explain, cX9_explain, 2, some (.int))
abbrev M_X9_countUneven : vx_M := (yX9_countUneven, cX9_countUneven, 3, some (.int))
abbrev M_X3_isUneven : vx_M := (yX3_isUneven, cX3_isUneven, 1, some (.boolean))
abbrev M_X2_start : vx_M := (yX2_start, cX2_start, 1, none)
abbrev M_X2_addBreaks : vx_M := (yX2_addBreaks, cX2_addBreaks, 4, none)
abbrev M_X2_add : vx_M := (yX2_add, cX2_add, 4, none)
abbrev M_X2_find : vx_M := (yX2_find, cX2_find, 5, some (.boolean))
abbrev M_X8_start : vx_M := (yX8_start, cX8_start, 1, none)
abbrev M_X8_copy : vx_M := (yX8_copy, cX8_copy, 2, none)
abbrev M_X2_bitOf : vx_M := (yX2_bitOf, cX2_bitOf, 1, some (.int))
abbrev M_X8_merge : vx_M := (yX8_merge, cX8_merge, 8, none)
abbrev M_X8_cheapestWith : vx_M := (yX8_cheapestWith, cX8_cheapestWith, 8, some (.int))
abbrev M_X2_choose : vx_M := (yX2_choose, cX2_choose, 4, none)
abbrev M_X9_explained : vx_M := (yX9_explained, cX9_explained, 3, some (.int))
abbrev M_X9_undo : vx_M := (yX9_undo, cX9_undo, 2, some (.int))
abbrev M_X0_takeLatest : vx_M := (yX0_takeLatest, cX0_takeLatest, 1, some (.int))
abbrev M_X9_takeBack : vx_M := (yX9_takeBack, cX9_takeBack, 4, none)
abbrev M_X3_dropLatest : vx_M := (yX3_dropLatest, cX3_dropLatest, 1, none)
abbrev M_X9_count : vx_M := (yX9_count, cX9_count, 2, some (.int))
abbrev M_X9_countThere : vx_M := (yX9_countThere, cX9_countThere, 3, some (.int))
abbrev M_X9_check : vx_M := (yX9_check, cX9_check, 2, some (.int))
abbrev M_X1_isHeldRightly : vx_M := (yX1_isHeldRightly, cX1_isHeldRightly, 2, some (.boolean))
abbrev M_X9_allHaveBothBooks : vx_M := (yX9_allHaveBothBooks, cX9_allHaveBothBooks, 2, some (.boolean))
abbrev M_X3_hasBothBooks : vx_M := (yX3_hasBothBooks, cX3_hasBothBooks, 3, some (.boolean))
abbrev M_X10_init : vx_M := (yX10_init, cX10_init, 1, none)
abbrev M_X10_line : vx_M := (yX10_line, cX10_line, 6, some (.int))
abbrev M_X10_within : vx_M := (yX10_within, cX10_within, 3, some (.boolean))
abbrev M_X10_did : vx_M := (yX10_did, cX10_did, 5, none)
abbrev M_X10_today : vx_M := (yX10_today, cX10_today, 3, some (.int))
abbrev M_X10_changed : vx_M := (yX10_changed, cX10_changed, 1, none)
abbrev M_X10_terms : vx_M := (yX10_terms, cX10_terms, 3, some (.int))
abbrev M_X10_told : vx_M := (yX10_told, cX10_told, 5, some (.int))
abbrev M_X10_isLine : vx_M := (yX10_isLine, cX10_isLine, 3, some (.boolean))
abbrev M_X10_fit : vx_M := (yX10_fit, cX10_fit, 3, some (.int))
abbrev M_X10_fitOf : vx_M := (yX10_fitOf, cX10_fitOf, 8, some (.int))
abbrev M_X10_apart : vx_M := (yX10_apart, cX10_apart, 2, some (.int))
abbrev M_X10_hasWord : vx_M := (yX10_hasWord, cX10_hasWord, 7, some (.boolean))
abbrev M_X10_best : vx_M := (yX10_best, cX10_best, 8, some (.int))
abbrev M_X10_breaksOf : vx_M := (yX10_breaksOf, cX10_breaksOf, 6, some (.int))
abbrev M_X10_reckon : vx_M := (yX10_reckon, cX10_reckon, 10, some (.int))
abbrev M_X10_with : vx_M := (yX10_with, cX10_with, 3, some (.int))
abbrev M_X10_paired : vx_M := (yX10_paired, cX10_paired, 3, some (.int))
abbrev M_X10_rival : vx_M := (yX10_rival, cX10_rival, 3, some (.int))
abbrev M_X10_withoutPair : vx_M := (yX10_withoutPair, cX10_withoutPair, 2, some (.int))
abbrev M_X10_pair : vx_M := (yX10_pair, cX10_pair, 6, some (.int))
abbrev M_X10_newGroup : vx_M := (yX10_newGroup, cX10_newGroup, 3, some (.int))
abbrev M_X10_add : vx_M := (yX10_add, cX10_add, 3, none)
abbrev M_X10_sets : vx_M := (yX10_sets, cX10_sets, 6, some (.int))
abbrev M_X10_choose : vx_M := (yX10_choose, cX10_choose, 11, none)
abbrev M_X10_size : vx_M := (yX10_size, cX10_size, 2, some (.int))
abbrev M_X10_in : vx_M := (yX10_in, cX10_in, 3, some (.int))
abbrev M_X10_set : vx_M := (yX10_set, cX10_set, 4, some (.int))
abbrev M_X10_hand : vx_M := (yX10_hand, cX10_hand, 4, some (.int))
abbrev M_X10_join : vx_M := (yX10_join, cX10_join, 4, some (.int))
abbrev M_X10_isThere : vx_M := (yX10_isThere, cX10_isThere, 2, some (.boolean))
abbrev M_X10_part : vx_M := (yX10_part, cX10_part, 3, some (.int))
abbrev M_X10_lock : vx_M := (yX10_lock, cX10_lock, 4, some (.int))
abbrev M_X10_group : vx_M := (yX10_group, cX10_group, 3, some (.int))
abbrev M_X10_differenceOf : vx_M := (yX10_differenceOf, cX10_differenceOf, 6, some (.long))
abbrev M_X10_breaks : vx_M := (yX10_breaks, cX10_breaks, 6, some (.int))
abbrev M_X10_broken : vx_M := (yX10_broken, cX10_broken, 5, some (.int))
abbrev M_X10_sum : vx_M := (yX10_sum, cX10_sum, 6, some (.long))
abbrev M_X10_as : vx_M := (yX10_as, cX10_as, 9, some (.long))
abbrev M_X10_wasThere : vx_M := (yX10_wasThere, cX10_wasThere, 3, some (.boolean))
abbrev M_X10_explain : vx_M := (yX10_explain, cX10_explain, 5, some (.int))
abbrev M_X10_addItem : vx_M := (yX10_addItem, cX10_addItem, 6, some (.int))
abbrev M_X10_find : vx_M := (yX10_find, cX10_find, 8, some (.int))
abbrev M_X10_explained : vx_M := (yX10_explained, cX10_explained, 3, some (.int))
abbrev M_X10_undo : vx_M := (yX10_undo, cX10_undo, 3, some (.int))
abbrev M_X10_count : vx_M := (yX10_count, cX10_count, 4, some (.int))
abbrev M_X10_check : vx_M := (yX10_check, cX10_check, 7, some (.int))
theorem cwX0 : ∀ w ∈ u_ws RX0 TX0 5, w ∈ lw_ok := by decide +kernel
theorem cwX1 : ∀ w ∈ u_ws RX1 TX1 2, w ∈ lw_ok := by decide +kernel
theorem cwX2 : ∀ w ∈ u_ws RX2 TX2 10, w ∈ lw_ok := by decide +kernel
theorem cwX3 : ∀ w ∈ u_ws RX3 TX3 6, w ∈ lw_ok := by decide +kernel
theorem cwX4 : ∀ w ∈ u_ws RX4 TX4 9, w ∈ lw_ok := by decide +kernel
theorem cwX5 : ∀ w ∈ u_ws RX5 TX5 9, w ∈ lw_ok := by decide +kernel
theorem cwX6 : ∀ w ∈ u_ws RX6 TX6 12, w ∈ lw_ok := by decide +kernel
theorem cwX7 : ∀ w ∈ u_ws RX7 TX7 13, w ∈ lw_ok := by decide +kernel
theorem cwX8 : ∀ w ∈ u_ws RX8 TX8 3, w ∈ lw_ok := by decide +kernel
theorem cwX9 : ∀ w ∈ u_ws RX9 TX9 11, w ∈ lw_ok := by decide +kernel
theorem cwX10 : ∀ w ∈ u_ws RX10 TX10 47, w ∈ lw_ok := by decide +kernel
theorem fgX4_15 : xFG RX4 15 4 0 := ⟨RX4, TX4, 9, rfl, by decide, lw_ok_in 82 (by decide +kernel) rfl, cwX4⟩
theorem fpX4_15 : xFP RX4 15 4 0 (.int) true := ⟨RX4, TX4, 9, tyX4, rfl, by decide, lw_ok_in 82 (by decide +kernel) rfl, cwX4, tyX4_ok, nmX4, rfl, by decide +kernel, fun _ => rfl⟩
theorem fgX7_52 : xFG RX7 52 4 0 := ⟨RX4, TX4, 9, rfl, by decide, lw_ok_in 83 (by decide +kernel) rfl, cwX4⟩
theorem fgX2_62 : xFG RX2 62 4 0 := ⟨RX4, TX4, 9, rfl, by decide, lw_ok_in 84 (by decide +kernel) rfl, cwX4⟩
theorem fgX3_47 : xFG RX3 47 4 0 := ⟨RX4, TX4, 9, rfl, by decide, lw_ok_in 85 (by decide +kernel) rfl, cwX4⟩
theorem fgX4_18 : xFG RX4 18 4 1 := ⟨RX4, TX4, 9, rfl, by decide, lw_ok_in 86 (by decide +kernel) rfl, cwX4⟩
theorem fpX4_18 : xFP RX4 18 4 1 (.int) true := ⟨RX4, TX4, 9, tyX4, rfl, by decide, lw_ok_in 86 (by decide +kernel) rfl, cwX4, tyX4_ok, nmX4, rfl, by decide +kernel, fun _ => rfl⟩
theorem fgX7_55 : xFG RX7 55 4 1 := ⟨RX4, TX4, 9, rfl, by decide, lw_ok_in 87 (by decide +kernel) rfl, cwX4⟩
theorem fgX4_21 : xFG RX4 21 4 2 := ⟨RX4, TX4, 9, rfl, by decide, lw_ok_in 88 (by decide +kernel) rfl, cwX4⟩
theorem fpX4_21 : xFP RX4 21 4 2 (.int) false := ⟨RX4, TX4, 9, tyX4, rfl, by decide, lw_ok_in 88 (by decide +kernel) rfl, cwX4, tyX4_ok, nmX4, rfl, by decide +kernel, fun h => by cases h⟩
theorem fgX7_57 : xFG RX7 57 4 2 := ⟨RX4, TX4, 9, rfl, by decide, lw_ok_in 89 (by decide +kernel) rfl, cwX4⟩
theorem fgX2_65 : xFG RX2 65 4 2 := ⟨RX4, TX4, 9, rfl, by decide, lw_ok_in 90 (by decide +kernel) rfl, cwX4⟩
theorem fgX1_31 : xFG RX1 31 4 2 := ⟨RX4, TX4, 9, rfl, by decide, lw_ok_in 91 (by decide +kernel) rfl, cwX4⟩
theorem fgX9_106 : xFG RX9 106 4 2 := ⟨RX4, TX4, 9, rfl, by decide, lw_ok_in 92 (by decide +kernel) rfl, cwX4⟩
theorem fgX3_50 : xFG RX3 50 4 2 := ⟨RX4, TX4, 9, rfl, by decide, lw_ok_in 93 (by decide +kernel) rfl, cwX4⟩
theorem fgX4_24 : xFG RX4 24 4 3 := ⟨RX4, TX4, 9, rfl, by decide, lw_ok_in 94 (by decide +kernel) rfl, cwX4⟩
theorem fpX4_24 : xFP RX4 24 4 3 (.int) false := ⟨RX4, TX4, 9, tyX4, rfl, by decide, lw_ok_in 94 (by decide +kernel) rfl, cwX4, tyX4_ok, nmX4, rfl, by decide +kernel, fun h => by cases h⟩
theorem fgX7_72 : xFG RX7 72 4 3 := ⟨RX4, TX4, 9, rfl, by decide, lw_ok_in 95 (by decide +kernel) rfl, cwX4⟩
theorem fgX9_109 : xFG RX9 109 4 3 := ⟨RX4, TX4, 9, rfl, by decide, lw_ok_in 96 (by decide +kernel) rfl, cwX4⟩
theorem fgX4_27 : xFG RX4 27 4 4 := ⟨RX4, TX4, 9, rfl, by decide, lw_ok_in 97 (by decide +kernel) rfl, cwX4⟩
theorem fpX4_27 : xFP RX4 27 4 4 (.int) false := ⟨RX4, TX4, 9, tyX4, rfl, by decide, lw_ok_in 97 (by decide +kernel) rfl, cwX4, tyX4_ok, nmX4, rfl, by decide +kernel, fun h => by cases h⟩
theorem fgX9_115 : xFG RX9 115 4 4 := ⟨RX4, TX4, 9, rfl, by decide, lw_ok_in 98 (by decide +kernel) rfl, cwX4⟩
theorem fgX4_30 : xFG RX4 30 4 5 := ⟨RX4, TX4, 9, rfl, by decide, lw_ok_in 99 (by decide +kernel) rfl, cwX4⟩
theorem fpX4_30 : xFP RX4 30 4 5 (.int) false := ⟨RX4, TX4, 9, tyX4, rfl, by decide, lw_ok_in 99 (by decide +kernel) rfl, cwX4, tyX4_ok, nmX4, rfl, by decide +kernel, fun h => by cases h⟩
theorem fgX9_112 : xFG RX9 112 4 5 := ⟨RX4, TX4, 9, rfl, by decide, lw_ok_in 100 (by decide +kernel) rfl, cwX4⟩
theorem fgX3_53 : xFG RX3 53 4 5 := ⟨RX4, TX4, 9, rfl, by decide, lw_ok_in 101 (by decide +kernel) rfl, cwX4⟩
theorem fgX4_33 : xFG RX4 33 4 6 := ⟨RX4, TX4, 9, rfl, by decide, lw_ok_in 102 (by decide +kernel) rfl, cwX4⟩
theorem fpX4_33 : xFP RX4 33 4 6 (.int) false := ⟨RX4, TX4, 9, tyX4, rfl, by decide, lw_ok_in 102 (by decide +kernel) rfl, cwX4, tyX4_ok, nmX4, rfl, by decide +kernel, fun h => by cases h⟩
theorem fgX1_28 : xFG RX1 28 4 6 := ⟨RX4, TX4, 9, rfl, by decide, lw_ok_in 103 (by decide +kernel) rfl, cwX4⟩
theorem fgX9_118 : xFG RX9 118 4 6 := ⟨RX4, TX4, 9, rfl, by decide, lw_ok_in 104 (by decide +kernel) rfl, cwX4⟩
theorem fgX4_9 : xFG RX4 9 4 7 := ⟨RX4, TX4, 9, rfl, by decide, lw_ok_in 105 (by decide +kernel) rfl, cwX4⟩
theorem fpX4_9 : xFP RX4 9 4 7 (.int) false := ⟨RX4, TX4, 9, tyX4, rfl, by decide, lw_ok_in 105 (by decide +kernel) rfl, cwX4, tyX4_ok, nmX4, rfl, by decide +kernel, fun h => by cases h⟩
theorem fgX3_33 : xFG RX3 33 4 7 := ⟨RX4, TX4, 9, rfl, by decide, lw_ok_in 106 (by decide +kernel) rfl, cwX4⟩
theorem fpX3_33 : xFP RX3 33 4 7 (.int) false := ⟨RX4, TX4, 9, tyX4, rfl, by decide, lw_ok_in 106 (by decide +kernel) rfl, cwX4, tyX4_ok, nmX4, rfl, by decide +kernel, fun h => by cases h⟩
theorem fgX9_121 : xFG RX9 121 4 7 := ⟨RX4, TX4, 9, rfl, by decide, lw_ok_in 107 (by decide +kernel) rfl, cwX4⟩
theorem fpX9_121 : xFP RX9 121 4 7 (.int) false := ⟨RX4, TX4, 9, tyX4, rfl, by decide, lw_ok_in 107 (by decide +kernel) rfl, cwX4, tyX4_ok, nmX4, rfl, by decide +kernel, fun h => by cases h⟩
theorem fgX4_36 : xFG RX4 36 4 8 := ⟨RX4, TX4, 9, rfl, by decide, lw_ok_in 108 (by decide +kernel) rfl, cwX4⟩
theorem fgX1_34 : xFG RX1 34 4 8 := ⟨RX4, TX4, 9, rfl, by decide, lw_ok_in 109 (by decide +kernel) rfl, cwX4⟩
theorem fpX1_34 : xFP RX1 34 4 8 (.int) false := ⟨RX4, TX4, 9, tyX4, rfl, by decide, lw_ok_in 109 (by decide +kernel) rfl, cwX4, tyX4_ok, nmX4, rfl, by decide +kernel, fun h => by cases h⟩
theorem fgX3_36 : xFG RX3 36 4 8 := ⟨RX4, TX4, 9, rfl, by decide, lw_ok_in 110 (by decide +kernel) rfl, cwX4⟩
theorem fpX3_36 : xFP RX3 36 4 8 (.int) false := ⟨RX4, TX4, 9, tyX4, rfl, by decide, lw_ok_in 110 (by decide +kernel) rfl, cwX4, tyX4_ok, nmX4, rfl, by decide +kernel, fun h => by cases h⟩
theorem fgX1_11 : xFG RX1 11 1 0 := ⟨RX1, TX1, 2, rfl, by decide, lw_ok_in 130 (by decide +kernel) rfl, cwX1⟩
theorem fpX1_11 : xFP RX1 11 1 0 (.array (.object "TwoBooks$Line")) true := ⟨RX1, TX1, 2, tyX1, rfl, by decide, lw_ok_in 130 (by decide +kernel) rfl, cwX1, tyX1_ok, nmX1, rfl, by decide +kernel, fun _ => rfl⟩
theorem fgX7_64 : xFG RX7 64 1 0 := ⟨RX1, TX1, 2, rfl, by decide, lw_ok_in 131 (by decide +kernel) rfl, cwX1⟩
theorem fgX9_83 : xFG RX9 83 1 0 := ⟨RX1, TX1, 2, rfl, by decide, lw_ok_in 132 (by decide +kernel) rfl, cwX1⟩
theorem fgX2_52 : xFG RX2 52 1 0 := ⟨RX1, TX1, 2, rfl, by decide, lw_ok_in 133 (by decide +kernel) rfl, cwX1⟩
theorem fgX5_63 : xFG RX5 63 1 0 := ⟨RX1, TX1, 2, rfl, by decide, lw_ok_in 134 (by decide +kernel) rfl, cwX1⟩
theorem fgX1_17 : xFG RX1 17 1 1 := ⟨RX1, TX1, 2, rfl, by decide, lw_ok_in 135 (by decide +kernel) rfl, cwX1⟩
theorem fpX1_17 : xFP RX1 17 1 1 (.int) false := ⟨RX1, TX1, 2, tyX1, rfl, by decide, lw_ok_in 135 (by decide +kernel) rfl, cwX1, tyX1_ok, nmX1, rfl, by decide +kernel, fun h => by cases h⟩
theorem fgX7_59 : xFG RX7 59 1 1 := ⟨RX1, TX1, 2, rfl, by decide, lw_ok_in 136 (by decide +kernel) rfl, cwX1⟩
theorem fgX9_80 : xFG RX9 80 1 1 := ⟨RX1, TX1, 2, rfl, by decide, lw_ok_in 137 (by decide +kernel) rfl, cwX1⟩
theorem fpX9_80 : xFP RX9 80 1 1 (.int) false := ⟨RX1, TX1, 2, tyX1, rfl, by decide, lw_ok_in 137 (by decide +kernel) rfl, cwX1, tyX1_ok, nmX1, rfl, by decide +kernel, fun h => by cases h⟩
theorem fgX2_47 : xFG RX2 47 1 1 := ⟨RX1, TX1, 2, rfl, by decide, lw_ok_in 138 (by decide +kernel) rfl, cwX1⟩
theorem fgX5_58 : xFG RX5 58 1 1 := ⟨RX1, TX1, 2, rfl, by decide, lw_ok_in 139 (by decide +kernel) rfl, cwX1⟩
theorem fgX0_9 : xFG RX0 9 0 0 := ⟨RX0, TX0, 5, rfl, by decide, lw_ok_in 153 (by decide +kernel) rfl, cwX0⟩
theorem fpX0_9 : xFP RX0 9 0 0 (.array (.int)) true := ⟨RX0, TX0, 5, tyX0, rfl, by decide, lw_ok_in 153 (by decide +kernel) rfl, cwX0, tyX0_ok, nmX0, rfl, by decide +kernel, fun _ => rfl⟩
theorem fgX9_298 : xFG RX9 298 0 0 := ⟨RX0, TX0, 5, rfl, by decide, lw_ok_in 154 (by decide +kernel) rfl, cwX0⟩
theorem fgX0_15 : xFG RX0 15 0 1 := ⟨RX0, TX0, 5, rfl, by decide, lw_ok_in 155 (by decide +kernel) rfl, cwX0⟩
theorem fpX0_15 : xFP RX0 15 0 1 (.array (.int)) true := ⟨RX0, TX0, 5, tyX0, rfl, by decide, lw_ok_in 155 (by decide +kernel) rfl, cwX0, tyX0_ok, nmX0, rfl, by decide +kernel, fun _ => rfl⟩
theorem fgX9_301 : xFG RX9 301 0 1 := ⟨RX0, TX0, 5, rfl, by decide, lw_ok_in 156 (by decide +kernel) rfl, cwX0⟩
theorem fgX0_18 : xFG RX0 18 0 2 := ⟨RX0, TX0, 5, rfl, by decide, lw_ok_in 157 (by decide +kernel) rfl, cwX0⟩
theorem fpX0_18 : xFP RX0 18 0 2 (.array (.int)) true := ⟨RX0, TX0, 5, tyX0, rfl, by decide, lw_ok_in 157 (by decide +kernel) rfl, cwX0, tyX0_ok, nmX0, rfl, by decide +kernel, fun _ => rfl⟩
theorem fgX9_304 : xFG RX9 304 0 2 := ⟨RX0, TX0, 5, rfl, by decide, lw_ok_in 158 (by decide +kernel) rfl, cwX0⟩
theorem fgX0_21 : xFG RX0 21 0 3 := ⟨RX0, TX0, 5, rfl, by decide, lw_ok_in 159 (by decide +kernel) rfl, cwX0⟩
theorem fpX0_21 : xFP RX0 21 0 3 (.int) false := ⟨RX0, TX0, 5, tyX0, rfl, by decide, lw_ok_in 159 (by decide +kernel) rfl, cwX0, tyX0_ok, nmX0, rfl, by decide +kernel, fun h => by cases h⟩
theorem fgX0_25 : xFG RX0 25 0 4 := ⟨RX0, TX0, 5, rfl, by decide, lw_ok_in 160 (by decide +kernel) rfl, cwX0⟩
theorem fpX0_25 : xFP RX0 25 0 4 (.int) false := ⟨RX0, TX0, 5, tyX0, rfl, by decide, lw_ok_in 160 (by decide +kernel) rfl, cwX0, tyX0_ok, nmX0, rfl, by decide +kernel, fun h => by cases h⟩
theorem fgX9_294 : xFG RX9 294 0 4 := ⟨RX0, TX0, 5, rfl, by decide, lw_ok_in 161 (by decide +kernel) rfl, cwX0⟩
theorem fpX9_294 : xFP RX9 294 0 4 (.int) false := ⟨RX0, TX0, 5, tyX0, rfl, by decide, lw_ok_in 161 (by decide +kernel) rfl, cwX0, tyX0_ok, nmX0, rfl, by decide +kernel, fun h => by cases h⟩
theorem fgX6_11 : xFG RX6 11 6 0 := ⟨RX6, TX6, 12, rfl, by decide, lw_ok_in 188 (by decide +kernel) rfl, cwX6⟩
theorem fpX6_11 : xFP RX6 11 6 0 (.array (.array (.int))) true := ⟨RX6, TX6, 12, tyX6, rfl, by decide, lw_ok_in 188 (by decide +kernel) rfl, cwX6, tyX6_ok, nmX6, rfl, by decide +kernel, fun _ => rfl⟩
theorem fgX5_86 : xFG RX5 86 6 0 := ⟨RX6, TX6, 12, rfl, by decide, lw_ok_in 189 (by decide +kernel) rfl, cwX6⟩
theorem fgX9_157 : xFG RX9 157 6 0 := ⟨RX6, TX6, 12, rfl, by decide, lw_ok_in 190 (by decide +kernel) rfl, cwX6⟩
theorem fgX6_16 : xFG RX6 16 6 1 := ⟨RX6, TX6, 12, rfl, by decide, lw_ok_in 191 (by decide +kernel) rfl, cwX6⟩
theorem fpX6_16 : xFP RX6 16 6 1 (.int) false := ⟨RX6, TX6, 12, tyX6, rfl, by decide, lw_ok_in 191 (by decide +kernel) rfl, cwX6, tyX6_ok, nmX6, rfl, by decide +kernel, fun h => by cases h⟩
theorem fgX6_20 : xFG RX6 20 6 2 := ⟨RX6, TX6, 12, rfl, by decide, lw_ok_in 192 (by decide +kernel) rfl, cwX6⟩
theorem fpX6_20 : xFP RX6 20 6 2 (.array (.int)) true := ⟨RX6, TX6, 12, tyX6, rfl, by decide, lw_ok_in 192 (by decide +kernel) rfl, cwX6, tyX6_ok, nmX6, rfl, by decide +kernel, fun _ => rfl⟩
theorem fgX6_24 : xFG RX6 24 6 3 := ⟨RX6, TX6, 12, rfl, by decide, lw_ok_in 193 (by decide +kernel) rfl, cwX6⟩
theorem fpX6_24 : xFP RX6 24 6 3 (.array (.int)) true := ⟨RX6, TX6, 12, tyX6, rfl, by decide, lw_ok_in 193 (by decide +kernel) rfl, cwX6, tyX6_ok, nmX6, rfl, by decide +kernel, fun _ => rfl⟩
theorem fgX6_27 : xFG RX6 27 6 4 := ⟨RX6, TX6, 12, rfl, by decide, lw_ok_in 194 (by decide +kernel) rfl, cwX6⟩
theorem fpX6_27 : xFP RX6 27 6 4 (.array (.int)) true := ⟨RX6, TX6, 12, tyX6, rfl, by decide, lw_ok_in 194 (by decide +kernel) rfl, cwX6, tyX6_ok, nmX6, rfl, by decide +kernel, fun _ => rfl⟩
theorem fgX6_30 : xFG RX6 30 6 5 := ⟨RX6, TX6, 12, rfl, by decide, lw_ok_in 195 (by decide +kernel) rfl, cwX6⟩
theorem fpX6_30 : xFP RX6 30 6 5 (.array (.int)) true := ⟨RX6, TX6, 12, tyX6, rfl, by decide, lw_ok_in 195 (by decide +kernel) rfl, cwX6, tyX6_ok, nmX6, rfl, by decide +kernel, fun _ => rfl⟩
theorem fgX6_33 : xFG RX6 33 6 6 := ⟨RX6, TX6, 12, rfl, by decide, lw_ok_in 196 (by decide +kernel) rfl, cwX6⟩
theorem fpX6_33 : xFP RX6 33 6 6 (.array (.int)) true := ⟨RX6, TX6, 12, tyX6, rfl, by decide, lw_ok_in 196 (by decide +kernel) rfl, cwX6, tyX6_ok, nmX6, rfl, by decide +kernel, fun _ => rfl⟩
theorem fgX6_36 : xFG RX6 36 6 7 := ⟨RX6, TX6, 12, rfl, by decide, lw_ok_in 197 (by decide +kernel) rfl, cwX6⟩
theorem fpX6_36 : xFP RX6 36 6 7 (.array (.int)) true := ⟨RX6, TX6, 12, tyX6, rfl, by decide, lw_ok_in 197 (by decide +kernel) rfl, cwX6, tyX6_ok, nmX6, rfl, by decide +kernel, fun _ => rfl⟩
theorem fgX6_39 : xFG RX6 39 6 8 := ⟨RX6, TX6, 12, rfl, by decide, lw_ok_in 198 (by decide +kernel) rfl, cwX6⟩
theorem fpX6_39 : xFP RX6 39 6 8 (.array (.int)) true := ⟨RX6, TX6, 12, tyX6, rfl, by decide, lw_ok_in 198 (by decide +kernel) rfl, cwX6, tyX6_ok, nmX6, rfl, by decide +kernel, fun _ => rfl⟩
theorem fgX6_42 : xFG RX6 42 6 9 := ⟨RX6, TX6, 12, rfl, by decide, lw_ok_in 199 (by decide +kernel) rfl, cwX6⟩
theorem fpX6_42 : xFP RX6 42 6 9 (.array (.int)) true := ⟨RX6, TX6, 12, tyX6, rfl, by decide, lw_ok_in 199 (by decide +kernel) rfl, cwX6, tyX6_ok, nmX6, rfl, by decide +kernel, fun _ => rfl⟩
theorem fgX6_45 : xFG RX6 45 6 10 := ⟨RX6, TX6, 12, rfl, by decide, lw_ok_in 200 (by decide +kernel) rfl, cwX6⟩
theorem fpX6_45 : xFP RX6 45 6 10 (.array (.boolean)) true := ⟨RX6, TX6, 12, tyX6, rfl, by decide, lw_ok_in 200 (by decide +kernel) rfl, cwX6, tyX6_ok, nmX6, rfl, by decide +kernel, fun _ => rfl⟩
theorem fgX6_49 : xFG RX6 49 6 11 := ⟨RX6, TX6, 12, rfl, by decide, lw_ok_in 201 (by decide +kernel) rfl, cwX6⟩
theorem fpX6_49 : xFP RX6 49 6 11 (.array (.boolean)) true := ⟨RX6, TX6, 12, tyX6, rfl, by decide, lw_ok_in 201 (by decide +kernel) rfl, cwX6, tyX6_ok, nmX6, rfl, by decide +kernel, fun _ => rfl⟩
theorem fgX5_12 : xFG RX5 12 5 0 := ⟨RX5, TX5, 9, rfl, by decide, lw_ok_in 228 (by decide +kernel) rfl, cwX5⟩
theorem fpX5_12 : xFP RX5 12 5 0 (.object "TwoBooks$Seats") true := ⟨RX5, TX5, 9, tyX5, rfl, by decide, lw_ok_in 228 (by decide +kernel) rfl, cwX5, tyX5_ok, nmX5, rfl, by decide +kernel, fun _ => rfl⟩
theorem fgX9_153 : xFG RX9 153 5 0 := ⟨RX5, TX5, 9, rfl, by decide, lw_ok_in 229 (by decide +kernel) rfl, cwX5⟩
theorem fgX5_18 : xFG RX5 18 5 1 := ⟨RX5, TX5, 9, rfl, by decide, lw_ok_in 230 (by decide +kernel) rfl, cwX5⟩
theorem fpX5_18 : xFP RX5 18 5 1 (.array (.int)) true := ⟨RX5, TX5, 9, tyX5, rfl, by decide, lw_ok_in 230 (by decide +kernel) rfl, cwX5, tyX5_ok, nmX5, rfl, by decide +kernel, fun _ => rfl⟩
theorem fgX9_143 : xFG RX9 143 5 1 := ⟨RX5, TX5, 9, rfl, by decide, lw_ok_in 231 (by decide +kernel) rfl, cwX5⟩
theorem fgX5_22 : xFG RX5 22 5 2 := ⟨RX5, TX5, 9, rfl, by decide, lw_ok_in 232 (by decide +kernel) rfl, cwX5⟩
theorem fpX5_22 : xFP RX5 22 5 2 (.array (.int)) true := ⟨RX5, TX5, 9, tyX5, rfl, by decide, lw_ok_in 232 (by decide +kernel) rfl, cwX5, tyX5_ok, nmX5, rfl, by decide +kernel, fun _ => rfl⟩
theorem fgX9_150 : xFG RX9 150 5 2 := ⟨RX5, TX5, 9, rfl, by decide, lw_ok_in 233 (by decide +kernel) rfl, cwX5⟩
theorem fgX5_25 : xFG RX5 25 5 3 := ⟨RX5, TX5, 9, rfl, by decide, lw_ok_in 234 (by decide +kernel) rfl, cwX5⟩
theorem fpX5_25 : xFP RX5 25 5 3 (.array (.int)) true := ⟨RX5, TX5, 9, tyX5, rfl, by decide, lw_ok_in 234 (by decide +kernel) rfl, cwX5, tyX5_ok, nmX5, rfl, by decide +kernel, fun _ => rfl⟩
theorem fgX9_176 : xFG RX9 176 5 3 := ⟨RX5, TX5, 9, rfl, by decide, lw_ok_in 235 (by decide +kernel) rfl, cwX5⟩
theorem fgX5_28 : xFG RX5 28 5 4 := ⟨RX5, TX5, 9, rfl, by decide, lw_ok_in 236 (by decide +kernel) rfl, cwX5⟩
theorem fpX5_28 : xFP RX5 28 5 4 (.array (.int)) true := ⟨RX5, TX5, 9, tyX5, rfl, by decide, lw_ok_in 236 (by decide +kernel) rfl, cwX5, tyX5_ok, nmX5, rfl, by decide +kernel, fun _ => rfl⟩
theorem fgX9_179 : xFG RX9 179 5 4 := ⟨RX5, TX5, 9, rfl, by decide, lw_ok_in 237 (by decide +kernel) rfl, cwX5⟩
theorem fgX5_31 : xFG RX5 31 5 5 := ⟨RX5, TX5, 9, rfl, by decide, lw_ok_in 238 (by decide +kernel) rfl, cwX5⟩
theorem fpX5_31 : xFP RX5 31 5 5 (.int) false := ⟨RX5, TX5, 9, tyX5, rfl, by decide, lw_ok_in 238 (by decide +kernel) rfl, cwX5, tyX5_ok, nmX5, rfl, by decide +kernel, fun h => by cases h⟩
theorem fgX9_140 : xFG RX9 140 5 5 := ⟨RX5, TX5, 9, rfl, by decide, lw_ok_in 239 (by decide +kernel) rfl, cwX5⟩
theorem fgX5_35 : xFG RX5 35 5 6 := ⟨RX5, TX5, 9, rfl, by decide, lw_ok_in 240 (by decide +kernel) rfl, cwX5⟩
theorem fpX5_35 : xFP RX5 35 5 6 (.int) false := ⟨RX5, TX5, 9, tyX5, rfl, by decide, lw_ok_in 240 (by decide +kernel) rfl, cwX5, tyX5_ok, nmX5, rfl, by decide +kernel, fun h => by cases h⟩
theorem fgX9_147 : xFG RX9 147 5 6 := ⟨RX5, TX5, 9, rfl, by decide, lw_ok_in 241 (by decide +kernel) rfl, cwX5⟩
theorem fgX5_38 : xFG RX5 38 5 7 := ⟨RX5, TX5, 9, rfl, by decide, lw_ok_in 242 (by decide +kernel) rfl, cwX5⟩
theorem fpX5_38 : xFP RX5 38 5 7 (.int) false := ⟨RX5, TX5, 9, tyX5, rfl, by decide, lw_ok_in 242 (by decide +kernel) rfl, cwX5, tyX5_ok, nmX5, rfl, by decide +kernel, fun h => by cases h⟩
theorem fgX9_169 : xFG RX9 169 5 7 := ⟨RX5, TX5, 9, rfl, by decide, lw_ok_in 243 (by decide +kernel) rfl, cwX5⟩
theorem fgX5_41 : xFG RX5 41 5 8 := ⟨RX5, TX5, 9, rfl, by decide, lw_ok_in 244 (by decide +kernel) rfl, cwX5⟩
theorem fpX5_41 : xFP RX5 41 5 8 (.int) false := ⟨RX5, TX5, 9, tyX5, rfl, by decide, lw_ok_in 244 (by decide +kernel) rfl, cwX5, tyX5_ok, nmX5, rfl, by decide +kernel, fun h => by cases h⟩
theorem fgX9_166 : xFG RX9 166 5 8 := ⟨RX5, TX5, 9, rfl, by decide, lw_ok_in 245 (by decide +kernel) rfl, cwX5⟩
theorem fpX9_166 : xFP RX9 166 5 8 (.int) false := ⟨RX5, TX5, 9, tyX5, rfl, by decide, lw_ok_in 245 (by decide +kernel) rfl, cwX5, tyX5_ok, nmX5, rfl, by decide +kernel, fun h => by cases h⟩
theorem fgX7_9 : xFG RX7 9 7 0 := ⟨RX7, TX7, 13, rfl, by decide, lw_ok_in 271 (by decide +kernel) rfl, cwX7⟩
theorem fpX7_9 : xFP RX7 9 7 0 (.array (.int)) true := ⟨RX7, TX7, 13, tyX7, rfl, by decide, lw_ok_in 271 (by decide +kernel) rfl, cwX7, tyX7_ok, nmX7, rfl, by decide +kernel, fun _ => rfl⟩
theorem fgX7_15 : xFG RX7 15 7 1 := ⟨RX7, TX7, 13, rfl, by decide, lw_ok_in 272 (by decide +kernel) rfl, cwX7⟩
theorem fpX7_15 : xFP RX7 15 7 1 (.array (.int)) true := ⟨RX7, TX7, 13, tyX7, rfl, by decide, lw_ok_in 272 (by decide +kernel) rfl, cwX7, tyX7_ok, nmX7, rfl, by decide +kernel, fun _ => rfl⟩
theorem fgX7_18 : xFG RX7 18 7 2 := ⟨RX7, TX7, 13, rfl, by decide, lw_ok_in 273 (by decide +kernel) rfl, cwX7⟩
theorem fpX7_18 : xFP RX7 18 7 2 (.array (.int)) true := ⟨RX7, TX7, 13, tyX7, rfl, by decide, lw_ok_in 273 (by decide +kernel) rfl, cwX7, tyX7_ok, nmX7, rfl, by decide +kernel, fun _ => rfl⟩
theorem fgX7_21 : xFG RX7 21 7 3 := ⟨RX7, TX7, 13, rfl, by decide, lw_ok_in 274 (by decide +kernel) rfl, cwX7⟩
theorem fpX7_21 : xFP RX7 21 7 3 (.array (.int)) true := ⟨RX7, TX7, 13, tyX7, rfl, by decide, lw_ok_in 274 (by decide +kernel) rfl, cwX7, tyX7_ok, nmX7, rfl, by decide +kernel, fun _ => rfl⟩
theorem fgX7_24 : xFG RX7 24 7 4 := ⟨RX7, TX7, 13, rfl, by decide, lw_ok_in 275 (by decide +kernel) rfl, cwX7⟩
theorem fpX7_24 : xFP RX7 24 7 4 (.array (.int)) true := ⟨RX7, TX7, 13, tyX7, rfl, by decide, lw_ok_in 275 (by decide +kernel) rfl, cwX7, tyX7_ok, nmX7, rfl, by decide +kernel, fun _ => rfl⟩
theorem fgX7_27 : xFG RX7 27 7 5 := ⟨RX7, TX7, 13, rfl, by decide, lw_ok_in 276 (by decide +kernel) rfl, cwX7⟩
theorem fpX7_27 : xFP RX7 27 7 5 (.int) false := ⟨RX7, TX7, 13, tyX7, rfl, by decide, lw_ok_in 276 (by decide +kernel) rfl, cwX7, tyX7_ok, nmX7, rfl, by decide +kernel, fun h => by cases h⟩
theorem fgX7_31 : xFG RX7 31 7 6 := ⟨RX7, TX7, 13, rfl, by decide, lw_ok_in 277 (by decide +kernel) rfl, cwX7⟩
theorem fpX7_31 : xFP RX7 31 7 6 (.int) false := ⟨RX7, TX7, 13, tyX7, rfl, by decide, lw_ok_in 277 (by decide +kernel) rfl, cwX7, tyX7_ok, nmX7, rfl, by decide +kernel, fun h => by cases h⟩
theorem fgX7_34 : xFG RX7 34 7 7 := ⟨RX7, TX7, 13, rfl, by decide, lw_ok_in 278 (by decide +kernel) rfl, cwX7⟩
theorem fpX7_34 : xFP RX7 34 7 7 (.int) false := ⟨RX7, TX7, 13, tyX7, rfl, by decide, lw_ok_in 278 (by decide +kernel) rfl, cwX7, tyX7_ok, nmX7, rfl, by decide +kernel, fun h => by cases h⟩
theorem fgX7_37 : xFG RX7 37 7 8 := ⟨RX7, TX7, 13, rfl, by decide, lw_ok_in 279 (by decide +kernel) rfl, cwX7⟩
theorem fpX7_37 : xFP RX7 37 7 8 (.int) false := ⟨RX7, TX7, 13, tyX7, rfl, by decide, lw_ok_in 279 (by decide +kernel) rfl, cwX7, tyX7_ok, nmX7, rfl, by decide +kernel, fun h => by cases h⟩
theorem fgX7_40 : xFG RX7 40 7 9 := ⟨RX7, TX7, 13, rfl, by decide, lw_ok_in 280 (by decide +kernel) rfl, cwX7⟩
theorem fpX7_40 : xFP RX7 40 7 9 (.int) false := ⟨RX7, TX7, 13, tyX7, rfl, by decide, lw_ok_in 280 (by decide +kernel) rfl, cwX7, tyX7_ok, nmX7, rfl, by decide +kernel, fun h => by cases h⟩
theorem fgX9_200 : xFG RX9 200 7 9 := ⟨RX7, TX7, 13, rfl, by decide, lw_ok_in 281 (by decide +kernel) rfl, cwX7⟩
theorem fgX7_43 : xFG RX7 43 7 10 := ⟨RX7, TX7, 13, rfl, by decide, lw_ok_in 282 (by decide +kernel) rfl, cwX7⟩
theorem fpX7_43 : xFP RX7 43 7 10 (.int) false := ⟨RX7, TX7, 13, tyX7, rfl, by decide, lw_ok_in 282 (by decide +kernel) rfl, cwX7, tyX7_ok, nmX7, rfl, by decide +kernel, fun h => by cases h⟩
theorem fgX9_212 : xFG RX9 212 7 10 := ⟨RX7, TX7, 13, rfl, by decide, lw_ok_in 283 (by decide +kernel) rfl, cwX7⟩
theorem fgX7_46 : xFG RX7 46 7 11 := ⟨RX7, TX7, 13, rfl, by decide, lw_ok_in 284 (by decide +kernel) rfl, cwX7⟩
theorem fpX7_46 : xFP RX7 46 7 11 (.int) false := ⟨RX7, TX7, 13, tyX7, rfl, by decide, lw_ok_in 284 (by decide +kernel) rfl, cwX7, tyX7_ok, nmX7, rfl, by decide +kernel, fun h => by cases h⟩
theorem fgX9_215 : xFG RX9 215 7 11 := ⟨RX7, TX7, 13, rfl, by decide, lw_ok_in 285 (by decide +kernel) rfl, cwX7⟩
theorem fgX7_49 : xFG RX7 49 7 12 := ⟨RX7, TX7, 13, rfl, by decide, lw_ok_in 286 (by decide +kernel) rfl, cwX7⟩
theorem fpX7_49 : xFP RX7 49 7 12 (.int) false := ⟨RX7, TX7, 13, tyX7, rfl, by decide, lw_ok_in 286 (by decide +kernel) rfl, cwX7, tyX7_ok, nmX7, rfl, by decide +kernel, fun h => by cases h⟩
theorem fgX9_199 : xFG RX9 199 7 12 := ⟨RX7, TX7, 13, rfl, by decide, lw_ok_in 287 (by decide +kernel) rfl, cwX7⟩
theorem fpX9_199 : xFP RX9 199 7 12 (.int) false := ⟨RX7, TX7, 13, tyX7, rfl, by decide, lw_ok_in 287 (by decide +kernel) rfl, cwX7, tyX7_ok, nmX7, rfl, by decide +kernel, fun h => by cases h⟩
theorem fgX8_11 : xFG RX8 11 8 0 := ⟨RX8, TX8, 3, rfl, by decide, lw_ok_in 327 (by decide +kernel) rfl, cwX8⟩
theorem fpX8_11 : xFP RX8 11 8 0 (.array (.int)) true := ⟨RX8, TX8, 3, tyX8, rfl, by decide, lw_ok_in 327 (by decide +kernel) rfl, cwX8, tyX8_ok, nmX8, rfl, by decide +kernel, fun _ => rfl⟩
theorem fgX8_15 : xFG RX8 15 8 1 := ⟨RX8, TX8, 3, rfl, by decide, lw_ok_in 328 (by decide +kernel) rfl, cwX8⟩
theorem fpX8_15 : xFP RX8 15 8 1 (.array (.int)) true := ⟨RX8, TX8, 3, tyX8, rfl, by decide, lw_ok_in 328 (by decide +kernel) rfl, cwX8, tyX8_ok, nmX8, rfl, by decide +kernel, fun _ => rfl⟩
theorem fgX8_18 : xFG RX8 18 8 2 := ⟨RX8, TX8, 3, rfl, by decide, lw_ok_in 329 (by decide +kernel) rfl, cwX8⟩
theorem fpX8_18 : xFP RX8 18 8 2 (.int) false := ⟨RX8, TX8, 3, tyX8, rfl, by decide, lw_ok_in 329 (by decide +kernel) rfl, cwX8, tyX8_ok, nmX8, rfl, by decide +kernel, fun h => by cases h⟩
theorem fgX2_9 : xFG RX2 9 2 0 := ⟨RX2, TX2, 10, rfl, by decide, lw_ok_in 337 (by decide +kernel) rfl, cwX2⟩
theorem fpX2_9 : xFP RX2 9 2 0 (.array (.int)) true := ⟨RX2, TX2, 10, tyX2, rfl, by decide, lw_ok_in 337 (by decide +kernel) rfl, cwX2, tyX2_ok, nmX2, rfl, by decide +kernel, fun _ => rfl⟩
theorem fgX2_15 : xFG RX2 15 2 1 := ⟨RX2, TX2, 10, rfl, by decide, lw_ok_in 338 (by decide +kernel) rfl, cwX2⟩
theorem fpX2_15 : xFP RX2 15 2 1 (.array (.int)) true := ⟨RX2, TX2, 10, tyX2, rfl, by decide, lw_ok_in 338 (by decide +kernel) rfl, cwX2, tyX2_ok, nmX2, rfl, by decide +kernel, fun _ => rfl⟩
theorem fgX2_18 : xFG RX2 18 2 2 := ⟨RX2, TX2, 10, rfl, by decide, lw_ok_in 339 (by decide +kernel) rfl, cwX2⟩
theorem fpX2_18 : xFP RX2 18 2 2 (.array (.int)) true := ⟨RX2, TX2, 10, tyX2, rfl, by decide, lw_ok_in 339 (by decide +kernel) rfl, cwX2, tyX2_ok, nmX2, rfl, by decide +kernel, fun _ => rfl⟩
theorem fgX2_24 : xFG RX2 24 2 3 := ⟨RX2, TX2, 10, rfl, by decide, lw_ok_in 340 (by decide +kernel) rfl, cwX2⟩
theorem fpX2_24 : xFP RX2 24 2 3 (.object "TwoBooks$Sums") true := ⟨RX2, TX2, 10, tyX2, rfl, by decide, lw_ok_in 340 (by decide +kernel) rfl, cwX2, tyX2_ok, nmX2, rfl, by decide +kernel, fun _ => rfl⟩
theorem fgX2_28 : xFG RX2 28 2 4 := ⟨RX2, TX2, 10, rfl, by decide, lw_ok_in 341 (by decide +kernel) rfl, cwX2⟩
theorem fpX2_28 : xFP RX2 28 2 4 (.object "TwoBooks$Sums") true := ⟨RX2, TX2, 10, tyX2, rfl, by decide, lw_ok_in 341 (by decide +kernel) rfl, cwX2, tyX2_ok, nmX2, rfl, by decide +kernel, fun _ => rfl⟩
theorem fgX2_31 : xFG RX2 31 2 5 := ⟨RX2, TX2, 10, rfl, by decide, lw_ok_in 342 (by decide +kernel) rfl, cwX2⟩
theorem fpX2_31 : xFP RX2 31 2 5 (.object "TwoBooks$Sums") true := ⟨RX2, TX2, 10, tyX2, rfl, by decide, lw_ok_in 342 (by decide +kernel) rfl, cwX2, tyX2_ok, nmX2, rfl, by decide +kernel, fun _ => rfl⟩
theorem fgX2_34 : xFG RX2 34 2 6 := ⟨RX2, TX2, 10, rfl, by decide, lw_ok_in 343 (by decide +kernel) rfl, cwX2⟩
theorem fpX2_34 : xFP RX2 34 2 6 (.int) false := ⟨RX2, TX2, 10, tyX2, rfl, by decide, lw_ok_in 343 (by decide +kernel) rfl, cwX2, tyX2_ok, nmX2, rfl, by decide +kernel, fun h => by cases h⟩
theorem fgX2_38 : xFG RX2 38 2 7 := ⟨RX2, TX2, 10, rfl, by decide, lw_ok_in 344 (by decide +kernel) rfl, cwX2⟩
theorem fpX2_38 : xFP RX2 38 2 7 (.array (.int)) true := ⟨RX2, TX2, 10, tyX2, rfl, by decide, lw_ok_in 344 (by decide +kernel) rfl, cwX2, tyX2_ok, nmX2, rfl, by decide +kernel, fun _ => rfl⟩
theorem fgX9_288 : xFG RX9 288 2 7 := ⟨RX2, TX2, 10, rfl, by decide, lw_ok_in 345 (by decide +kernel) rfl, cwX2⟩
theorem fgX2_41 : xFG RX2 41 2 8 := ⟨RX2, TX2, 10, rfl, by decide, lw_ok_in 346 (by decide +kernel) rfl, cwX2⟩
theorem fpX2_41 : xFP RX2 41 2 8 (.array (.int)) true := ⟨RX2, TX2, 10, tyX2, rfl, by decide, lw_ok_in 346 (by decide +kernel) rfl, cwX2, tyX2_ok, nmX2, rfl, by decide +kernel, fun _ => rfl⟩
theorem fgX9_291 : xFG RX9 291 2 8 := ⟨RX2, TX2, 10, rfl, by decide, lw_ok_in 347 (by decide +kernel) rfl, cwX2⟩
theorem fgX2_44 : xFG RX2 44 2 9 := ⟨RX2, TX2, 10, rfl, by decide, lw_ok_in 348 (by decide +kernel) rfl, cwX2⟩
theorem fpX2_44 : xFP RX2 44 2 9 (.int) false := ⟨RX2, TX2, 10, tyX2, rfl, by decide, lw_ok_in 348 (by decide +kernel) rfl, cwX2, tyX2_ok, nmX2, rfl, by decide +kernel, fun h => by cases h⟩
theorem fgX9_287 : xFG RX9 287 2 9 := ⟨RX2, TX2, 10, rfl, by decide, lw_ok_in 349 (by decide +kernel) rfl, cwX2⟩
theorem fgX3_11 : xFG RX3 11 3 0 := ⟨RX3, TX3, 6, rfl, by decide, lw_ok_in 377 (by decide +kernel) rfl, cwX3⟩
theorem fpX3_11 : xFP RX3 11 3 0 (.array (.object "TwoBooks$Line")) true := ⟨RX3, TX3, 6, tyX3, rfl, by decide, lw_ok_in 377 (by decide +kernel) rfl, cwX3, tyX3_ok, nmX3, rfl, by decide +kernel, fun _ => rfl⟩
theorem fgX3_17 : xFG RX3 17 3 1 := ⟨RX3, TX3, 6, rfl, by decide, lw_ok_in 378 (by decide +kernel) rfl, cwX3⟩
theorem fpX3_17 : xFP RX3 17 3 1 (.int) false := ⟨RX3, TX3, 6, tyX3, rfl, by decide, lw_ok_in 378 (by decide +kernel) rfl, cwX3, tyX3_ok, nmX3, rfl, by decide +kernel, fun h => by cases h⟩
theorem fgX9_228 : xFG RX9 228 3 1 := ⟨RX3, TX3, 6, rfl, by decide, lw_ok_in 379 (by decide +kernel) rfl, cwX3⟩
theorem fgX3_21 : xFG RX3 21 3 2 := ⟨RX3, TX3, 6, rfl, by decide, lw_ok_in 380 (by decide +kernel) rfl, cwX3⟩
theorem fpX3_21 : xFP RX3 21 3 2 (.int) false := ⟨RX3, TX3, 6, tyX3, rfl, by decide, lw_ok_in 380 (by decide +kernel) rfl, cwX3, tyX3_ok, nmX3, rfl, by decide +kernel, fun h => by cases h⟩
theorem fgX9_229 : xFG RX9 229 3 2 := ⟨RX3, TX3, 6, rfl, by decide, lw_ok_in 381 (by decide +kernel) rfl, cwX3⟩
theorem fpX9_229 : xFP RX9 229 3 2 (.int) false := ⟨RX3, TX3, 6, tyX3, rfl, by decide, lw_ok_in 381 (by decide +kernel) rfl, cwX3, tyX3_ok, nmX3, rfl, by decide +kernel, fun h => by cases h⟩
theorem fgX3_24 : xFG RX3 24 3 3 := ⟨RX3, TX3, 6, rfl, by decide, lw_ok_in 382 (by decide +kernel) rfl, cwX3⟩
theorem fpX3_24 : xFP RX3 24 3 3 (.int) false := ⟨RX3, TX3, 6, tyX3, rfl, by decide, lw_ok_in 382 (by decide +kernel) rfl, cwX3, tyX3_ok, nmX3, rfl, by decide +kernel, fun h => by cases h⟩
theorem fgX9_243 : xFG RX9 243 3 3 := ⟨RX3, TX3, 6, rfl, by decide, lw_ok_in 383 (by decide +kernel) rfl, cwX3⟩
theorem fgX3_27 : xFG RX3 27 3 4 := ⟨RX3, TX3, 6, rfl, by decide, lw_ok_in 384 (by decide +kernel) rfl, cwX3⟩
theorem fpX3_27 : xFP RX3 27 3 4 (.int) false := ⟨RX3, TX3, 6, tyX3, rfl, by decide, lw_ok_in 384 (by decide +kernel) rfl, cwX3, tyX3_ok, nmX3, rfl, by decide +kernel, fun h => by cases h⟩
theorem fgX9_232 : xFG RX9 232 3 4 := ⟨RX3, TX3, 6, rfl, by decide, lw_ok_in 385 (by decide +kernel) rfl, cwX3⟩
theorem fpX9_232 : xFP RX9 232 3 4 (.int) false := ⟨RX3, TX3, 6, tyX3, rfl, by decide, lw_ok_in 385 (by decide +kernel) rfl, cwX3, tyX3_ok, nmX3, rfl, by decide +kernel, fun h => by cases h⟩
theorem fgX3_30 : xFG RX3 30 3 5 := ⟨RX3, TX3, 6, rfl, by decide, lw_ok_in 386 (by decide +kernel) rfl, cwX3⟩
theorem fpX3_30 : xFP RX3 30 3 5 (.int) false := ⟨RX3, TX3, 6, tyX3, rfl, by decide, lw_ok_in 386 (by decide +kernel) rfl, cwX3, tyX3_ok, nmX3, rfl, by decide +kernel, fun h => by cases h⟩
theorem fgX9_225 : xFG RX9 225 3 5 := ⟨RX3, TX3, 6, rfl, by decide, lw_ok_in 387 (by decide +kernel) rfl, cwX3⟩
theorem fpX9_225 : xFP RX9 225 3 5 (.int) false := ⟨RX3, TX3, 6, tyX3, rfl, by decide, lw_ok_in 387 (by decide +kernel) rfl, cwX3, tyX3_ok, nmX3, rfl, by decide +kernel, fun h => by cases h⟩
theorem fgX9_12 : xFG RX9 12 9 0 := ⟨RX9, TX9, 11, rfl, by decide, lw_ok_in 401 (by decide +kernel) rfl, cwX9⟩
theorem fpX9_12 : xFP RX9 12 9 0 (.array (.object "TwoBooks$Book")) true := ⟨RX9, TX9, 11, tyX9, rfl, by decide, lw_ok_in 401 (by decide +kernel) rfl, cwX9, tyX9_ok, nmX9, rfl, by decide +kernel, fun _ => rfl⟩
theorem fgX9_20 : xFG RX9 20 9 1 := ⟨RX9, TX9, 11, rfl, by decide, lw_ok_in 402 (by decide +kernel) rfl, cwX9⟩
theorem fpX9_20 : xFP RX9 20 9 1 (.array (.object "TwoBooks$Group")) true := ⟨RX9, TX9, 11, tyX9, rfl, by decide, lw_ok_in 402 (by decide +kernel) rfl, cwX9, tyX9_ok, nmX9, rfl, by decide +kernel, fun _ => rfl⟩
theorem fgX9_27 : xFG RX9 27 9 2 := ⟨RX9, TX9, 11, rfl, by decide, lw_ok_in 403 (by decide +kernel) rfl, cwX9⟩
theorem fpX9_27 : xFP RX9 27 9 2 (.object "TwoBooks$Acts") true := ⟨RX9, TX9, 11, tyX9, rfl, by decide, lw_ok_in 403 (by decide +kernel) rfl, cwX9, tyX9_ok, nmX9, rfl, by decide +kernel, fun _ => rfl⟩
theorem fgX9_34 : xFG RX9 34 9 3 := ⟨RX9, TX9, 11, rfl, by decide, lw_ok_in 404 (by decide +kernel) rfl, cwX9⟩
theorem fpX9_34 : xFP RX9 34 9 3 (.object "TwoBooks$Pairing") true := ⟨RX9, TX9, 11, tyX9, rfl, by decide, lw_ok_in 404 (by decide +kernel) rfl, cwX9, tyX9_ok, nmX9, rfl, by decide +kernel, fun _ => rfl⟩
theorem fgX9_41 : xFG RX9 41 9 4 := ⟨RX9, TX9, 11, rfl, by decide, lw_ok_in 405 (by decide +kernel) rfl, cwX9⟩
theorem fpX9_41 : xFP RX9 41 9 4 (.object "TwoBooks$Sets") true := ⟨RX9, TX9, 11, tyX9, rfl, by decide, lw_ok_in 405 (by decide +kernel) rfl, cwX9, tyX9_ok, nmX9, rfl, by decide +kernel, fun _ => rfl⟩
theorem fgX9_48 : xFG RX9 48 9 5 := ⟨RX9, TX9, 11, rfl, by decide, lw_ok_in 406 (by decide +kernel) rfl, cwX9⟩
theorem fpX9_48 : xFP RX9 48 9 5 (.object "TwoBooks$Explanation") true := ⟨RX9, TX9, 11, tyX9, rfl, by decide, lw_ok_in 406 (by decide +kernel) rfl, cwX9, tyX9_ok, nmX9, rfl, by decide +kernel, fun _ => rfl⟩
theorem fgX9_52 : xFG RX9 52 9 6 := ⟨RX9, TX9, 11, rfl, by decide, lw_ok_in 407 (by decide +kernel) rfl, cwX9⟩
theorem fpX9_52 : xFP RX9 52 9 6 (.int) false := ⟨RX9, TX9, 11, tyX9, rfl, by decide, lw_ok_in 407 (by decide +kernel) rfl, cwX9, tyX9_ok, nmX9, rfl, by decide +kernel, fun h => by cases h⟩
theorem fgX9_56 : xFG RX9 56 9 7 := ⟨RX9, TX9, 11, rfl, by decide, lw_ok_in 408 (by decide +kernel) rfl, cwX9⟩
theorem fpX9_56 : xFP RX9 56 9 7 (.int) false := ⟨RX9, TX9, 11, tyX9, rfl, by decide, lw_ok_in 408 (by decide +kernel) rfl, cwX9, tyX9_ok, nmX9, rfl, by decide +kernel, fun h => by cases h⟩
theorem fgX9_59 : xFG RX9 59 9 8 := ⟨RX9, TX9, 11, rfl, by decide, lw_ok_in 409 (by decide +kernel) rfl, cwX9⟩
theorem fpX9_59 : xFP RX9 59 9 8 (.int) false := ⟨RX9, TX9, 11, tyX9, rfl, by decide, lw_ok_in 409 (by decide +kernel) rfl, cwX9, tyX9_ok, nmX9, rfl, by decide +kernel, fun h => by cases h⟩
theorem fgX9_62 : xFG RX9 62 9 9 := ⟨RX9, TX9, 11, rfl, by decide, lw_ok_in 410 (by decide +kernel) rfl, cwX9⟩
theorem fpX9_62 : xFP RX9 62 9 9 (.int) false := ⟨RX9, TX9, 11, tyX9, rfl, by decide, lw_ok_in 410 (by decide +kernel) rfl, cwX9, tyX9_ok, nmX9, rfl, by decide +kernel, fun h => by cases h⟩
theorem fgX9_65 : xFG RX9 65 9 10 := ⟨RX9, TX9, 11, rfl, by decide, lw_ok_in 411 (by decide +kernel) rfl, cwX9⟩
theorem fpX9_65 : xFP RX9 65 9 10 (.int) false := ⟨RX9, TX9, 11, tyX9, rfl, by decide, lw_ok_in 411 (by decide +kernel) rfl, cwX9, tyX9_ok, nmX9, rfl, by decide +kernel, fun h => by cases h⟩
theorem fgX10_9 : xFG RX10 9 10 0 := ⟨RX10, TX10, 47, rfl, by decide, lw_ok_in 917 (by decide +kernel) rfl, cwX10⟩
theorem fpX10_9 : xFP RX10 9 10 0 (.array (.int)) true := ⟨RX10, TX10, 47, tyX10, rfl, by decide, lw_ok_in 917 (by decide +kernel) rfl, cwX10, tyX10_ok, nmX10, rfl, by decide +kernel, fun _ => rfl⟩
theorem fgX10_13 : xFG RX10 13 10 1 := ⟨RX10, TX10, 47, rfl, by decide, lw_ok_in 918 (by decide +kernel) rfl, cwX10⟩
theorem fpX10_13 : xFP RX10 13 10 1 (.array (.int)) true := ⟨RX10, TX10, 47, tyX10, rfl, by decide, lw_ok_in 918 (by decide +kernel) rfl, cwX10, tyX10_ok, nmX10, rfl, by decide +kernel, fun _ => rfl⟩
theorem fgX10_16 : xFG RX10 16 10 2 := ⟨RX10, TX10, 47, rfl, by decide, lw_ok_in 919 (by decide +kernel) rfl, cwX10⟩
theorem fpX10_16 : xFP RX10 16 10 2 (.array (.int)) true := ⟨RX10, TX10, 47, tyX10, rfl, by decide, lw_ok_in 919 (by decide +kernel) rfl, cwX10, tyX10_ok, nmX10, rfl, by decide +kernel, fun _ => rfl⟩
theorem fgX10_19 : xFG RX10 19 10 3 := ⟨RX10, TX10, 47, rfl, by decide, lw_ok_in 920 (by decide +kernel) rfl, cwX10⟩
theorem fpX10_19 : xFP RX10 19 10 3 (.array (.int)) true := ⟨RX10, TX10, 47, tyX10, rfl, by decide, lw_ok_in 920 (by decide +kernel) rfl, cwX10, tyX10_ok, nmX10, rfl, by decide +kernel, fun _ => rfl⟩
theorem fgX10_22 : xFG RX10 22 10 4 := ⟨RX10, TX10, 47, rfl, by decide, lw_ok_in 921 (by decide +kernel) rfl, cwX10⟩
theorem fpX10_22 : xFP RX10 22 10 4 (.array (.int)) true := ⟨RX10, TX10, 47, tyX10, rfl, by decide, lw_ok_in 921 (by decide +kernel) rfl, cwX10, tyX10_ok, nmX10, rfl, by decide +kernel, fun _ => rfl⟩
theorem fgX10_25 : xFG RX10 25 10 5 := ⟨RX10, TX10, 47, rfl, by decide, lw_ok_in 922 (by decide +kernel) rfl, cwX10⟩
theorem fpX10_25 : xFP RX10 25 10 5 (.array (.int)) true := ⟨RX10, TX10, 47, tyX10, rfl, by decide, lw_ok_in 922 (by decide +kernel) rfl, cwX10, tyX10_ok, nmX10, rfl, by decide +kernel, fun _ => rfl⟩
theorem fgX10_28 : xFG RX10 28 10 6 := ⟨RX10, TX10, 47, rfl, by decide, lw_ok_in 923 (by decide +kernel) rfl, cwX10⟩
theorem fpX10_28 : xFP RX10 28 10 6 (.array (.int)) true := ⟨RX10, TX10, 47, tyX10, rfl, by decide, lw_ok_in 923 (by decide +kernel) rfl, cwX10, tyX10_ok, nmX10, rfl, by decide +kernel, fun _ => rfl⟩
theorem fgX10_136 : xFG RX10 136 10 7 := ⟨RX10, TX10, 47, rfl, by decide, lw_ok_in 924 (by decide +kernel) rfl, cwX10⟩
theorem fpX10_136 : xFP RX10 136 10 7 (.int) false := ⟨RX10, TX10, 47, tyX10, rfl, by decide, lw_ok_in 924 (by decide +kernel) rfl, cwX10, tyX10_ok, nmX10, rfl, by decide +kernel, fun h => by cases h⟩
theorem fgX10_31 : xFG RX10 31 10 8 := ⟨RX10, TX10, 47, rfl, by decide, lw_ok_in 925 (by decide +kernel) rfl, cwX10⟩
theorem fpX10_31 : xFP RX10 31 10 8 (.int) false := ⟨RX10, TX10, 47, tyX10, rfl, by decide, lw_ok_in 925 (by decide +kernel) rfl, cwX10, tyX10_ok, nmX10, rfl, by decide +kernel, fun h => by cases h⟩
theorem fgX10_147 : xFG RX10 147 10 9 := ⟨RX10, TX10, 47, rfl, by decide, lw_ok_in 926 (by decide +kernel) rfl, cwX10⟩
theorem fpX10_147 : xFP RX10 147 10 9 (.int) false := ⟨RX10, TX10, 47, tyX10, rfl, by decide, lw_ok_in 926 (by decide +kernel) rfl, cwX10, tyX10_ok, nmX10, rfl, by decide +kernel, fun h => by cases h⟩
theorem fgX10_35 : xFG RX10 35 10 10 := ⟨RX10, TX10, 47, rfl, by decide, lw_ok_in 927 (by decide +kernel) rfl, cwX10⟩
theorem fpX10_35 : xFP RX10 35 10 10 (.array (.int)) true := ⟨RX10, TX10, 47, tyX10, rfl, by decide, lw_ok_in 927 (by decide +kernel) rfl, cwX10, tyX10_ok, nmX10, rfl, by decide +kernel, fun _ => rfl⟩
theorem fgX10_38 : xFG RX10 38 10 11 := ⟨RX10, TX10, 47, rfl, by decide, lw_ok_in 928 (by decide +kernel) rfl, cwX10⟩
theorem fpX10_38 : xFP RX10 38 10 11 (.array (.int)) true := ⟨RX10, TX10, 47, tyX10, rfl, by decide, lw_ok_in 928 (by decide +kernel) rfl, cwX10, tyX10_ok, nmX10, rfl, by decide +kernel, fun _ => rfl⟩
theorem fgX10_41 : xFG RX10 41 10 12 := ⟨RX10, TX10, 47, rfl, by decide, lw_ok_in 929 (by decide +kernel) rfl, cwX10⟩
theorem fpX10_41 : xFP RX10 41 10 12 (.array (.int)) true := ⟨RX10, TX10, 47, tyX10, rfl, by decide, lw_ok_in 929 (by decide +kernel) rfl, cwX10, tyX10_ok, nmX10, rfl, by decide +kernel, fun _ => rfl⟩
theorem fgX10_44 : xFG RX10 44 10 13 := ⟨RX10, TX10, 47, rfl, by decide, lw_ok_in 930 (by decide +kernel) rfl, cwX10⟩
theorem fpX10_44 : xFP RX10 44 10 13 (.array (.int)) true := ⟨RX10, TX10, 47, tyX10, rfl, by decide, lw_ok_in 930 (by decide +kernel) rfl, cwX10, tyX10_ok, nmX10, rfl, by decide +kernel, fun _ => rfl⟩
theorem fgX10_47 : xFG RX10 47 10 14 := ⟨RX10, TX10, 47, rfl, by decide, lw_ok_in 931 (by decide +kernel) rfl, cwX10⟩
theorem fpX10_47 : xFP RX10 47 10 14 (.array (.int)) true := ⟨RX10, TX10, 47, tyX10, rfl, by decide, lw_ok_in 931 (by decide +kernel) rfl, cwX10, tyX10_ok, nmX10, rfl, by decide +kernel, fun _ => rfl⟩
theorem fgX10_50 : xFG RX10 50 10 15 := ⟨RX10, TX10, 47, rfl, by decide, lw_ok_in 932 (by decide +kernel) rfl, cwX10⟩
theorem fpX10_50 : xFP RX10 50 10 15 (.array (.boolean)) true := ⟨RX10, TX10, 47, tyX10, rfl, by decide, lw_ok_in 932 (by decide +kernel) rfl, cwX10, tyX10_ok, nmX10, rfl, by decide +kernel, fun _ => rfl⟩
theorem fgX10_120 : xFG RX10 120 10 16 := ⟨RX10, TX10, 47, rfl, by decide, lw_ok_in 933 (by decide +kernel) rfl, cwX10⟩
theorem fpX10_120 : xFP RX10 120 10 16 (.int) false := ⟨RX10, TX10, 47, tyX10, rfl, by decide, lw_ok_in 933 (by decide +kernel) rfl, cwX10, tyX10_ok, nmX10, rfl, by decide +kernel, fun h => by cases h⟩
theorem fgX10_123 : xFG RX10 123 10 17 := ⟨RX10, TX10, 47, rfl, by decide, lw_ok_in 934 (by decide +kernel) rfl, cwX10⟩
theorem fpX10_123 : xFP RX10 123 10 17 (.boolean) false := ⟨RX10, TX10, 47, tyX10, rfl, by decide, lw_ok_in 934 (by decide +kernel) rfl, cwX10, tyX10_ok, nmX10, rfl, by decide +kernel, fun h => by cases h⟩
theorem fgX10_54 : xFG RX10 54 10 18 := ⟨RX10, TX10, 47, rfl, by decide, lw_ok_in 935 (by decide +kernel) rfl, cwX10⟩
theorem fpX10_54 : xFP RX10 54 10 18 (.array (.int)) true := ⟨RX10, TX10, 47, tyX10, rfl, by decide, lw_ok_in 935 (by decide +kernel) rfl, cwX10, tyX10_ok, nmX10, rfl, by decide +kernel, fun _ => rfl⟩
theorem fgX10_57 : xFG RX10 57 10 19 := ⟨RX10, TX10, 47, rfl, by decide, lw_ok_in 936 (by decide +kernel) rfl, cwX10⟩
theorem fpX10_57 : xFP RX10 57 10 19 (.array (.int)) true := ⟨RX10, TX10, 47, tyX10, rfl, by decide, lw_ok_in 936 (by decide +kernel) rfl, cwX10, tyX10_ok, nmX10, rfl, by decide +kernel, fun _ => rfl⟩
theorem fgX10_168 : xFG RX10 168 10 20 := ⟨RX10, TX10, 47, rfl, by decide, lw_ok_in 937 (by decide +kernel) rfl, cwX10⟩
theorem fpX10_168 : xFP RX10 168 10 20 (.int) false := ⟨RX10, TX10, 47, tyX10, rfl, by decide, lw_ok_in 937 (by decide +kernel) rfl, cwX10, tyX10_ok, nmX10, rfl, by decide +kernel, fun h => by cases h⟩
theorem fgX10_165 : xFG RX10 165 10 21 := ⟨RX10, TX10, 47, rfl, by decide, lw_ok_in 938 (by decide +kernel) rfl, cwX10⟩
theorem fpX10_165 : xFP RX10 165 10 21 (.int) false := ⟨RX10, TX10, 47, tyX10, rfl, by decide, lw_ok_in 938 (by decide +kernel) rfl, cwX10, tyX10_ok, nmX10, rfl, by decide +kernel, fun h => by cases h⟩
theorem fgX10_60 : xFG RX10 60 10 22 := ⟨RX10, TX10, 47, rfl, by decide, lw_ok_in 939 (by decide +kernel) rfl, cwX10⟩
theorem fpX10_60 : xFP RX10 60 10 22 (.array (.int)) true := ⟨RX10, TX10, 47, tyX10, rfl, by decide, lw_ok_in 939 (by decide +kernel) rfl, cwX10, tyX10_ok, nmX10, rfl, by decide +kernel, fun _ => rfl⟩
theorem fgX10_64 : xFG RX10 64 10 23 := ⟨RX10, TX10, 47, rfl, by decide, lw_ok_in 940 (by decide +kernel) rfl, cwX10⟩
theorem fpX10_64 : xFP RX10 64 10 23 (.array (.int)) true := ⟨RX10, TX10, 47, tyX10, rfl, by decide, lw_ok_in 940 (by decide +kernel) rfl, cwX10, tyX10_ok, nmX10, rfl, by decide +kernel, fun _ => rfl⟩
theorem fgX10_67 : xFG RX10 67 10 24 := ⟨RX10, TX10, 47, rfl, by decide, lw_ok_in 941 (by decide +kernel) rfl, cwX10⟩
theorem fpX10_67 : xFP RX10 67 10 24 (.array (.int)) true := ⟨RX10, TX10, 47, tyX10, rfl, by decide, lw_ok_in 941 (by decide +kernel) rfl, cwX10, tyX10_ok, nmX10, rfl, by decide +kernel, fun _ => rfl⟩
theorem fgX10_178 : xFG RX10 178 10 25 := ⟨RX10, TX10, 47, rfl, by decide, lw_ok_in 942 (by decide +kernel) rfl, cwX10⟩
theorem fpX10_178 : xFP RX10 178 10 25 (.int) false := ⟨RX10, TX10, 47, tyX10, rfl, by decide, lw_ok_in 942 (by decide +kernel) rfl, cwX10, tyX10_ok, nmX10, rfl, by decide +kernel, fun h => by cases h⟩
theorem fgX10_70 : xFG RX10 70 10 26 := ⟨RX10, TX10, 47, rfl, by decide, lw_ok_in 943 (by decide +kernel) rfl, cwX10⟩
theorem fpX10_70 : xFP RX10 70 10 26 (.array (.boolean)) true := ⟨RX10, TX10, 47, tyX10, rfl, by decide, lw_ok_in 943 (by decide +kernel) rfl, cwX10, tyX10_ok, nmX10, rfl, by decide +kernel, fun _ => rfl⟩
theorem fgX10_73 : xFG RX10 73 10 27 := ⟨RX10, TX10, 47, rfl, by decide, lw_ok_in 944 (by decide +kernel) rfl, cwX10⟩
theorem fpX10_73 : xFP RX10 73 10 27 (.int) false := ⟨RX10, TX10, 47, tyX10, rfl, by decide, lw_ok_in 944 (by decide +kernel) rfl, cwX10, tyX10_ok, nmX10, rfl, by decide +kernel, fun h => by cases h⟩
theorem fgX10_76 : xFG RX10 76 10 28 := ⟨RX10, TX10, 47, rfl, by decide, lw_ok_in 945 (by decide +kernel) rfl, cwX10⟩
theorem fpX10_76 : xFP RX10 76 10 28 (.int) false := ⟨RX10, TX10, 47, tyX10, rfl, by decide, lw_ok_in 945 (by decide +kernel) rfl, cwX10, tyX10_ok, nmX10, rfl, by decide +kernel, fun h => by cases h⟩
theorem fgX10_79 : xFG RX10 79 10 29 := ⟨RX10, TX10, 47, rfl, by decide, lw_ok_in 946 (by decide +kernel) rfl, cwX10⟩
theorem fpX10_79 : xFP RX10 79 10 29 (.array (.int)) true := ⟨RX10, TX10, 47, tyX10, rfl, by decide, lw_ok_in 946 (by decide +kernel) rfl, cwX10, tyX10_ok, nmX10, rfl, by decide +kernel, fun _ => rfl⟩
theorem fgX10_127 : xFG RX10 127 10 30 := ⟨RX10, TX10, 47, rfl, by decide, lw_ok_in 947 (by decide +kernel) rfl, cwX10⟩
theorem fpX10_127 : xFP RX10 127 10 30 (.boolean) false := ⟨RX10, TX10, 47, tyX10, rfl, by decide, lw_ok_in 947 (by decide +kernel) rfl, cwX10, tyX10_ok, nmX10, rfl, by decide +kernel, fun h => by cases h⟩
theorem fgX10_198 : xFG RX10 198 10 31 := ⟨RX10, TX10, 47, rfl, by decide, lw_ok_in 948 (by decide +kernel) rfl, cwX10⟩
theorem fpX10_198 : xFP RX10 198 10 31 (.int) false := ⟨RX10, TX10, 47, tyX10, rfl, by decide, lw_ok_in 948 (by decide +kernel) rfl, cwX10, tyX10_ok, nmX10, rfl, by decide +kernel, fun h => by cases h⟩
theorem fgX10_201 : xFG RX10 201 10 32 := ⟨RX10, TX10, 47, rfl, by decide, lw_ok_in 949 (by decide +kernel) rfl, cwX10⟩
theorem fpX10_201 : xFP RX10 201 10 32 (.int) false := ⟨RX10, TX10, 47, tyX10, rfl, by decide, lw_ok_in 949 (by decide +kernel) rfl, cwX10, tyX10_ok, nmX10, rfl, by decide +kernel, fun h => by cases h⟩
theorem fgX10_82 : xFG RX10 82 10 33 := ⟨RX10, TX10, 47, rfl, by decide, lw_ok_in 950 (by decide +kernel) rfl, cwX10⟩
theorem fpX10_82 : xFP RX10 82 10 33 (.array (.int)) true := ⟨RX10, TX10, 47, tyX10, rfl, by decide, lw_ok_in 950 (by decide +kernel) rfl, cwX10, tyX10_ok, nmX10, rfl, by decide +kernel, fun _ => rfl⟩
theorem fgX10_85 : xFG RX10 85 10 34 := ⟨RX10, TX10, 47, rfl, by decide, lw_ok_in 951 (by decide +kernel) rfl, cwX10⟩
theorem fpX10_85 : xFP RX10 85 10 34 (.array (.int)) true := ⟨RX10, TX10, 47, tyX10, rfl, by decide, lw_ok_in 951 (by decide +kernel) rfl, cwX10, tyX10_ok, nmX10, rfl, by decide +kernel, fun _ => rfl⟩
theorem fgX10_195 : xFG RX10 195 10 35 := ⟨RX10, TX10, 47, rfl, by decide, lw_ok_in 952 (by decide +kernel) rfl, cwX10⟩
theorem fpX10_195 : xFP RX10 195 10 35 (.int) false := ⟨RX10, TX10, 47, tyX10, rfl, by decide, lw_ok_in 952 (by decide +kernel) rfl, cwX10, tyX10_ok, nmX10, rfl, by decide +kernel, fun h => by cases h⟩
theorem fgX10_88 : xFG RX10 88 10 36 := ⟨RX10, TX10, 47, rfl, by decide, lw_ok_in 953 (by decide +kernel) rfl, cwX10⟩
theorem fpX10_88 : xFP RX10 88 10 36 (.array (.int)) true := ⟨RX10, TX10, 47, tyX10, rfl, by decide, lw_ok_in 953 (by decide +kernel) rfl, cwX10, tyX10_ok, nmX10, rfl, by decide +kernel, fun _ => rfl⟩
theorem fgX10_91 : xFG RX10 91 10 37 := ⟨RX10, TX10, 47, rfl, by decide, lw_ok_in 954 (by decide +kernel) rfl, cwX10⟩
theorem fpX10_91 : xFP RX10 91 10 37 (.array (.int)) true := ⟨RX10, TX10, 47, tyX10, rfl, by decide, lw_ok_in 954 (by decide +kernel) rfl, cwX10, tyX10_ok, nmX10, rfl, by decide +kernel, fun _ => rfl⟩
theorem fgX10_94 : xFG RX10 94 10 38 := ⟨RX10, TX10, 47, rfl, by decide, lw_ok_in 955 (by decide +kernel) rfl, cwX10⟩
theorem fpX10_94 : xFP RX10 94 10 38 (.array (.int)) true := ⟨RX10, TX10, 47, tyX10, rfl, by decide, lw_ok_in 955 (by decide +kernel) rfl, cwX10, tyX10_ok, nmX10, rfl, by decide +kernel, fun _ => rfl⟩
theorem fgX10_97 : xFG RX10 97 10 39 := ⟨RX10, TX10, 47, rfl, by decide, lw_ok_in 956 (by decide +kernel) rfl, cwX10⟩
theorem fpX10_97 : xFP RX10 97 10 39 (.array (.long)) true := ⟨RX10, TX10, 47, tyX10, rfl, by decide, lw_ok_in 956 (by decide +kernel) rfl, cwX10, tyX10_ok, nmX10, rfl, by decide +kernel, fun _ => rfl⟩
theorem fgX10_101 : xFG RX10 101 10 40 := ⟨RX10, TX10, 47, rfl, by decide, lw_ok_in 957 (by decide +kernel) rfl, cwX10⟩
theorem fpX10_101 : xFP RX10 101 10 40 (.array (.int)) true := ⟨RX10, TX10, 47, tyX10, rfl, by decide, lw_ok_in 957 (by decide +kernel) rfl, cwX10, tyX10_ok, nmX10, rfl, by decide +kernel, fun _ => rfl⟩
theorem fgX10_104 : xFG RX10 104 10 41 := ⟨RX10, TX10, 47, rfl, by decide, lw_ok_in 958 (by decide +kernel) rfl, cwX10⟩
theorem fpX10_104 : xFP RX10 104 10 41 (.array (.int)) true := ⟨RX10, TX10, 47, tyX10, rfl, by decide, lw_ok_in 958 (by decide +kernel) rfl, cwX10, tyX10_ok, nmX10, rfl, by decide +kernel, fun _ => rfl⟩
theorem fgX10_232 : xFG RX10 232 10 42 := ⟨RX10, TX10, 47, rfl, by decide, lw_ok_in 959 (by decide +kernel) rfl, cwX10⟩
theorem fpX10_232 : xFP RX10 232 10 42 (.int) false := ⟨RX10, TX10, 47, tyX10, rfl, by decide, lw_ok_in 959 (by decide +kernel) rfl, cwX10, tyX10_ok, nmX10, rfl, by decide +kernel, fun h => by cases h⟩
theorem fgX10_107 : xFG RX10 107 10 43 := ⟨RX10, TX10, 47, rfl, by decide, lw_ok_in 960 (by decide +kernel) rfl, cwX10⟩
theorem fpX10_107 : xFP RX10 107 10 43 (.array (.int)) true := ⟨RX10, TX10, 47, tyX10, rfl, by decide, lw_ok_in 960 (by decide +kernel) rfl, cwX10, tyX10_ok, nmX10, rfl, by decide +kernel, fun _ => rfl⟩
theorem fgX10_110 : xFG RX10 110 10 44 := ⟨RX10, TX10, 47, rfl, by decide, lw_ok_in 961 (by decide +kernel) rfl, cwX10⟩
theorem fpX10_110 : xFP RX10 110 10 44 (.array (.int)) true := ⟨RX10, TX10, 47, tyX10, rfl, by decide, lw_ok_in 961 (by decide +kernel) rfl, cwX10, tyX10_ok, nmX10, rfl, by decide +kernel, fun _ => rfl⟩
theorem fgX10_113 : xFG RX10 113 10 45 := ⟨RX10, TX10, 47, rfl, by decide, lw_ok_in 962 (by decide +kernel) rfl, cwX10⟩
theorem fpX10_113 : xFP RX10 113 10 45 (.array (.int)) true := ⟨RX10, TX10, 47, tyX10, rfl, by decide, lw_ok_in 962 (by decide +kernel) rfl, cwX10, tyX10_ok, nmX10, rfl, by decide +kernel, fun _ => rfl⟩
theorem fgX10_130 : xFG RX10 130 10 46 := ⟨RX10, TX10, 47, rfl, by decide, lw_ok_in 963 (by decide +kernel) rfl, cwX10⟩
theorem fpX10_130 : xFP RX10 130 10 46 (.int) false := ⟨RX10, TX10, 47, tyX10, rfl, by decide, lw_ok_in 963 (by decide +kernel) rfl, cwX10, tyX10_ok, nmX10, rfl, by decide +kernel, fun h => by cases h⟩
theorem mb_X9_init : xMB M_X9_init 0 := ⟨lw_ok_in 64 (by decide +kernel) rfl, lw_ok_in 46 (by decide +kernel) rfl, by decide +kernel, by decide +kernel, by decide +kernel⟩
theorem miL_9 : xMI RL 9 M_X9_init 0 := ⟨mb_X9_init, lw_ok_in 62 (by decide +kernel) rfl, lw_ok_in 63 (by decide +kernel) rfl, rfl, rfl⟩
theorem moX9_1 : Cond.methodLink RX9 1 Lib.objectInit ∈ lw_ok := lw_ok_in 65 (by decide +kernel) rfl
theorem mb_X1_init : xMB M_X1_init 1 := ⟨lw_ok_in 73 (by decide +kernel) rfl, lw_ok_in 47 (by decide +kernel) rfl, by decide +kernel, by decide +kernel, by decide +kernel⟩
theorem miX9_9 : xMI RX9 9 M_X1_init 1 := ⟨mb_X1_init, lw_ok_in 71 (by decide +kernel) rfl, lw_ok_in 72 (by decide +kernel) rfl, rfl, rfl⟩
theorem moX1_3 : Cond.methodLink RX1 3 Lib.objectInit ∈ lw_ok := lw_ok_in 74 (by decide +kernel) rfl
theorem mb_X4_init : xMB M_X4_init 2 := ⟨lw_ok_in 80 (by decide +kernel) rfl, lw_ok_in 48 (by decide +kernel) rfl, by decide +kernel, by decide +kernel, by decide +kernel⟩
theorem miX1_21 : xMI RX1 21 M_X4_init 2 := ⟨mb_X4_init, lw_ok_in 78 (by decide +kernel) rfl, lw_ok_in 79 (by decide +kernel) rfl, rfl, rfl⟩
theorem moX4_3 : Cond.methodLink RX4 3 Lib.objectInit ∈ lw_ok := lw_ok_in 81 (by decide +kernel) rfl
theorem mb_X0_init : xMB M_X0_init 0 := ⟨lw_ok_in 151 (by decide +kernel) rfl, lw_ok_in 49 (by decide +kernel) rfl, by decide +kernel, by decide +kernel, by decide +kernel⟩
theorem mnX9_26 : xMN RX9 26 M_X0_init 0 RX9 := ⟨mb_X0_init, List.mem_of_getElem? (i := 149) (by decide +kernel), lw_ok_in 150 (by decide +kernel) rfl, rfl, rfl⟩
theorem moX0_3 : Cond.methodLink RX0 3 Lib.objectInit ∈ lw_ok := lw_ok_in 152 (by decide +kernel) rfl
theorem mb_X5_init : xMB M_X5_init 0 := ⟨lw_ok_in 178 (by decide +kernel) rfl, lw_ok_in 50 (by decide +kernel) rfl, by decide +kernel, by decide +kernel, by decide +kernel⟩
theorem mnX9_33 : xMN RX9 33 M_X5_init 0 RX9 := ⟨mb_X5_init, List.mem_of_getElem? (i := 176) (by decide +kernel), lw_ok_in 177 (by decide +kernel) rfl, rfl, rfl⟩
theorem moX5_3 : Cond.methodLink RX5 3 Lib.objectInit ∈ lw_ok := lw_ok_in 179 (by decide +kernel) rfl
theorem mb_X6_init : xMB M_X6_init 0 := ⟨lw_ok_in 184 (by decide +kernel) rfl, lw_ok_in 51 (by decide +kernel) rfl, by decide +kernel, by decide +kernel, by decide +kernel⟩
theorem mnX5_11 : xMN RX5 11 M_X6_init 0 RX9 := ⟨mb_X6_init, List.mem_of_getElem? (i := 182) (by decide +kernel), lw_ok_in 183 (by decide +kernel) rfl, rfl, rfl⟩
theorem moX6_3 : Cond.methodLink RX6 3 Lib.objectInit ∈ lw_ok := lw_ok_in 185 (by decide +kernel) rfl
theorem mb_X7_init : xMB M_X7_init 0 := ⟨lw_ok_in 269 (by decide +kernel) rfl, lw_ok_in 52 (by decide +kernel) rfl, by decide +kernel, by decide +kernel, by decide +kernel⟩
theorem mnX9_40 : xMN RX9 40 M_X7_init 0 RX9 := ⟨mb_X7_init, List.mem_of_getElem? (i := 267) (by decide +kernel), lw_ok_in 268 (by decide +kernel) rfl, rfl, rfl⟩
theorem moX7_3 : Cond.methodLink RX7 3 Lib.objectInit ∈ lw_ok := lw_ok_in 270 (by decide +kernel) rfl
theorem mb_X2_init : xMB M_X2_init 0 := ⟨lw_ok_in 319 (by decide +kernel) rfl, lw_ok_in 53 (by decide +kernel) rfl, by decide +kernel, by decide +kernel, by decide +kernel⟩
theorem mnX9_47 : xMN RX9 47 M_X2_init 0 RX9 := ⟨mb_X2_init, List.mem_of_getElem? (i := 317) (by decide +kernel), lw_ok_in 318 (by decide +kernel) rfl, rfl, rfl⟩
theorem moX2_3 : Cond.methodLink RX2 3 Lib.objectInit ∈ lw_ok := lw_ok_in 320 (by decide +kernel) rfl
theorem mb_X8_init : xMB M_X8_init 0 := ⟨lw_ok_in 325 (by decide +kernel) rfl, lw_ok_in 54 (by decide +kernel) rfl, by decide +kernel, by decide +kernel, by decide +kernel⟩
theorem mnX2_23 : xMN RX2 23 M_X8_init 0 RX9 := ⟨mb_X8_init, List.mem_of_getElem? (i := 323) (by decide +kernel), lw_ok_in 324 (by decide +kernel) rfl, rfl, rfl⟩
theorem moX8_3 : Cond.methodLink RX8 3 Lib.objectInit ∈ lw_ok := lw_ok_in 326 (by decide +kernel) rfl
theorem mb_X3_init : xMB M_X3_init 0 := ⟨lw_ok_in 374 (by decide +kernel) rfl, lw_ok_in 55 (by decide +kernel) rfl, by decide +kernel, by decide +kernel, by decide +kernel⟩
theorem mnX9_68 : xMN RX9 68 M_X3_init 0 RX9 := ⟨mb_X3_init, List.mem_of_getElem? (i := 372) (by decide +kernel), lw_ok_in 373 (by decide +kernel) rfl, rfl, rfl⟩
theorem moX3_3 : Cond.methodLink RX3 3 Lib.objectInit ∈ lw_ok := lw_ok_in 375 (by decide +kernel) rfl
theorem mb_X9_line : xMB M_X9_line 4 := ⟨lw_ok_in 438 (by decide +kernel) rfl, lw_ok_in 46 (by decide +kernel) rfl, by decide +kernel, by decide +kernel, by decide +kernel⟩
theorem mvL_13 : xMV RL 13 M_X9_line 4 9 := ⟨mb_X9_line, lw_ok_in 435 (by decide +kernel) rfl, lw_ok_in 436 (by decide +kernel) rfl, lw_ok_in 437 (by decide +kernel) rfl, _, rfl, rfl⟩
theorem mb_X9_isBook : xMB M_X9_isBook 1 := ⟨lw_ok_in 441 (by decide +kernel) rfl, lw_ok_in 46 (by decide +kernel) rfl, by decide +kernel, by decide +kernel, by decide +kernel⟩
theorem msX9_69 : xMS RX9 69 M_X9_isBook 1 := ⟨mb_X9_isBook, lw_ok_in 439 (by decide +kernel) rfl, lw_ok_in 440 (by decide +kernel) rfl⟩
theorem mb_X9_isWithin : xMB M_X9_isWithin 3 := ⟨lw_ok_in 446 (by decide +kernel) rfl, lw_ok_in 46 (by decide +kernel) rfl, by decide +kernel, by decide +kernel, by decide +kernel⟩
theorem msX9_75 : xMS RX9 75 M_X9_isWithin 3 := ⟨mb_X9_isWithin, lw_ok_in 444 (by decide +kernel) rfl, lw_ok_in 445 (by decide +kernel) rfl⟩
theorem mb_X4_write : xMB M_X4_write 5 := ⟨lw_ok_in 451 (by decide +kernel) rfl, lw_ok_in 48 (by decide +kernel) rfl, by decide +kernel, by decide +kernel, by decide +kernel⟩
theorem mvX9_87 : xMV RX9 87 M_X4_write 5 4 := ⟨mb_X4_write, lw_ok_in 448 (by decide +kernel) rfl, lw_ok_in 449 (by decide +kernel) rfl, lw_ok_in 450 (by decide +kernel) rfl, _, rfl, rfl⟩
theorem mb_X9_carriedOut : xMB M_X9_carriedOut 3 := ⟨lw_ok_in 455 (by decide +kernel) rfl, lw_ok_in 46 (by decide +kernel) rfl, by decide +kernel, by decide +kernel, by decide +kernel⟩
theorem mvX9_93 : xMV RX9 93 M_X9_carriedOut 3 9 := ⟨mb_X9_carriedOut, lw_ok_in 452 (by decide +kernel) rfl, lw_ok_in 454 (by decide +kernel) rfl, lw_ok_in 0 (by decide +kernel) rfl, _, rfl, rfl⟩
theorem mb_X0_put : xMB M_X0_put 3 := ⟨lw_ok_in 459 (by decide +kernel) rfl, lw_ok_in 49 (by decide +kernel) rfl, by decide +kernel, by decide +kernel, by decide +kernel⟩
theorem mvX9_344 : xMV RX9 344 M_X0_put 3 0 := ⟨mb_X0_put, lw_ok_in 456 (by decide +kernel) rfl, lw_ok_in 457 (by decide +kernel) rfl, lw_ok_in 458 (by decide +kernel) rfl, _, rfl, rfl⟩
theorem mmX0_28 : xMM RX0 28 Lib.Math.min.name Lib.Math.min.code 2 := ⟨lw_ok_in 460 (by decide +kernel) rfl, lw_ok_in 461 (by decide +kernel) rfl, lw_ok_in 57 (by decide +kernel) rfl, lw_ok_in 462 (by decide +kernel) rfl⟩
theorem mb_X9_today : xMB M_X9_today 1 := ⟨lw_ok_in 466 (by decide +kernel) rfl, lw_ok_in 46 (by decide +kernel) rfl, by decide +kernel, by decide +kernel, by decide +kernel⟩
theorem mvL_18 : xMV RL 18 M_X9_today 1 9 := ⟨mb_X9_today, lw_ok_in 463 (by decide +kernel) rfl, lw_ok_in 464 (by decide +kernel) rfl, lw_ok_in 465 (by decide +kernel) rfl, _, rfl, rfl⟩
theorem mb_X9_endUndoing : xMB M_X9_endUndoing 0 := ⟨lw_ok_in 471 (by decide +kernel) rfl, lw_ok_in 46 (by decide +kernel) rfl, by decide +kernel, by decide +kernel, by decide +kernel⟩
theorem mvX9_98 : xMV RX9 98 M_X9_endUndoing 0 9 := ⟨mb_X9_endUndoing, lw_ok_in 468 (by decide +kernel) rfl, lw_ok_in 470 (by decide +kernel) rfl, lw_ok_in 1 (by decide +kernel) rfl, _, rfl, rfl⟩
theorem mb_X9_terms : xMB M_X9_terms 2 := ⟨lw_ok_in 475 (by decide +kernel) rfl, lw_ok_in 46 (by decide +kernel) rfl, by decide +kernel, by decide +kernel, by decide +kernel⟩
theorem mvL_23 : xMV RL 23 M_X9_terms 2 9 := ⟨mb_X9_terms, lw_ok_in 472 (by decide +kernel) rfl, lw_ok_in 473 (by decide +kernel) rfl, lw_ok_in 474 (by decide +kernel) rfl, _, rfl, rfl⟩
theorem mb_X9_told : xMB M_X9_told 3 := ⟨lw_ok_in 479 (by decide +kernel) rfl, lw_ok_in 46 (by decide +kernel) rfl, by decide +kernel, by decide +kernel, by decide +kernel⟩
theorem mvL_28 : xMV RL 28 M_X9_told 3 9 := ⟨mb_X9_told, lw_ok_in 476 (by decide +kernel) rfl, lw_ok_in 477 (by decide +kernel) rfl, lw_ok_in 478 (by decide +kernel) rfl, _, rfl, rfl⟩
theorem mb_X9_lineAt : xMB M_X9_lineAt 2 := ⟨lw_ok_in 483 (by decide +kernel) rfl, lw_ok_in 46 (by decide +kernel) rfl, by decide +kernel, by decide +kernel, by decide +kernel⟩
theorem mvX9_101 : xMV RX9 101 M_X9_lineAt 2 9 := ⟨mb_X9_lineAt, lw_ok_in 480 (by decide +kernel) rfl, lw_ok_in 482 (by decide +kernel) rfl, lw_ok_in 2 (by decide +kernel) rfl, _, rfl, rfl⟩
theorem mb_X4_isBreak : xMB M_X4_isBreak 0 := ⟨lw_ok_in 488 (by decide +kernel) rfl, lw_ok_in 48 (by decide +kernel) rfl, by decide +kernel, by decide +kernel, by decide +kernel⟩
theorem mvX9_124 : xMV RX9 124 M_X4_isBreak 0 4 := ⟨mb_X4_isBreak, lw_ok_in 485 (by decide +kernel) rfl, lw_ok_in 486 (by decide +kernel) rfl, lw_ok_in 487 (by decide +kernel) rfl, _, rfl, rfl⟩
theorem mb_X9_fit : xMB M_X9_fit 2 := ⟨lw_ok_in 492 (by decide +kernel) rfl, lw_ok_in 46 (by decide +kernel) rfl, by decide +kernel, by decide +kernel, by decide +kernel⟩
theorem mvL_33 : xMV RL 33 M_X9_fit 2 9 := ⟨mb_X9_fit, lw_ok_in 489 (by decide +kernel) rfl, lw_ok_in 490 (by decide +kernel) rfl, lw_ok_in 491 (by decide +kernel) rfl, _, rfl, rfl⟩
theorem mb_X9_fitOf : xMB M_X9_fitOf 2 := ⟨lw_ok_in 496 (by decide +kernel) rfl, lw_ok_in 46 (by decide +kernel) rfl, by decide +kernel, by decide +kernel, by decide +kernel⟩
theorem mvX9_128 : xMV RX9 128 M_X9_fitOf 2 9 := ⟨mb_X9_fitOf, lw_ok_in 493 (by decide +kernel) rfl, lw_ok_in 495 (by decide +kernel) rfl, lw_ok_in 3 (by decide +kernel) rfl, _, rfl, rfl⟩
theorem mmX9_321 : xMM RX9 321 Lib.Math.abs.name Lib.Math.abs.code 1 := ⟨lw_ok_in 497 (by decide +kernel) rfl, lw_ok_in 498 (by decide +kernel) rfl, lw_ok_in 57 (by decide +kernel) rfl, lw_ok_in 499 (by decide +kernel) rfl⟩
theorem mb_X9_learnt : xMB M_X9_learnt 2 := ⟨lw_ok_in 503 (by decide +kernel) rfl, lw_ok_in 46 (by decide +kernel) rfl, by decide +kernel, by decide +kernel, by decide +kernel⟩
theorem mvX9_326 : xMV RX9 326 M_X9_learnt 2 9 := ⟨mb_X9_learnt, lw_ok_in 500 (by decide +kernel) rfl, lw_ok_in 502 (by decide +kernel) rfl, lw_ok_in 4 (by decide +kernel) rfl, _, rfl, rfl⟩
theorem mb_X3_isThere : xMB M_X3_isThere 0 := ⟨lw_ok_in 507 (by decide +kernel) rfl, lw_ok_in 55 (by decide +kernel) rfl, by decide +kernel, by decide +kernel, by decide +kernel⟩
theorem mvX9_319 : xMV RX9 319 M_X3_isThere 0 3 := ⟨mb_X3_isThere, lw_ok_in 504 (by decide +kernel) rfl, lw_ok_in 505 (by decide +kernel) rfl, lw_ok_in 506 (by decide +kernel) rfl, _, rfl, rfl⟩
theorem mb_X3_hasWord : xMB M_X3_hasWord 2 := ⟨lw_ok_in 511 (by decide +kernel) rfl, lw_ok_in 55 (by decide +kernel) rfl, by decide +kernel, by decide +kernel, by decide +kernel⟩
theorem mvX9_332 : xMV RX9 332 M_X3_hasWord 2 3 := ⟨mb_X3_hasWord, lw_ok_in 508 (by decide +kernel) rfl, lw_ok_in 509 (by decide +kernel) rfl, lw_ok_in 510 (by decide +kernel) rfl, _, rfl, rfl⟩
theorem mmX9_329 : xMM RX9 329 Lib.Math.max.name Lib.Math.max.code 2 := ⟨lw_ok_in 512 (by decide +kernel) rfl, lw_ok_in 513 (by decide +kernel) rfl, lw_ok_in 57 (by decide +kernel) rfl, lw_ok_in 514 (by decide +kernel) rfl⟩
theorem mb_X9_best : xMB M_X9_best 0 := ⟨lw_ok_in 518 (by decide +kernel) rfl, lw_ok_in 46 (by decide +kernel) rfl, by decide +kernel, by decide +kernel, by decide +kernel⟩
theorem mvL_37 : xMV RL 37 M_X9_best 0 9 := ⟨mb_X9_best, lw_ok_in 515 (by decide +kernel) rfl, lw_ok_in 516 (by decide +kernel) rfl, lw_ok_in 517 (by decide +kernel) rfl, _, rfl, rfl⟩
theorem mb_X1_breaksAged : xMB M_X1_breaksAged 2 := ⟨lw_ok_in 522 (by decide +kernel) rfl, lw_ok_in 47 (by decide +kernel) rfl, by decide +kernel, by decide +kernel, by decide +kernel⟩
theorem mvX9_132 : xMV RX9 132 M_X1_breaksAged 2 1 := ⟨mb_X1_breaksAged, lw_ok_in 519 (by decide +kernel) rfl, lw_ok_in 520 (by decide +kernel) rfl, lw_ok_in 521 (by decide +kernel) rfl, _, rfl, rfl⟩
theorem mvX1_24 : xMV RX1 24 M_X4_isBreak 0 4 := ⟨mb_X4_isBreak, lw_ok_in 523 (by decide +kernel) rfl, lw_ok_in 486 (by decide +kernel) rfl, lw_ok_in 487 (by decide +kernel) rfl, _, rfl, rfl⟩
theorem mb_X5_gather : xMB M_X5_gather 2 := ⟨lw_ok_in 527 (by decide +kernel) rfl, lw_ok_in 50 (by decide +kernel) rfl, by decide +kernel, by decide +kernel, by decide +kernel⟩
theorem mvX9_136 : xMV RX9 136 M_X5_gather 2 5 := ⟨mb_X5_gather, lw_ok_in 524 (by decide +kernel) rfl, lw_ok_in 525 (by decide +kernel) rfl, lw_ok_in 526 (by decide +kernel) rfl, _, rfl, rfl⟩
theorem mb_X5_gatherBreaks : xMB M_X5_gatherBreaks 2 := ⟨lw_ok_in 530 (by decide +kernel) rfl, lw_ok_in 50 (by decide +kernel) rfl, by decide +kernel, by decide +kernel, by decide +kernel⟩
theorem msX5_44 : xMS RX5 44 M_X5_gatherBreaks 2 := ⟨mb_X5_gatherBreaks, lw_ok_in 528 (by decide +kernel) rfl, lw_ok_in 529 (by decide +kernel) rfl⟩
theorem mvX5_67 : xMV RX5 67 M_X4_isBreak 0 4 := ⟨mb_X4_isBreak, lw_ok_in 531 (by decide +kernel) rfl, lw_ok_in 486 (by decide +kernel) rfl, lw_ok_in 487 (by decide +kernel) rfl, _, rfl, rfl⟩
theorem mmX5_48 : xMM RX5 48 Lib.Math.max.name Lib.Math.max.code 2 := ⟨lw_ok_in 532 (by decide +kernel) rfl, lw_ok_in 513 (by decide +kernel) rfl, lw_ok_in 57 (by decide +kernel) rfl, lw_ok_in 514 (by decide +kernel) rfl⟩
theorem mb_X6_clear : xMB M_X6_clear 1 := ⟨lw_ok_in 536 (by decide +kernel) rfl, lw_ok_in 51 (by decide +kernel) rfl, by decide +kernel, by decide +kernel, by decide +kernel⟩
theorem mvX5_54 : xMV RX5 54 M_X6_clear 1 6 := ⟨mb_X6_clear, lw_ok_in 533 (by decide +kernel) rfl, lw_ok_in 534 (by decide +kernel) rfl, lw_ok_in 535 (by decide +kernel) rfl, _, rfl, rfl⟩
theorem mb_J7_fill_53178 : xMB M_J7_fill_53178 2 := ⟨lw_ok_in 539 (by decide +kernel) rfl, lw_ok_in 58 (by decide +kernel) rfl, by decide +kernel, by decide +kernel, by decide +kernel⟩
theorem msX6_52 : xMS RX6 52 M_J7_fill_53178 2 := ⟨mb_J7_fill_53178, lw_ok_in 537 (by decide +kernel) rfl, lw_ok_in 538 (by decide +kernel) rfl⟩
theorem mb_X5_find : xMB M_X5_find 0 := ⟨lw_ok_in 543 (by decide +kernel) rfl, lw_ok_in 50 (by decide +kernel) rfl, by decide +kernel, by decide +kernel, by decide +kernel⟩
theorem mvX9_163 : xMV RX9 163 M_X5_find 0 5 := ⟨mb_X5_find, lw_ok_in 540 (by decide +kernel) rfl, lw_ok_in 541 (by decide +kernel) rfl, lw_ok_in 542 (by decide +kernel) rfl, _, rfl, rfl⟩
theorem mb_X6_seatAll : xMB M_X6_seatAll 0 := ⟨lw_ok_in 547 (by decide +kernel) rfl, lw_ok_in 51 (by decide +kernel) rfl, by decide +kernel, by decide +kernel, by decide +kernel⟩
theorem mvX5_73 : xMV RX5 73 M_X6_seatAll 0 6 := ⟨mb_X6_seatAll, lw_ok_in 544 (by decide +kernel) rfl, lw_ok_in 545 (by decide +kernel) rfl, lw_ok_in 546 (by decide +kernel) rfl, _, rfl, rfl⟩
theorem mb_X6_seat : xMB M_X6_seat 1 := ⟨lw_ok_in 551 (by decide +kernel) rfl, lw_ok_in 51 (by decide +kernel) rfl, by decide +kernel, by decide +kernel, by decide +kernel⟩
theorem mvX6_58 : xMV RX6 58 M_X6_seat 1 6 := ⟨mb_X6_seat, lw_ok_in 548 (by decide +kernel) rfl, lw_ok_in 550 (by decide +kernel) rfl, lw_ok_in 5 (by decide +kernel) rfl, _, rfl, rfl⟩
theorem mb_X6_clearSearch : xMB M_X6_clearSearch 0 := ⟨lw_ok_in 555 (by decide +kernel) rfl, lw_ok_in 51 (by decide +kernel) rfl, by decide +kernel, by decide +kernel, by decide +kernel⟩
theorem mvX6_62 : xMV RX6 62 M_X6_clearSearch 0 6 := ⟨mb_X6_clearSearch, lw_ok_in 552 (by decide +kernel) rfl, lw_ok_in 554 (by decide +kernel) rfl, lw_ok_in 6 (by decide +kernel) rfl, _, rfl, rfl⟩
theorem mb_X6_nextColumn : xMB M_X6_nextColumn 1 := ⟨lw_ok_in 560 (by decide +kernel) rfl, lw_ok_in 51 (by decide +kernel) rfl, by decide +kernel, by decide +kernel, by decide +kernel⟩
theorem mvX6_65 : xMV RX6 65 M_X6_nextColumn 1 6 := ⟨mb_X6_nextColumn, lw_ok_in 557 (by decide +kernel) rfl, lw_ok_in 559 (by decide +kernel) rfl, lw_ok_in 7 (by decide +kernel) rfl, _, rfl, rfl⟩
theorem mb_X6_favourFirst : xMB M_X6_favourFirst 0 := ⟨lw_ok_in 564 (by decide +kernel) rfl, lw_ok_in 51 (by decide +kernel) rfl, by decide +kernel, by decide +kernel, by decide +kernel⟩
theorem mvX5_76 : xMV RX5 76 M_X6_favourFirst 0 6 := ⟨mb_X6_favourFirst, lw_ok_in 561 (by decide +kernel) rfl, lw_ok_in 562 (by decide +kernel) rfl, lw_ok_in 563 (by decide +kernel) rfl, _, rfl, rfl⟩
theorem mb_X6_settle : xMB M_X6_settle 1 := ⟨lw_ok_in 568 (by decide +kernel) rfl, lw_ok_in 51 (by decide +kernel) rfl, by decide +kernel, by decide +kernel, by decide +kernel⟩
theorem mvX6_70 : xMV RX6 70 M_X6_settle 1 6 := ⟨mb_X6_settle, lw_ok_in 565 (by decide +kernel) rfl, lw_ok_in 567 (by decide +kernel) rfl, lw_ok_in 8 (by decide +kernel) rfl, _, rfl, rfl⟩
theorem mb_X6_isTight : xMB M_X6_isTight 2 := ⟨lw_ok_in 572 (by decide +kernel) rfl, lw_ok_in 51 (by decide +kernel) rfl, by decide +kernel, by decide +kernel, by decide +kernel⟩
theorem mvX6_73 : xMV RX6 73 M_X6_isTight 2 6 := ⟨mb_X6_isTight, lw_ok_in 569 (by decide +kernel) rfl, lw_ok_in 571 (by decide +kernel) rfl, lw_ok_in 9 (by decide +kernel) rfl, _, rfl, rfl⟩
theorem mb_X6_canSit : xMB M_X6_canSit 2 := ⟨lw_ok_in 576 (by decide +kernel) rfl, lw_ok_in 51 (by decide +kernel) rfl, by decide +kernel, by decide +kernel, by decide +kernel⟩
theorem mvX6_77 : xMV RX6 77 M_X6_canSit 2 6 := ⟨mb_X6_canSit, lw_ok_in 573 (by decide +kernel) rfl, lw_ok_in 575 (by decide +kernel) rfl, lw_ok_in 10 (by decide +kernel) rfl, _, rfl, rfl⟩
theorem mb_X6_columnOf : xMB M_X6_columnOf 1 := ⟨lw_ok_in 580 (by decide +kernel) rfl, lw_ok_in 51 (by decide +kernel) rfl, by decide +kernel, by decide +kernel, by decide +kernel⟩
theorem mvX6_80 : xMV RX6 80 M_X6_columnOf 1 6 := ⟨mb_X6_columnOf, lw_ok_in 577 (by decide +kernel) rfl, lw_ok_in 578 (by decide +kernel) rfl, lw_ok_in 579 (by decide +kernel) rfl, _, rfl, rfl⟩
theorem mb_X6_moves : xMB M_X6_moves 2 := ⟨lw_ok_in 584 (by decide +kernel) rfl, lw_ok_in 51 (by decide +kernel) rfl, by decide +kernel, by decide +kernel, by decide +kernel⟩
theorem mvX6_83 : xMV RX6 83 M_X6_moves 2 6 := ⟨mb_X6_moves, lw_ok_in 581 (by decide +kernel) rfl, lw_ok_in 583 (by decide +kernel) rfl, lw_ok_in 11 (by decide +kernel) rfl, _, rfl, rfl⟩
theorem mb_X6_total : xMB M_X6_total 0 := ⟨lw_ok_in 588 (by decide +kernel) rfl, lw_ok_in 51 (by decide +kernel) rfl, by decide +kernel, by decide +kernel, by decide +kernel⟩
theorem mvX5_79 : xMV RX5 79 M_X6_total 0 6 := ⟨mb_X6_total, lw_ok_in 585 (by decide +kernel) rfl, lw_ok_in 586 (by decide +kernel) rfl, lw_ok_in 587 (by decide +kernel) rfl, _, rfl, rfl⟩
theorem mvX5_82 : xMV RX5 82 M_X6_columnOf 1 6 := ⟨mb_X6_columnOf, lw_ok_in 589 (by decide +kernel) rfl, lw_ok_in 578 (by decide +kernel) rfl, lw_ok_in 579 (by decide +kernel) rfl, _, rfl, rfl⟩
theorem mb_X6_keep : xMB M_X6_keep 0 := ⟨lw_ok_in 593 (by decide +kernel) rfl, lw_ok_in 51 (by decide +kernel) rfl, by decide +kernel, by decide +kernel, by decide +kernel⟩
theorem mvX5_90 : xMV RX5 90 M_X6_keep 0 6 := ⟨mb_X6_keep, lw_ok_in 590 (by decide +kernel) rfl, lw_ok_in 591 (by decide +kernel) rfl, lw_ok_in 592 (by decide +kernel) rfl, _, rfl, rfl⟩
theorem myX6_86 : xMY RX6 86 := ⟨lw_ok_in 594 (by decide +kernel) rfl, lw_ok_in 596 (by decide +kernel) rfl, lw_ok_in 595 (by decide +kernel) rfl, lw_ok_in 59 (by decide +kernel) rfl⟩
theorem mb_X6_totalWithout : xMB M_X6_totalWithout 2 := ⟨lw_ok_in 600 (by decide +kernel) rfl, lw_ok_in 51 (by decide +kernel) rfl, by decide +kernel, by decide +kernel, by decide +kernel⟩
theorem mvX5_93 : xMV RX5 93 M_X6_totalWithout 2 6 := ⟨mb_X6_totalWithout, lw_ok_in 597 (by decide +kernel) rfl, lw_ok_in 598 (by decide +kernel) rfl, lw_ok_in 599 (by decide +kernel) rfl, _, rfl, rfl⟩
theorem mvX6_92 : xMV RX6 92 M_X6_total 0 6 := ⟨mb_X6_total, lw_ok_in 601 (by decide +kernel) rfl, lw_ok_in 586 (by decide +kernel) rfl, lw_ok_in 587 (by decide +kernel) rfl, _, rfl, rfl⟩
theorem mb_X6_restore : xMB M_X6_restore 0 := ⟨lw_ok_in 605 (by decide +kernel) rfl, lw_ok_in 51 (by decide +kernel) rfl, by decide +kernel, by decide +kernel, by decide +kernel⟩
theorem mvX6_96 : xMV RX6 96 M_X6_restore 0 6 := ⟨mb_X6_restore, lw_ok_in 602 (by decide +kernel) rfl, lw_ok_in 604 (by decide +kernel) rfl, lw_ok_in 12 (by decide +kernel) rfl, _, rfl, rfl⟩
theorem mb_X9_with : xMB M_X9_with 1 := ⟨lw_ok_in 609 (by decide +kernel) rfl, lw_ok_in 46 (by decide +kernel) rfl, by decide +kernel, by decide +kernel, by decide +kernel⟩
theorem mvL_42 : xMV RL 42 M_X9_with 1 9 := ⟨mb_X9_with, lw_ok_in 606 (by decide +kernel) rfl, lw_ok_in 607 (by decide +kernel) rfl, lw_ok_in 608 (by decide +kernel) rfl, _, rfl, rfl⟩
theorem mb_X9_freshRow : xMB M_X9_freshRow 1 := ⟨lw_ok_in 613 (by decide +kernel) rfl, lw_ok_in 46 (by decide +kernel) rfl, by decide +kernel, by decide +kernel, by decide +kernel⟩
theorem mvX9_172 : xMV RX9 172 M_X9_freshRow 1 9 := ⟨mb_X9_freshRow, lw_ok_in 610 (by decide +kernel) rfl, lw_ok_in 612 (by decide +kernel) rfl, lw_ok_in 13 (by decide +kernel) rfl, _, rfl, rfl⟩
theorem mb_X5_rowOf : xMB M_X5_rowOf 1 := ⟨lw_ok_in 617 (by decide +kernel) rfl, lw_ok_in 50 (by decide +kernel) rfl, by decide +kernel, by decide +kernel, by decide +kernel⟩
theorem mvX9_335 : xMV RX9 335 M_X5_rowOf 1 5 := ⟨mb_X5_rowOf, lw_ok_in 614 (by decide +kernel) rfl, lw_ok_in 615 (by decide +kernel) rfl, lw_ok_in 616 (by decide +kernel) rfl, _, rfl, rfl⟩
theorem mb_X9_rival : xMB M_X9_rival 1 := ⟨lw_ok_in 621 (by decide +kernel) rfl, lw_ok_in 46 (by decide +kernel) rfl, by decide +kernel, by decide +kernel, by decide +kernel⟩
theorem mvL_46 : xMV RL 46 M_X9_rival 1 9 := ⟨mb_X9_rival, lw_ok_in 618 (by decide +kernel) rfl, lw_ok_in 619 (by decide +kernel) rfl, lw_ok_in 620 (by decide +kernel) rfl, _, rfl, rfl⟩
theorem mb_X9_pair : xMB M_X9_pair 1 := ⟨lw_ok_in 625 (by decide +kernel) rfl, lw_ok_in 46 (by decide +kernel) rfl, by decide +kernel, by decide +kernel, by decide +kernel⟩
theorem mvL_50 : xMV RL 50 M_X9_pair 1 9 := ⟨mb_X9_pair, lw_ok_in 622 (by decide +kernel) rfl, lw_ok_in 623 (by decide +kernel) rfl, lw_ok_in 624 (by decide +kernel) rfl, _, rfl, rfl⟩
theorem mb_X5_countSure : xMB M_X5_countSure 1 := ⟨lw_ok_in 629 (by decide +kernel) rfl, lw_ok_in 50 (by decide +kernel) rfl, by decide +kernel, by decide +kernel, by decide +kernel⟩
theorem mvX9_182 : xMV RX9 182 M_X5_countSure 1 5 := ⟨mb_X5_countSure, lw_ok_in 626 (by decide +kernel) rfl, lw_ok_in 627 (by decide +kernel) rfl, lw_ok_in 628 (by decide +kernel) rfl, _, rfl, rfl⟩
theorem mb_X5_isSure : xMB M_X5_isSure 2 := ⟨lw_ok_in 633 (by decide +kernel) rfl, lw_ok_in 50 (by decide +kernel) rfl, by decide +kernel, by decide +kernel, by decide +kernel⟩
theorem mvX5_96 : xMV RX5 96 M_X5_isSure 2 5 := ⟨mb_X5_isSure, lw_ok_in 630 (by decide +kernel) rfl, lw_ok_in 631 (by decide +kernel) rfl, lw_ok_in 632 (by decide +kernel) rfl, _, rfl, rfl⟩
theorem mvX9_185 : xMV RX9 185 M_X5_isSure 2 5 := ⟨mb_X5_isSure, lw_ok_in 634 (by decide +kernel) rfl, lw_ok_in 631 (by decide +kernel) rfl, lw_ok_in 632 (by decide +kernel) rfl, _, rfl, rfl⟩
theorem mb_X9_makeGroup : xMB M_X9_makeGroup 3 := ⟨lw_ok_in 638 (by decide +kernel) rfl, lw_ok_in 46 (by decide +kernel) rfl, by decide +kernel, by decide +kernel, by decide +kernel⟩
theorem mvX9_189 : xMV RX9 189 M_X9_makeGroup 3 9 := ⟨mb_X9_makeGroup, lw_ok_in 635 (by decide +kernel) rfl, lw_ok_in 637 (by decide +kernel) rfl, lw_ok_in 14 (by decide +kernel) rfl, _, rfl, rfl⟩
theorem mb_X3_open : xMB M_X3_open 2 := ⟨lw_ok_in 642 (by decide +kernel) rfl, lw_ok_in 55 (by decide +kernel) rfl, by decide +kernel, by decide +kernel, by decide +kernel⟩
theorem mvX9_338 : xMV RX9 338 M_X3_open 2 3 := ⟨mb_X3_open, lw_ok_in 639 (by decide +kernel) rfl, lw_ok_in 640 (by decide +kernel) rfl, lw_ok_in 641 (by decide +kernel) rfl, _, rfl, rfl⟩
theorem mb_X9_addTo : xMB M_X9_addTo 2 := ⟨lw_ok_in 646 (by decide +kernel) rfl, lw_ok_in 46 (by decide +kernel) rfl, by decide +kernel, by decide +kernel, by decide +kernel⟩
theorem mvX9_218 : xMV RX9 218 M_X9_addTo 2 9 := ⟨mb_X9_addTo, lw_ok_in 643 (by decide +kernel) rfl, lw_ok_in 645 (by decide +kernel) rfl, lw_ok_in 15 (by decide +kernel) rfl, _, rfl, rfl⟩
theorem mb_X3_add : xMB M_X3_add 1 := ⟨lw_ok_in 650 (by decide +kernel) rfl, lw_ok_in 55 (by decide +kernel) rfl, by decide +kernel, by decide +kernel, by decide +kernel⟩
theorem mvX9_341 : xMV RX9 341 M_X3_add 1 3 := ⟨mb_X3_add, lw_ok_in 647 (by decide +kernel) rfl, lw_ok_in 648 (by decide +kernel) rfl, lw_ok_in 649 (by decide +kernel) rfl, _, rfl, rfl⟩
theorem mb_X9_sets : xMB M_X9_sets 4 := ⟨lw_ok_in 654 (by decide +kernel) rfl, lw_ok_in 46 (by decide +kernel) rfl, by decide +kernel, by decide +kernel, by decide +kernel⟩
theorem mvL_54 : xMV RL 54 M_X9_sets 4 9 := ⟨mb_X9_sets, lw_ok_in 651 (by decide +kernel) rfl, lw_ok_in 652 (by decide +kernel) rfl, lw_ok_in 653 (by decide +kernel) rfl, _, rfl, rfl⟩
theorem mb_X7_gather : xMB M_X7_gather 3 := ⟨lw_ok_in 658 (by decide +kernel) rfl, lw_ok_in 52 (by decide +kernel) rfl, by decide +kernel, by decide +kernel, by decide +kernel⟩
theorem mvX9_193 : xMV RX9 193 M_X7_gather 3 7 := ⟨mb_X7_gather, lw_ok_in 655 (by decide +kernel) rfl, lw_ok_in 656 (by decide +kernel) rfl, lw_ok_in 657 (by decide +kernel) rfl, _, rfl, rfl⟩
theorem mvX7_68 : xMV RX7 68 M_X4_isBreak 0 4 := ⟨mb_X4_isBreak, lw_ok_in 659 (by decide +kernel) rfl, lw_ok_in 486 (by decide +kernel) rfl, lw_ok_in 487 (by decide +kernel) rfl, _, rfl, rfl⟩
theorem mmX7_75 : xMM RX7 75 Lib.Math.abs.name Lib.Math.abs.code 1 := ⟨lw_ok_in 660 (by decide +kernel) rfl, lw_ok_in 498 (by decide +kernel) rfl, lw_ok_in 57 (by decide +kernel) rfl, lw_ok_in 499 (by decide +kernel) rfl⟩
theorem mb_X7_boundAmounts : xMB M_X7_boundAmounts 0 := ⟨lw_ok_in 664 (by decide +kernel) rfl, lw_ok_in 52 (by decide +kernel) rfl, by decide +kernel, by decide +kernel, by decide +kernel⟩
theorem mvX7_81 : xMV RX7 81 M_X7_boundAmounts 0 7 := ⟨mb_X7_boundAmounts, lw_ok_in 661 (by decide +kernel) rfl, lw_ok_in 663 (by decide +kernel) rfl, lw_ok_in 16 (by decide +kernel) rfl, _, rfl, rfl⟩
theorem mmX7_84 : xMM RX7 84 Lib.Math.min.name Lib.Math.min.code 2 := ⟨lw_ok_in 665 (by decide +kernel) rfl, lw_ok_in 461 (by decide +kernel) rfl, lw_ok_in 57 (by decide +kernel) rfl, lw_ok_in 462 (by decide +kernel) rfl⟩
theorem mmX7_88 : xMM RX7 88 Lib.Math.max.name Lib.Math.max.code 2 := ⟨lw_ok_in 666 (by decide +kernel) rfl, lw_ok_in 513 (by decide +kernel) rfl, lw_ok_in 57 (by decide +kernel) rfl, lw_ok_in 514 (by decide +kernel) rfl⟩
theorem mb_X7_find : xMB M_X7_find 2 := ⟨lw_ok_in 670 (by decide +kernel) rfl, lw_ok_in 52 (by decide +kernel) rfl, by decide +kernel, by decide +kernel, by decide +kernel⟩
theorem mvX9_196 : xMV RX9 196 M_X7_find 2 7 := ⟨mb_X7_find, lw_ok_in 667 (by decide +kernel) rfl, lw_ok_in 668 (by decide +kernel) rfl, lw_ok_in 669 (by decide +kernel) rfl, _, rfl, rfl⟩
theorem mb_X7_extend : xMB M_X7_extend 4 := ⟨lw_ok_in 674 (by decide +kernel) rfl, lw_ok_in 52 (by decide +kernel) rfl, by decide +kernel, by decide +kernel, by decide +kernel⟩
theorem mvX7_91 : xMV RX7 91 M_X7_extend 4 7 := ⟨mb_X7_extend, lw_ok_in 671 (by decide +kernel) rfl, lw_ok_in 673 (by decide +kernel) rfl, lw_ok_in 17 (by decide +kernel) rfl, _, rfl, rfl⟩
theorem mb_X7_finish : xMB M_X7_finish 3 := ⟨lw_ok_in 678 (by decide +kernel) rfl, lw_ok_in 52 (by decide +kernel) rfl, by decide +kernel, by decide +kernel, by decide +kernel⟩
theorem mvX7_95 : xMV RX7 95 M_X7_finish 3 7 := ⟨mb_X7_finish, lw_ok_in 675 (by decide +kernel) rfl, lw_ok_in 677 (by decide +kernel) rfl, lw_ok_in 18 (by decide +kernel) rfl, _, rfl, rfl⟩
theorem mb_X7_canReach : xMB M_X7_canReach 3 := ⟨lw_ok_in 682 (by decide +kernel) rfl, lw_ok_in 52 (by decide +kernel) rfl, by decide +kernel, by decide +kernel, by decide +kernel⟩
theorem mvX7_99 : xMV RX7 99 M_X7_canReach 3 7 := ⟨mb_X7_canReach, lw_ok_in 679 (by decide +kernel) rfl, lw_ok_in 681 (by decide +kernel) rfl, lw_ok_in 19 (by decide +kernel) rfl, _, rfl, rfl⟩
theorem mb_X9_size : xMB M_X9_size 1 := ⟨lw_ok_in 686 (by decide +kernel) rfl, lw_ok_in 46 (by decide +kernel) rfl, by decide +kernel, by decide +kernel, by decide +kernel⟩
theorem mvL_58 : xMV RL 58 M_X9_size 1 9 := ⟨mb_X9_size, lw_ok_in 683 (by decide +kernel) rfl, lw_ok_in 684 (by decide +kernel) rfl, lw_ok_in 685 (by decide +kernel) rfl, _, rfl, rfl⟩
theorem mb_X7_isThere : xMB M_X7_isThere 1 := ⟨lw_ok_in 690 (by decide +kernel) rfl, lw_ok_in 52 (by decide +kernel) rfl, by decide +kernel, by decide +kernel, by decide +kernel⟩
theorem mvX9_203 : xMV RX9 203 M_X7_isThere 1 7 := ⟨mb_X7_isThere, lw_ok_in 687 (by decide +kernel) rfl, lw_ok_in 688 (by decide +kernel) rfl, lw_ok_in 689 (by decide +kernel) rfl, _, rfl, rfl⟩
theorem mb_X7_sizeOf : xMB M_X7_sizeOf 1 := ⟨lw_ok_in 694 (by decide +kernel) rfl, lw_ok_in 52 (by decide +kernel) rfl, by decide +kernel, by decide +kernel, by decide +kernel⟩
theorem mvX9_206 : xMV RX9 206 M_X7_sizeOf 1 7 := ⟨mb_X7_sizeOf, lw_ok_in 691 (by decide +kernel) rfl, lw_ok_in 692 (by decide +kernel) rfl, lw_ok_in 693 (by decide +kernel) rfl, _, rfl, rfl⟩
theorem mb_X9_in : xMB M_X9_in 2 := ⟨lw_ok_in 698 (by decide +kernel) rfl, lw_ok_in 46 (by decide +kernel) rfl, by decide +kernel, by decide +kernel, by decide +kernel⟩
theorem mvL_62 : xMV RL 62 M_X9_in 2 9 := ⟨mb_X9_in, lw_ok_in 695 (by decide +kernel) rfl, lw_ok_in 696 (by decide +kernel) rfl, lw_ok_in 697 (by decide +kernel) rfl, _, rfl, rfl⟩
theorem mb_X7_lineIn : xMB M_X7_lineIn 2 := ⟨lw_ok_in 702 (by decide +kernel) rfl, lw_ok_in 52 (by decide +kernel) rfl, by decide +kernel, by decide +kernel, by decide +kernel⟩
theorem mvX9_209 : xMV RX9 209 M_X7_lineIn 2 7 := ⟨mb_X7_lineIn, lw_ok_in 699 (by decide +kernel) rfl, lw_ok_in 700 (by decide +kernel) rfl, lw_ok_in 701 (by decide +kernel) rfl, _, rfl, rfl⟩
theorem mvX7_103 : xMV RX7 103 M_X7_sizeOf 1 7 := ⟨mb_X7_sizeOf, lw_ok_in 703 (by decide +kernel) rfl, lw_ok_in 692 (by decide +kernel) rfl, lw_ok_in 693 (by decide +kernel) rfl, _, rfl, rfl⟩
theorem mb_X9_set : xMB M_X9_set 1 := ⟨lw_ok_in 707 (by decide +kernel) rfl, lw_ok_in 46 (by decide +kernel) rfl, by decide +kernel, by decide +kernel, by decide +kernel⟩
theorem mvL_66 : xMV RL 66 M_X9_set 1 9 := ⟨mb_X9_set, lw_ok_in 704 (by decide +kernel) rfl, lw_ok_in 705 (by decide +kernel) rfl, lw_ok_in 706 (by decide +kernel) rfl, _, rfl, rfl⟩
theorem mb_X9_hand : xMB M_X9_hand 2 := ⟨lw_ok_in 711 (by decide +kernel) rfl, lw_ok_in 46 (by decide +kernel) rfl, by decide +kernel, by decide +kernel, by decide +kernel⟩
theorem mvL_70 : xMV RL 70 M_X9_hand 2 9 := ⟨mb_X9_hand, lw_ok_in 708 (by decide +kernel) rfl, lw_ok_in 709 (by decide +kernel) rfl, lw_ok_in 710 (by decide +kernel) rfl, _, rfl, rfl⟩
theorem mb_X9_join : xMB M_X9_join 3 := ⟨lw_ok_in 715 (by decide +kernel) rfl, lw_ok_in 46 (by decide +kernel) rfl, by decide +kernel, by decide +kernel, by decide +kernel⟩
theorem mvL_74 : xMV RL 74 M_X9_join 3 9 := ⟨mb_X9_join, lw_ok_in 712 (by decide +kernel) rfl, lw_ok_in 713 (by decide +kernel) rfl, lw_ok_in 714 (by decide +kernel) rfl, _, rfl, rfl⟩
theorem mb_X9_isGroupThere : xMB M_X9_isGroupThere 1 := ⟨lw_ok_in 719 (by decide +kernel) rfl, lw_ok_in 46 (by decide +kernel) rfl, by decide +kernel, by decide +kernel, by decide +kernel⟩
theorem mvX9_222 : xMV RX9 222 M_X9_isGroupThere 1 9 := ⟨mb_X9_isGroupThere, lw_ok_in 716 (by decide +kernel) rfl, lw_ok_in 718 (by decide +kernel) rfl, lw_ok_in 20 (by decide +kernel) rfl, _, rfl, rfl⟩
theorem mb_X9_part : xMB M_X9_part 1 := ⟨lw_ok_in 723 (by decide +kernel) rfl, lw_ok_in 46 (by decide +kernel) rfl, by decide +kernel, by decide +kernel, by decide +kernel⟩
theorem mvL_78 : xMV RL 78 M_X9_part 1 9 := ⟨mb_X9_part, lw_ok_in 720 (by decide +kernel) rfl, lw_ok_in 721 (by decide +kernel) rfl, lw_ok_in 722 (by decide +kernel) rfl, _, rfl, rfl⟩
theorem mb_X3_claimLines : xMB M_X3_claimLines 1 := ⟨lw_ok_in 727 (by decide +kernel) rfl, lw_ok_in 55 (by decide +kernel) rfl, by decide +kernel, by decide +kernel, by decide +kernel⟩
theorem mvX9_235 : xMV RX9 235 M_X3_claimLines 1 3 := ⟨mb_X3_claimLines, lw_ok_in 724 (by decide +kernel) rfl, lw_ok_in 725 (by decide +kernel) rfl, lw_ok_in 726 (by decide +kernel) rfl, _, rfl, rfl⟩
theorem mb_X9_lock : xMB M_X9_lock 2 := ⟨lw_ok_in 731 (by decide +kernel) rfl, lw_ok_in 46 (by decide +kernel) rfl, by decide +kernel, by decide +kernel, by decide +kernel⟩
theorem mvL_82 : xMV RL 82 M_X9_lock 2 9 := ⟨mb_X9_lock, lw_ok_in 728 (by decide +kernel) rfl, lw_ok_in 729 (by decide +kernel) rfl, lw_ok_in 730 (by decide +kernel) rfl, _, rfl, rfl⟩
theorem mb_X9_group : xMB M_X9_group 2 := ⟨lw_ok_in 735 (by decide +kernel) rfl, lw_ok_in 46 (by decide +kernel) rfl, by decide +kernel, by decide +kernel, by decide +kernel⟩
theorem mvL_86 : xMV RL 86 M_X9_group 2 9 := ⟨mb_X9_group, lw_ok_in 732 (by decide +kernel) rfl, lw_ok_in 733 (by decide +kernel) rfl, lw_ok_in 734 (by decide +kernel) rfl, _, rfl, rfl⟩
theorem mb_X3_difference : xMB M_X3_difference 0 := ⟨lw_ok_in 740 (by decide +kernel) rfl, lw_ok_in 55 (by decide +kernel) rfl, by decide +kernel, by decide +kernel, by decide +kernel⟩
theorem mvX9_239 : xMV RX9 239 M_X3_difference 0 3 := ⟨mb_X3_difference, lw_ok_in 737 (by decide +kernel) rfl, lw_ok_in 738 (by decide +kernel) rfl, lw_ok_in 739 (by decide +kernel) rfl, _, rfl, rfl⟩
theorem mb_X9_breaks : xMB M_X9_breaks 2 := ⟨lw_ok_in 744 (by decide +kernel) rfl, lw_ok_in 46 (by decide +kernel) rfl, by decide +kernel, by decide +kernel, by decide +kernel⟩
theorem mvL_90 : xMV RL 90 M_X9_breaks 2 9 := ⟨mb_X9_breaks, lw_ok_in 741 (by decide +kernel) rfl, lw_ok_in 742 (by decide +kernel) rfl, lw_ok_in 743 (by decide +kernel) rfl, _, rfl, rfl⟩
theorem mb_X9_broken : xMB M_X9_broken 2 := ⟨lw_ok_in 748 (by decide +kernel) rfl, lw_ok_in 46 (by decide +kernel) rfl, by decide +kernel, by decide +kernel, by decide +kernel⟩
theorem mvL_94 : xMV RL 94 M_X9_broken 2 9 := ⟨mb_X9_broken, lw_ok_in 745 (by decide +kernel) rfl, lw_ok_in 746 (by decide +kernel) rfl, lw_ok_in 747 (by decide +kernel) rfl, _, rfl, rfl⟩
theorem mb_X1_breakAt : xMB M_X1_breakAt 1 := ⟨lw_ok_in 752 (by decide +kernel) rfl, lw_ok_in 47 (by decide +kernel) rfl, by decide +kernel, by decide +kernel, by decide +kernel⟩
theorem mvX9_246 : xMV RX9 246 M_X1_breakAt 1 1 := ⟨mb_X1_breakAt, lw_ok_in 749 (by decide +kernel) rfl, lw_ok_in 750 (by decide +kernel) rfl, lw_ok_in 751 (by decide +kernel) rfl, _, rfl, rfl⟩
theorem mb_X9_sum : xMB M_X9_sum 1 := ⟨lw_ok_in 756 (by decide +kernel) rfl, lw_ok_in 46 (by decide +kernel) rfl, by decide +kernel, by decide +kernel, by decide +kernel⟩
theorem mvL_98 : xMV RL 98 M_X9_sum 1 9 := ⟨mb_X9_sum, lw_ok_in 753 (by decide +kernel) rfl, lw_ok_in 754 (by decide +kernel) rfl, lw_ok_in 755 (by decide +kernel) rfl, _, rfl, rfl⟩
theorem mb_X9_booksDifference : xMB M_X9_booksDifference 0 := ⟨lw_ok_in 760 (by decide +kernel) rfl, lw_ok_in 46 (by decide +kernel) rfl, by decide +kernel, by decide +kernel, by decide +kernel⟩
theorem mvX9_249 : xMV RX9 249 M_X9_booksDifference 0 9 := ⟨mb_X9_booksDifference, lw_ok_in 757 (by decide +kernel) rfl, lw_ok_in 759 (by decide +kernel) rfl, lw_ok_in 21 (by decide +kernel) rfl, _, rfl, rfl⟩
theorem mb_X1_sumOfAll : xMB M_X1_sumOfAll 0 := ⟨lw_ok_in 764 (by decide +kernel) rfl, lw_ok_in 47 (by decide +kernel) rfl, by decide +kernel, by decide +kernel, by decide +kernel⟩
theorem mvX9_350 : xMV RX9 350 M_X1_sumOfAll 0 1 := ⟨mb_X1_sumOfAll, lw_ok_in 761 (by decide +kernel) rfl, lw_ok_in 762 (by decide +kernel) rfl, lw_ok_in 763 (by decide +kernel) rfl, _, rfl, rfl⟩
theorem mb_X1_sumOfBreaks : xMB M_X1_sumOfBreaks 0 := ⟨lw_ok_in 768 (by decide +kernel) rfl, lw_ok_in 47 (by decide +kernel) rfl, by decide +kernel, by decide +kernel, by decide +kernel⟩
theorem mvX9_252 : xMV RX9 252 M_X1_sumOfBreaks 0 1 := ⟨mb_X1_sumOfBreaks, lw_ok_in 765 (by decide +kernel) rfl, lw_ok_in 766 (by decide +kernel) rfl, lw_ok_in 767 (by decide +kernel) rfl, _, rfl, rfl⟩
theorem mb_X9_groupsDifference : xMB M_X9_groupsDifference 0 := ⟨lw_ok_in 772 (by decide +kernel) rfl, lw_ok_in 46 (by decide +kernel) rfl, by decide +kernel, by decide +kernel, by decide +kernel⟩
theorem mvX9_255 : xMV RX9 255 M_X9_groupsDifference 0 9 := ⟨mb_X9_groupsDifference, lw_ok_in 769 (by decide +kernel) rfl, lw_ok_in 771 (by decide +kernel) rfl, lw_ok_in 22 (by decide +kernel) rfl, _, rfl, rfl⟩
theorem mb_X9_as : xMB M_X9_as 2 := ⟨lw_ok_in 776 (by decide +kernel) rfl, lw_ok_in 46 (by decide +kernel) rfl, by decide +kernel, by decide +kernel, by decide +kernel⟩
theorem mvL_103 : xMV RL 103 M_X9_as 2 9 := ⟨mb_X9_as, lw_ok_in 773 (by decide +kernel) rfl, lw_ok_in 774 (by decide +kernel) rfl, lw_ok_in 775 (by decide +kernel) rfl, _, rfl, rfl⟩
theorem mb_X9_countHolders : xMB M_X9_countHolders 1 := ⟨lw_ok_in 781 (by decide +kernel) rfl, lw_ok_in 46 (by decide +kernel) rfl, by decide +kernel, by decide +kernel, by decide +kernel⟩
theorem mvX9_260 : xMV RX9 260 M_X9_countHolders 1 9 := ⟨mb_X9_countHolders, lw_ok_in 778 (by decide +kernel) rfl, lw_ok_in 780 (by decide +kernel) rfl, lw_ok_in 23 (by decide +kernel) rfl, _, rfl, rfl⟩
theorem mb_X1_clearHolders : xMB M_X1_clearHolders 0 := ⟨lw_ok_in 785 (by decide +kernel) rfl, lw_ok_in 47 (by decide +kernel) rfl, by decide +kernel, by decide +kernel, by decide +kernel⟩
theorem mvX9_356 : xMV RX9 356 M_X1_clearHolders 0 1 := ⟨mb_X1_clearHolders, lw_ok_in 782 (by decide +kernel) rfl, lw_ok_in 783 (by decide +kernel) rfl, lw_ok_in 784 (by decide +kernel) rfl, _, rfl, rfl⟩
theorem mb_X3_isStandingOn : xMB M_X3_isStandingOn 1 := ⟨lw_ok_in 789 (by decide +kernel) rfl, lw_ok_in 55 (by decide +kernel) rfl, by decide +kernel, by decide +kernel, by decide +kernel⟩
theorem mvX9_359 : xMV RX9 359 M_X3_isStandingOn 1 3 := ⟨mb_X3_isStandingOn, lw_ok_in 786 (by decide +kernel) rfl, lw_ok_in 787 (by decide +kernel) rfl, lw_ok_in 788 (by decide +kernel) rfl, _, rfl, rfl⟩
theorem mb_X3_holdLines : xMB M_X3_holdLines 0 := ⟨lw_ok_in 793 (by decide +kernel) rfl, lw_ok_in 55 (by decide +kernel) rfl, by decide +kernel, by decide +kernel, by decide +kernel⟩
theorem mvX9_362 : xMV RX9 362 M_X3_holdLines 0 3 := ⟨mb_X3_holdLines, lw_ok_in 790 (by decide +kernel) rfl, lw_ok_in 791 (by decide +kernel) rfl, lw_ok_in 792 (by decide +kernel) rfl, _, rfl, rfl⟩
theorem mb_X1_countUnheld : xMB M_X1_countUnheld 1 := ⟨lw_ok_in 797 (by decide +kernel) rfl, lw_ok_in 47 (by decide +kernel) rfl, by decide +kernel, by decide +kernel, by decide +kernel⟩
theorem mvX9_263 : xMV RX9 263 M_X1_countUnheld 1 1 := ⟨mb_X1_countUnheld, lw_ok_in 794 (by decide +kernel) rfl, lw_ok_in 795 (by decide +kernel) rfl, lw_ok_in 796 (by decide +kernel) rfl, _, rfl, rfl⟩
theorem mb_X4_isUnheld : xMB M_X4_isUnheld 1 := ⟨lw_ok_in 801 (by decide +kernel) rfl, lw_ok_in 48 (by decide +kernel) rfl, by decide +kernel, by decide +kernel, by decide +kernel⟩
theorem mvX1_37 : xMV RX1 37 M_X4_isUnheld 1 4 := ⟨mb_X4_isUnheld, lw_ok_in 798 (by decide +kernel) rfl, lw_ok_in 799 (by decide +kernel) rfl, lw_ok_in 800 (by decide +kernel) rfl, _, rfl, rfl⟩
theorem mb_X1_sumUnheld : xMB M_X1_sumUnheld 1 := ⟨lw_ok_in 805 (by decide +kernel) rfl, lw_ok_in 47 (by decide +kernel) rfl, by decide +kernel, by decide +kernel, by decide +kernel⟩
theorem mvX9_266 : xMV RX9 266 M_X1_sumUnheld 1 1 := ⟨mb_X1_sumUnheld, lw_ok_in 802 (by decide +kernel) rfl, lw_ok_in 803 (by decide +kernel) rfl, lw_ok_in 804 (by decide +kernel) rfl, _, rfl, rfl⟩
theorem mb_X9_explain : xMB M_X9_explain 0 := ⟨lw_ok_in 809 (by decide +kernel) rfl, lw_ok_in 46 (by decide +kernel) rfl, by decide +kernel, by decide +kernel, by decide +kernel⟩
theorem mvL_108 : xMV RL 108 M_X9_explain 0 9 := ⟨mb_X9_explain, lw_ok_in 806 (by decide +kernel) rfl, lw_ok_in 807 (by decide +kernel) rfl, lw_ok_in 808 (by decide +kernel) rfl, _, rfl, rfl⟩
theorem mb_X9_countUneven : xMB M_X9_countUneven 0 := ⟨lw_ok_in 813 (by decide +kernel) rfl, lw_ok_in 46 (by decide +kernel) rfl, by decide +kernel, by decide +kernel, by decide +kernel⟩
theorem mvX9_269 : xMV RX9 269 M_X9_countUneven 0 9 := ⟨mb_X9_countUneven, lw_ok_in 810 (by decide +kernel) rfl, lw_ok_in 812 (by decide +kernel) rfl, lw_ok_in 24 (by decide +kernel) rfl, _, rfl, rfl⟩
theorem mb_X3_isUneven : xMB M_X3_isUneven 0 := ⟨lw_ok_in 817 (by decide +kernel) rfl, lw_ok_in 55 (by decide +kernel) rfl, by decide +kernel, by decide +kernel, by decide +kernel⟩
theorem mvX9_279 : xMV RX9 279 M_X3_isUneven 0 3 := ⟨mb_X3_isUneven, lw_ok_in 814 (by decide +kernel) rfl, lw_ok_in 815 (by decide +kernel) rfl, lw_ok_in 816 (by decide +kernel) rfl, _, rfl, rfl⟩
theorem mvX3_39 : xMV RX3 39 M_X3_isThere 0 3 := ⟨mb_X3_isThere, lw_ok_in 818 (by decide +kernel) rfl, lw_ok_in 505 (by decide +kernel) rfl, lw_ok_in 506 (by decide +kernel) rfl, _, rfl, rfl⟩
theorem mvX3_43 : xMV RX3 43 M_X3_difference 0 3 := ⟨mb_X3_difference, lw_ok_in 819 (by decide +kernel) rfl, lw_ok_in 738 (by decide +kernel) rfl, lw_ok_in 739 (by decide +kernel) rfl, _, rfl, rfl⟩
theorem mb_X2_start : xMB M_X2_start 0 := ⟨lw_ok_in 823 (by decide +kernel) rfl, lw_ok_in 53 (by decide +kernel) rfl, by decide +kernel, by decide +kernel, by decide +kernel⟩
theorem mvX9_272 : xMV RX9 272 M_X2_start 0 2 := ⟨mb_X2_start, lw_ok_in 820 (by decide +kernel) rfl, lw_ok_in 821 (by decide +kernel) rfl, lw_ok_in 822 (by decide +kernel) rfl, _, rfl, rfl⟩
theorem mb_X2_addBreaks : xMB M_X2_addBreaks 2 := ⟨lw_ok_in 827 (by decide +kernel) rfl, lw_ok_in 53 (by decide +kernel) rfl, by decide +kernel, by decide +kernel, by decide +kernel⟩
theorem mvX9_275 : xMV RX9 275 M_X2_addBreaks 2 2 := ⟨mb_X2_addBreaks, lw_ok_in 824 (by decide +kernel) rfl, lw_ok_in 825 (by decide +kernel) rfl, lw_ok_in 826 (by decide +kernel) rfl, _, rfl, rfl⟩
theorem mvX2_56 : xMV RX2 56 M_X4_isBreak 0 4 := ⟨mb_X4_isBreak, lw_ok_in 828 (by decide +kernel) rfl, lw_ok_in 486 (by decide +kernel) rfl, lw_ok_in 487 (by decide +kernel) rfl, _, rfl, rfl⟩
theorem mb_X2_add : xMB M_X2_add 3 := ⟨lw_ok_in 832 (by decide +kernel) rfl, lw_ok_in 53 (by decide +kernel) rfl, by decide +kernel, by decide +kernel, by decide +kernel⟩
theorem mvX2_67 : xMV RX2 67 M_X2_add 3 2 := ⟨mb_X2_add, lw_ok_in 829 (by decide +kernel) rfl, lw_ok_in 830 (by decide +kernel) rfl, lw_ok_in 831 (by decide +kernel) rfl, _, rfl, rfl⟩
theorem mvX9_282 : xMV RX9 282 M_X2_add 3 2 := ⟨mb_X2_add, lw_ok_in 833 (by decide +kernel) rfl, lw_ok_in 830 (by decide +kernel) rfl, lw_ok_in 831 (by decide +kernel) rfl, _, rfl, rfl⟩
theorem mb_X2_find : xMB M_X2_find 1 := ⟨lw_ok_in 837 (by decide +kernel) rfl, lw_ok_in 53 (by decide +kernel) rfl, by decide +kernel, by decide +kernel, by decide +kernel⟩
theorem mvX9_285 : xMV RX9 285 M_X2_find 1 2 := ⟨mb_X2_find, lw_ok_in 834 (by decide +kernel) rfl, lw_ok_in 835 (by decide +kernel) rfl, lw_ok_in 836 (by decide +kernel) rfl, _, rfl, rfl⟩
theorem mb_X8_start : xMB M_X8_start 0 := ⟨lw_ok_in 841 (by decide +kernel) rfl, lw_ok_in 54 (by decide +kernel) rfl, by decide +kernel, by decide +kernel, by decide +kernel⟩
theorem mvX2_71 : xMV RX2 71 M_X8_start 0 8 := ⟨mb_X8_start, lw_ok_in 838 (by decide +kernel) rfl, lw_ok_in 839 (by decide +kernel) rfl, lw_ok_in 840 (by decide +kernel) rfl, _, rfl, rfl⟩
theorem mb_X8_copy : xMB M_X8_copy 1 := ⟨lw_ok_in 845 (by decide +kernel) rfl, lw_ok_in 54 (by decide +kernel) rfl, by decide +kernel, by decide +kernel, by decide +kernel⟩
theorem mvX2_74 : xMV RX2 74 M_X8_copy 1 8 := ⟨mb_X8_copy, lw_ok_in 842 (by decide +kernel) rfl, lw_ok_in 843 (by decide +kernel) rfl, lw_ok_in 844 (by decide +kernel) rfl, _, rfl, rfl⟩
theorem myX8_22 : xMY RX8 22 := ⟨lw_ok_in 846 (by decide +kernel) rfl, lw_ok_in 596 (by decide +kernel) rfl, lw_ok_in 595 (by decide +kernel) rfl, lw_ok_in 59 (by decide +kernel) rfl⟩
theorem mb_X2_bitOf : xMB M_X2_bitOf 1 := ⟨lw_ok_in 850 (by decide +kernel) rfl, lw_ok_in 53 (by decide +kernel) rfl, by decide +kernel, by decide +kernel, by decide +kernel⟩
theorem msX2_79 : xMS RX2 79 M_X2_bitOf 1 := ⟨mb_X2_bitOf, lw_ok_in 848 (by decide +kernel) rfl, lw_ok_in 849 (by decide +kernel) rfl⟩
theorem mb_X8_merge : xMB M_X8_merge 3 := ⟨lw_ok_in 854 (by decide +kernel) rfl, lw_ok_in 54 (by decide +kernel) rfl, by decide +kernel, by decide +kernel, by decide +kernel⟩
theorem mvX2_83 : xMV RX2 83 M_X8_merge 3 8 := ⟨mb_X8_merge, lw_ok_in 851 (by decide +kernel) rfl, lw_ok_in 852 (by decide +kernel) rfl, lw_ok_in 853 (by decide +kernel) rfl, _, rfl, rfl⟩
theorem mmX8_29 : xMM RX8 29 Lib.Math.min.name Lib.Math.min.code 2 := ⟨lw_ok_in 856 (by decide +kernel) rfl, lw_ok_in 461 (by decide +kernel) rfl, lw_ok_in 57 (by decide +kernel) rfl, lw_ok_in 462 (by decide +kernel) rfl⟩
theorem mb_X8_cheapestWith : xMB M_X8_cheapestWith 2 := ⟨lw_ok_in 860 (by decide +kernel) rfl, lw_ok_in 54 (by decide +kernel) rfl, by decide +kernel, by decide +kernel, by decide +kernel⟩
theorem mvX2_87 : xMV RX2 87 M_X8_cheapestWith 2 8 := ⟨mb_X8_cheapestWith, lw_ok_in 857 (by decide +kernel) rfl, lw_ok_in 858 (by decide +kernel) rfl, lw_ok_in 859 (by decide +kernel) rfl, _, rfl, rfl⟩
theorem mb_X2_choose : xMB M_X2_choose 1 := ⟨lw_ok_in 864 (by decide +kernel) rfl, lw_ok_in 53 (by decide +kernel) rfl, by decide +kernel, by decide +kernel, by decide +kernel⟩
theorem mvX2_91 : xMV RX2 91 M_X2_choose 1 2 := ⟨mb_X2_choose, lw_ok_in 861 (by decide +kernel) rfl, lw_ok_in 863 (by decide +kernel) rfl, lw_ok_in 25 (by decide +kernel) rfl, _, rfl, rfl⟩
theorem mb_X9_explained : xMB M_X9_explained 2 := ⟨lw_ok_in 869 (by decide +kernel) rfl, lw_ok_in 46 (by decide +kernel) rfl, by decide +kernel, by decide +kernel, by decide +kernel⟩
theorem mvL_112 : xMV RL 112 M_X9_explained 2 9 := ⟨mb_X9_explained, lw_ok_in 866 (by decide +kernel) rfl, lw_ok_in 867 (by decide +kernel) rfl, lw_ok_in 868 (by decide +kernel) rfl, _, rfl, rfl⟩
theorem mb_X9_undo : xMB M_X9_undo 0 := ⟨lw_ok_in 873 (by decide +kernel) rfl, lw_ok_in 46 (by decide +kernel) rfl, by decide +kernel, by decide +kernel, by decide +kernel⟩
theorem mvL_116 : xMV RL 116 M_X9_undo 0 9 := ⟨mb_X9_undo, lw_ok_in 870 (by decide +kernel) rfl, lw_ok_in 871 (by decide +kernel) rfl, lw_ok_in 872 (by decide +kernel) rfl, _, rfl, rfl⟩
theorem mb_X0_takeLatest : xMB M_X0_takeLatest 0 := ⟨lw_ok_in 877 (by decide +kernel) rfl, lw_ok_in 49 (by decide +kernel) rfl, by decide +kernel, by decide +kernel, by decide +kernel⟩
theorem mvX9_295 : xMV RX9 295 M_X0_takeLatest 0 0 := ⟨mb_X0_takeLatest, lw_ok_in 874 (by decide +kernel) rfl, lw_ok_in 875 (by decide +kernel) rfl, lw_ok_in 876 (by decide +kernel) rfl, _, rfl, rfl⟩
theorem mb_X9_takeBack : xMB M_X9_takeBack 3 := ⟨lw_ok_in 881 (by decide +kernel) rfl, lw_ok_in 46 (by decide +kernel) rfl, by decide +kernel, by decide +kernel, by decide +kernel⟩
theorem mvX9_307 : xMV RX9 307 M_X9_takeBack 3 9 := ⟨mb_X9_takeBack, lw_ok_in 878 (by decide +kernel) rfl, lw_ok_in 880 (by decide +kernel) rfl, lw_ok_in 26 (by decide +kernel) rfl, _, rfl, rfl⟩
theorem mb_X3_dropLatest : xMB M_X3_dropLatest 0 := ⟨lw_ok_in 885 (by decide +kernel) rfl, lw_ok_in 55 (by decide +kernel) rfl, by decide +kernel, by decide +kernel, by decide +kernel⟩
theorem mvX9_347 : xMV RX9 347 M_X3_dropLatest 0 3 := ⟨mb_X3_dropLatest, lw_ok_in 882 (by decide +kernel) rfl, lw_ok_in 883 (by decide +kernel) rfl, lw_ok_in 884 (by decide +kernel) rfl, _, rfl, rfl⟩
theorem mb_X9_count : xMB M_X9_count 1 := ⟨lw_ok_in 889 (by decide +kernel) rfl, lw_ok_in 46 (by decide +kernel) rfl, by decide +kernel, by decide +kernel, by decide +kernel⟩
theorem mvL_120 : xMV RL 120 M_X9_count 1 9 := ⟨mb_X9_count, lw_ok_in 886 (by decide +kernel) rfl, lw_ok_in 887 (by decide +kernel) rfl, lw_ok_in 888 (by decide +kernel) rfl, _, rfl, rfl⟩
theorem mb_X9_countThere : xMB M_X9_countThere 0 := ⟨lw_ok_in 893 (by decide +kernel) rfl, lw_ok_in 46 (by decide +kernel) rfl, by decide +kernel, by decide +kernel, by decide +kernel⟩
theorem mvX9_310 : xMV RX9 310 M_X9_countThere 0 9 := ⟨mb_X9_countThere, lw_ok_in 890 (by decide +kernel) rfl, lw_ok_in 892 (by decide +kernel) rfl, lw_ok_in 27 (by decide +kernel) rfl, _, rfl, rfl⟩
theorem mb_X9_check : xMB M_X9_check 0 := ⟨lw_ok_in 897 (by decide +kernel) rfl, lw_ok_in 46 (by decide +kernel) rfl, by decide +kernel, by decide +kernel, by decide +kernel⟩
theorem mvL_124 : xMV RL 124 M_X9_check 0 9 := ⟨mb_X9_check, lw_ok_in 894 (by decide +kernel) rfl, lw_ok_in 895 (by decide +kernel) rfl, lw_ok_in 896 (by decide +kernel) rfl, _, rfl, rfl⟩
theorem mb_X1_isHeldRightly : xMB M_X1_isHeldRightly 0 := ⟨lw_ok_in 901 (by decide +kernel) rfl, lw_ok_in 47 (by decide +kernel) rfl, by decide +kernel, by decide +kernel, by decide +kernel⟩
theorem mvX9_313 : xMV RX9 313 M_X1_isHeldRightly 0 1 := ⟨mb_X1_isHeldRightly, lw_ok_in 898 (by decide +kernel) rfl, lw_ok_in 899 (by decide +kernel) rfl, lw_ok_in 900 (by decide +kernel) rfl, _, rfl, rfl⟩
theorem mb_X9_allHaveBothBooks : xMB M_X9_allHaveBothBooks 0 := ⟨lw_ok_in 905 (by decide +kernel) rfl, lw_ok_in 46 (by decide +kernel) rfl, by decide +kernel, by decide +kernel, by decide +kernel⟩
theorem mvX9_316 : xMV RX9 316 M_X9_allHaveBothBooks 0 9 := ⟨mb_X9_allHaveBothBooks, lw_ok_in 902 (by decide +kernel) rfl, lw_ok_in 904 (by decide +kernel) rfl, lw_ok_in 28 (by decide +kernel) rfl, _, rfl, rfl⟩
theorem mb_X3_hasBothBooks : xMB M_X3_hasBothBooks 0 := ⟨lw_ok_in 909 (by decide +kernel) rfl, lw_ok_in 55 (by decide +kernel) rfl, by decide +kernel, by decide +kernel, by decide +kernel⟩
theorem mvX9_353 : xMV RX9 353 M_X3_hasBothBooks 0 3 := ⟨mb_X3_hasBothBooks, lw_ok_in 906 (by decide +kernel) rfl, lw_ok_in 907 (by decide +kernel) rfl, lw_ok_in 908 (by decide +kernel) rfl, _, rfl, rfl⟩
theorem mb_X10_init : xMB M_X10_init 0 := ⟨lw_ok_in 914 (by decide +kernel) rfl, lw_ok_in 56 (by decide +kernel) rfl, by decide +kernel, by decide +kernel, by decide +kernel⟩
theorem miL_12 : xMI RL 12 M_X10_init 0 := ⟨mb_X10_init, lw_ok_in 912 (by decide +kernel) rfl, lw_ok_in 913 (by decide +kernel) rfl, rfl, rfl⟩
theorem moX10_1 : Cond.methodLink RX10 1 Lib.objectInit ∈ lw_ok := lw_ok_in 915 (by decide +kernel) rfl
theorem mb_X10_line : xMB M_X10_line 4 := ⟨lw_ok_in 1063 (by decide +kernel) rfl, lw_ok_in 56 (by decide +kernel) rfl, by decide +kernel, by decide +kernel, by decide +kernel⟩
theorem mvL_17 : xMV RL 17 M_X10_line 4 10 := ⟨mb_X10_line, lw_ok_in 1060 (by decide +kernel) rfl, lw_ok_in 1061 (by decide +kernel) rfl, lw_ok_in 1062 (by decide +kernel) rfl, _, rfl, rfl⟩
theorem mb_X10_within : xMB M_X10_within 3 := ⟨lw_ok_in 1066 (by decide +kernel) rfl, lw_ok_in 56 (by decide +kernel) rfl, by decide +kernel, by decide +kernel, by decide +kernel⟩
theorem msX10_116 : xMS RX10 116 M_X10_within 3 := ⟨mb_X10_within, lw_ok_in 1064 (by decide +kernel) rfl, lw_ok_in 1065 (by decide +kernel) rfl⟩
theorem mb_X10_did : xMB M_X10_did 3 := ⟨lw_ok_in 1073 (by decide +kernel) rfl, lw_ok_in 56 (by decide +kernel) rfl, by decide +kernel, by decide +kernel, by decide +kernel⟩
theorem mvX10_139 : xMV RX10 139 M_X10_did 3 10 := ⟨mb_X10_did, lw_ok_in 1070 (by decide +kernel) rfl, lw_ok_in 1072 (by decide +kernel) rfl, lw_ok_in 29 (by decide +kernel) rfl, _, rfl, rfl⟩
theorem mb_X10_today : xMB M_X10_today 1 := ⟨lw_ok_in 1077 (by decide +kernel) rfl, lw_ok_in 56 (by decide +kernel) rfl, by decide +kernel, by decide +kernel, by decide +kernel⟩
theorem mvL_22 : xMV RL 22 M_X10_today 1 10 := ⟨mb_X10_today, lw_ok_in 1074 (by decide +kernel) rfl, lw_ok_in 1075 (by decide +kernel) rfl, lw_ok_in 1076 (by decide +kernel) rfl, _, rfl, rfl⟩
theorem mb_X10_changed : xMB M_X10_changed 0 := ⟨lw_ok_in 1082 (by decide +kernel) rfl, lw_ok_in 56 (by decide +kernel) rfl, by decide +kernel, by decide +kernel, by decide +kernel⟩
theorem mvX10_144 : xMV RX10 144 M_X10_changed 0 10 := ⟨mb_X10_changed, lw_ok_in 1079 (by decide +kernel) rfl, lw_ok_in 1081 (by decide +kernel) rfl, lw_ok_in 30 (by decide +kernel) rfl, _, rfl, rfl⟩
theorem mb_X10_terms : xMB M_X10_terms 2 := ⟨lw_ok_in 1086 (by decide +kernel) rfl, lw_ok_in 56 (by decide +kernel) rfl, by decide +kernel, by decide +kernel, by decide +kernel⟩
theorem mvL_27 : xMV RL 27 M_X10_terms 2 10 := ⟨mb_X10_terms, lw_ok_in 1083 (by decide +kernel) rfl, lw_ok_in 1084 (by decide +kernel) rfl, lw_ok_in 1085 (by decide +kernel) rfl, _, rfl, rfl⟩
theorem mb_X10_told : xMB M_X10_told 3 := ⟨lw_ok_in 1090 (by decide +kernel) rfl, lw_ok_in 56 (by decide +kernel) rfl, by decide +kernel, by decide +kernel, by decide +kernel⟩
theorem mvL_32 : xMV RL 32 M_X10_told 3 10 := ⟨mb_X10_told, lw_ok_in 1087 (by decide +kernel) rfl, lw_ok_in 1088 (by decide +kernel) rfl, lw_ok_in 1089 (by decide +kernel) rfl, _, rfl, rfl⟩
theorem mb_X10_isLine : xMB M_X10_isLine 2 := ⟨lw_ok_in 1094 (by decide +kernel) rfl, lw_ok_in 56 (by decide +kernel) rfl, by decide +kernel, by decide +kernel, by decide +kernel⟩
theorem mvX10_150 : xMV RX10 150 M_X10_isLine 2 10 := ⟨mb_X10_isLine, lw_ok_in 1091 (by decide +kernel) rfl, lw_ok_in 1093 (by decide +kernel) rfl, lw_ok_in 31 (by decide +kernel) rfl, _, rfl, rfl⟩
theorem mb_X10_fit : xMB M_X10_fit 2 := ⟨lw_ok_in 1099 (by decide +kernel) rfl, lw_ok_in 56 (by decide +kernel) rfl, by decide +kernel, by decide +kernel, by decide +kernel⟩
theorem mvL_36 : xMV RL 36 M_X10_fit 2 10 := ⟨mb_X10_fit, lw_ok_in 1096 (by decide +kernel) rfl, lw_ok_in 1097 (by decide +kernel) rfl, lw_ok_in 1098 (by decide +kernel) rfl, _, rfl, rfl⟩
theorem mb_X10_fitOf : xMB M_X10_fitOf 2 := ⟨lw_ok_in 1103 (by decide +kernel) rfl, lw_ok_in 56 (by decide +kernel) rfl, by decide +kernel, by decide +kernel, by decide +kernel⟩
theorem mvX10_162 : xMV RX10 162 M_X10_fitOf 2 10 := ⟨mb_X10_fitOf, lw_ok_in 1100 (by decide +kernel) rfl, lw_ok_in 1102 (by decide +kernel) rfl, lw_ok_in 32 (by decide +kernel) rfl, _, rfl, rfl⟩
theorem mb_X10_apart : xMB M_X10_apart 2 := ⟨lw_ok_in 1106 (by decide +kernel) rfl, lw_ok_in 56 (by decide +kernel) rfl, by decide +kernel, by decide +kernel, by decide +kernel⟩
theorem msX10_155 : xMS RX10 155 M_X10_apart 2 := ⟨mb_X10_apart, lw_ok_in 1104 (by decide +kernel) rfl, lw_ok_in 1105 (by decide +kernel) rfl⟩
theorem mb_X10_hasWord : xMB M_X10_hasWord 3 := ⟨lw_ok_in 1110 (by decide +kernel) rfl, lw_ok_in 56 (by decide +kernel) rfl, by decide +kernel, by decide +kernel, by decide +kernel⟩
theorem mvX10_159 : xMV RX10 159 M_X10_hasWord 3 10 := ⟨mb_X10_hasWord, lw_ok_in 1107 (by decide +kernel) rfl, lw_ok_in 1109 (by decide +kernel) rfl, lw_ok_in 33 (by decide +kernel) rfl, _, rfl, rfl⟩
theorem mb_X10_best : xMB M_X10_best 0 := ⟨lw_ok_in 1114 (by decide +kernel) rfl, lw_ok_in 56 (by decide +kernel) rfl, by decide +kernel, by decide +kernel, by decide +kernel⟩
theorem mvL_41 : xMV RL 41 M_X10_best 0 10 := ⟨mb_X10_best, lw_ok_in 1111 (by decide +kernel) rfl, lw_ok_in 1112 (by decide +kernel) rfl, lw_ok_in 1113 (by decide +kernel) rfl, _, rfl, rfl⟩
theorem mb_X10_breaksOf : xMB M_X10_breaksOf 4 := ⟨lw_ok_in 1117 (by decide +kernel) rfl, lw_ok_in 56 (by decide +kernel) rfl, by decide +kernel, by decide +kernel, by decide +kernel⟩
theorem msX10_171 : xMS RX10 171 M_X10_breaksOf 4 := ⟨mb_X10_breaksOf, lw_ok_in 1115 (by decide +kernel) rfl, lw_ok_in 1116 (by decide +kernel) rfl⟩
theorem mb_X10_reckon : xMB M_X10_reckon 2 := ⟨lw_ok_in 1121 (by decide +kernel) rfl, lw_ok_in 56 (by decide +kernel) rfl, by decide +kernel, by decide +kernel, by decide +kernel⟩
theorem mvX10_175 : xMV RX10 175 M_X10_reckon 2 10 := ⟨mb_X10_reckon, lw_ok_in 1118 (by decide +kernel) rfl, lw_ok_in 1120 (by decide +kernel) rfl, lw_ok_in 34 (by decide +kernel) rfl, _, rfl, rfl⟩
theorem mb_X10_with : xMB M_X10_with 1 := ⟨lw_ok_in 1125 (by decide +kernel) rfl, lw_ok_in 56 (by decide +kernel) rfl, by decide +kernel, by decide +kernel, by decide +kernel⟩
theorem mvL_45 : xMV RL 45 M_X10_with 1 10 := ⟨mb_X10_with, lw_ok_in 1122 (by decide +kernel) rfl, lw_ok_in 1123 (by decide +kernel) rfl, lw_ok_in 1124 (by decide +kernel) rfl, _, rfl, rfl⟩
theorem mb_X10_paired : xMB M_X10_paired 1 := ⟨lw_ok_in 1129 (by decide +kernel) rfl, lw_ok_in 56 (by decide +kernel) rfl, by decide +kernel, by decide +kernel, by decide +kernel⟩
theorem mvX10_181 : xMV RX10 181 M_X10_paired 1 10 := ⟨mb_X10_paired, lw_ok_in 1126 (by decide +kernel) rfl, lw_ok_in 1128 (by decide +kernel) rfl, lw_ok_in 35 (by decide +kernel) rfl, _, rfl, rfl⟩
theorem mb_X10_rival : xMB M_X10_rival 1 := ⟨lw_ok_in 1133 (by decide +kernel) rfl, lw_ok_in 56 (by decide +kernel) rfl, by decide +kernel, by decide +kernel, by decide +kernel⟩
theorem mvL_49 : xMV RL 49 M_X10_rival 1 10 := ⟨mb_X10_rival, lw_ok_in 1130 (by decide +kernel) rfl, lw_ok_in 1131 (by decide +kernel) rfl, lw_ok_in 1132 (by decide +kernel) rfl, _, rfl, rfl⟩
theorem mb_X10_withoutPair : xMB M_X10_withoutPair 1 := ⟨lw_ok_in 1137 (by decide +kernel) rfl, lw_ok_in 56 (by decide +kernel) rfl, by decide +kernel, by decide +kernel, by decide +kernel⟩
theorem mvX10_185 : xMV RX10 185 M_X10_withoutPair 1 10 := ⟨mb_X10_withoutPair, lw_ok_in 1134 (by decide +kernel) rfl, lw_ok_in 1136 (by decide +kernel) rfl, lw_ok_in 36 (by decide +kernel) rfl, _, rfl, rfl⟩
theorem mb_X10_pair : xMB M_X10_pair 1 := ⟨lw_ok_in 1141 (by decide +kernel) rfl, lw_ok_in 56 (by decide +kernel) rfl, by decide +kernel, by decide +kernel, by decide +kernel⟩
theorem mvL_53 : xMV RL 53 M_X10_pair 1 10 := ⟨mb_X10_pair, lw_ok_in 1138 (by decide +kernel) rfl, lw_ok_in 1139 (by decide +kernel) rfl, lw_ok_in 1140 (by decide +kernel) rfl, _, rfl, rfl⟩
theorem mb_X10_newGroup : xMB M_X10_newGroup 1 := ⟨lw_ok_in 1145 (by decide +kernel) rfl, lw_ok_in 56 (by decide +kernel) rfl, by decide +kernel, by decide +kernel, by decide +kernel⟩
theorem mvX10_188 : xMV RX10 188 M_X10_newGroup 1 10 := ⟨mb_X10_newGroup, lw_ok_in 1142 (by decide +kernel) rfl, lw_ok_in 1144 (by decide +kernel) rfl, lw_ok_in 37 (by decide +kernel) rfl, _, rfl, rfl⟩
theorem mb_X10_add : xMB M_X10_add 2 := ⟨lw_ok_in 1149 (by decide +kernel) rfl, lw_ok_in 56 (by decide +kernel) rfl, by decide +kernel, by decide +kernel, by decide +kernel⟩
theorem mvX10_191 : xMV RX10 191 M_X10_add 2 10 := ⟨mb_X10_add, lw_ok_in 1146 (by decide +kernel) rfl, lw_ok_in 1148 (by decide +kernel) rfl, lw_ok_in 38 (by decide +kernel) rfl, _, rfl, rfl⟩
theorem mb_X10_sets : xMB M_X10_sets 4 := ⟨lw_ok_in 1153 (by decide +kernel) rfl, lw_ok_in 56 (by decide +kernel) rfl, by decide +kernel, by decide +kernel, by decide +kernel⟩
theorem mvL_57 : xMV RL 57 M_X10_sets 4 10 := ⟨mb_X10_sets, lw_ok_in 1150 (by decide +kernel) rfl, lw_ok_in 1151 (by decide +kernel) rfl, lw_ok_in 1152 (by decide +kernel) rfl, _, rfl, rfl⟩
theorem mb_X10_choose : xMB M_X10_choose 6 := ⟨lw_ok_in 1157 (by decide +kernel) rfl, lw_ok_in 56 (by decide +kernel) rfl, by decide +kernel, by decide +kernel, by decide +kernel⟩
theorem mvX10_204 : xMV RX10 204 M_X10_choose 6 10 := ⟨mb_X10_choose, lw_ok_in 1154 (by decide +kernel) rfl, lw_ok_in 1156 (by decide +kernel) rfl, lw_ok_in 39 (by decide +kernel) rfl, _, rfl, rfl⟩
theorem mb_X10_size : xMB M_X10_size 1 := ⟨lw_ok_in 1161 (by decide +kernel) rfl, lw_ok_in 56 (by decide +kernel) rfl, by decide +kernel, by decide +kernel, by decide +kernel⟩
theorem mvL_61 : xMV RL 61 M_X10_size 1 10 := ⟨mb_X10_size, lw_ok_in 1158 (by decide +kernel) rfl, lw_ok_in 1159 (by decide +kernel) rfl, lw_ok_in 1160 (by decide +kernel) rfl, _, rfl, rfl⟩
theorem mb_X10_in : xMB M_X10_in 2 := ⟨lw_ok_in 1165 (by decide +kernel) rfl, lw_ok_in 56 (by decide +kernel) rfl, by decide +kernel, by decide +kernel, by decide +kernel⟩
theorem mvL_65 : xMV RL 65 M_X10_in 2 10 := ⟨mb_X10_in, lw_ok_in 1162 (by decide +kernel) rfl, lw_ok_in 1163 (by decide +kernel) rfl, lw_ok_in 1164 (by decide +kernel) rfl, _, rfl, rfl⟩
theorem mb_X10_set : xMB M_X10_set 1 := ⟨lw_ok_in 1169 (by decide +kernel) rfl, lw_ok_in 56 (by decide +kernel) rfl, by decide +kernel, by decide +kernel, by decide +kernel⟩
theorem mvL_69 : xMV RL 69 M_X10_set 1 10 := ⟨mb_X10_set, lw_ok_in 1166 (by decide +kernel) rfl, lw_ok_in 1167 (by decide +kernel) rfl, lw_ok_in 1168 (by decide +kernel) rfl, _, rfl, rfl⟩
theorem mb_X10_hand : xMB M_X10_hand 2 := ⟨lw_ok_in 1173 (by decide +kernel) rfl, lw_ok_in 56 (by decide +kernel) rfl, by decide +kernel, by decide +kernel, by decide +kernel⟩
theorem mvL_73 : xMV RL 73 M_X10_hand 2 10 := ⟨mb_X10_hand, lw_ok_in 1170 (by decide +kernel) rfl, lw_ok_in 1171 (by decide +kernel) rfl, lw_ok_in 1172 (by decide +kernel) rfl, _, rfl, rfl⟩
theorem mb_X10_join : xMB M_X10_join 3 := ⟨lw_ok_in 1177 (by decide +kernel) rfl, lw_ok_in 56 (by decide +kernel) rfl, by decide +kernel, by decide +kernel, by decide +kernel⟩
theorem mvL_77 : xMV RL 77 M_X10_join 3 10 := ⟨mb_X10_join, lw_ok_in 1174 (by decide +kernel) rfl, lw_ok_in 1175 (by decide +kernel) rfl, lw_ok_in 1176 (by decide +kernel) rfl, _, rfl, rfl⟩
theorem mb_X10_isThere : xMB M_X10_isThere 1 := ⟨lw_ok_in 1181 (by decide +kernel) rfl, lw_ok_in 56 (by decide +kernel) rfl, by decide +kernel, by decide +kernel, by decide +kernel⟩
theorem mvX10_208 : xMV RX10 208 M_X10_isThere 1 10 := ⟨mb_X10_isThere, lw_ok_in 1178 (by decide +kernel) rfl, lw_ok_in 1180 (by decide +kernel) rfl, lw_ok_in 40 (by decide +kernel) rfl, _, rfl, rfl⟩
theorem mb_X10_part : xMB M_X10_part 1 := ⟨lw_ok_in 1185 (by decide +kernel) rfl, lw_ok_in 56 (by decide +kernel) rfl, by decide +kernel, by decide +kernel, by decide +kernel⟩
theorem mvL_81 : xMV RL 81 M_X10_part 1 10 := ⟨mb_X10_part, lw_ok_in 1182 (by decide +kernel) rfl, lw_ok_in 1183 (by decide +kernel) rfl, lw_ok_in 1184 (by decide +kernel) rfl, _, rfl, rfl⟩
theorem mb_X10_lock : xMB M_X10_lock 2 := ⟨lw_ok_in 1189 (by decide +kernel) rfl, lw_ok_in 56 (by decide +kernel) rfl, by decide +kernel, by decide +kernel, by decide +kernel⟩
theorem mvL_85 : xMV RL 85 M_X10_lock 2 10 := ⟨mb_X10_lock, lw_ok_in 1186 (by decide +kernel) rfl, lw_ok_in 1187 (by decide +kernel) rfl, lw_ok_in 1188 (by decide +kernel) rfl, _, rfl, rfl⟩
theorem mb_X10_group : xMB M_X10_group 2 := ⟨lw_ok_in 1193 (by decide +kernel) rfl, lw_ok_in 56 (by decide +kernel) rfl, by decide +kernel, by decide +kernel, by decide +kernel⟩
theorem mvL_89 : xMV RL 89 M_X10_group 2 10 := ⟨mb_X10_group, lw_ok_in 1190 (by decide +kernel) rfl, lw_ok_in 1191 (by decide +kernel) rfl, lw_ok_in 1192 (by decide +kernel) rfl, _, rfl, rfl⟩
theorem mb_X10_differenceOf : xMB M_X10_differenceOf 1 := ⟨lw_ok_in 1198 (by decide +kernel) rfl, lw_ok_in 56 (by decide +kernel) rfl, by decide +kernel, by decide +kernel, by decide +kernel⟩
theorem mvX10_213 : xMV RX10 213 M_X10_differenceOf 1 10 := ⟨mb_X10_differenceOf, lw_ok_in 1195 (by decide +kernel) rfl, lw_ok_in 1197 (by decide +kernel) rfl, lw_ok_in 41 (by decide +kernel) rfl, _, rfl, rfl⟩
theorem mb_X10_breaks : xMB M_X10_breaks 2 := ⟨lw_ok_in 1202 (by decide +kernel) rfl, lw_ok_in 56 (by decide +kernel) rfl, by decide +kernel, by decide +kernel, by decide +kernel⟩
theorem mvL_93 : xMV RL 93 M_X10_breaks 2 10 := ⟨mb_X10_breaks, lw_ok_in 1199 (by decide +kernel) rfl, lw_ok_in 1200 (by decide +kernel) rfl, lw_ok_in 1201 (by decide +kernel) rfl, _, rfl, rfl⟩
theorem mb_X10_broken : xMB M_X10_broken 2 := ⟨lw_ok_in 1206 (by decide +kernel) rfl, lw_ok_in 56 (by decide +kernel) rfl, by decide +kernel, by decide +kernel, by decide +kernel⟩
theorem mvL_97 : xMV RL 97 M_X10_broken 2 10 := ⟨mb_X10_broken, lw_ok_in 1203 (by decide +kernel) rfl, lw_ok_in 1204 (by decide +kernel) rfl, lw_ok_in 1205 (by decide +kernel) rfl, _, rfl, rfl⟩
theorem mb_X10_sum : xMB M_X10_sum 1 := ⟨lw_ok_in 1210 (by decide +kernel) rfl, lw_ok_in 56 (by decide +kernel) rfl, by decide +kernel, by decide +kernel, by decide +kernel⟩
theorem mvL_102 : xMV RL 102 M_X10_sum 1 10 := ⟨mb_X10_sum, lw_ok_in 1207 (by decide +kernel) rfl, lw_ok_in 1208 (by decide +kernel) rfl, lw_ok_in 1209 (by decide +kernel) rfl, _, rfl, rfl⟩
theorem mb_X10_as : xMB M_X10_as 2 := ⟨lw_ok_in 1214 (by decide +kernel) rfl, lw_ok_in 56 (by decide +kernel) rfl, by decide +kernel, by decide +kernel, by decide +kernel⟩
theorem mvL_107 : xMV RL 107 M_X10_as 2 10 := ⟨mb_X10_as, lw_ok_in 1211 (by decide +kernel) rfl, lw_ok_in 1212 (by decide +kernel) rfl, lw_ok_in 1213 (by decide +kernel) rfl, _, rfl, rfl⟩
theorem mb_X10_wasThere : xMB M_X10_wasThere 2 := ⟨lw_ok_in 1219 (by decide +kernel) rfl, lw_ok_in 56 (by decide +kernel) rfl, by decide +kernel, by decide +kernel, by decide +kernel⟩
theorem mvX10_219 : xMV RX10 219 M_X10_wasThere 2 10 := ⟨mb_X10_wasThere, lw_ok_in 1216 (by decide +kernel) rfl, lw_ok_in 1218 (by decide +kernel) rfl, lw_ok_in 42 (by decide +kernel) rfl, _, rfl, rfl⟩
theorem mb_X10_explain : xMB M_X10_explain 0 := ⟨lw_ok_in 1223 (by decide +kernel) rfl, lw_ok_in 56 (by decide +kernel) rfl, by decide +kernel, by decide +kernel, by decide +kernel⟩
theorem mvL_111 : xMV RL 111 M_X10_explain 0 10 := ⟨mb_X10_explain, lw_ok_in 1220 (by decide +kernel) rfl, lw_ok_in 1221 (by decide +kernel) rfl, lw_ok_in 1222 (by decide +kernel) rfl, _, rfl, rfl⟩
theorem mb_X10_addItem : xMB M_X10_addItem 4 := ⟨lw_ok_in 1227 (by decide +kernel) rfl, lw_ok_in 56 (by decide +kernel) rfl, by decide +kernel, by decide +kernel, by decide +kernel⟩
theorem mvX10_226 : xMV RX10 226 M_X10_addItem 4 10 := ⟨mb_X10_addItem, lw_ok_in 1224 (by decide +kernel) rfl, lw_ok_in 1226 (by decide +kernel) rfl, lw_ok_in 43 (by decide +kernel) rfl, _, rfl, rfl⟩
theorem mvX10_229 : xMV RX10 229 M_X10_sum 1 10 := ⟨mb_X10_sum, lw_ok_in 1228 (by decide +kernel) rfl, lw_ok_in 1208 (by decide +kernel) rfl, lw_ok_in 1209 (by decide +kernel) rfl, _, rfl, rfl⟩
theorem mb_X10_find : xMB M_X10_find 4 := ⟨lw_ok_in 1232 (by decide +kernel) rfl, lw_ok_in 56 (by decide +kernel) rfl, by decide +kernel, by decide +kernel, by decide +kernel⟩
theorem mvX10_222 : xMV RX10 222 M_X10_find 4 10 := ⟨mb_X10_find, lw_ok_in 1229 (by decide +kernel) rfl, lw_ok_in 1231 (by decide +kernel) rfl, lw_ok_in 44 (by decide +kernel) rfl, _, rfl, rfl⟩
theorem mb_X10_explained : xMB M_X10_explained 2 := ⟨lw_ok_in 1236 (by decide +kernel) rfl, lw_ok_in 56 (by decide +kernel) rfl, by decide +kernel, by decide +kernel, by decide +kernel⟩
theorem mvL_115 : xMV RL 115 M_X10_explained 2 10 := ⟨mb_X10_explained, lw_ok_in 1233 (by decide +kernel) rfl, lw_ok_in 1234 (by decide +kernel) rfl, lw_ok_in 1235 (by decide +kernel) rfl, _, rfl, rfl⟩
theorem mb_X10_undo : xMB M_X10_undo 0 := ⟨lw_ok_in 1240 (by decide +kernel) rfl, lw_ok_in 56 (by decide +kernel) rfl, by decide +kernel, by decide +kernel, by decide +kernel⟩
theorem mvL_119 : xMV RL 119 M_X10_undo 0 10 := ⟨mb_X10_undo, lw_ok_in 1237 (by decide +kernel) rfl, lw_ok_in 1238 (by decide +kernel) rfl, lw_ok_in 1239 (by decide +kernel) rfl, _, rfl, rfl⟩
theorem mb_X10_count : xMB M_X10_count 1 := ⟨lw_ok_in 1244 (by decide +kernel) rfl, lw_ok_in 56 (by decide +kernel) rfl, by decide +kernel, by decide +kernel, by decide +kernel⟩
theorem mvL_123 : xMV RL 123 M_X10_count 1 10 := ⟨mb_X10_count, lw_ok_in 1241 (by decide +kernel) rfl, lw_ok_in 1242 (by decide +kernel) rfl, lw_ok_in 1243 (by decide +kernel) rfl, _, rfl, rfl⟩
theorem mb_X10_check : xMB M_X10_check 0 := ⟨lw_ok_in 1248 (by decide +kernel) rfl, lw_ok_in 56 (by decide +kernel) rfl, by decide +kernel, by decide +kernel, by decide +kernel⟩
theorem mvL_127 : xMV RL 127 M_X10_check 0 10 := ⟨mb_X10_check, lw_ok_in 1245 (by decide +kernel) rfl, lw_ok_in 1246 (by decide +kernel) rfl, lw_ok_in 1247 (by decide +kernel) rfl, _, rfl, rfl⟩
theorem mo_i : Cond.instanceMethod Lib.objectInit ∈ lw_ok := lw_ok_in 66 (by decide +kernel) rfl
theorem mo_c : Cond.code Lib.objectInit ⟨#[0xb1]⟩ 1 none ∈ lw_ok := lw_ok_in 67 (by decide +kernel) rfl
theorem kcX9_73 : Cond.constant RX9 73 (-1000000) ∈ lw_ok := lw_ok_in 442 (by decide +kernel) rfl
theorem kcX9_74 : Cond.constant RX9 74 (1000000) ∈ lw_ok := lw_ok_in 443 (by decide +kernel) rfl
theorem kcX9_79 : Cond.constant RX9 79 (99999999) ∈ lw_ok := lw_ok_in 447 (by decide +kernel) rfl
theorem kcX9_97 : Cond.constant RX9 97 (99999) ∈ lw_ok := lw_ok_in 467 (by decide +kernel) rfl
theorem kcX9_105 : Cond.constant RX9 105 (-2000000) ∈ lw_ok := lw_ok_in 484 (by decide +kernel) rfl
theorem kcX6_69 : Cond.constant RX6 69 (1000000000) ∈ lw_ok := lw_ok_in 556 (by decide +kernel) rfl
theorem kcX9_238 : Cond.constant RX9 238 (-20000000) ∈ lw_ok := lw_ok_in 736 (by decide +kernel) rfl
theorem kcX9_258 : Cond.constantLong RX9 258 (-2000000000000) ∈ lw_ok := lw_ok_in 777 (by decide +kernel) rfl
theorem kcX2_78 : Cond.constant RX2 78 (262144) ∈ lw_ok := lw_ok_in 847 (by decide +kernel) rfl
theorem kcX8_28 : Cond.constant RX8 28 (1000000000) ∈ lw_ok := lw_ok_in 855 (by decide +kernel) rfl
theorem kcX2_95 : Cond.constant RX2 95 (262143) ∈ lw_ok := lw_ok_in 865 (by decide +kernel) rfl
theorem kcX10_63 : Cond.constant RX10 63 (245760) ∈ lw_ok := lw_ok_in 916 (by decide +kernel) rfl
theorem kcX10_133 : Cond.constant RX10 133 (-1000000) ∈ lw_ok := lw_ok_in 1067 (by decide +kernel) rfl
theorem kcX10_134 : Cond.constant RX10 134 (1000000) ∈ lw_ok := lw_ok_in 1068 (by decide +kernel) rfl
theorem kcX10_135 : Cond.constant RX10 135 (99999999) ∈ lw_ok := lw_ok_in 1069 (by decide +kernel) rfl
theorem kcX10_143 : Cond.constant RX10 143 (99999) ∈ lw_ok := lw_ok_in 1078 (by decide +kernel) rfl
theorem kcX10_154 : Cond.constant RX10 154 (-2000000) ∈ lw_ok := lw_ok_in 1095 (by decide +kernel) rfl
theorem kcX10_212 : Cond.constant RX10 212 (-20000000) ∈ lw_ok := lw_ok_in 1194 (by decide +kernel) rfl
theorem kcX10_217 : Cond.constantLong RX10 217 (-2000000000000) ∈ lw_ok := lw_ok_in 1215 (by decide +kernel) rfl
theorem ac_int : Cond.arrayClass .int ∈ lw_ok := lw_ok_in 173 (by decide +kernel) rfl
theorem ac_bool : Cond.arrayClass .boolean ∈ lw_ok := lw_ok_in 227 (by decide +kernel) rfl
theorem ac_long : Cond.arrayClass .long ∈ lw_ok := lw_ok_in 1059 (by decide +kernel) rfl
theorem clL_7 : Cond.classLink RL 7 RX9 ∈ lw_ok := lw_ok_in 60 (by decide +kernel) rfl
theorem clX9_7 : Cond.classLink RX9 7 RX1 ∈ lw_ok := lw_ok_in 68 (by decide +kernel) rfl
theorem clX1_9 : Cond.classLink RX1 9 RX4 ∈ lw_ok := lw_ok_in 75 (by decide +kernel) rfl
theorem clX9_18 : Cond.classLink RX9 18 RX3 ∈ lw_ok := lw_ok_in 145 (by decide +kernel) rfl
theorem clX9_24 : Cond.classLink RX9 24 RX0 ∈ lw_ok := lw_ok_in 147 (by decide +kernel) rfl
theorem clX9_31 : Cond.classLink RX9 31 RX5 ∈ lw_ok := lw_ok_in 174 (by decide +kernel) rfl
theorem clX5_9 : Cond.classLink RX5 9 RX6 ∈ lw_ok := lw_ok_in 180 (by decide +kernel) rfl
theorem clX6_9 : Cond.classLink RX6 9 "[[I" ∈ lw_ok := lw_ok_in 186 (by decide +kernel) rfl
theorem clX9_38 : Cond.classLink RX9 38 RX7 ∈ lw_ok := lw_ok_in 265 (by decide +kernel) rfl
theorem clX9_45 : Cond.classLink RX9 45 RX2 ∈ lw_ok := lw_ok_in 315 (by decide +kernel) rfl
theorem clX2_21 : Cond.classLink RX2 21 RX8 ∈ lw_ok := lw_ok_in 321 (by decide +kernel) rfl
theorem clX3_9 : Cond.classLink RX3 9 RX4 ∈ lw_ok := lw_ok_in 376 (by decide +kernel) rfl
theorem clL_10 : Cond.classLink RL 10 RX10 ∈ lw_ok := lw_ok_in 910 (by decide +kernel) rfl
theorem inX9 : Cond.instantiable RX9 11 ∈ lw_ok := lw_ok_in 61 (by decide +kernel) rfl
theorem inX1 : Cond.instantiable RX1 2 ∈ lw_ok := lw_ok_in 70 (by decide +kernel) rfl
theorem inX4 : Cond.instantiable RX4 9 ∈ lw_ok := lw_ok_in 77 (by decide +kernel) rfl
theorem inX0 : Cond.instantiable RX0 5 ∈ lw_ok := lw_ok_in 148 (by decide +kernel) rfl
theorem inX5 : Cond.instantiable RX5 9 ∈ lw_ok := lw_ok_in 175 (by decide +kernel) rfl
theorem inX6 : Cond.instantiable RX6 12 ∈ lw_ok := lw_ok_in 181 (by decide +kernel) rfl
theorem inX7 : Cond.instantiable RX7 13 ∈ lw_ok := lw_ok_in 266 (by decide +kernel) rfl
theorem inX2 : Cond.instantiable RX2 10 ∈ lw_ok := lw_ok_in 316 (by decide +kernel) rfl
theorem inX8 : Cond.instantiable RX8 3 ∈ lw_ok := lw_ok_in 322 (by decide +kernel) rfl
theorem inX3 : Cond.instantiable RX3 6 ∈ lw_ok := lw_ok_in 371 (by decide +kernel) rfl
theorem inX10 : Cond.instantiable RX10 47 ∈ lw_ok := lw_ok_in 911 (by decide +kernel) rfl
theorem izL : Cond.initialized RL ∈ lw_ok := lw_ok_in 45 (by decide +kernel) rfl
theorem izX9 : Cond.initialized RX9 ∈ lw_ok := lw_ok_in 46 (by decide +kernel) rfl
theorem izX1 : Cond.initialized RX1 ∈ lw_ok := lw_ok_in 47 (by decide +kernel) rfl
theorem izX4 : Cond.initialized RX4 ∈ lw_ok := lw_ok_in 48 (by decide +kernel) rfl
theorem izX0 : Cond.initialized RX0 ∈ lw_ok := lw_ok_in 49 (by decide +kernel) rfl
theorem izX5 : Cond.initialized RX5 ∈ lw_ok := lw_ok_in 50 (by decide +kernel) rfl
theorem izX6 : Cond.initialized RX6 ∈ lw_ok := lw_ok_in 51 (by decide +kernel) rfl
theorem izX7 : Cond.initialized RX7 ∈ lw_ok := lw_ok_in 52 (by decide +kernel) rfl
theorem izX2 : Cond.initialized RX2 ∈ lw_ok := lw_ok_in 53 (by decide +kernel) rfl
theorem izX8 : Cond.initialized RX8 ∈ lw_ok := lw_ok_in 54 (by decide +kernel) rfl
theorem izX3 : Cond.initialized RX3 ∈ lw_ok := lw_ok_in 55 (by decide +kernel) rfl
theorem izX10 : Cond.initialized RX10 ∈ lw_ok := lw_ok_in 56 (by decide +kernel) rfl
theorem izJ9 : Cond.initialized RJ9 ∈ lw_ok := lw_ok_in 57 (by decide +kernel) rfl
theorem izJ7 : Cond.initialized RJ7 ∈ lw_ok := lw_ok_in 58 (by decide +kernel) rfl
theorem izJ10 : Cond.initialized RJ10 ∈ lw_ok := lw_ok_in 59 (by decide +kernel) rfl
