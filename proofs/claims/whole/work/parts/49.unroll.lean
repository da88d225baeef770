/-! one round of each loop -/
theorem u_X9_init_b34 (n : Nat) : f_X9_init_b34  (n + 1) = g_X9_init_b34 (f_X9_init_b34  n) := rfl
theorem u_X8_copy_b24 (n : Nat) : f_X8_copy_b24  (n + 1) = g_X8_copy_b24 (f_X8_copy_b24  n) := rfl
theorem u_X1_begin_b79 (n : Nat) : f_X1_begin_b79  (n + 1) = g_X1_begin_b79 (f_X1_begin_b79  n) := rfl
theorem u_X4_load_b19 (n : Nat) : f_X4_load_b19  (n + 1) = g_X4_load_b19 (f_X4_load_b19  n) := rfl
theorem u_X4_fits_b210 (ks : jw_H → Nat → Int32 → Int32 → Int32 → Option (Int32 × jw_H)) (n : Nat) : f_X4_fits_b210 ks (n + 1) = g_X4_fits_b210 ks (f_X4_fits_b210 ks n) := rfl
theorem u_X4_fits_b282 (ks : jw_H → Nat → Int32 → Int32 → Int32 → Option (Int32 × jw_H)) (k77 : jw_H → Nat → Int32 → Int32 → Int32 → Int32 → Option (Int32 × jw_H)) (n : Nat) : f_X4_fits_b282 ks k77 (n + 1) = g_X4_fits_b282 ks k77 (f_X4_fits_b282 ks k77 n) := rfl
theorem u_X4_fits_b77 (ks : jw_H → Nat → Int32 → Int32 → Int32 → Option (Int32 × jw_H)) (n : Nat) : f_X4_fits_b77 ks (n + 1) = g_X4_fits_b77 ks (f_X4_fits_b77 ks n) := rfl
theorem u_X4_fits (n : Nat) : f_X4_fits  (n + 1) = g_X4_fits (f_X4_fits  n) := rfl
theorem u_X4_search_b3 (n : Nat) : f_X4_search_b3  (n + 1) = g_X4_search_b3 (f_X4_search_b3  n) := rfl
theorem u_X6_placeBehind_b2 (n : Nat) : f_X6_placeBehind_b2  (n + 1) = g_X6_placeBehind_b2 (f_X6_placeBehind_b2  n) := rfl
theorem u_X2_appendPut_b5 (n : Nat) : f_X2_appendPut_b5  (n + 1) = g_X2_appendPut_b5 (f_X2_appendPut_b5  n) := rfl
theorem u_X2_replace_b7 (n : Nat) : f_X2_replace_b7  (n + 1) = g_X2_replace_b7 (f_X2_replace_b7  n) := rfl
theorem u_X2_turn_b46 (k2 : jw_H → Nat → Option Nat → Int32 → Option (Unit × jw_H)) (n : Nat) : f_X2_turn_b46 k2 (n + 1) = g_X2_turn_b46 k2 (f_X2_turn_b46 k2 n) := rfl
theorem u_X2_turn_b2 (n : Nat) : f_X2_turn_b2  (n + 1) = g_X2_turn_b2 (f_X2_turn_b2  n) := rfl
theorem u_X2_shiftBehind_b2 (n : Nat) : f_X2_shiftBehind_b2  (n + 1) = g_X2_shiftBehind_b2 (f_X2_shiftBehind_b2  n) := rfl
theorem u_X2_shiftAhead_b4 (n : Nat) : f_X2_shiftAhead_b4  (n + 1) = g_X2_shiftAhead_b4 (f_X2_shiftAhead_b4  n) := rfl
theorem u_X2_change_b3 (n : Nat) : f_X2_change_b3  (n + 1) = g_X2_change_b3 (f_X2_change_b3  n) := rfl
theorem u_X6_rowsOf_b16 (n : Nat) : f_X6_rowsOf_b16  (n + 1) = g_X6_rowsOf_b16 (f_X6_rowsOf_b16  n) := rfl
theorem u_X1_putDue_b2 (n : Nat) : f_X1_putDue_b2  (n + 1) = g_X1_putDue_b2 (f_X1_putDue_b2  n) := rfl
theorem u_X1_putNew_b2 (n : Nat) : f_X1_putNew_b2  (n + 1) = g_X1_putNew_b2 (f_X1_putNew_b2  n) := rfl
theorem u_X9_dropMarks_b2 (n : Nat) : f_X9_dropMarks_b2  (n + 1) = g_X9_dropMarks_b2 (f_X9_dropMarks_b2  n) := rfl
theorem u_X7_open_b96 (n : Nat) : f_X7_open_b96  (n + 1) = g_X7_open_b96 (f_X7_open_b96  n) := rfl
theorem u_X8_print_b53 (k12 : jw_H → Nat → Option Nat → Int32 → Int32 → Int32 → Int32 → Int32 → Option (Int32 × jw_H)) (n : Nat) : f_X8_print_b53 k12 (n + 1) = g_X8_print_b53 k12 (f_X8_print_b53 k12 n) := rfl
theorem u_X8_print_b12 (n : Nat) : f_X8_print_b12  (n + 1) = g_X8_print_b12 (f_X8_print_b12  n) := rfl
theorem u_X8_hold_b11 (n : Nat) : f_X8_hold_b11  (n + 1) = g_X8_hold_b11 (f_X8_hold_b11  n) := rfl
theorem u_X8_holdMore_b23 (n : Nat) : f_X8_holdMore_b23  (n + 1) = g_X8_holdMore_b23 (f_X8_holdMore_b23  n) := rfl
theorem u_X1_putRest_b7 (n : Nat) : f_X1_putRest_b7  (n + 1) = g_X1_putRest_b7 (f_X1_putRest_b7  n) := rfl
theorem u_X1_perform_b12 (n : Nat) : f_X1_perform_b12  (n + 1) = g_X1_perform_b12 (f_X1_perform_b12  n) := rfl
theorem u_X3_init_b23 (n : Nat) : f_X3_init_b23  (n + 1) = g_X3_init_b23 (f_X3_init_b23  n) := rfl
theorem u_X4_lineWith_b15 (n : Nat) : f_X4_lineWith_b15  (n + 1) = g_X4_lineWith_b15 (f_X4_lineWith_b15  n) := rfl
theorem u_X6_init_b15 (n : Nat) : f_X6_init_b15  (n + 1) = g_X6_init_b15 (f_X6_init_b15  n) := rfl
theorem u_X6_readPlain_b80 (n : Nat) : f_X6_readPlain_b80  (n + 1) = g_X6_readPlain_b80 (f_X6_readPlain_b80  n) := rfl
theorem u_X6_readPattern_b46 (n : Nat) : f_X6_readPattern_b46  (n + 1) = g_X6_readPattern_b46 (f_X6_readPattern_b46  n) := rfl
theorem u_X6_readNumber_b4 (n : Nat) : f_X6_readNumber_b4  (n + 1) = g_X6_readNumber_b4 (f_X6_readNumber_b4  n) := rfl
theorem u_X6_readAddress_b132 (n : Nat) : f_X6_readAddress_b132  (n + 1) = g_X6_readAddress_b132 (f_X6_readAddress_b132  n) := rfl
theorem u_X6_readRows_b12 (n : Nat) : f_X6_readRows_b12  (n + 1) = g_X6_readRows_b12 (f_X6_readRows_b12  n) := rfl
theorem u_X6_readReplace_b48 (n : Nat) : f_X6_readReplace_b48  (n + 1) = g_X6_readReplace_b48 (f_X6_readReplace_b48  n) := rfl
theorem u_X6_readTurn_b96 (n : Nat) : f_X6_readTurn_b96  (n + 1) = g_X6_readTurn_b96 (f_X6_readTurn_b96  n) := rfl
theorem u_X6_readTurn_b21 (n : Nat) : f_X6_readTurn_b21  (n + 1) = g_X6_readTurn_b21 (f_X6_readTurn_b21  n) := rfl
theorem u_X6_readOrders_b14 (n : Nat) : f_X6_readOrders_b14  (n + 1) = g_X6_readOrders_b14 (f_X6_readOrders_b14  n) := rfl
theorem u_X7_same_b22 (n : Nat) : f_X7_same_b22  (n + 1) = g_X7_same_b22 (f_X7_same_b22  n) := rfl
theorem u_X7_compareFrom_b3 (n : Nat) : f_X7_compareFrom_b3  (n + 1) = g_X7_compareFrom_b3 (f_X7_compareFrom_b3  n) := rfl
theorem u_X8_init_b40 (n : Nat) : f_X8_init_b40  (n + 1) = g_X8_init_b40 (f_X8_init_b40  n) := rfl
theorem u_X8_isWell_b28 (n : Nat) : f_X8_isWell_b28  (n + 1) = g_X8_isWell_b28 (f_X8_isWell_b28  n) := rfl
theorem u_X9_numberOf_b2 (n : Nat) : f_X9_numberOf_b2  (n + 1) = g_X9_numberOf_b2 (f_X9_numberOf_b2  n) := rfl
theorem u_X9_open_b68 (n : Nat) : f_X9_open_b68  (n + 1) = g_X9_open_b68 (f_X9_open_b68  n) := rfl
theorem u_X9_cut_b46 (n : Nat) : f_X9_cut_b46  (n + 1) = g_X9_cut_b46 (f_X9_cut_b46  n) := rfl
theorem u_X9_arrange_b7 (n : Nat) : f_X9_arrange_b7  (n + 1) = g_X9_arrange_b7 (f_X9_arrange_b7  n) := rfl
theorem u_X9_addSample_b38 (k11 : jw_H → Nat → Int32 → Option Nat → Int32 → Int32 → Option (Unit × jw_H)) (n : Nat) : f_X9_addSample_b38 k11 (n + 1) = g_X9_addSample_b38 k11 (f_X9_addSample_b38 k11 n) := rfl
theorem u_X9_addSample_b11 (n : Nat) : f_X9_addSample_b11  (n + 1) = g_X9_addSample_b11 (f_X9_addSample_b11  n) := rfl
theorem u_X9_isWell_b133 (n : Nat) : f_X9_isWell_b133  (n + 1) = g_X9_isWell_b133 (f_X9_isWell_b133  n) := rfl
theorem u_X9_isWell_b66 (n : Nat) : f_X9_isWell_b66  (n + 1) = g_X9_isWell_b66 (f_X9_isWell_b66  n) := rfl
theorem u_X10_meet_b10 (n : Nat) : f_X10_meet_b10  (n + 1) = g_X10_meet_b10 (f_X10_meet_b10  n) := rfl
theorem u_X10_bring_b119 (n : Nat) : f_X10_bring_b119  (n + 1) = g_X10_bring_b119 (f_X10_bring_b119  n) := rfl
theorem u_X10_join_b48 (n : Nat) : f_X10_join_b48  (n + 1) = g_X10_join_b48 (f_X10_join_b48  n) := rfl
theorem u_X10_part_b17 (n : Nat) : f_X10_part_b17  (n + 1) = g_X10_part_b17 (f_X10_part_b17  n) := rfl
theorem u_X10_leaveOutSame_b17 (n : Nat) : f_X10_leaveOutSame_b17  (n + 1) = g_X10_leaveOutSame_b17 (f_X10_leaveOutSame_b17  n) := rfl
theorem u_X10_lineUp_b6 (n : Nat) : f_X10_lineUp_b6  (n + 1) = g_X10_lineUp_b6 (f_X10_lineUp_b6  n) := rfl
theorem u_X10_copyLines_b48 (n : Nat) : f_X10_copyLines_b48  (n + 1) = g_X10_copyLines_b48 (f_X10_copyLines_b48  n) := rfl
theorem u_X10_sort_b44 (k24 : jw_H → Nat → Int32 → Int32 → Int32 → Option (Int32 × jw_H)) (n : Nat) : f_X10_sort_b44 k24 (n + 1) = g_X10_sort_b44 k24 (f_X10_sort_b44 k24 n) := rfl
theorem u_X10_sort_b24 (n : Nat) : f_X10_sort_b24  (n + 1) = g_X10_sort_b24 (f_X10_sort_b24  n) := rfl
theorem u_X10_writeFile_b16 (n : Nat) : f_X10_writeFile_b16  (n + 1) = g_X10_writeFile_b16 (f_X10_writeFile_b16  n) := rfl
theorem u_X10_doGroup_b73 (k18 : jw_H → Nat → Option Nat → Int32 → Int32 → Option (Int32 × jw_H)) (n : Nat) : f_X10_doGroup_b73 k18 (n + 1) = g_X10_doGroup_b73 k18 (f_X10_doGroup_b73 k18 n) := rfl
theorem u_X10_doGroup_b18 (n : Nat) : f_X10_doGroup_b18  (n + 1) = g_X10_doGroup_b18 (f_X10_doGroup_b18  n) := rfl
theorem u_X10_perform_b25 (n : Nat) : f_X10_perform_b25  (n + 1) = g_X10_perform_b25 (f_X10_perform_b25  n) := rfl
theorem u_X11_init_b32 (n : Nat) : f_X11_init_b32  (n + 1) = g_X11_init_b32 (f_X11_init_b32  n) := rfl
theorem u_X11_keep_b56 (n : Nat) : f_X11_keep_b56  (n + 1) = g_X11_keep_b56 (f_X11_keep_b56  n) := rfl
theorem u_X11_undoRun_b38 (n : Nat) : f_X11_undoRun_b38  (n + 1) = g_X11_undoRun_b38 (f_X11_undoRun_b38  n) := rfl
theorem u_X11_measureCommon_b45 (k35 : jw_H → Nat → Option Nat → Int32 → Option (Unit × jw_H)) (n : Nat) : f_X11_measureCommon_b45 k35 (n + 1) = g_X11_measureCommon_b45 k35 (f_X11_measureCommon_b45 k35 n) := rfl
theorem u_X11_measureCommon_b35 (n : Nat) : f_X11_measureCommon_b35  (n + 1) = g_X11_measureCommon_b35 (f_X11_measureCommon_b35  n) := rfl
theorem u_X11_measureCommon_b2 (n : Nat) : f_X11_measureCommon_b2  (n + 1) = g_X11_measureCommon_b2 (f_X11_measureCommon_b2  n) := rfl
theorem u_X11_pairUp_b39 (n : Nat) : f_X11_pairUp_b39  (n + 1) = g_X11_pairUp_b39 (f_X11_pairUp_b39  n) := rfl
theorem u_X11_pairUp_b7 (n : Nat) : f_X11_pairUp_b7  (n + 1) = g_X11_pairUp_b7 (f_X11_pairUp_b7  n) := rfl
theorem u_X12_init_b251 (n : Nat) : f_X12_init_b251  (n + 1) = g_X12_init_b251 (f_X12_init_b251  n) := rfl
theorem u_X12_copyRow_b2 (n : Nat) : f_X12_copyRow_b2  (n + 1) = g_X12_copyRow_b2 (f_X12_copyRow_b2  n) := rfl
theorem u_X12_areSame_b22 (n : Nat) : f_X12_areSame_b22  (n + 1) = g_X12_areSame_b22 (f_X12_areSame_b22  n) := rfl
theorem u_X12_makesRow_b3 (n : Nat) : f_X12_makesRow_b3  (n + 1) = g_X12_makesRow_b3 (f_X12_makesRow_b3  n) := rfl
theorem u_X12_lays_b26 (n : Nat) : f_X12_lays_b26  (n + 1) = g_X12_lays_b26 (f_X12_lays_b26  n) := rfl
theorem u_X12_open_b5 (n : Nat) : f_X12_open_b5  (n + 1) = g_X12_open_b5 (f_X12_open_b5  n) := rfl
theorem u_X12_close_b2 (n : Nat) : f_X12_close_b2  (n + 1) = g_X12_close_b2 (f_X12_close_b2  n) := rfl
theorem u_X12_unmark_b2 (n : Nat) : f_X12_unmark_b2  (n + 1) = g_X12_unmark_b2 (f_X12_unmark_b2  n) := rfl
theorem u_X12_lineWith_b2 (n : Nat) : f_X12_lineWith_b2  (n + 1) = g_X12_lineWith_b2 (f_X12_lineWith_b2  n) := rfl
theorem u_X12_loadTape_b10 (n : Nat) : f_X12_loadTape_b10  (n + 1) = g_X12_loadTape_b10 (f_X12_loadTape_b10  n) := rfl
theorem u_X12_loadScript_b12 (n : Nat) : f_X12_loadScript_b12  (n + 1) = g_X12_loadScript_b12 (f_X12_loadScript_b12  n) := rfl
theorem u_X12_plain_b88 (n : Nat) : f_X12_plain_b88  (n + 1) = g_X12_plain_b88 (f_X12_plain_b88  n) := rfl
theorem u_X12_group_b19 (n : Nat) : f_X12_group_b19  (n + 1) = g_X12_group_b19 (f_X12_group_b19  n) := rfl
theorem u_X12_pattern_b54 (n : Nat) : f_X12_pattern_b54  (n + 1) = g_X12_pattern_b54 (f_X12_pattern_b54  n) := rfl
theorem u_X12_address_b4 (n : Nat) : f_X12_address_b4  (n + 1) = g_X12_address_b4 (f_X12_address_b4  n) := rfl
theorem u_X12_rows_b18 (k2 : jw_H → Nat → Int32 → Option (Unit × jw_H)) (n : Nat) : f_X12_rows_b18 k2 (n + 1) = g_X12_rows_b18 k2 (f_X12_rows_b18 k2 n) := rfl
theorem u_X12_rows_b2 (n : Nat) : f_X12_rows_b2  (n + 1) = g_X12_rows_b2 (f_X12_rows_b2  n) := rfl
theorem u_X12_replacing_b18 (n : Nat) : f_X12_replacing_b18  (n + 1) = g_X12_replacing_b18 (f_X12_replacing_b18  n) := rfl
theorem u_X12_turning_b67 (n : Nat) : f_X12_turning_b67  (n + 1) = g_X12_turning_b67 (f_X12_turning_b67  n) := rfl
theorem u_X12_turning_b22 (n : Nat) : f_X12_turning_b22  (n + 1) = g_X12_turning_b22 (f_X12_turning_b22  n) := rfl
theorem u_X12_block_b10 (n : Nat) : f_X12_block_b10  (n + 1) = g_X12_block_b10 (f_X12_block_b10  n) := rfl
theorem u_X12_ordersFault_b14 (n : Nat) : f_X12_ordersFault_b14  (n + 1) = g_X12_ordersFault_b14 (f_X12_ordersFault_b14  n) := rfl
theorem u_X12_compile_b186 (k63 : jw_H → Nat → Int32 → Int32 → Int32 → Option (Unit × jw_H)) (n : Nat) : f_X12_compile_b186 k63 (n + 1) = g_X12_compile_b186 k63 (f_X12_compile_b186 k63 n) := rfl
theorem u_X12_compile_b63 (n : Nat) : f_X12_compile_b63  (n + 1) = g_X12_compile_b63 (f_X12_compile_b63  n) := rfl
theorem u_X12_isInClass_b33 (n : Nat) : f_X12_isInClass_b33  (n + 1) = g_X12_isInClass_b33 (f_X12_isInClass_b33  n) := rfl
theorem u_X12_isBack_b37 (n : Nat) : f_X12_isBack_b37  (n + 1) = g_X12_isBack_b37 (f_X12_isBack_b37  n) := rfl
theorem u_X12_fits_b16 (n : Nat) : f_X12_fits_b16  (n + 1) = g_X12_fits_b16 (f_X12_fits_b16  n) := rfl
theorem u_X12_matches_b58 (k35 : jw_H → Nat → Int32 → Int32 → Int32 → Int32 → Option (Int32 × jw_H)) (n : Nat) : f_X12_matches_b58 k35 (n + 1) = g_X12_matches_b58 k35 (f_X12_matches_b58 k35 n) := rfl
theorem u_X12_matches_b35 (n : Nat) : f_X12_matches_b35  (n + 1) = g_X12_matches_b35 (f_X12_matches_b35  n) := rfl
theorem u_X12_finds_b2 (n : Nat) : f_X12_finds_b2  (n + 1) = g_X12_finds_b2 (f_X12_finds_b2  n) := rfl
theorem u_X12_seek_b2 (n : Nat) : f_X12_seek_b2  (n + 1) = g_X12_seek_b2 (f_X12_seek_b2  n) := rfl
theorem u_X12_line_b143 (n : Nat) : f_X12_line_b143  (n + 1) = g_X12_line_b143 (f_X12_line_b143  n) := rfl
theorem u_X12_rowsAt_b4 (n : Nat) : f_X12_rowsAt_b4  (n + 1) = g_X12_rowsAt_b4 (f_X12_rowsAt_b4  n) := rfl
theorem u_X12_makeTold_b7 (n : Nat) : f_X12_makeTold_b7  (n + 1) = g_X12_makeTold_b7 (f_X12_makeTold_b7  n) := rfl
theorem u_X12_bringTold_b6 (n : Nat) : f_X12_bringTold_b6  (n + 1) = g_X12_bringTold_b6 (f_X12_bringTold_b6  n) := rfl
theorem u_X12_goAll_b5 (n : Nat) : f_X12_goAll_b5  (n + 1) = g_X12_goAll_b5 (f_X12_goAll_b5  n) := rfl
theorem u_X12_join_b114 (n : Nat) : f_X12_join_b114  (n + 1) = g_X12_join_b114 (f_X12_join_b114  n) := rfl
theorem u_X12_join_b62 (n : Nat) : f_X12_join_b62  (n + 1) = g_X12_join_b62 (f_X12_join_b62  n) := rfl
theorem u_X12_part_b10 (n : Nat) : f_X12_part_b10  (n + 1) = g_X12_part_b10 (f_X12_part_b10  n) := rfl
theorem u_X12_lessAlike_b17 (n : Nat) : f_X12_lessAlike_b17  (n + 1) = g_X12_lessAlike_b17 (f_X12_lessAlike_b17  n) := rfl
theorem u_X12_print_b5 (n : Nat) : f_X12_print_b5  (n + 1) = g_X12_print_b5 (f_X12_print_b5  n) := rfl
theorem u_X12_hold_b25 (n : Nat) : f_X12_hold_b25  (n + 1) = g_X12_hold_b25 (f_X12_hold_b25  n) := rfl
theorem u_X12_bringHeld_b27 (n : Nat) : f_X12_bringHeld_b27  (n + 1) = g_X12_bringHeld_b27 (f_X12_bringHeld_b27  n) := rfl
theorem u_X12_exchange_b123 (n : Nat) : f_X12_exchange_b123  (n + 1) = g_X12_exchange_b123 (f_X12_exchange_b123  n) := rfl
theorem u_X12_exchange_b76 (n : Nat) : f_X12_exchange_b76  (n + 1) = g_X12_exchange_b76 (f_X12_exchange_b76  n) := rfl
theorem u_X12_exchange_b41 (n : Nat) : f_X12_exchange_b41  (n + 1) = g_X12_exchange_b41 (f_X12_exchange_b41  n) := rfl
theorem u_X12_moveRight_b7 (n : Nat) : f_X12_moveRight_b7  (n + 1) = g_X12_moveRight_b7 (f_X12_moveRight_b7  n) := rfl
theorem u_X12_moveLeft_b2 (n : Nat) : f_X12_moveLeft_b2  (n + 1) = g_X12_moveLeft_b2 (f_X12_moveLeft_b2  n) := rfl
theorem u_X12_shift_b5 (n : Nat) : f_X12_shift_b5  (n + 1) = g_X12_shift_b5 (f_X12_shift_b5  n) := rfl
theorem u_X12_compare_b3 (n : Nat) : f_X12_compare_b3  (n + 1) = g_X12_compare_b3 (f_X12_compare_b3  n) := rfl
theorem u_X12_sort_b39 (k7 : jw_H → Nat → Int32 → Int32 → Int32 → Option (Int32 × jw_H)) (n : Nat) : f_X12_sort_b39 k7 (n + 1) = g_X12_sort_b39 k7 (f_X12_sort_b39 k7 n) := rfl
theorem u_X12_sort_b7 (n : Nat) : f_X12_sort_b7  (n + 1) = g_X12_sort_b7 (f_X12_sort_b7  n) := rfl
theorem u_X12_move_b142 (n : Nat) : f_X12_move_b142  (n + 1) = g_X12_move_b142 (f_X12_move_b142  n) := rfl
theorem u_X12_move_b102 (n : Nat) : f_X12_move_b102  (n + 1) = g_X12_move_b102 (f_X12_move_b102  n) := rfl
theorem u_X12_move_b46 (n : Nat) : f_X12_move_b46  (n + 1) = g_X12_move_b46 (f_X12_move_b46  n) := rfl
theorem u_X12_copyTo_b76 (n : Nat) : f_X12_copyTo_b76  (n + 1) = g_X12_copyTo_b76 (f_X12_copyTo_b76  n) := rfl
theorem u_X12_copyTo_b41 (n : Nat) : f_X12_copyTo_b41  (n + 1) = g_X12_copyTo_b41 (f_X12_copyTo_b41  n) := rfl
theorem u_X12_makesPut_b2 (n : Nat) : f_X12_makesPut_b2  (n + 1) = g_X12_makesPut_b2 (f_X12_makesPut_b2  n) := rfl
theorem u_X12_replaces_b135 (n : Nat) : f_X12_replaces_b135  (n + 1) = g_X12_replaces_b135 (f_X12_replaces_b135  n) := rfl
theorem u_X12_replaces_b19 (n : Nat) : f_X12_replaces_b19  (n + 1) = g_X12_replaces_b19 (f_X12_replaces_b19  n) := rfl
theorem u_X12_turns_b41 (k28 : jw_H → Nat → Int32 → Int32 → Int32 → Int32 → Option (Unit × jw_H)) (n : Nat) : f_X12_turns_b41 k28 (n + 1) = g_X12_turns_b41 k28 (f_X12_turns_b41 k28 n) := rfl
theorem u_X12_turns_b28 (n : Nat) : f_X12_turns_b28  (n + 1) = g_X12_turns_b28 (f_X12_turns_b28  n) := rfl
theorem u_X12_turns_b7 (n : Nat) : f_X12_turns_b7  (n + 1) = g_X12_turns_b7 (f_X12_turns_b7  n) := rfl
theorem u_X12_replaceAll_b5 (n : Nat) : f_X12_replaceAll_b5  (n + 1) = g_X12_replaceAll_b5 (f_X12_replaceAll_b5  n) := rfl
theorem u_X12_turnAll_b5 (n : Nat) : f_X12_turnAll_b5  (n + 1) = g_X12_turnAll_b5 (f_X12_turnAll_b5  n) := rfl
theorem u_X12_readFile_b31 (n : Nat) : f_X12_readFile_b31  (n + 1) = g_X12_readFile_b31 (f_X12_readFile_b31  n) := rfl
theorem u_X12_writeFile_b5 (n : Nat) : f_X12_writeFile_b5  (n + 1) = g_X12_writeFile_b5 (f_X12_writeFile_b5  n) := rfl
theorem u_X12_doParts_b23 (n : Nat) : f_X12_doParts_b23  (n + 1) = g_X12_doParts_b23 (f_X12_doParts_b23  n) := rfl
theorem u_X12_each_b107 (n : Nat) : f_X12_each_b107  (n + 1) = g_X12_each_b107 (f_X12_each_b107  n) := rfl
theorem u_X12_each_b40 (n : Nat) : f_X12_each_b40  (n + 1) = g_X12_each_b40 (f_X12_each_b40  n) := rfl
theorem u_X12_save_b84 (n : Nat) : f_X12_save_b84  (n + 1) = g_X12_save_b84 (f_X12_save_b84  n) := rfl
theorem u_X12_save_b59 (n : Nat) : f_X12_save_b59  (n + 1) = g_X12_save_b59 (f_X12_save_b59  n) := rfl
theorem u_X12_save_b33 (n : Nat) : f_X12_save_b33  (n + 1) = g_X12_save_b33 (f_X12_save_b33  n) := rfl
theorem u_X12_save_b2 (n : Nat) : f_X12_save_b2  (n + 1) = g_X12_save_b2 (f_X12_save_b2  n) := rfl
theorem u_X12_comeBack_b84 (n : Nat) : f_X12_comeBack_b84  (n + 1) = g_X12_comeBack_b84 (f_X12_comeBack_b84  n) := rfl
theorem u_X12_comeBack_b59 (n : Nat) : f_X12_comeBack_b59  (n + 1) = g_X12_comeBack_b59 (f_X12_comeBack_b59  n) := rfl
theorem u_X12_comeBack_b33 (n : Nat) : f_X12_comeBack_b33  (n + 1) = g_X12_comeBack_b33 (f_X12_comeBack_b33  n) := rfl
theorem u_X12_comeBack_b2 (n : Nat) : f_X12_comeBack_b2  (n + 1) = g_X12_comeBack_b2 (f_X12_comeBack_b2  n) := rfl
theorem u_X12_noteDeed_b124 (n : Nat) : f_X12_noteDeed_b124  (n + 1) = g_X12_noteDeed_b124 (f_X12_noteDeed_b124  n) := rfl
theorem u_X12_noteDeed_b91 (n : Nat) : f_X12_noteDeed_b91  (n + 1) = g_X12_noteDeed_b91 (f_X12_noteDeed_b91  n) := rfl
theorem u_X12_noteDeed_b50 (n : Nat) : f_X12_noteDeed_b50  (n + 1) = g_X12_noteDeed_b50 (f_X12_noteDeed_b50  n) := rfl
theorem u_X12_undoLatest_b107 (n : Nat) : f_X12_undoLatest_b107  (n + 1) = g_X12_undoLatest_b107 (f_X12_undoLatest_b107  n) := rfl
theorem u_X12_undoLatest_b74 (n : Nat) : f_X12_undoLatest_b74  (n + 1) = g_X12_undoLatest_b74 (f_X12_undoLatest_b74  n) := rfl
theorem u_X12_undoLatest_b37 (n : Nat) : f_X12_undoLatest_b37  (n + 1) = g_X12_undoLatest_b37 (f_X12_undoLatest_b37  n) := rfl
theorem u_X12_behindLabel_b2 (n : Nat) : f_X12_behindLabel_b2  (n + 1) = g_X12_behindLabel_b2 (f_X12_behindLabel_b2  n) := rfl
theorem u_X12_doAll_b29 (n : Nat) : f_X12_doAll_b29  (n + 1) = g_X12_doAll_b29 (f_X12_doAll_b29  n) := rfl
theorem u_X12_putWork_b25 (n : Nat) : f_X12_putWork_b25  (n + 1) = g_X12_putWork_b25 (f_X12_putWork_b25  n) := rfl
theorem u_X12_numericAt_b47 (n : Nat) : f_X12_numericAt_b47  (n + 1) = g_X12_numericAt_b47 (f_X12_numericAt_b47  n) := rfl
theorem u_X12_putTold_b8 (n : Nat) : f_X12_putTold_b8  (n + 1) = g_X12_putTold_b8 (f_X12_putTold_b8  n) := rfl
theorem u_X12_dueTold_b11 (n : Nat) : f_X12_dueTold_b11  (n + 1) = g_X12_dueTold_b11 (f_X12_dueTold_b11  n) := rfl
theorem u_X12_dueRows_b2 (n : Nat) : f_X12_dueRows_b2  (n + 1) = g_X12_dueRows_b2 (f_X12_dueRows_b2  n) := rfl
theorem u_X12_workParts_b23 (n : Nat) : f_X12_workParts_b23  (n + 1) = g_X12_workParts_b23 (f_X12_workParts_b23  n) := rfl
theorem u_X12_putRest_b2 (n : Nat) : f_X12_putRest_b2  (n + 1) = g_X12_putRest_b2 (f_X12_putRest_b2  n) := rfl
theorem u_X12_workLine_b4 (n : Nat) : f_X12_workLine_b4  (n + 1) = g_X12_workLine_b4 (f_X12_workLine_b4  n) := rfl
theorem u_X12_emptyParts_b21 (n : Nat) : f_X12_emptyParts_b21  (n + 1) = g_X12_emptyParts_b21 (f_X12_emptyParts_b21  n) := rfl
theorem u_X12_emptyFiles_b2 (n : Nat) : f_X12_emptyFiles_b2  (n + 1) = g_X12_emptyFiles_b2 (f_X12_emptyFiles_b2  n) := rfl
theorem u_X12_becomeNew_b49 (n : Nat) : f_X12_becomeNew_b49  (n + 1) = g_X12_becomeNew_b49 (f_X12_becomeNew_b49  n) := rfl
theorem u_X12_becomeNew_b10 (n : Nat) : f_X12_becomeNew_b10  (n + 1) = g_X12_becomeNew_b10 (f_X12_becomeNew_b10  n) := rfl
theorem u_X12_playLines_b81 (n : Nat) : f_X12_playLines_b81  (n + 1) = g_X12_playLines_b81 (f_X12_playLines_b81  n) := rfl
theorem u_X12_playLines_b45 (n : Nat) : f_X12_playLines_b45  (n + 1) = g_X12_playLines_b45 (f_X12_playLines_b45  n) := rfl
theorem u_X12_keep_b42 (n : Nat) : f_X12_keep_b42  (n + 1) = g_X12_keep_b42 (f_X12_keep_b42  n) := rfl
theorem u_X12_undoRun_b37 (n : Nat) : f_X12_undoRun_b37  (n + 1) = g_X12_undoRun_b37 (f_X12_undoRun_b37  n) := rfl
theorem u_X12_sample_b109 (k87 : jw_H → Nat → Int32 → Int32 → Option (Int32 × jw_H)) (n : Nat) : f_X12_sample_b109 k87 (n + 1) = g_X12_sample_b109 k87 (f_X12_sample_b109 k87 n) := rfl
theorem u_X12_sample_b87 (n : Nat) : f_X12_sample_b87  (n + 1) = g_X12_sample_b87 (f_X12_sample_b87  n) := rfl
theorem u_X12_compareTo_b19 (k12 : jw_H → Nat → Int32 → Int32 → Int32 → Option (Unit × jw_H)) (n : Nat) : f_X12_compareTo_b19 k12 (n + 1) = g_X12_compareTo_b19 k12 (f_X12_compareTo_b19 k12 n) := rfl
theorem u_X12_compareTo_b12 (n : Nat) : f_X12_compareTo_b12  (n + 1) = g_X12_compareTo_b12 (f_X12_compareTo_b12  n) := rfl
theorem u_X12_pair_b44 (n : Nat) : f_X12_pair_b44  (n + 1) = g_X12_pair_b44 (f_X12_pair_b44  n) := rfl
theorem u_X12_pair_b23 (n : Nat) : f_X12_pair_b23  (n + 1) = g_X12_pair_b23 (f_X12_pair_b23  n) := rfl
theorem u_X12_isSound_b129 (n : Nat) : f_X12_isSound_b129  (n + 1) = g_X12_isSound_b129 (f_X12_isSound_b129  n) := rfl
theorem u_X12_isSound_b74 (n : Nat) : f_X12_isSound_b74  (n + 1) = g_X12_isSound_b74 (f_X12_isSound_b74  n) := rfl
theorem u_X12_isSound_b40 (n : Nat) : f_X12_isSound_b40  (n + 1) = g_X12_isSound_b40 (f_X12_isSound_b40  n) := rfl
theorem u_L_law_b23 (Ls : Nat) (xs : Nat → Int32) (n : Nat) : f_L_law_b23 Ls xs (n + 1) = g_L_law_b23 Ls xs (f_L_law_b23 Ls xs n) := rfl
