/-! one round of each loop -/
theorem u_X9_numberOf_b2 (n : Nat) : f_X9_numberOf_b2  (n + 1) = g_X9_numberOf_b2 (f_X9_numberOf_b2  n) := rfl
theorem u_X6_readNumber_b4 (n : Nat) : f_X6_readNumber_b4  (n + 1) = g_X6_readNumber_b4 (f_X6_readNumber_b4  n) := rfl
theorem u_X6_readPlain_b80 (n : Nat) : f_X6_readPlain_b80  (n + 1) = g_X6_readPlain_b80 (f_X6_readPlain_b80  n) := rfl
theorem u_X6_readPattern_b46 (n : Nat) : f_X6_readPattern_b46  (n + 1) = g_X6_readPattern_b46 (f_X6_readPattern_b46  n) := rfl
theorem u_X6_readAddress_b132 (n : Nat) : f_X6_readAddress_b132  (n + 1) = g_X6_readAddress_b132 (f_X6_readAddress_b132  n) := rfl
theorem u_X6_readRows_b12 (n : Nat) : f_X6_readRows_b12  (n + 1) = g_X6_readRows_b12 (f_X6_readRows_b12  n) := rfl
theorem u_X6_readReplace_b48 (n : Nat) : f_X6_readReplace_b48  (n + 1) = g_X6_readReplace_b48 (f_X6_readReplace_b48  n) := rfl
theorem u_X6_readTurn_b96 (n : Nat) : f_X6_readTurn_b96  (n + 1) = g_X6_readTurn_b96 (f_X6_readTurn_b96  n) := rfl
theorem u_X6_readTurn_b21 (n : Nat) : f_X6_readTurn_b21  (n + 1) = g_X6_readTurn_b21 (f_X6_readTurn_b21  n) := rfl
theorem u_X6_readOrders_b14 (n : Nat) : f_X6_readOrders_b14  (n + 1) = g_X6_readOrders_b14 (f_X6_readOrders_b14  n) := rfl
theorem u_X4_load_b19 (n : Nat) : f_X4_load_b19  (n + 1) = g_X4_load_b19 (f_X4_load_b19  n) := rfl
theorem u_X4_fits_b210 (ks : jw_H → Nat → Int32 → Int32 → Int32 → Option (Int32 × jw_H)) (n : Nat) : f_X4_fits_b210 ks (n + 1) = g_X4_fits_b210 ks (f_X4_fits_b210 ks n) := rfl
theorem u_X4_fits_b282 (ks : jw_H → Nat → Int32 → Int32 → Int32 → Option (Int32 × jw_H)) (k77 : jw_H → Nat → Int32 → Int32 → Int32 → Int32 → Option (Int32 × jw_H)) (n : Nat) : f_X4_fits_b282 ks k77 (n + 1) = g_X4_fits_b282 ks k77 (f_X4_fits_b282 ks k77 n) := rfl
theorem u_X4_fits_b77 (ks : jw_H → Nat → Int32 → Int32 → Int32 → Option (Int32 × jw_H)) (n : Nat) : f_X4_fits_b77 ks (n + 1) = g_X4_fits_b77 ks (f_X4_fits_b77 ks n) := rfl
theorem u_X4_fits (n : Nat) : f_X4_fits  (n + 1) = g_X4_fits (f_X4_fits  n) := rfl
theorem u_X4_search_b3 (n : Nat) : f_X4_search_b3  (n + 1) = g_X4_search_b3 (f_X4_search_b3  n) := rfl
theorem u_X4_lineWith_b15 (n : Nat) : f_X4_lineWith_b15  (n + 1) = g_X4_lineWith_b15 (f_X4_lineWith_b15  n) := rfl
theorem u_X6_placeBehind_b2 (n : Nat) : f_X6_placeBehind_b2  (n + 1) = g_X6_placeBehind_b2 (f_X6_placeBehind_b2  n) := rfl
theorem u_X10_meet_b10 (n : Nat) : f_X10_meet_b10  (n + 1) = g_X10_meet_b10 (f_X10_meet_b10  n) := rfl
theorem u_X8_copy_b24 (n : Nat) : f_X8_copy_b24  (n + 1) = g_X8_copy_b24 (f_X8_copy_b24  n) := rfl
theorem u_X2_appendPut_b5 (n : Nat) : f_X2_appendPut_b5  (n + 1) = g_X2_appendPut_b5 (f_X2_appendPut_b5  n) := rfl
theorem u_X2_replace_b7 (n : Nat) : f_X2_replace_b7  (n + 1) = g_X2_replace_b7 (f_X2_replace_b7  n) := rfl
theorem u_X2_turn_b46 (k2 : jw_H → Nat → Option Nat → Int32 → Option (Unit × jw_H)) (n : Nat) : f_X2_turn_b46 k2 (n + 1) = g_X2_turn_b46 k2 (f_X2_turn_b46 k2 n) := rfl
theorem u_X2_turn_b2 (n : Nat) : f_X2_turn_b2  (n + 1) = g_X2_turn_b2 (f_X2_turn_b2  n) := rfl
theorem u_X2_shiftBehind_b2 (n : Nat) : f_X2_shiftBehind_b2  (n + 1) = g_X2_shiftBehind_b2 (f_X2_shiftBehind_b2  n) := rfl
theorem u_X2_shiftAhead_b4 (n : Nat) : f_X2_shiftAhead_b4  (n + 1) = g_X2_shiftAhead_b4 (f_X2_shiftAhead_b4  n) := rfl
theorem u_X2_change_b3 (n : Nat) : f_X2_change_b3  (n + 1) = g_X2_change_b3 (f_X2_change_b3  n) := rfl
theorem u_X6_rowsOf_b16 (n : Nat) : f_X6_rowsOf_b16  (n + 1) = g_X6_rowsOf_b16 (f_X6_rowsOf_b16  n) := rfl
theorem u_X9_dropMarks_b2 (n : Nat) : f_X9_dropMarks_b2  (n + 1) = g_X9_dropMarks_b2 (f_X9_dropMarks_b2  n) := rfl
theorem u_X9_cut_b46 (n : Nat) : f_X9_cut_b46  (n + 1) = g_X9_cut_b46 (f_X9_cut_b46  n) := rfl
theorem u_X7_open_b96 (n : Nat) : f_X7_open_b96  (n + 1) = g_X7_open_b96 (f_X7_open_b96  n) := rfl
theorem u_X9_open_b68 (n : Nat) : f_X9_open_b68  (n + 1) = g_X9_open_b68 (f_X9_open_b68  n) := rfl
theorem u_X10_bring_b119 (n : Nat) : f_X10_bring_b119  (n + 1) = g_X10_bring_b119 (f_X10_bring_b119  n) := rfl
theorem u_X8_hold_b11 (n : Nat) : f_X8_hold_b11  (n + 1) = g_X8_hold_b11 (f_X8_hold_b11  n) := rfl
theorem u_X10_join_b48 (n : Nat) : f_X10_join_b48  (n + 1) = g_X10_join_b48 (f_X10_join_b48  n) := rfl
theorem u_X10_part_b17 (n : Nat) : f_X10_part_b17  (n + 1) = g_X10_part_b17 (f_X10_part_b17  n) := rfl
theorem u_X7_same_b22 (n : Nat) : f_X7_same_b22  (n + 1) = g_X7_same_b22 (f_X7_same_b22  n) := rfl
theorem u_X10_leaveOutSame_b17 (n : Nat) : f_X10_leaveOutSame_b17  (n + 1) = g_X10_leaveOutSame_b17 (f_X10_leaveOutSame_b17  n) := rfl
theorem u_X10_lineUp_b6 (n : Nat) : f_X10_lineUp_b6  (n + 1) = g_X10_lineUp_b6 (f_X10_lineUp_b6  n) := rfl
theorem u_X9_arrange_b7 (n : Nat) : f_X9_arrange_b7  (n + 1) = g_X9_arrange_b7 (f_X9_arrange_b7  n) := rfl
theorem u_X10_copyLines_b48 (n : Nat) : f_X10_copyLines_b48  (n + 1) = g_X10_copyLines_b48 (f_X10_copyLines_b48  n) := rfl
theorem u_X7_compareFrom_b3 (n : Nat) : f_X7_compareFrom_b3  (n + 1) = g_X7_compareFrom_b3 (f_X7_compareFrom_b3  n) := rfl
theorem u_X10_sort_b44 (k24 : jw_H → Nat → Int32 → Int32 → Int32 → Option (Int32 × jw_H)) (n : Nat) : f_X10_sort_b44 k24 (n + 1) = g_X10_sort_b44 k24 (f_X10_sort_b44 k24 n) := rfl
theorem u_X10_sort_b24 (n : Nat) : f_X10_sort_b24  (n + 1) = g_X10_sort_b24 (f_X10_sort_b24  n) := rfl
theorem u_X8_print_b53 (k12 : jw_H → Nat → Option Nat → Int32 → Int32 → Int32 → Int32 → Int32 → Option (Int32 × jw_H)) (n : Nat) : f_X8_print_b53 k12 (n + 1) = g_X8_print_b53 k12 (f_X8_print_b53 k12 n) := rfl
theorem u_X8_print_b12 (n : Nat) : f_X8_print_b12  (n + 1) = g_X8_print_b12 (f_X8_print_b12  n) := rfl
theorem u_X8_holdMore_b23 (n : Nat) : f_X8_holdMore_b23  (n + 1) = g_X8_holdMore_b23 (f_X8_holdMore_b23  n) := rfl
theorem u_X10_writeFile_b16 (n : Nat) : f_X10_writeFile_b16  (n + 1) = g_X10_writeFile_b16 (f_X10_writeFile_b16  n) := rfl
theorem u_X10_doGroup_b73 (k18 : jw_H → Nat → Option Nat → Int32 → Int32 → Option (Int32 × jw_H)) (n : Nat) : f_X10_doGroup_b73 k18 (n + 1) = g_X10_doGroup_b73 k18 (f_X10_doGroup_b73 k18 n) := rfl
theorem u_X10_doGroup_b18 (n : Nat) : f_X10_doGroup_b18  (n + 1) = g_X10_doGroup_b18 (f_X10_doGroup_b18  n) := rfl
theorem u_X10_perform_b25 (n : Nat) : f_X10_perform_b25  (n + 1) = g_X10_perform_b25 (f_X10_perform_b25  n) := rfl
theorem u_X9_isWell_b133 (n : Nat) : f_X9_isWell_b133  (n + 1) = g_X9_isWell_b133 (f_X9_isWell_b133  n) := rfl
theorem u_X9_isWell_b66 (n : Nat) : f_X9_isWell_b66  (n + 1) = g_X9_isWell_b66 (f_X9_isWell_b66  n) := rfl
theorem u_X8_isWell_b28 (n : Nat) : f_X8_isWell_b28  (n + 1) = g_X8_isWell_b28 (f_X8_isWell_b28  n) := rfl
theorem u_X11_undoRun_b38 (n : Nat) : f_X11_undoRun_b38  (n + 1) = g_X11_undoRun_b38 (f_X11_undoRun_b38  n) := rfl
theorem u_X11_keep_b56 (n : Nat) : f_X11_keep_b56  (n + 1) = g_X11_keep_b56 (f_X11_keep_b56  n) := rfl
theorem u_X1_begin_b79 (n : Nat) : f_X1_begin_b79  (n + 1) = g_X1_begin_b79 (f_X1_begin_b79  n) := rfl
theorem u_X1_putDue_b2 (n : Nat) : f_X1_putDue_b2  (n + 1) = g_X1_putDue_b2 (f_X1_putDue_b2  n) := rfl
theorem u_X1_putNew_b2 (n : Nat) : f_X1_putNew_b2  (n + 1) = g_X1_putNew_b2 (f_X1_putNew_b2  n) := rfl
theorem u_X1_putRest_b7 (n : Nat) : f_X1_putRest_b7  (n + 1) = g_X1_putRest_b7 (f_X1_putRest_b7  n) := rfl
theorem u_X1_perform_b12 (n : Nat) : f_X1_perform_b12  (n + 1) = g_X1_perform_b12 (f_X1_perform_b12  n) := rfl
theorem u_X6_init_b15 (n : Nat) : f_X6_init_b15  (n + 1) = g_X6_init_b15 (f_X6_init_b15  n) := rfl
theorem u_X9_init_b34 (n : Nat) : f_X9_init_b34  (n + 1) = g_X9_init_b34 (f_X9_init_b34  n) := rfl
theorem u_X8_init_b40 (n : Nat) : f_X8_init_b40  (n + 1) = g_X8_init_b40 (f_X8_init_b40  n) := rfl
theorem u_X3_init_b23 (n : Nat) : f_X3_init_b23  (n + 1) = g_X3_init_b23 (f_X3_init_b23  n) := rfl
theorem u_X11_init_b32 (n : Nat) : f_X11_init_b32  (n + 1) = g_X11_init_b32 (f_X11_init_b32  n) := rfl
theorem u_X9_addSample_b38 (k11 : jw_H → Nat → Int32 → Option Nat → Int32 → Int32 → Option (Unit × jw_H)) (n : Nat) : f_X9_addSample_b38 k11 (n + 1) = g_X9_addSample_b38 k11 (f_X9_addSample_b38 k11 n) := rfl
theorem u_X9_addSample_b11 (n : Nat) : f_X9_addSample_b11  (n + 1) = g_X9_addSample_b11 (f_X9_addSample_b11  n) := rfl
theorem u_L_rows_b30 (k6 : jw_H → Option Nat → Int64 → Int32 → Option (Int64 × jw_H)) (n : Nat) : f_L_rows_b30 k6 (n + 1) = g_L_rows_b30 k6 (f_L_rows_b30 k6 n) := rfl
theorem u_L_rows_b6 (n : Nat) : f_L_rows_b6  (n + 1) = g_L_rows_b6 (f_L_rows_b6  n) := rfl
theorem u_L_all_b46 (n : Nat) : f_L_all_b46  (n + 1) = g_L_all_b46 (f_L_all_b46  n) := rfl
theorem u_L_all_b17 (n : Nat) : f_L_all_b17  (n + 1) = g_L_all_b17 (f_L_all_b17  n) := rfl
theorem u_L_lines_b8 (n : Nat) : f_L_lines_b8  (n + 1) = g_L_lines_b8 (f_L_lines_b8  n) := rfl
theorem u_L_typed_b6 (n : Nat) : f_L_typed_b6  (n + 1) = g_L_typed_b6 (f_L_typed_b6  n) := rfl
theorem u_L_oneByOne_b106 (n : Nat) : f_L_oneByOne_b106  (n + 1) = g_L_oneByOne_b106 (f_L_oneByOne_b106  n) := rfl
theorem u_L_found_b36 (n : Nat) : f_L_found_b36  (n + 1) = g_L_found_b36 (f_L_found_b36  n) := rfl
theorem u_L_law_b45 (Ls : Nat) (xs : Nat → Int32) (n : Nat) : f_L_law_b45 Ls xs (n + 1) = g_L_law_b45 Ls xs (f_L_law_b45 Ls xs n) := rfl
