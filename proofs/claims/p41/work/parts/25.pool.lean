theorem jw_c1 : ∀ w ∈ tables_1_1, w ∈ tables_1 := fun _ h => (List.mem_append_left _ (h))
theorem jw_c2 : ∀ w ∈ tables_1_2, w ∈ tables_1 := fun _ h => (List.mem_append_right _ (List.mem_append_left _ (h)))
theorem jw_c3 : ∀ w ∈ tables_1_3, w ∈ tables_1 := fun _ h => (List.mem_append_right _ (List.mem_append_right _ (List.mem_append_left _ (h))))
theorem jw_c4 : ∀ w ∈ tables_1_4, w ∈ tables_1 := fun _ h => (List.mem_append_right _ (List.mem_append_right _ (List.mem_append_right _ (List.mem_append_left _ (h)))))
theorem jw_c5 : ∀ w ∈ tables_1_5, w ∈ tables_1 := fun _ h => (List.mem_append_right _ (List.mem_append_right _ (List.mem_append_right _ (List.mem_append_right _ (List.mem_append_left _ (h))))))
theorem jw_c6 : ∀ w ∈ tables_1_6, w ∈ tables_1 := fun _ h => (List.mem_append_right _ (List.mem_append_right _ (List.mem_append_right _ (List.mem_append_right _ (List.mem_append_right _ (h))))))
theorem jw_p1 : ∀ q ∈ lw_privs_1, Cond.selects q.1.cls q.1 q.1 ∈ lw_tbl := fun q h => List.mem_append_left _ (List.mem_map_of_mem (f := fun q : MethodName × Nat => Cond.selects q.1.cls q.1 q.1) (show q ∈ lw_privs from (List.mem_append_left _ (h))))
theorem jw_p2 : ∀ q ∈ lw_privs_2, Cond.selects q.1.cls q.1 q.1 ∈ lw_tbl := fun q h => List.mem_append_left _ (List.mem_map_of_mem (f := fun q : MethodName × Nat => Cond.selects q.1.cls q.1 q.1) (show q ∈ lw_privs from (List.mem_append_right _ (List.mem_append_left _ (h)))))
theorem jw_p3 : ∀ q ∈ lw_privs_3, Cond.selects q.1.cls q.1 q.1 ∈ lw_tbl := fun q h => List.mem_append_left _ (List.mem_map_of_mem (f := fun q : MethodName × Nat => Cond.selects q.1.cls q.1 q.1) (show q ∈ lw_privs from (List.mem_append_right _ (List.mem_append_right _ (List.mem_append_left _ (h))))))
theorem jw_p4 : ∀ q ∈ lw_privs_4, Cond.selects q.1.cls q.1 q.1 ∈ lw_tbl := fun q h => List.mem_append_left _ (List.mem_map_of_mem (f := fun q : MethodName × Nat => Cond.selects q.1.cls q.1 q.1) (show q ∈ lw_privs from (List.mem_append_right _ (List.mem_append_right _ (List.mem_append_right _ (List.mem_append_left _ (h)))))))
theorem jw_p5 : ∀ q ∈ lw_privs_5, Cond.selects q.1.cls q.1 q.1 ∈ lw_tbl := fun q h => List.mem_append_left _ (List.mem_map_of_mem (f := fun q : MethodName × Nat => Cond.selects q.1.cls q.1 q.1) (show q ∈ lw_privs from (List.mem_append_right _ (List.mem_append_right _ (List.mem_append_right _ (List.mem_append_right _ (List.mem_append_left _ (h))))))))
theorem jw_p6 : ∀ q ∈ lw_privs_6, Cond.selects q.1.cls q.1 q.1 ∈ lw_tbl := fun q h => List.mem_append_left _ (List.mem_map_of_mem (f := fun q : MethodName × Nat => Cond.selects q.1.cls q.1 q.1) (show q ∈ lw_privs from (List.mem_append_right _ (List.mem_append_right _ (List.mem_append_right _ (List.mem_append_right _ (List.mem_append_right _ (List.mem_append_left _ (h)))))))))
theorem jw_p7 : ∀ q ∈ lw_privs_7, Cond.selects q.1.cls q.1 q.1 ∈ lw_tbl := fun q h => List.mem_append_left _ (List.mem_map_of_mem (f := fun q : MethodName × Nat => Cond.selects q.1.cls q.1 q.1) (show q ∈ lw_privs from (List.mem_append_right _ (List.mem_append_right _ (List.mem_append_right _ (List.mem_append_right _ (List.mem_append_right _ (List.mem_append_right _ (List.mem_append_left _ (h))))))))))
theorem jw_p8 : ∀ q ∈ lw_privs_8, Cond.selects q.1.cls q.1 q.1 ∈ lw_tbl := fun q h => List.mem_append_left _ (List.mem_map_of_mem (f := fun q : MethodName × Nat => Cond.selects q.1.cls q.1 q.1) (show q ∈ lw_privs from (List.mem_append_right _ (List.mem_append_right _ (List.mem_append_right _ (List.mem_append_right _ (List.mem_append_right _ (List.mem_append_right _ (List.mem_append_right _ (List.mem_append_left _ (h)))))))))))
theorem jw_p9 : ∀ q ∈ lw_privs_9, Cond.selects q.1.cls q.1 q.1 ∈ lw_tbl := fun q h => List.mem_append_left _ (List.mem_map_of_mem (f := fun q : MethodName × Nat => Cond.selects q.1.cls q.1 q.1) (show q ∈ lw_privs from (List.mem_append_right _ (List.mem_append_right _ (List.mem_append_right _ (List.mem_append_right _ (List.mem_append_right _ (List.mem_append_right _ (List.mem_append_right _ (List.mem_append_right _ (h)))))))))))
theorem jw_tt {w : Cond} (h : w ∈ tables_1) (g : goodWord w = true) : w ∈ jw_T := jw_Tin (List.mem_append_right _ h) g
theorem jw_tn {w : Cond} (h : w ∈ tables_1) (g : jw_nest w = true) : w ∈ jw_Nb := List.mem_filter.mpr ⟨h, g⟩
abbrev uX11_type : jw_U := (yX11_type.cls, cX11_type, 2, false, (some .int), some [], none)
abbrev uX11_wipe : jw_U := (yX11_wipe.cls, cX11_wipe, 2, false, (some .int), some [], none)
abbrev uX11_lines : jw_U := (yX11_lines.cls, cX11_lines, 1, false, (some .int), some [], none)
abbrev uX7_has : jw_U := (yX7_has.cls, cX7_has, 2, false, (some .boolean), some [], none)
abbrev uX7_lengthOf : jw_U := (yX7_lengthOf.cls, cX7_lengthOf, 2, false, (some .int), some [], none)
abbrev uX11_length : jw_U := (yX11_length.cls, cX11_length, 2, false, (some .int), some [], none)
abbrev uX7_signAt : jw_U := (yX7_signAt.cls, cX7_signAt, 3, false, (some .int), some [], none)
abbrev uX11_at : jw_U := (yX11_at.cls, cX11_at, 4, false, (some .int), some [], none)
abbrev uX11_present : jw_U := (yX11_present.cls, cX11_present, 1, false, (some .int), some [], none)
abbrev uX9_idOf : jw_U := (yX9_idOf.cls, cX9_idOf, 2, false, (some .int), some [], none)
abbrev uX11_id : jw_U := (yX11_id.cls, cX11_id, 2, false, (some .int), some [], none)
abbrev uX9_markedId : jw_U := (yX9_markedId.cls, cX9_markedId, 2, false, (some .int), some [], none)
abbrev uX9_numberOf : jw_U := (yX9_numberOf.cls, cX9_numberOf, 3, false, (some .int), some [], none)
abbrev uX9_markedLine : jw_U := (yX9_markedLine.cls, cX9_markedLine, 3, false, (some .int), some [], none)
abbrev uX11_mark : jw_U := (yX11_mark.cls, cX11_mark, 2, false, (some .int), some [], none)
abbrev uX11_deeds : jw_U := (yX11_deeds.cls, cX11_deeds, 1, false, (some .int), some [], none)
abbrev uJ9_min_7cf53 : jw_U := (yJ9_min_7cf53.cls, cJ9_min_7cf53, 2, false, (some .int), some [], none)
abbrev uX6_begin : jw_U := (yX6_begin.cls, cX6_begin, 3, false, none, some [], none)
abbrev uX0_clear : jw_U := (yX0_clear.cls, cX0_clear, 1, false, none, some [], none)
abbrev uX5_clear : jw_U := (yX5_clear.cls, cX5_clear, 1, false, none, some [], none)
abbrev uX6_pass : jw_U := (yX6_pass.cls, cX6_pass, 2, false, (some .boolean), some [], none)
abbrev uX6_peek : jw_U := (yX6_peek.cls, cX6_peek, 1, false, (some .int), some [], none)
abbrev uX6_beginsAddress : jw_U := (yX6_beginsAddress.cls, cX6_beginsAddress, 2, false, (some .boolean), some [], none)
abbrev uJ9_max_7cf53 : jw_U := (yJ9_max_7cf53.cls, cJ9_max_7cf53, 2, false, (some .int), some [], none)
abbrev uX6_readNumber : jw_U := (yX6_readNumber.cls, cX6_readNumber, 4, false, (some .int), some [], none)
abbrev uX6_readFrom : jw_U := (yX6_readFrom.cls, cX6_readFrom, 4, false, (some .int), some [], none)
abbrev uX6_addElement : jw_U := (yX6_addElement.cls, cX6_addElement, 4, false, none, some [], none)
abbrev uX11_bitOf : jw_U := (yX11_bitOf.cls, cX11_bitOf, 1, false, (some .long), some [], none)
abbrev uX6_beginsPlain : jw_U := (yX6_beginsPlain.cls, cX6_beginsPlain, 2, false, (some .boolean), some [], none)
abbrev uX6_readPlain : jw_U := (yX6_readPlain.cls, cX6_readPlain, 6, false, (some .boolean), some [], none)
abbrev uX6_readPattern : jw_U := (yX6_readPattern.cls, cX6_readPattern, 9, false, (some .int), some [], none)
abbrev uX6_readAddress : jw_U := (yX6_readAddress.cls, cX6_readAddress, 6, false, (some .boolean), some [], none)
abbrev uX6_readWhere : jw_U := (yX6_readWhere.cls, cX6_readWhere, 2, false, (some .boolean), some [], none)
abbrev uX5_holdsOthers : jw_U := (yX5_holdsOthers.cls, cX5_holdsOthers, 1, false, (some .boolean), some [], none)
abbrev uX5_steers : jw_U := (yX5_steers.cls, cX5_steers, 1, false, (some .boolean), some [], none)
abbrev uX6_readRows : jw_U := (yX6_readRows.cls, cX6_readRows, 6, false, (some .boolean), some [], none)
abbrev uX6_readFindNumber : jw_U := (yX6_readFindNumber.cls, cX6_readFindNumber, 2, false, (some .int), some [], none)
abbrev uX6_readReplace : jw_U := (yX6_readReplace.cls, cX6_readReplace, 4, false, (some .boolean), some [], none)
abbrev uX6_readTurn : jw_U := (yX6_readTurn.cls, cX6_readTurn, 3, false, (some .boolean), some [], none)
abbrev uX6_readPatternOf : jw_U := (yX6_readPatternOf.cls, cX6_readPatternOf, 2, false, (some .boolean), some [], none)
abbrev uX6_readAct : jw_U := (yX6_readAct.cls, cX6_readAct, 4, false, (some .boolean), some [], none)
abbrev uX6_readOrder : jw_U := (yX6_readOrder.cls, cX6_readOrder, 3, false, (some .boolean), some [], none)
abbrev uX6_orderAt : jw_U := (yX6_orderAt.cls, cX6_orderAt, 2, false, (some (.object "Lineorders$Order")), some [], none)
abbrev uX6_readOrders : jw_U := (yX6_readOrders.cls, cX6_readOrders, 8, false, (some .int), some [], none)
abbrev uX11_fault : jw_U := (yX11_fault.cls, cX11_fault, 1, false, (some .int), some [], none)
abbrev uJ9_floorMod_7cf53 : jw_U := (yJ9_floorMod_7cf53.cls, cJ9_floorMod_7cf53, 3, false, (some .int), some [], none)
abbrev uX3_slotOf : jw_U := (yX3_slotOf.cls, cX3_slotOf, 2, false, (some .int), some [], none)
abbrev uX3_slot : jw_U := (yX3_slot.cls, cX3_slot, 3, false, (some (.object "Lineorders$Text")), some [], none)
abbrev uX7_copy : jw_U := (yX7_copy.cls, cX7_copy, 3, false, none, some [], none)
abbrev uX9_copy : jw_U := (yX9_copy.cls, cX9_copy, 2, false, none, some [], none)
abbrev uX3_note : jw_U := (yX3_note.cls, cX3_note, 3, false, none, some [], none)
abbrev uX5_takesAll : jw_U := (yX5_takesAll.cls, cX5_takesAll, 1, false, (some .boolean), some [], none)
abbrev uX4_load : jw_U := (yX4_load.cls, cX4_load, 6, false, none, some [], none)
abbrev uX4_fits : jw_U := (yX4_fits.cls, cX4_fits, 12, false, (some .int), some [], none)
abbrev uX4_search : jw_U := (yX4_search.cls, cX4_search, 6, false, (some .boolean), some [], none)
abbrev uX4_lineWith : jw_U := (yX4_lineWith.cls, cX4_lineWith, 6, false, (some .int), some [], none)
abbrev uX10_locate : jw_U := (yX10_locate.cls, cX10_locate, 3, false, (some .int), some [], none)
abbrev uX5_mayStandBehindNone : jw_U := (yX5_mayStandBehindNone.cls, cX5_mayStandBehindNone, 1, false, (some .boolean), some [], none)
abbrev uX10_findRange : jw_U := (yX10_findRange.cls, cX10_findRange, 4, false, (some .int), some [], none)
abbrev uX6_placeBehind : jw_U := (yX6_placeBehind.cls, cX6_placeBehind, 4, false, (some .int), some [], none)
abbrev uX10_steer : jw_U := (yX10_steer.cls, cX10_steer, 2, false, (some .int), some [], none)
abbrev uX4_holds : jw_U := (yX4_holds.cls, cX4_holds, 4, false, (some .boolean), some [], none)
abbrev uX10_meet : jw_U := (yX10_meet.cls, cX10_meet, 4, false, none, some [], none)
abbrev uX8_file : jw_U := (yX8_file.cls, cX8_file, 2, false, (some (.object "Lineorders$Rows")), some [], none)
abbrev uX8_copy : jw_U := (yX8_copy.cls, cX8_copy, 5, false, none, some [], none)
abbrev uX2_appendRow : jw_U := (yX2_appendRow.cls, cX2_appendRow, 4, false, none, some [], none)
abbrev uX6_signAt : jw_U := (yX6_signAt.cls, cX6_signAt, 2, false, (some .int), some [], none)
abbrev uX2_append : jw_U := (yX2_append.cls, cX2_append, 2, false, none, some [], none)
abbrev uX2_appendPut : jw_U := (yX2_appendPut.cls, cX2_appendPut, 5, false, none, some [], none)
abbrev uX2_replace : jw_U := (yX2_replace.cls, cX2_replace, 5, false, none, some [], none)
abbrev uX2_turn : jw_U := (yX2_turn.cls, cX2_turn, 6, false, none, some [], none)
abbrev uX2_shiftBehind : jw_U := (yX2_shiftBehind.cls, cX2_shiftBehind, 3, false, none, some [], none)
abbrev uX2_shiftAhead : jw_U := (yX2_shiftAhead.cls, cX2_shiftAhead, 4, false, none, some [], none)
abbrev uX7_write : jw_U := (yX7_write.cls, cX7_write, 5, false, none, some [], none)
abbrev uX2_change : jw_U := (yX2_change.cls, cX2_change, 6, false, (some .int), some [], none)
abbrev uX7_shrink : jw_U := (yX7_shrink.cls, cX7_shrink, 2, false, none, some [], none)
abbrev uX7_add : jw_U := (yX7_add.cls, cX7_add, 4, false, (some .boolean), some [], none)
abbrev uX6_rowsOf : jw_U := (yX6_rowsOf.cls, cX6_rowsOf, 5, false, none, some [], none)
abbrev uX9_dropMarks : jw_U := (yX9_dropMarks.cls, cX9_dropMarks, 3, false, none, some [], none)
abbrev uX7_close : jw_U := (yX7_close.cls, cX7_close, 4, false, none, some [], none)
abbrev uX9_cut : jw_U := (yX9_cut.cls, cX9_cut, 5, false, none, some [], none)
abbrev uX7_open : jw_U := (yX7_open.cls, cX7_open, 5, false, (some .boolean), some [], none)
abbrev uX9_open : jw_U := (yX9_open.cls, cX9_open, 5, false, (some .boolean), some [], none)
abbrev uX7_take : jw_U := (yX7_take.cls, cX7_take, 4, false, none, some [], none)
abbrev uX10_bring : jw_U := (yX10_bring.cls, cX10_bring, 7, false, (some .int), some [], none)
abbrev uX10_readFile : jw_U := (yX10_readFile.cls, cX10_readFile, 2, false, (some .int), some [], none)
abbrev uX7_addRow : jw_U := (yX7_addRow.cls, cX7_addRow, 3, false, (some .boolean), some [], none)
abbrev uX8_hold : jw_U := (yX8_hold.cls, cX8_hold, 5, false, none, some [], none)
abbrev uX10_exchange : jw_U := (yX10_exchange.cls, cX10_exchange, 2, false, (some .int), some [], none)
abbrev uX7_extend : jw_U := (yX7_extend.cls, cX7_extend, 6, false, (some .boolean), some [], none)
abbrev uX10_join : jw_U := (yX10_join.cls, cX10_join, 3, false, (some .int), some [], none)
abbrev uX7_moveRest : jw_U := (yX7_moveRest.cls, cX7_moveRest, 3, false, none, some [], none)
abbrev uX10_part : jw_U := (yX10_part.cls, cX10_part, 4, false, (some .int), some [], none)
abbrev uX7_same : jw_U := (yX7_same.cls, cX7_same, 6, false, (some .boolean), some [], none)
abbrev uX10_leaveOutSame : jw_U := (yX10_leaveOutSame.cls, cX10_leaveOutSame, 3, false, (some .int), some [], none)
abbrev uX10_lineUp : jw_U := (yX10_lineUp.cls, cX10_lineUp, 6, false, (some .int), some [], none)
abbrev uX9_arrange : jw_U := (yX9_arrange.cls, cX9_arrange, 5, false, none, some [], none)
abbrev uX10_move : jw_U := (yX10_move.cls, cX10_move, 5, false, (some .int), some [], none)
abbrev uX10_copyLines : jw_U := (yX10_copyLines.cls, cX10_copyLines, 4, false, (some .int), some [], none)
abbrev uJ6_compare_7cf53 : jw_U := (yJ6_compare_7cf53.cls, cJ6_compare_7cf53, 2, false, (some .int), some [], none)
abbrev uX7_compareFrom : jw_U := (yX7_compareFrom.cls, cX7_compareFrom, 7, false, (some .int), some [], none)
abbrev uX10_sort : jw_U := (yX10_sort.cls, cX10_sort, 8, false, (some .int), some [], none)
abbrev uX8_writeNumber : jw_U := (yX8_writeNumber.cls, cX8_writeNumber, 4, false, (some .int), some [], none)
abbrev uX8_print : jw_U := (yX8_print.cls, cX8_print, 10, false, (some .int), some [], none)
abbrev uX8_printNumber : jw_U := (yX8_printNumber.cls, cX8_printNumber, 2, false, (some .int), some [], none)
abbrev uX8_holdMore : jw_U := (yX8_holdMore.cls, cX8_holdMore, 5, false, (some .int), some [], none)
abbrev uX9_setMark : jw_U := (yX9_setMark.cls, cX9_setMark, 3, false, none, some [], none)
abbrev uX10_writeFile : jw_U := (yX10_writeFile.cls, cX10_writeFile, 3, false, (some .int), some [], none)
abbrev uX10_tell : jw_U := (yX10_tell.cls, cX10_tell, 3, false, (some .int), some [], none)
abbrev uX10_doOne : jw_U := (yX10_doOne.cls, cX10_doOne, 3, false, (some .int), some [], none)
abbrev uX10_doGroup : jw_U := (yX10_doGroup.cls, cX10_doGroup, 8, false, (some .int), some [], none)
abbrev uX3_restore : jw_U := (yX3_restore.cls, cX3_restore, 3, false, none, some [], none)
abbrev uX5_isDeed : jw_U := (yX5_isDeed.cls, cX5_isDeed, 1, false, (some .boolean), some [], none)
abbrev uX3_store : jw_U := (yX3_store.cls, cX3_store, 3, false, none, some [], none)
abbrev uX10_perform : jw_U := (yX10_perform.cls, cX10_perform, 6, false, (some .int), some [], none)
abbrev uX11_run : jw_U := (yX11_run.cls, cX11_run, 2, false, (some .int), some [], none)
abbrev uX9_isWell : jw_U := (yX9_isWell.cls, cX9_isWell, 4, false, (some .boolean), some [], none)
abbrev uX8_isWell : jw_U := (yX8_isWell.cls, cX8_isWell, 3, false, (some .boolean), some [], none)
abbrev uX11_isSound : jw_U := (yX11_isSound.cls, cX11_isSound, 1, false, (some .boolean), some [], none)
abbrev uX11_reason : jw_U := (yX11_reason.cls, cX11_reason, 1, false, (some .int), some [], none)
abbrev uX3_latestCall : jw_U := (yX3_latestCall.cls, cX3_latestCall, 2, false, (some .int), some [], none)
abbrev uX3_takeBack : jw_U := (yX3_takeBack.cls, cX3_takeBack, 3, false, none, some [], none)
abbrev uX11_undoRun : jw_U := (yX11_undoRun.cls, cX11_undoRun, 4, false, (some .int), some [], none)
abbrev uX11_isNoScript : jw_U := (yX11_isNoScript.cls, cX11_isNoScript, 2, false, (some .boolean), some [], none)
abbrev uX11_keep : jw_U := (yX11_keep.cls, cX11_keep, 4, false, (some .int), some [], none)
abbrev uX11_play : jw_U := (yX11_play.cls, cX11_play, 3, false, (some .int), some [], none)
abbrev uX1_begin : jw_U := (yX1_begin.cls, cX1_begin, 4, false, none, some [], none)
abbrev uX1_takeNext : jw_U := (yX1_takeNext.cls, cX1_takeNext, 1, false, none, some [], none)
abbrev uX0_isNotByLine : jw_U := (yX0_isNotByLine.cls, cX0_isNotByLine, 1, false, (some .boolean), some [], none)
abbrev uX5_isNotByLine : jw_U := (yX5_isNotByLine.cls, cX5_isNotByLine, 1, false, (some .boolean), some [], none)
abbrev uX1_numberOf : jw_U := (yX1_numberOf.cls, cX1_numberOf, 2, false, (some .int), some [], none)
abbrev uX1_holdsAt : jw_U := (yX1_holdsAt.cls, cX1_holdsAt, 2, false, (some .boolean), some [], none)
abbrev uX0_isNumber : jw_U := (yX0_isNumber.cls, cX0_isNumber, 1, false, (some .boolean), some [], none)
abbrev uX1_holds : jw_U := (yX1_holds.cls, cX1_holds, 4, false, (some .boolean), some [], none)
abbrev uX1_steer : jw_U := (yX1_steer.cls, cX1_steer, 3, false, (some .int), some [], none)
abbrev uX1_putDue : jw_U := (yX1_putDue.cls, cX1_putDue, 3, false, none, some [], none)
abbrev uX9_append : jw_U := (yX9_append.cls, cX9_append, 4, false, (some .boolean), some [], none)
abbrev uX1_putNew : jw_U := (yX1_putNew.cls, cX1_putNew, 3, false, none, some [], none)
abbrev uX1_goAway : jw_U := (yX1_goAway.cls, cX1_goAway, 1, false, none, some [], none)
abbrev uX7_cutTo : jw_U := (yX7_cutTo.cls, cX7_cutTo, 3, false, none, some [], none)
abbrev uX1_part : jw_U := (yX1_part.cls, cX1_part, 2, false, none, some [], none)
abbrev uX1_join : jw_U := (yX1_join.cls, cX1_join, 1, false, none, some [], none)
abbrev uX1_exchange : jw_U := (yX1_exchange.cls, cX1_exchange, 1, false, none, some [], none)
abbrev uX1_writeFile : jw_U := (yX1_writeFile.cls, cX1_writeFile, 2, false, none, some [], none)
abbrev uX1_tell : jw_U := (yX1_tell.cls, cX1_tell, 2, false, none, some [], none)
abbrev uX1_doOne : jw_U := (yX1_doOne.cls, cX1_doOne, 2, false, none, some [], none)
abbrev uX1_doOrder : jw_U := (yX1_doOrder.cls, cX1_doOrder, 4, false, (some .int), some [], none)
abbrev uX1_finishWork : jw_U := (yX1_finishWork.cls, cX1_finishWork, 1, false, none, some [], none)
abbrev uX1_putRest : jw_U := (yX1_putRest.cls, cX1_putRest, 2, false, none, some [], none)
abbrev uX1_perform : jw_U := (yX1_perform.cls, cX1_perform, 3, false, (some .int), some [], none)
abbrev uX11_stream : jw_U := (yX11_stream.cls, cX11_stream, 3, false, (some .int), some [], none)
abbrev uX11_undo : jw_U := (yX11_undo.cls, cX11_undo, 1, false, (some .int), some [], none)
abbrev uX6_readTapePattern : jw_U := (yX6_readTapePattern.cls, cX6_readTapePattern, 3, false, (some .int), some [], none)
abbrev uX11_patternFault : jw_U := (yX11_patternFault.cls, cX11_patternFault, 1, false, (some .int), some [], none)
abbrev uX11_findStart : jw_U := (yX11_findStart.cls, cX11_findStart, 2, false, (some .int), some [], none)
abbrev uX11_find : jw_U := (yX11_find.cls, cX11_find, 2, false, (some .int), some [], none)
abbrev uX11_findEnd : jw_U := (yX11_findEnd.cls, cX11_findEnd, 2, false, (some .int), some [], none)
abbrev uX0_init : jw_U := (yX0_init.cls, cX0_init, 1, true, none, some [], none)
abbrev uX5_init : jw_U := (yX5_init.cls, cX5_init, 1, true, none, some [], none)
abbrev uX6_init : jw_U := (yX6_init.cls, cX6_init, 2, true, none, some [], none)
abbrev uX7_init : jw_U := (yX7_init.cls, cX7_init, 3, true, none, some [], none)
abbrev uX9_init : jw_U := (yX9_init.cls, cX9_init, 2, true, none, some [], none)
abbrev uX8_init : jw_U := (yX8_init.cls, cX8_init, 2, true, none, some [], none)
abbrev uX3_init : jw_U := (yX3_init.cls, cX3_init, 2, true, none, some [], none)
abbrev uX4_init : jw_U := (yX4_init.cls, cX4_init, 2, true, none, some [], none)
abbrev uX2_init : jw_U := (yX2_init.cls, cX2_init, 3, true, none, some [], none)
abbrev uX10_init : jw_U := (yX10_init.cls, cX10_init, 8, true, none, some [], none)
abbrev uX1_init : jw_U := (yX1_init.cls, cX1_init, 7, true, none, some [], none)
abbrev uX11_init : jw_U := (yX11_init.cls, cX11_init, 3, true, none, some [], none)
abbrev uX9_nextLot : jw_U := (yX9_nextLot.cls, cX9_nextLot, 2, false, (some .int), some [], none)
abbrev uX9_addSample : jw_U := (yX9_addSample.cls, cX9_addSample, 9, false, none, some [], none)
abbrev uX11_sample : jw_U := (yX11_sample.cls, cX11_sample, 3, false, (some .int), some [], none)
set_option maxRecDepth 100000 in
theorem ac_byte : Cond.arrayClass .byte ∈ jw_T := (jw_tt (jw_c1 _ (List.mem_of_getElem? (i := 74) rfl)) rfl)
set_option maxRecDepth 100000 in
theorem ac_int : Cond.arrayClass .int ∈ jw_T := (jw_tt (jw_c1 _ (List.mem_of_getElem? (i := 75) rfl)) rfl)
set_option maxRecDepth 100000 in
theorem ac_long : Cond.arrayClass .long ∈ jw_T := (jw_tt (jw_c1 _ (List.mem_of_getElem? (i := 189) rfl)) rfl)
set_option maxRecDepth 100000 in
theorem al_X2_68 : Cond.methodLink RX2 68 arraycopyName ∈ jw_T := (jw_tt (jw_c5 _ (List.mem_of_getElem? (i := 91) rfl)) rfl)
set_option maxRecDepth 100000 in
theorem an_0 : Cond.native arraycopyName ∈ jw_T := (jw_tt (jw_c3 _ (List.mem_of_getElem? (i := 184) rfl)) rfl)
set_option maxRecDepth 100000 in
theorem as_0 : Cond.static arraycopyName ∈ jw_T := (jw_tt (jw_c3 _ (List.mem_of_getElem? (i := 183) rfl)) rfl)
set_option maxRecDepth 100000 in
theorem ai_0 : Cond.initialized "java/lang/System" ∈ jw_T := (jw_tt (jw_c1 _ (List.mem_of_getElem? (i := 19) rfl)) rfl)
set_option maxRecDepth 100000 in
theorem al_X7_32 : Cond.methodLink RX7 32 arraycopyName ∈ jw_T := (jw_tt (jw_c3 _ (List.mem_of_getElem? (i := 182) rfl)) rfl)
set_option maxRecDepth 100000 in
theorem al_X9_31 : Cond.methodLink RX9 31 arraycopyName ∈ jw_T := (jw_tt (jw_c3 _ (List.mem_of_getElem? (i := 185) rfl)) rfl)
set_option maxRecDepth 100000 in
theorem mt_X0_init : jw_mt yX0_init cX0_init 1 none 0 := ⟨((jw_tt (jw_c1 _ (List.mem_of_getElem? (i := 49) rfl)) rfl)), ((jw_tt (jw_c1 _ (List.mem_of_getElem? (i := 4) rfl)) rfl)), ⟨by decide, by decide, by decide +kernel⟩, by decide⟩
set_option maxRecDepth 100000 in
theorem in_X0_init : Cond.instanceMethod yX0_init ∈ jw_T := (jw_tt (jw_c1 _ (List.mem_of_getElem? (i := 48) rfl)) rfl)
set_option maxRecDepth 100000 in
theorem lk_X5_11 : jw_lk RX5 11 yX0_init := Or.inr ⟨"Lineorders", ((jw_tn (jw_c1 _ (List.mem_of_getElem? (i := 47) rfl)) rfl))⟩
set_option maxRecDepth 100000 in
theorem mt_X0_clear : jw_mt yX0_clear cX0_clear 1 none 0 := ⟨((jw_tt (jw_c4 _ (List.mem_of_getElem? (i := 146) rfl)) rfl)), ((jw_tt (jw_c1 _ (List.mem_of_getElem? (i := 4) rfl)) rfl)), ⟨by decide, by decide, by decide +kernel⟩, by decide⟩
set_option maxRecDepth 100000 in
theorem in_X0_clear : Cond.instanceMethod yX0_clear ∈ jw_T := (jw_tt (jw_c4 _ (List.mem_of_getElem? (i := 145) rfl)) rfl)
set_option maxRecDepth 100000 in
theorem se_X0_clear : Cond.selects yX0_clear.cls yX0_clear yX0_clear ∈ jw_T := (jw_Tin (jw_p2 _ (List.mem_of_getElem? (i := 10) rfl)) rfl)
set_option maxRecDepth 100000 in
theorem lk_X5_24 : jw_lk RX5 24 yX0_clear := Or.inr ⟨"Lineorders", ((jw_tn (jw_c4 _ (List.mem_of_getElem? (i := 143) rfl)) rfl))⟩
set_option maxRecDepth 100000 in
theorem mt_X0_isNotByLine : jw_mt yX0_isNotByLine cX0_isNotByLine 1 (some .boolean) 0 := ⟨((jw_tt (jw_c6 _ (List.mem_of_getElem? (i := 104) rfl)) rfl)), ((jw_tt (jw_c1 _ (List.mem_of_getElem? (i := 4) rfl)) rfl)), ⟨by decide, by decide, by decide +kernel⟩, by decide⟩
set_option maxRecDepth 100000 in
theorem in_X0_isNotByLine : Cond.instanceMethod yX0_isNotByLine ∈ jw_T := (jw_tt (jw_c6 _ (List.mem_of_getElem? (i := 103) rfl)) rfl)
set_option maxRecDepth 100000 in
theorem se_X0_isNotByLine : Cond.selects yX0_isNotByLine.cls yX0_isNotByLine yX0_isNotByLine ∈ jw_T := (jw_Tin (jw_p8 _ (List.mem_of_getElem? (i := 1) rfl)) rfl)
set_option maxRecDepth 100000 in
theorem lk_X5_62 : jw_lk RX5 62 yX0_isNotByLine := Or.inr ⟨"Lineorders", ((jw_tn (jw_c6 _ (List.mem_of_getElem? (i := 101) rfl)) rfl))⟩
set_option maxRecDepth 100000 in
theorem mt_X0_isNumber : jw_mt yX0_isNumber cX0_isNumber 1 (some .boolean) 0 := ⟨((jw_tt (jw_c6 _ (List.mem_of_getElem? (i := 122) rfl)) rfl)), ((jw_tt (jw_c1 _ (List.mem_of_getElem? (i := 4) rfl)) rfl)), ⟨by decide, by decide, by decide +kernel⟩, by decide⟩
set_option maxRecDepth 100000 in
theorem in_X0_isNumber : Cond.instanceMethod yX0_isNumber ∈ jw_T := (jw_tt (jw_c6 _ (List.mem_of_getElem? (i := 121) rfl)) rfl)
set_option maxRecDepth 100000 in
theorem se_X0_isNumber : Cond.selects yX0_isNumber.cls yX0_isNumber yX0_isNumber ∈ jw_T := (jw_Tin (jw_p8 _ (List.mem_of_getElem? (i := 5) rfl)) rfl)
set_option maxRecDepth 100000 in
theorem lk_X1_216 : jw_lk RX1 216 yX0_isNumber := Or.inr ⟨"Lineorders", ((jw_tn (jw_c6 _ (List.mem_of_getElem? (i := 119) rfl)) rfl))⟩
set_option maxRecDepth 100000 in
theorem mt_X1_init : jw_mt yX1_init cX1_init 7 none 6 := ⟨((jw_tt (jw_c2 _ (List.mem_of_getElem? (i := 190) rfl)) rfl)), ((jw_tt (jw_c1 _ (List.mem_of_getElem? (i := 13) rfl)) rfl)), ⟨by decide, by decide, by decide +kernel⟩, by decide⟩
set_option maxRecDepth 100000 in
theorem in_X1_init : Cond.instanceMethod yX1_init ∈ jw_T := (jw_tt (jw_c2 _ (List.mem_of_getElem? (i := 189) rfl)) rfl)
set_option maxRecDepth 100000 in
theorem lk_X11_81 : jw_lk RX11 81 yX1_init := Or.inr ⟨"Lineorders", ((jw_tn (jw_c2 _ (List.mem_of_getElem? (i := 188) rfl)) rfl))⟩
set_option maxRecDepth 100000 in
theorem mt_X1_begin : jw_mt yX1_begin cX1_begin 4 none 0 := ⟨((jw_tt (jw_c6 _ (List.mem_of_getElem? (i := 81) rfl)) rfl)), ((jw_tt (jw_c1 _ (List.mem_of_getElem? (i := 13) rfl)) rfl)), ⟨by decide, by decide, by decide +kernel⟩, by decide⟩
set_option maxRecDepth 100000 in
theorem in_X1_begin : Cond.instanceMethod yX1_begin ∈ jw_T := (jw_tt (jw_c6 _ (List.mem_of_getElem? (i := 80) rfl)) rfl)
set_option maxRecDepth 100000 in
theorem se_X1_begin : Cond.selects yX1_begin.cls yX1_begin yX1_begin ∈ jw_T := (jw_Tin (jw_p7 _ (List.mem_of_getElem? (i := 13) rfl)) rfl)
set_option maxRecDepth 100000 in
theorem lk_X1_55 : jw_lk RX1 55 yX1_begin := Or.inl ((jw_tt (jw_c6 _ (List.mem_of_getElem? (i := 78) rfl)) rfl))
set_option maxRecDepth 100000 in
theorem mt_X1_doOne : jw_mt yX1_doOne cX1_doOne 2 none 1 := ⟨((jw_tt (jw_c6 _ (List.mem_of_getElem? (i := 133) rfl)) rfl)), ((jw_tt (jw_c1 _ (List.mem_of_getElem? (i := 13) rfl)) rfl)), ⟨by decide, by decide, by decide +kernel⟩, by decide⟩
set_option maxRecDepth 100000 in
theorem in_X1_doOne : Cond.instanceMethod yX1_doOne ∈ jw_T := (jw_tt (jw_c6 _ (List.mem_of_getElem? (i := 132) rfl)) rfl)
set_option maxRecDepth 100000 in
theorem se_X1_doOne : Cond.selects yX1_doOne.cls yX1_doOne yX1_doOne ∈ jw_T := (jw_Tin (jw_p8 _ (List.mem_of_getElem? (i := 7) rfl)) rfl)
set_option maxRecDepth 100000 in
theorem lk_X1_192 : jw_lk RX1 192 yX1_doOne := Or.inl ((jw_tt (jw_c6 _ (List.mem_of_getElem? (i := 130) rfl)) rfl))
set_option maxRecDepth 100000 in
theorem mt_X1_doOrder : jw_mt yX1_doOrder cX1_doOrder 4 (some .int) 1 := ⟨((jw_tt (jw_c6 _ (List.mem_of_getElem? (i := 96) rfl)) rfl)), ((jw_tt (jw_c1 _ (List.mem_of_getElem? (i := 13) rfl)) rfl)), ⟨by decide, by decide, by decide +kernel⟩, by decide⟩
set_option maxRecDepth 100000 in
theorem in_X1_doOrder : Cond.instanceMethod yX1_doOrder ∈ jw_T := (jw_tt (jw_c6 _ (List.mem_of_getElem? (i := 95) rfl)) rfl)
set_option maxRecDepth 100000 in
theorem se_X1_doOrder : Cond.selects yX1_doOrder.cls yX1_doOrder yX1_doOrder ∈ jw_T := (jw_Tin (jw_p7 _ (List.mem_of_getElem? (i := 15) rfl)) rfl)
set_option maxRecDepth 100000 in
theorem lk_X1_77 : jw_lk RX1 77 yX1_doOrder := Or.inl ((jw_tt (jw_c6 _ (List.mem_of_getElem? (i := 93) rfl)) rfl))
set_option maxRecDepth 100000 in
theorem mt_X1_exchange : jw_mt yX1_exchange cX1_exchange 1 none 0 := ⟨((jw_tt (jw_c6 _ (List.mem_of_getElem? (i := 173) rfl)) rfl)), ((jw_tt (jw_c1 _ (List.mem_of_getElem? (i := 13) rfl)) rfl)), ⟨by decide, by decide, by decide +kernel⟩, by decide⟩
set_option maxRecDepth 100000 in
theorem in_X1_exchange : Cond.instanceMethod yX1_exchange ∈ jw_T := (jw_tt (jw_c6 _ (List.mem_of_getElem? (i := 172) rfl)) rfl)
set_option maxRecDepth 100000 in
theorem se_X1_exchange : Cond.selects yX1_exchange.cls yX1_exchange yX1_exchange ∈ jw_T := (jw_Tin (jw_p8 _ (List.mem_of_getElem? (i := 15) rfl)) rfl)
set_option maxRecDepth 100000 in
theorem lk_X1_269 : jw_lk RX1 269 yX1_exchange := Or.inl ((jw_tt (jw_c6 _ (List.mem_of_getElem? (i := 170) rfl)) rfl))
set_option maxRecDepth 100000 in
theorem mt_X1_finishWork : jw_mt yX1_finishWork cX1_finishWork 1 none 0 := ⟨((jw_tt (jw_c6 _ (List.mem_of_getElem? (i := 192) rfl)) rfl)), ((jw_tt (jw_c1 _ (List.mem_of_getElem? (i := 13) rfl)) rfl)), ⟨by decide, by decide, by decide +kernel⟩, by decide⟩
set_option maxRecDepth 100000 in
theorem in_X1_finishWork : Cond.instanceMethod yX1_finishWork ∈ jw_T := (jw_tt (jw_c6 _ (List.mem_of_getElem? (i := 191) rfl)) rfl)
set_option maxRecDepth 100000 in
theorem se_X1_finishWork : Cond.selects yX1_finishWork.cls yX1_finishWork yX1_finishWork ∈ jw_T := (jw_Tin (jw_p9 _ (List.mem_of_getElem? (i := 2) rfl)) rfl)
set_option maxRecDepth 100000 in
theorem lk_X1_81 : jw_lk RX1 81 yX1_finishWork := Or.inl ((jw_tt (jw_c6 _ (List.mem_of_getElem? (i := 189) rfl)) rfl))
set_option maxRecDepth 100000 in
theorem mt_X1_goAway : jw_mt yX1_goAway cX1_goAway 1 none 0 := ⟨((jw_tt (jw_c6 _ (List.mem_of_getElem? (i := 152) rfl)) rfl)), ((jw_tt (jw_c1 _ (List.mem_of_getElem? (i := 13) rfl)) rfl)), ⟨by decide, by decide, by decide +kernel⟩, by decide⟩
set_option maxRecDepth 100000 in
theorem in_X1_goAway : Cond.instanceMethod yX1_goAway ∈ jw_T := (jw_tt (jw_c6 _ (List.mem_of_getElem? (i := 151) rfl)) rfl)
set_option maxRecDepth 100000 in
theorem se_X1_goAway : Cond.selects yX1_goAway.cls yX1_goAway yX1_goAway ∈ jw_T := (jw_Tin (jw_p8 _ (List.mem_of_getElem? (i := 11) rfl)) rfl)
set_option maxRecDepth 100000 in
theorem lk_X1_257 : jw_lk RX1 257 yX1_goAway := Or.inl ((jw_tt (jw_c6 _ (List.mem_of_getElem? (i := 149) rfl)) rfl))
set_option maxRecDepth 100000 in
theorem mt_X1_holds : jw_mt yX1_holds cX1_holds 4 (some .boolean) 1 := ⟨((jw_tt (jw_c6 _ (List.mem_of_getElem? (i := 108) rfl)) rfl)), ((jw_tt (jw_c1 _ (List.mem_of_getElem? (i := 13) rfl)) rfl)), ⟨by decide, by decide, by decide +kernel⟩, by decide⟩
set_option maxRecDepth 100000 in
theorem in_X1_holds : Cond.instanceMethod yX1_holds ∈ jw_T := (jw_tt (jw_c6 _ (List.mem_of_getElem? (i := 107) rfl)) rfl)
set_option maxRecDepth 100000 in
theorem se_X1_holds : Cond.selects yX1_holds.cls yX1_holds yX1_holds ∈ jw_T := (jw_Tin (jw_p8 _ (List.mem_of_getElem? (i := 2) rfl)) rfl)
set_option maxRecDepth 100000 in
theorem lk_X1_168 : jw_lk RX1 168 yX1_holds := Or.inl ((jw_tt (jw_c6 _ (List.mem_of_getElem? (i := 105) rfl)) rfl))
set_option maxRecDepth 100000 in
theorem mt_X1_holdsAt : jw_mt yX1_holdsAt cX1_holdsAt 2 (some .boolean) 1 := ⟨((jw_tt (jw_c6 _ (List.mem_of_getElem? (i := 112) rfl)) rfl)), ((jw_tt (jw_c1 _ (List.mem_of_getElem? (i := 13) rfl)) rfl)), ⟨by decide, by decide, by decide +kernel⟩, by decide⟩
set_option maxRecDepth 100000 in
theorem in_X1_holdsAt : Cond.instanceMethod yX1_holdsAt ∈ jw_T := (jw_tt (jw_c6 _ (List.mem_of_getElem? (i := 111) rfl)) rfl)
set_option maxRecDepth 100000 in
theorem se_X1_holdsAt : Cond.selects yX1_holdsAt.cls yX1_holdsAt yX1_holdsAt ∈ jw_T := (jw_Tin (jw_p8 _ (List.mem_of_getElem? (i := 3) rfl)) rfl)
set_option maxRecDepth 100000 in
theorem lk_X1_203 : jw_lk RX1 203 yX1_holdsAt := Or.inl ((jw_tt (jw_c6 _ (List.mem_of_getElem? (i := 109) rfl)) rfl))
set_option maxRecDepth 100000 in
theorem mt_X1_join : jw_mt yX1_join cX1_join 1 none 0 := ⟨((jw_tt (jw_c6 _ (List.mem_of_getElem? (i := 168) rfl)) rfl)), ((jw_tt (jw_c1 _ (List.mem_of_getElem? (i := 13) rfl)) rfl)), ⟨by decide, by decide, by decide +kernel⟩, by decide⟩
set_option maxRecDepth 100000 in
theorem in_X1_join : Cond.instanceMethod yX1_join ∈ jw_T := (jw_tt (jw_c6 _ (List.mem_of_getElem? (i := 167) rfl)) rfl)
set_option maxRecDepth 100000 in
theorem se_X1_join : Cond.selects yX1_join.cls yX1_join yX1_join ∈ jw_T := (jw_Tin (jw_p8 _ (List.mem_of_getElem? (i := 14) rfl)) rfl)
set_option maxRecDepth 100000 in
theorem lk_X1_263 : jw_lk RX1 263 yX1_join := Or.inl ((jw_tt (jw_c6 _ (List.mem_of_getElem? (i := 165) rfl)) rfl))
set_option maxRecDepth 100000 in
theorem mt_X1_numberOf : jw_mt yX1_numberOf cX1_numberOf 2 (some .int) 1 := ⟨((jw_tt (jw_c6 _ (List.mem_of_getElem? (i := 116) rfl)) rfl)), ((jw_tt (jw_c1 _ (List.mem_of_getElem? (i := 13) rfl)) rfl)), ⟨by decide, by decide, by decide +kernel⟩, by decide⟩
set_option maxRecDepth 100000 in
theorem in_X1_numberOf : Cond.instanceMethod yX1_numberOf ∈ jw_T := (jw_tt (jw_c6 _ (List.mem_of_getElem? (i := 115) rfl)) rfl)
set_option maxRecDepth 100000 in
theorem se_X1_numberOf : Cond.selects yX1_numberOf.cls yX1_numberOf yX1_numberOf ∈ jw_T := (jw_Tin (jw_p8 _ (List.mem_of_getElem? (i := 4) rfl)) rfl)
set_option maxRecDepth 100000 in
theorem lk_X1_221 : jw_lk RX1 221 yX1_numberOf := Or.inl ((jw_tt (jw_c6 _ (List.mem_of_getElem? (i := 113) rfl)) rfl))
set_option maxRecDepth 100000 in
theorem mt_X1_part : jw_mt yX1_part cX1_part 2 none 1 := ⟨((jw_tt (jw_c6 _ (List.mem_of_getElem? (i := 157) rfl)) rfl)), ((jw_tt (jw_c1 _ (List.mem_of_getElem? (i := 13) rfl)) rfl)), ⟨by decide, by decide, by decide +kernel⟩, by decide⟩
set_option maxRecDepth 100000 in
theorem in_X1_part : Cond.instanceMethod yX1_part ∈ jw_T := (jw_tt (jw_c6 _ (List.mem_of_getElem? (i := 156) rfl)) rfl)
set_option maxRecDepth 100000 in
theorem se_X1_part : Cond.selects yX1_part.cls yX1_part yX1_part ∈ jw_T := (jw_Tin (jw_p8 _ (List.mem_of_getElem? (i := 12) rfl)) rfl)
set_option maxRecDepth 100000 in
theorem lk_X1_260 : jw_lk RX1 260 yX1_part := Or.inl ((jw_tt (jw_c6 _ (List.mem_of_getElem? (i := 154) rfl)) rfl))
set_option maxRecDepth 100000 in
theorem mt_X1_perform : jw_mt yX1_perform cX1_perform 3 (some .int) 0 := ⟨((jw_tt (jw_c6 _ (List.mem_of_getElem? (i := 77) rfl)) rfl)), ((jw_tt (jw_c1 _ (List.mem_of_getElem? (i := 13) rfl)) rfl)), ⟨by decide, by decide, by decide +kernel⟩, by decide⟩
set_option maxRecDepth 100000 in
theorem in_X1_perform : Cond.instanceMethod yX1_perform ∈ jw_T := (jw_tt (jw_c6 _ (List.mem_of_getElem? (i := 76) rfl)) rfl)
set_option maxRecDepth 100000 in
theorem se_X1_perform : Cond.selects yX1_perform.cls yX1_perform yX1_perform ∈ jw_T := (jw_Tin (jw_p7 _ (List.mem_of_getElem? (i := 12) rfl)) rfl)
set_option maxRecDepth 100000 in
theorem lk_X11_141 : jw_lk RX11 141 yX1_perform := Or.inr ⟨"Lineorders", ((jw_tn (jw_c6 _ (List.mem_of_getElem? (i := 74) rfl)) rfl))⟩
set_option maxRecDepth 100000 in
theorem mt_X1_putDue : jw_mt yX1_putDue cX1_putDue 3 none 1 := ⟨((jw_tt (jw_c6 _ (List.mem_of_getElem? (i := 139) rfl)) rfl)), ((jw_tt (jw_c1 _ (List.mem_of_getElem? (i := 13) rfl)) rfl)), ⟨by decide, by decide, by decide +kernel⟩, by decide⟩
set_option maxRecDepth 100000 in
theorem in_X1_putDue : Cond.instanceMethod yX1_putDue ∈ jw_T := (jw_tt (jw_c6 _ (List.mem_of_getElem? (i := 138) rfl)) rfl)
set_option maxRecDepth 100000 in
theorem se_X1_putDue : Cond.selects yX1_putDue.cls yX1_putDue yX1_putDue ∈ jw_T := (jw_Tin (jw_p8 _ (List.mem_of_getElem? (i := 8) rfl)) rfl)
set_option maxRecDepth 100000 in
theorem lk_X1_254 : jw_lk RX1 254 yX1_putDue := Or.inl ((jw_tt (jw_c6 _ (List.mem_of_getElem? (i := 136) rfl)) rfl))
set_option maxRecDepth 100000 in
theorem mt_X1_putNew : jw_mt yX1_putNew cX1_putNew 3 none 1 := ⟨((jw_tt (jw_c6 _ (List.mem_of_getElem? (i := 143) rfl)) rfl)), ((jw_tt (jw_c1 _ (List.mem_of_getElem? (i := 13) rfl)) rfl)), ⟨by decide, by decide, by decide +kernel⟩, by decide⟩
set_option maxRecDepth 100000 in
theorem in_X1_putNew : Cond.instanceMethod yX1_putNew ∈ jw_T := (jw_tt (jw_c6 _ (List.mem_of_getElem? (i := 142) rfl)) rfl)
set_option maxRecDepth 100000 in
theorem se_X1_putNew : Cond.selects yX1_putNew.cls yX1_putNew yX1_putNew ∈ jw_T := (jw_Tin (jw_p8 _ (List.mem_of_getElem? (i := 9) rfl)) rfl)
set_option maxRecDepth 100000 in
theorem lk_X1_160 : jw_lk RX1 160 yX1_putNew := Or.inl ((jw_tt (jw_c6 _ (List.mem_of_getElem? (i := 140) rfl)) rfl))
set_option maxRecDepth 100000 in
theorem mt_X1_putRest : jw_mt yX1_putRest cX1_putRest 2 none 0 := ⟨((jw_tt (jw_c6 _ (List.mem_of_getElem? (i := 196) rfl)) rfl)), ((jw_tt (jw_c1 _ (List.mem_of_getElem? (i := 13) rfl)) rfl)), ⟨by decide, by decide, by decide +kernel⟩, by decide⟩
set_option maxRecDepth 100000 in
theorem in_X1_putRest : Cond.instanceMethod yX1_putRest ∈ jw_T := (jw_tt (jw_c6 _ (List.mem_of_getElem? (i := 195) rfl)) rfl)
set_option maxRecDepth 100000 in
theorem se_X1_putRest : Cond.selects yX1_putRest.cls yX1_putRest yX1_putRest ∈ jw_T := (jw_Tin (jw_p9 _ (List.mem_of_getElem? (i := 3) rfl)) rfl)
set_option maxRecDepth 100000 in
theorem lk_X1_87 : jw_lk RX1 87 yX1_putRest := Or.inl ((jw_tt (jw_c6 _ (List.mem_of_getElem? (i := 193) rfl)) rfl))
set_option maxRecDepth 100000 in
theorem mt_X1_steer : jw_mt yX1_steer cX1_steer 3 (some .int) 1 := ⟨((jw_tt (jw_c6 _ (List.mem_of_getElem? (i := 128) rfl)) rfl)), ((jw_tt (jw_c1 _ (List.mem_of_getElem? (i := 13) rfl)) rfl)), ⟨by decide, by decide, by decide +kernel⟩, by decide⟩
set_option maxRecDepth 100000 in
theorem in_X1_steer : Cond.instanceMethod yX1_steer ∈ jw_T := (jw_tt (jw_c6 _ (List.mem_of_getElem? (i := 127) rfl)) rfl)
set_option maxRecDepth 100000 in
theorem se_X1_steer : Cond.selects yX1_steer.cls yX1_steer yX1_steer ∈ jw_T := (jw_Tin (jw_p8 _ (List.mem_of_getElem? (i := 6) rfl)) rfl)
set_option maxRecDepth 100000 in
theorem lk_X1_188 : jw_lk RX1 188 yX1_steer := Or.inl ((jw_tt (jw_c6 _ (List.mem_of_getElem? (i := 125) rfl)) rfl))
set_option maxRecDepth 100000 in
theorem mt_X1_takeNext : jw_mt yX1_takeNext cX1_takeNext 1 none 0 := ⟨((jw_tt (jw_c6 _ (List.mem_of_getElem? (i := 90) rfl)) rfl)), ((jw_tt (jw_c1 _ (List.mem_of_getElem? (i := 13) rfl)) rfl)), ⟨by decide, by decide, by decide +kernel⟩, by decide⟩
set_option maxRecDepth 100000 in
theorem in_X1_takeNext : Cond.instanceMethod yX1_takeNext ∈ jw_T := (jw_tt (jw_c6 _ (List.mem_of_getElem? (i := 89) rfl)) rfl)
set_option maxRecDepth 100000 in
theorem se_X1_takeNext : Cond.selects yX1_takeNext.cls yX1_takeNext yX1_takeNext ∈ jw_T := (jw_Tin (jw_p7 _ (List.mem_of_getElem? (i := 14) rfl)) rfl)
set_option maxRecDepth 100000 in
theorem lk_X1_58 : jw_lk RX1 58 yX1_takeNext := Or.inl ((jw_tt (jw_c6 _ (List.mem_of_getElem? (i := 87) rfl)) rfl))
set_option maxRecDepth 100000 in
theorem mt_X1_tell : jw_mt yX1_tell cX1_tell 2 none 1 := ⟨((jw_tt (jw_c6 _ (List.mem_of_getElem? (i := 179) rfl)) rfl)), ((jw_tt (jw_c1 _ (List.mem_of_getElem? (i := 13) rfl)) rfl)), ⟨by decide, by decide, by decide +kernel⟩, by decide⟩
set_option maxRecDepth 100000 in
theorem in_X1_tell : Cond.instanceMethod yX1_tell ∈ jw_T := (jw_tt (jw_c6 _ (List.mem_of_getElem? (i := 178) rfl)) rfl)
set_option maxRecDepth 100000 in
theorem se_X1_tell : Cond.selects yX1_tell.cls yX1_tell yX1_tell ∈ jw_T := (jw_Tin (jw_p9 _ (List.mem_of_getElem? (i := 0) rfl)) rfl)
set_option maxRecDepth 100000 in
theorem lk_X1_272 : jw_lk RX1 272 yX1_tell := Or.inl ((jw_tt (jw_c6 _ (List.mem_of_getElem? (i := 176) rfl)) rfl))
set_option maxRecDepth 100000 in
theorem mt_X1_writeFile : jw_mt yX1_writeFile cX1_writeFile 2 none 1 := ⟨((jw_tt (jw_c6 _ (List.mem_of_getElem? (i := 188) rfl)) rfl)), ((jw_tt (jw_c1 _ (List.mem_of_getElem? (i := 13) rfl)) rfl)), ⟨by decide, by decide, by decide +kernel⟩, by decide⟩
set_option maxRecDepth 100000 in
theorem in_X1_writeFile : Cond.instanceMethod yX1_writeFile ∈ jw_T := (jw_tt (jw_c6 _ (List.mem_of_getElem? (i := 187) rfl)) rfl)
set_option maxRecDepth 100000 in
theorem se_X1_writeFile : Cond.selects yX1_writeFile.cls yX1_writeFile yX1_writeFile ∈ jw_T := (jw_Tin (jw_p9 _ (List.mem_of_getElem? (i := 1) rfl)) rfl)
set_option maxRecDepth 100000 in
theorem lk_X1_320 : jw_lk RX1 320 yX1_writeFile := Or.inl ((jw_tt (jw_c6 _ (List.mem_of_getElem? (i := 185) rfl)) rfl))
set_option maxRecDepth 100000 in
theorem mt_X2_init : jw_mt yX2_init cX2_init 3 none 2 := ⟨((jw_tt (jw_c2 _ (List.mem_of_getElem? (i := 100) rfl)) rfl)), ((jw_tt (jw_c1 _ (List.mem_of_getElem? (i := 11) rfl)) rfl)), ⟨by decide, by decide, by decide +kernel⟩, by decide⟩
set_option maxRecDepth 100000 in
theorem in_X2_init : Cond.instanceMethod yX2_init ∈ jw_T := (jw_tt (jw_c2 _ (List.mem_of_getElem? (i := 99) rfl)) rfl)
set_option maxRecDepth 100000 in
theorem lk_X11_67 : jw_lk RX11 67 yX2_init := Or.inr ⟨"Lineorders", ((jw_tn (jw_c2 _ (List.mem_of_getElem? (i := 98) rfl)) rfl))⟩
set_option maxRecDepth 100000 in
theorem mt_X2_append : jw_mt yX2_append cX2_append 2 none 1 := ⟨((jw_tt (jw_c5 _ (List.mem_of_getElem? (i := 103) rfl)) rfl)), ((jw_tt (jw_c1 _ (List.mem_of_getElem? (i := 11) rfl)) rfl)), ⟨by decide, by decide, by decide +kernel⟩, by decide⟩
set_option maxRecDepth 100000 in
theorem in_X2_append : Cond.instanceMethod yX2_append ∈ jw_T := (jw_tt (jw_c5 _ (List.mem_of_getElem? (i := 102) rfl)) rfl)
set_option maxRecDepth 100000 in
theorem se_X2_append : Cond.selects yX2_append.cls yX2_append yX2_append ∈ jw_T := (jw_Tin (jw_p5 _ (List.mem_of_getElem? (i := 4) rfl)) rfl)
set_option maxRecDepth 100000 in
theorem lk_X2_117 : jw_lk RX2 117 yX2_append := Or.inl ((jw_tt (jw_c5 _ (List.mem_of_getElem? (i := 100) rfl)) rfl))
set_option maxRecDepth 100000 in
theorem mt_X2_appendPut : jw_mt yX2_appendPut cX2_appendPut 5 none 1 := ⟨((jw_tt (jw_c5 _ (List.mem_of_getElem? (i := 95) rfl)) rfl)), ((jw_tt (jw_c1 _ (List.mem_of_getElem? (i := 11) rfl)) rfl)), ⟨by decide, by decide, by decide +kernel⟩, by decide⟩
set_option maxRecDepth 100000 in
theorem in_X2_appendPut : Cond.instanceMethod yX2_appendPut ∈ jw_T := (jw_tt (jw_c5 _ (List.mem_of_getElem? (i := 94) rfl)) rfl)
set_option maxRecDepth 100000 in
theorem se_X2_appendPut : Cond.selects yX2_appendPut.cls yX2_appendPut yX2_appendPut ∈ jw_T := (jw_Tin (jw_p5 _ (List.mem_of_getElem? (i := 2) rfl)) rfl)
set_option maxRecDepth 100000 in
theorem lk_X2_91 : jw_lk RX2 91 yX2_appendPut := Or.inl ((jw_tt (jw_c5 _ (List.mem_of_getElem? (i := 92) rfl)) rfl))
set_option maxRecDepth 100000 in
theorem mt_X2_appendRow : jw_mt yX2_appendRow cX2_appendRow 4 none 2 := ⟨((jw_tt (jw_c5 _ (List.mem_of_getElem? (i := 90) rfl)) rfl)), ((jw_tt (jw_c1 _ (List.mem_of_getElem? (i := 11) rfl)) rfl)), ⟨by decide, by decide, by decide +kernel⟩, by decide⟩
set_option maxRecDepth 100000 in
theorem in_X2_appendRow : Cond.instanceMethod yX2_appendRow ∈ jw_T := (jw_tt (jw_c5 _ (List.mem_of_getElem? (i := 89) rfl)) rfl)
set_option maxRecDepth 100000 in
theorem se_X2_appendRow : Cond.selects yX2_appendRow.cls yX2_appendRow yX2_appendRow ∈ jw_T := (jw_Tin (jw_p5 _ (List.mem_of_getElem? (i := 1) rfl)) rfl)
set_option maxRecDepth 100000 in
theorem lk_X2_87 : jw_lk RX2 87 yX2_appendRow := Or.inl ((jw_tt (jw_c5 _ (List.mem_of_getElem? (i := 87) rfl)) rfl))
set_option maxRecDepth 100000 in
theorem mt_X2_change : jw_mt yX2_change cX2_change 6 (some .int) 4 := ⟨((jw_tt (jw_c5 _ (List.mem_of_getElem? (i := 80) rfl)) rfl)), ((jw_tt (jw_c1 _ (List.mem_of_getElem? (i := 11) rfl)) rfl)), ⟨by decide, by decide, by decide +kernel⟩, by decide⟩
set_option maxRecDepth 100000 in
theorem in_X2_change : Cond.instanceMethod yX2_change ∈ jw_T := (jw_tt (jw_c5 _ (List.mem_of_getElem? (i := 79) rfl)) rfl)
set_option maxRecDepth 100000 in
theorem se_X2_change : Cond.selects yX2_change.cls yX2_change yX2_change ∈ jw_T := (jw_Tin (jw_p4 _ (List.mem_of_getElem? (i := 15) rfl)) rfl)
set_option maxRecDepth 100000 in
theorem lk_X1_246 : jw_lk RX1 246 yX2_change := Or.inr ⟨"Lineorders", ((jw_tn (jw_c6 _ (List.mem_of_getElem? (i := 134) rfl)) rfl))⟩
set_option maxRecDepth 100000 in
theorem lk_X10_220 : jw_lk RX10 220 yX2_change := Or.inr ⟨"Lineorders", ((jw_tn (jw_c5 _ (List.mem_of_getElem? (i := 77) rfl)) rfl))⟩
set_option maxRecDepth 100000 in
theorem mt_X2_replace : jw_mt yX2_replace cX2_replace 5 none 1 := ⟨((jw_tt (jw_c5 _ (List.mem_of_getElem? (i := 85) rfl)) rfl)), ((jw_tt (jw_c1 _ (List.mem_of_getElem? (i := 11) rfl)) rfl)), ⟨by decide, by decide, by decide +kernel⟩, by decide⟩
set_option maxRecDepth 100000 in
theorem in_X2_replace : Cond.instanceMethod yX2_replace ∈ jw_T := (jw_tt (jw_c5 _ (List.mem_of_getElem? (i := 84) rfl)) rfl)
set_option maxRecDepth 100000 in
theorem se_X2_replace : Cond.selects yX2_replace.cls yX2_replace yX2_replace ∈ jw_T := (jw_Tin (jw_p5 _ (List.mem_of_getElem? (i := 0) rfl)) rfl)
set_option maxRecDepth 100000 in
theorem lk_X2_42 : jw_lk RX2 42 yX2_replace := Or.inl ((jw_tt (jw_c5 _ (List.mem_of_getElem? (i := 82) rfl)) rfl))
set_option maxRecDepth 100000 in
theorem mt_X2_shiftAhead : jw_mt yX2_shiftAhead cX2_shiftAhead 4 none 1 := ⟨((jw_tt (jw_c5 _ (List.mem_of_getElem? (i := 115) rfl)) rfl)), ((jw_tt (jw_c1 _ (List.mem_of_getElem? (i := 11) rfl)) rfl)), ⟨by decide, by decide, by decide +kernel⟩, by decide⟩
set_option maxRecDepth 100000 in
theorem in_X2_shiftAhead : Cond.instanceMethod yX2_shiftAhead ∈ jw_T := (jw_tt (jw_c5 _ (List.mem_of_getElem? (i := 114) rfl)) rfl)
set_option maxRecDepth 100000 in
theorem se_X2_shiftAhead : Cond.selects yX2_shiftAhead.cls yX2_shiftAhead yX2_shiftAhead ∈ jw_T := (jw_Tin (jw_p5 _ (List.mem_of_getElem? (i := 7) rfl)) rfl)
set_option maxRecDepth 100000 in
theorem lk_X2_56 : jw_lk RX2 56 yX2_shiftAhead := Or.inl ((jw_tt (jw_c5 _ (List.mem_of_getElem? (i := 112) rfl)) rfl))
set_option maxRecDepth 100000 in
theorem mt_X2_shiftBehind : jw_mt yX2_shiftBehind cX2_shiftBehind 3 none 1 := ⟨((jw_tt (jw_c5 _ (List.mem_of_getElem? (i := 111) rfl)) rfl)), ((jw_tt (jw_c1 _ (List.mem_of_getElem? (i := 11) rfl)) rfl)), ⟨by decide, by decide, by decide +kernel⟩, by decide⟩
set_option maxRecDepth 100000 in
theorem in_X2_shiftBehind : Cond.instanceMethod yX2_shiftBehind ∈ jw_T := (jw_tt (jw_c5 _ (List.mem_of_getElem? (i := 110) rfl)) rfl)
set_option maxRecDepth 100000 in
theorem se_X2_shiftBehind : Cond.selects yX2_shiftBehind.cls yX2_shiftBehind yX2_shiftBehind ∈ jw_T := (jw_Tin (jw_p5 _ (List.mem_of_getElem? (i := 6) rfl)) rfl)
set_option maxRecDepth 100000 in
theorem lk_X2_52 : jw_lk RX2 52 yX2_shiftBehind := Or.inl ((jw_tt (jw_c5 _ (List.mem_of_getElem? (i := 108) rfl)) rfl))
set_option maxRecDepth 100000 in
theorem mt_X2_turn : jw_mt yX2_turn cX2_turn 6 none 1 := ⟨((jw_tt (jw_c5 _ (List.mem_of_getElem? (i := 107) rfl)) rfl)), ((jw_tt (jw_c1 _ (List.mem_of_getElem? (i := 11) rfl)) rfl)), ⟨by decide, by decide, by decide +kernel⟩, by decide⟩
set_option maxRecDepth 100000 in
theorem in_X2_turn : Cond.instanceMethod yX2_turn ∈ jw_T := (jw_tt (jw_c5 _ (List.mem_of_getElem? (i := 106) rfl)) rfl)
set_option maxRecDepth 100000 in
theorem se_X2_turn : Cond.selects yX2_turn.cls yX2_turn yX2_turn ∈ jw_T := (jw_Tin (jw_p5 _ (List.mem_of_getElem? (i := 5) rfl)) rfl)
set_option maxRecDepth 100000 in
theorem lk_X2_46 : jw_lk RX2 46 yX2_turn := Or.inl ((jw_tt (jw_c5 _ (List.mem_of_getElem? (i := 104) rfl)) rfl))
set_option maxRecDepth 100000 in
theorem mt_X3_init : jw_mt yX3_init cX3_init 2 none 0 := ⟨((jw_tt (jw_c2 _ (List.mem_of_getElem? (i := 35) rfl)) rfl)), ((jw_tt (jw_c1 _ (List.mem_of_getElem? (i := 9) rfl)) rfl)), ⟨by decide, by decide, by decide +kernel⟩, by decide⟩
set_option maxRecDepth 100000 in
theorem in_X3_init : Cond.instanceMethod yX3_init ∈ jw_T := (jw_tt (jw_c2 _ (List.mem_of_getElem? (i := 34) rfl)) rfl)
set_option maxRecDepth 100000 in
theorem lk_X11_51 : jw_lk RX11 51 yX3_init := Or.inr ⟨"Lineorders", ((jw_tn (jw_c2 _ (List.mem_of_getElem? (i := 33) rfl)) rfl))⟩
set_option maxRecDepth 100000 in
theorem mt_X3_latestCall : jw_mt yX3_latestCall cX3_latestCall 2 (some .int) 0 := ⟨((jw_tt (jw_c6 _ (List.mem_of_getElem? (i := 45) rfl)) rfl)), ((jw_tt (jw_c1 _ (List.mem_of_getElem? (i := 9) rfl)) rfl)), ⟨by decide, by decide, by decide +kernel⟩, by decide⟩
set_option maxRecDepth 100000 in
theorem in_X3_latestCall : Cond.instanceMethod yX3_latestCall ∈ jw_T := (jw_tt (jw_c6 _ (List.mem_of_getElem? (i := 44) rfl)) rfl)
set_option maxRecDepth 100000 in
theorem se_X3_latestCall : Cond.selects yX3_latestCall.cls yX3_latestCall yX3_latestCall ∈ jw_T := (jw_Tin (jw_p7 _ (List.mem_of_getElem? (i := 9) rfl)) rfl)
set_option maxRecDepth 100000 in
theorem lk_X11_157 : jw_lk RX11 157 yX3_latestCall := Or.inr ⟨"Lineorders", ((jw_tn (jw_c6 _ (List.mem_of_getElem? (i := 42) rfl)) rfl))⟩
set_option maxRecDepth 100000 in
theorem mt_X3_note : jw_mt yX3_note cX3_note 3 none 1 := ⟨((jw_tt (jw_c3 _ (List.mem_of_getElem? (i := 159) rfl)) rfl)), ((jw_tt (jw_c1 _ (List.mem_of_getElem? (i := 9) rfl)) rfl)), ⟨by decide, by decide, by decide +kernel⟩, by decide⟩
set_option maxRecDepth 100000 in
theorem in_X3_note : Cond.instanceMethod yX3_note ∈ jw_T := (jw_tt (jw_c3 _ (List.mem_of_getElem? (i := 158) rfl)) rfl)
set_option maxRecDepth 100000 in
theorem se_X3_note : Cond.selects yX3_note.cls yX3_note yX3_note ∈ jw_T := (jw_Tin (jw_p1 _ (List.mem_of_getElem? (i := 1) rfl)) rfl)
set_option maxRecDepth 100000 in
theorem lk_X10_79 : jw_lk RX10 79 yX3_note := Or.inr ⟨"Lineorders", ((jw_tn (jw_c5 _ (List.mem_of_getElem? (i := 4) rfl)) rfl))⟩
set_option maxRecDepth 100000 in
theorem lk_X11_137 : jw_lk RX11 137 yX3_note := Or.inr ⟨"Lineorders", ((jw_tn (jw_c3 _ (List.mem_of_getElem? (i := 156) rfl)) rfl))⟩
set_option maxRecDepth 100000 in
theorem mt_X3_restore : jw_mt yX3_restore cX3_restore 3 none 1 := ⟨((jw_tt (jw_c6 _ (List.mem_of_getElem? (i := 27) rfl)) rfl)), ((jw_tt (jw_c1 _ (List.mem_of_getElem? (i := 9) rfl)) rfl)), ⟨by decide, by decide, by decide +kernel⟩, by decide⟩
set_option maxRecDepth 100000 in
theorem in_X3_restore : Cond.instanceMethod yX3_restore ∈ jw_T := (jw_tt (jw_c6 _ (List.mem_of_getElem? (i := 26) rfl)) rfl)
set_option maxRecDepth 100000 in
theorem se_X3_restore : Cond.selects yX3_restore.cls yX3_restore yX3_restore ∈ jw_T := (jw_Tin (jw_p7 _ (List.mem_of_getElem? (i := 7) rfl)) rfl)
set_option maxRecDepth 100000 in
theorem lk_X10_114 : jw_lk RX10 114 yX3_restore := Or.inr ⟨"Lineorders", ((jw_tn (jw_c6 _ (List.mem_of_getElem? (i := 24) rfl)) rfl))⟩
set_option maxRecDepth 100000 in
theorem mt_X3_slot : jw_mt yX3_slot cX3_slot 3 (some (.object "Lineorders$Text")) 1 := ⟨((jw_tt (jw_c3 _ (List.mem_of_getElem? (i := 163) rfl)) rfl)), ((jw_tt (jw_c1 _ (List.mem_of_getElem? (i := 9) rfl)) rfl)), ⟨by decide, by decide, by decide +kernel⟩, by decide⟩
set_option maxRecDepth 100000 in
theorem in_X3_slot : Cond.instanceMethod yX3_slot ∈ jw_T := (jw_tt (jw_c3 _ (List.mem_of_getElem? (i := 162) rfl)) rfl)
set_option maxRecDepth 100000 in
theorem se_X3_slot : Cond.selects yX3_slot.cls yX3_slot yX3_slot ∈ jw_T := (jw_Tin (jw_p1 _ (List.mem_of_getElem? (i := 2) rfl)) rfl)
set_option maxRecDepth 100000 in
theorem lk_X3_39 : jw_lk RX3 39 yX3_slot := Or.inl ((jw_tt (jw_c3 _ (List.mem_of_getElem? (i := 160) rfl)) rfl))
set_option maxRecDepth 100000 in
theorem mt_X3_slotOf : jw_mt yX3_slotOf cX3_slotOf 2 (some .int) 1 := ⟨((jw_tt (jw_c3 _ (List.mem_of_getElem? (i := 167) rfl)) rfl)), ((jw_tt (jw_c1 _ (List.mem_of_getElem? (i := 9) rfl)) rfl)), ⟨by decide, by decide, by decide +kernel⟩, by decide⟩
set_option maxRecDepth 100000 in
theorem in_X3_slotOf : Cond.instanceMethod yX3_slotOf ∈ jw_T := (jw_tt (jw_c3 _ (List.mem_of_getElem? (i := 166) rfl)) rfl)
set_option maxRecDepth 100000 in
theorem se_X3_slotOf : Cond.selects yX3_slotOf.cls yX3_slotOf yX3_slotOf ∈ jw_T := (jw_Tin (jw_p1 _ (List.mem_of_getElem? (i := 3) rfl)) rfl)
set_option maxRecDepth 100000 in
theorem lk_X3_32 : jw_lk RX3 32 yX3_slotOf := Or.inl ((jw_tt (jw_c3 _ (List.mem_of_getElem? (i := 164) rfl)) rfl))
set_option maxRecDepth 100000 in
theorem mt_X3_store : jw_mt yX3_store cX3_store 3 none 1 := ⟨((jw_tt (jw_c3 _ (List.mem_of_getElem? (i := 210) rfl)) rfl)), ((jw_tt (jw_c1 _ (List.mem_of_getElem? (i := 9) rfl)) rfl)), ⟨by decide, by decide, by decide +kernel⟩, by decide⟩
set_option maxRecDepth 100000 in
theorem in_X3_store : Cond.instanceMethod yX3_store ∈ jw_T := (jw_tt (jw_c3 _ (List.mem_of_getElem? (i := 209) rfl)) rfl)
set_option maxRecDepth 100000 in
theorem se_X3_store : Cond.selects yX3_store.cls yX3_store yX3_store ∈ jw_T := (jw_Tin (jw_p1 _ (List.mem_of_getElem? (i := 11) rfl)) rfl)
set_option maxRecDepth 100000 in
theorem lk_X10_120 : jw_lk RX10 120 yX3_store := Or.inr ⟨"Lineorders", ((jw_tn (jw_c6 _ (List.mem_of_getElem? (i := 32) rfl)) rfl))⟩
set_option maxRecDepth 100000 in
theorem lk_X11_145 : jw_lk RX11 145 yX3_store := Or.inr ⟨"Lineorders", ((jw_tn (jw_c3 _ (List.mem_of_getElem? (i := 207) rfl)) rfl))⟩
set_option maxRecDepth 100000 in
theorem mt_X3_takeBack : jw_mt yX3_takeBack cX3_takeBack 3 none 1 := ⟨((jw_tt (jw_c6 _ (List.mem_of_getElem? (i := 49) rfl)) rfl)), ((jw_tt (jw_c1 _ (List.mem_of_getElem? (i := 9) rfl)) rfl)), ⟨by decide, by decide, by decide +kernel⟩, by decide⟩
set_option maxRecDepth 100000 in
theorem in_X3_takeBack : Cond.instanceMethod yX3_takeBack ∈ jw_T := (jw_tt (jw_c6 _ (List.mem_of_getElem? (i := 48) rfl)) rfl)
set_option maxRecDepth 100000 in
theorem se_X3_takeBack : Cond.selects yX3_takeBack.cls yX3_takeBack yX3_takeBack ∈ jw_T := (jw_Tin (jw_p7 _ (List.mem_of_getElem? (i := 10) rfl)) rfl)
set_option maxRecDepth 100000 in
theorem lk_X11_154 : jw_lk RX11 154 yX3_takeBack := Or.inr ⟨"Lineorders", ((jw_tn (jw_c6 _ (List.mem_of_getElem? (i := 46) rfl)) rfl))⟩
set_option maxRecDepth 100000 in
theorem mt_X4_init : jw_mt yX4_init cX4_init 2 none 1 := ⟨((jw_tt (jw_c2 _ (List.mem_of_getElem? (i := 61) rfl)) rfl)), ((jw_tt (jw_c1 _ (List.mem_of_getElem? (i := 10) rfl)) rfl)), ⟨by decide, by decide, by decide +kernel⟩, by decide⟩
set_option maxRecDepth 100000 in
theorem in_X4_init : Cond.instanceMethod yX4_init ∈ jw_T := (jw_tt (jw_c2 _ (List.mem_of_getElem? (i := 60) rfl)) rfl)
set_option maxRecDepth 100000 in
theorem lk_X11_58 : jw_lk RX11 58 yX4_init := Or.inr ⟨"Lineorders", ((jw_tn (jw_c2 _ (List.mem_of_getElem? (i := 59) rfl)) rfl))⟩
set_option maxRecDepth 100000 in
theorem mt_X4_fits : jw_mt yX4_fits cX4_fits 12 (some .int) 3 := ⟨((jw_tt (jw_c5 _ (List.mem_of_getElem? (i := 38) rfl)) rfl)), ((jw_tt (jw_c1 _ (List.mem_of_getElem? (i := 10) rfl)) rfl)), ⟨by decide, by decide, by decide +kernel⟩, by decide⟩
set_option maxRecDepth 100000 in
theorem in_X4_fits : Cond.instanceMethod yX4_fits ∈ jw_T := (jw_tt (jw_c5 _ (List.mem_of_getElem? (i := 37) rfl)) rfl)
set_option maxRecDepth 100000 in
theorem se_X4_fits : Cond.selects yX4_fits.cls yX4_fits yX4_fits ∈ jw_T := (jw_Tin (jw_p4 _ (List.mem_of_getElem? (i := 6) rfl)) rfl)
set_option maxRecDepth 100000 in
theorem lk_X4_61 : jw_lk RX4 61 yX4_fits := Or.inl ((jw_tt (jw_c5 _ (List.mem_of_getElem? (i := 35) rfl)) rfl))
set_option maxRecDepth 100000 in
theorem mt_X4_holds : jw_mt yX4_holds cX4_holds 4 (some .boolean) 3 := ⟨((jw_tt (jw_c5 _ (List.mem_of_getElem? (i := 65) rfl)) rfl)), ((jw_tt (jw_c1 _ (List.mem_of_getElem? (i := 10) rfl)) rfl)), ⟨by decide, by decide, by decide +kernel⟩, by decide⟩
set_option maxRecDepth 100000 in
theorem in_X4_holds : Cond.instanceMethod yX4_holds ∈ jw_T := (jw_tt (jw_c5 _ (List.mem_of_getElem? (i := 64) rfl)) rfl)
set_option maxRecDepth 100000 in
theorem se_X4_holds : Cond.selects yX4_holds.cls yX4_holds yX4_holds ∈ jw_T := (jw_Tin (jw_p4 _ (List.mem_of_getElem? (i := 12) rfl)) rfl)
set_option maxRecDepth 100000 in
theorem lk_X1_181 : jw_lk RX1 181 yX4_holds := Or.inr ⟨"Lineorders", ((jw_tn (jw_c6 _ (List.mem_of_getElem? (i := 118) rfl)) rfl))⟩
set_option maxRecDepth 100000 in
theorem lk_X10_213 : jw_lk RX10 213 yX4_holds := Or.inr ⟨"Lineorders", ((jw_tn (jw_c5 _ (List.mem_of_getElem? (i := 62) rfl)) rfl))⟩
set_option maxRecDepth 100000 in
theorem lk_X11_235 : jw_lk RX11 235 yX4_holds := Or.inr ⟨"Lineorders", ((jw_tn (jw_c6 _ (List.mem_of_getElem? (i := 223) rfl)) rfl))⟩
set_option maxRecDepth 100000 in
theorem mt_X4_lineWith : jw_mt yX4_lineWith cX4_lineWith 6 (some .int) 3 := ⟨((jw_tt (jw_c5 _ (List.mem_of_getElem? (i := 22) rfl)) rfl)), ((jw_tt (jw_c1 _ (List.mem_of_getElem? (i := 10) rfl)) rfl)), ⟨by decide, by decide, by decide +kernel⟩, by decide⟩
set_option maxRecDepth 100000 in
theorem in_X4_lineWith : Cond.instanceMethod yX4_lineWith ∈ jw_T := (jw_tt (jw_c5 _ (List.mem_of_getElem? (i := 21) rfl)) rfl)
set_option maxRecDepth 100000 in
theorem se_X4_lineWith : Cond.selects yX4_lineWith.cls yX4_lineWith yX4_lineWith ∈ jw_T := (jw_Tin (jw_p4 _ (List.mem_of_getElem? (i := 3) rfl)) rfl)
set_option maxRecDepth 100000 in
theorem lk_X10_175 : jw_lk RX10 175 yX4_lineWith := Or.inr ⟨"Lineorders", ((jw_tn (jw_c5 _ (List.mem_of_getElem? (i := 19) rfl)) rfl))⟩
set_option maxRecDepth 100000 in
theorem lk_X11_231 : jw_lk RX11 231 yX4_lineWith := Or.inr ⟨"Lineorders", ((jw_tn (jw_c6 _ (List.mem_of_getElem? (i := 228) rfl)) rfl))⟩
set_option maxRecDepth 100000 in
theorem mt_X4_load : jw_mt yX4_load cX4_load 6 none 2 := ⟨((jw_tt (jw_c5 _ (List.mem_of_getElem? (i := 26) rfl)) rfl)), ((jw_tt (jw_c1 _ (List.mem_of_getElem? (i := 10) rfl)) rfl)), ⟨by decide, by decide, by decide +kernel⟩, by decide⟩
set_option maxRecDepth 100000 in
theorem in_X4_load : Cond.instanceMethod yX4_load ∈ jw_T := (jw_tt (jw_c5 _ (List.mem_of_getElem? (i := 25) rfl)) rfl)
set_option maxRecDepth 100000 in
theorem se_X4_load : Cond.selects yX4_load.cls yX4_load yX4_load ∈ jw_T := (jw_Tin (jw_p4 _ (List.mem_of_getElem? (i := 4) rfl)) rfl)
set_option maxRecDepth 100000 in
theorem lk_X2_31 : jw_lk RX2 31 yX4_load := Or.inr ⟨"Lineorders", ((jw_tn (jw_c5 _ (List.mem_of_getElem? (i := 81) rfl)) rfl))⟩
set_option maxRecDepth 100000 in
theorem lk_X4_53 : jw_lk RX4 53 yX4_load := Or.inl ((jw_tt (jw_c5 _ (List.mem_of_getElem? (i := 23) rfl)) rfl))
set_option maxRecDepth 100000 in
theorem mt_X4_search : jw_mt yX4_search cX4_search 6 (some .boolean) 3 := ⟨((jw_tt (jw_c5 _ (List.mem_of_getElem? (i := 34) rfl)) rfl)), ((jw_tt (jw_c1 _ (List.mem_of_getElem? (i := 10) rfl)) rfl)), ⟨by decide, by decide, by decide +kernel⟩, by decide⟩
set_option maxRecDepth 100000 in
theorem in_X4_search : Cond.instanceMethod yX4_search ∈ jw_T := (jw_tt (jw_c5 _ (List.mem_of_getElem? (i := 33) rfl)) rfl)
set_option maxRecDepth 100000 in
theorem se_X4_search : Cond.selects yX4_search.cls yX4_search yX4_search ∈ jw_T := (jw_Tin (jw_p4 _ (List.mem_of_getElem? (i := 5) rfl)) rfl)
set_option maxRecDepth 100000 in
theorem lk_X2_80 : jw_lk RX2 80 yX4_search := Or.inr ⟨"Lineorders", ((jw_tn (jw_c5 _ (List.mem_of_getElem? (i := 86) rfl)) rfl))⟩
set_option maxRecDepth 100000 in
theorem lk_X4_57 : jw_lk RX4 57 yX4_search := Or.inl ((jw_tt (jw_c5 _ (List.mem_of_getElem? (i := 31) rfl)) rfl))
set_option maxRecDepth 100000 in
theorem mt_X5_init : jw_mt yX5_init cX5_init 1 none 0 := ⟨((jw_tt (jw_c1 _ (List.mem_of_getElem? (i := 43) rfl)) rfl)), ((jw_tt (jw_c1 _ (List.mem_of_getElem? (i := 3) rfl)) rfl)), ⟨by decide, by decide, by decide +kernel⟩, by decide⟩
set_option maxRecDepth 100000 in
theorem in_X5_init : Cond.instanceMethod yX5_init ∈ jw_T := (jw_tt (jw_c1 _ (List.mem_of_getElem? (i := 42) rfl)) rfl)
set_option maxRecDepth 100000 in
theorem lk_X6_17 : jw_lk RX6 17 yX5_init := Or.inr ⟨"Lineorders", ((jw_tn (jw_c1 _ (List.mem_of_getElem? (i := 41) rfl)) rfl))⟩
set_option maxRecDepth 100000 in
theorem mt_X5_clear : jw_mt yX5_clear cX5_clear 1 none 0 := ⟨((jw_tt (jw_c4 _ (List.mem_of_getElem? (i := 142) rfl)) rfl)), ((jw_tt (jw_c1 _ (List.mem_of_getElem? (i := 3) rfl)) rfl)), ⟨by decide, by decide, by decide +kernel⟩, by decide⟩
set_option maxRecDepth 100000 in
theorem in_X5_clear : Cond.instanceMethod yX5_clear ∈ jw_T := (jw_tt (jw_c4 _ (List.mem_of_getElem? (i := 141) rfl)) rfl)
set_option maxRecDepth 100000 in
theorem se_X5_clear : Cond.selects yX5_clear.cls yX5_clear yX5_clear ∈ jw_T := (jw_Tin (jw_p2 _ (List.mem_of_getElem? (i := 9) rfl)) rfl)
set_option maxRecDepth 100000 in
theorem lk_X6_79 : jw_lk RX6 79 yX5_clear := Or.inr ⟨"Lineorders", ((jw_tn (jw_c4 _ (List.mem_of_getElem? (i := 139) rfl)) rfl))⟩
set_option maxRecDepth 100000 in
theorem mt_X5_holdsOthers : jw_mt yX5_holdsOthers cX5_holdsOthers 1 (some .boolean) 0 := ⟨((jw_tt (jw_c4 _ (List.mem_of_getElem? (i := 205) rfl)) rfl)), ((jw_tt (jw_c1 _ (List.mem_of_getElem? (i := 3) rfl)) rfl)), ⟨by decide, by decide, by decide +kernel⟩, by decide⟩
set_option maxRecDepth 100000 in
theorem in_X5_holdsOthers : Cond.instanceMethod yX5_holdsOthers ∈ jw_T := (jw_tt (jw_c4 _ (List.mem_of_getElem? (i := 204) rfl)) rfl)
set_option maxRecDepth 100000 in
theorem se_X5_holdsOthers : Cond.selects yX5_holdsOthers.cls yX5_holdsOthers yX5_holdsOthers ∈ jw_T := (jw_Tin (jw_p3 _ (List.mem_of_getElem? (i := 7) rfl)) rfl)
set_option maxRecDepth 100000 in
theorem lk_X1_175 : jw_lk RX1 175 yX5_holdsOthers := Or.inr ⟨"Lineorders", ((jw_tn (jw_c6 _ (List.mem_of_getElem? (i := 123) rfl)) rfl))⟩
set_option maxRecDepth 100000 in
theorem lk_X6_65 : jw_lk RX6 65 yX5_holdsOthers := Or.inr ⟨"Lineorders", ((jw_tn (jw_c4 _ (List.mem_of_getElem? (i := 202) rfl)) rfl))⟩
set_option maxRecDepth 100000 in
theorem lk_X10_104 : jw_lk RX10 104 yX5_holdsOthers := Or.inr ⟨"Lineorders", ((jw_tn (jw_c5 _ (List.mem_of_getElem? (i := 53) rfl)) rfl))⟩
set_option maxRecDepth 100000 in
theorem mt_X5_isDeed : jw_mt yX5_isDeed cX5_isDeed 1 (some .boolean) 0 := ⟨((jw_tt (jw_c6 _ (List.mem_of_getElem? (i := 31) rfl)) rfl)), ((jw_tt (jw_c1 _ (List.mem_of_getElem? (i := 3) rfl)) rfl)), ⟨by decide, by decide, by decide +kernel⟩, by decide⟩
set_option maxRecDepth 100000 in
theorem in_X5_isDeed : Cond.instanceMethod yX5_isDeed ∈ jw_T := (jw_tt (jw_c6 _ (List.mem_of_getElem? (i := 30) rfl)) rfl)
set_option maxRecDepth 100000 in
theorem se_X5_isDeed : Cond.selects yX5_isDeed.cls yX5_isDeed yX5_isDeed ∈ jw_T := (jw_Tin (jw_p7 _ (List.mem_of_getElem? (i := 8) rfl)) rfl)
set_option maxRecDepth 100000 in
theorem lk_X10_117 : jw_lk RX10 117 yX5_isDeed := Or.inr ⟨"Lineorders", ((jw_tn (jw_c6 _ (List.mem_of_getElem? (i := 28) rfl)) rfl))⟩
set_option maxRecDepth 100000 in
theorem mt_X5_isNotByLine : jw_mt yX5_isNotByLine cX5_isNotByLine 1 (some .boolean) 0 := ⟨((jw_tt (jw_c6 _ (List.mem_of_getElem? (i := 100) rfl)) rfl)), ((jw_tt (jw_c1 _ (List.mem_of_getElem? (i := 3) rfl)) rfl)), ⟨by decide, by decide, by decide +kernel⟩, by decide⟩
set_option maxRecDepth 100000 in
theorem in_X5_isNotByLine : Cond.instanceMethod yX5_isNotByLine ∈ jw_T := (jw_tt (jw_c6 _ (List.mem_of_getElem? (i := 99) rfl)) rfl)
set_option maxRecDepth 100000 in
theorem se_X5_isNotByLine : Cond.selects yX5_isNotByLine.cls yX5_isNotByLine yX5_isNotByLine ∈ jw_T := (jw_Tin (jw_p8 _ (List.mem_of_getElem? (i := 0) rfl)) rfl)
set_option maxRecDepth 100000 in
theorem lk_X1_164 : jw_lk RX1 164 yX5_isNotByLine := Or.inr ⟨"Lineorders", ((jw_tn (jw_c6 _ (List.mem_of_getElem? (i := 97) rfl)) rfl))⟩
set_option maxRecDepth 100000 in
theorem mt_X5_mayStandBehindNone : jw_mt yX5_mayStandBehindNone cX5_mayStandBehindNone 1 (some .boolean) 0 := ⟨((jw_tt (jw_c5 _ (List.mem_of_getElem? (i := 44) rfl)) rfl)), ((jw_tt (jw_c1 _ (List.mem_of_getElem? (i := 3) rfl)) rfl)), ⟨by decide, by decide, by decide +kernel⟩, by decide⟩
set_option maxRecDepth 100000 in
theorem in_X5_mayStandBehindNone : Cond.instanceMethod yX5_mayStandBehindNone ∈ jw_T := (jw_tt (jw_c5 _ (List.mem_of_getElem? (i := 43) rfl)) rfl)
set_option maxRecDepth 100000 in
theorem se_X5_mayStandBehindNone : Cond.selects yX5_mayStandBehindNone.cls yX5_mayStandBehindNone yX5_mayStandBehindNone ∈ jw_T := (jw_Tin (jw_p4 _ (List.mem_of_getElem? (i := 7) rfl)) rfl)
set_option maxRecDepth 100000 in
theorem lk_X10_160 : jw_lk RX10 160 yX5_mayStandBehindNone := Or.inr ⟨"Lineorders", ((jw_tn (jw_c5 _ (List.mem_of_getElem? (i := 41) rfl)) rfl))⟩
set_option maxRecDepth 100000 in
theorem mt_X5_steers : jw_mt yX5_steers cX5_steers 1 (some .boolean) 0 := ⟨((jw_tt (jw_c4 _ (List.mem_of_getElem? (i := 209) rfl)) rfl)), ((jw_tt (jw_c1 _ (List.mem_of_getElem? (i := 3) rfl)) rfl)), ⟨by decide, by decide, by decide +kernel⟩, by decide⟩
set_option maxRecDepth 100000 in
theorem in_X5_steers : Cond.instanceMethod yX5_steers ∈ jw_T := (jw_tt (jw_c4 _ (List.mem_of_getElem? (i := 208) rfl)) rfl)
set_option maxRecDepth 100000 in
theorem se_X5_steers : Cond.selects yX5_steers.cls yX5_steers yX5_steers ∈ jw_T := (jw_Tin (jw_p3 _ (List.mem_of_getElem? (i := 8) rfl)) rfl)
set_option maxRecDepth 100000 in
theorem lk_X1_185 : jw_lk RX1 185 yX5_steers := Or.inr ⟨"Lineorders", ((jw_tn (jw_c6 _ (List.mem_of_getElem? (i := 124) rfl)) rfl))⟩
set_option maxRecDepth 100000 in
theorem lk_X6_134 : jw_lk RX6 134 yX5_steers := Or.inr ⟨"Lineorders", ((jw_tn (jw_c4 _ (List.mem_of_getElem? (i := 206) rfl)) rfl))⟩
set_option maxRecDepth 100000 in
theorem lk_X10_97 : jw_lk RX10 97 yX5_steers := Or.inr ⟨"Lineorders", ((jw_tn (jw_c5 _ (List.mem_of_getElem? (i := 13) rfl)) rfl))⟩
set_option maxRecDepth 100000 in
theorem mt_X5_takesAll : jw_mt yX5_takesAll cX5_takesAll 1 (some .boolean) 0 := ⟨((jw_tt (jw_c5 _ (List.mem_of_getElem? (i := 12) rfl)) rfl)), ((jw_tt (jw_c1 _ (List.mem_of_getElem? (i := 3) rfl)) rfl)), ⟨by decide, by decide, by decide +kernel⟩, by decide⟩
set_option maxRecDepth 100000 in
theorem in_X5_takesAll : Cond.instanceMethod yX5_takesAll ∈ jw_T := (jw_tt (jw_c5 _ (List.mem_of_getElem? (i := 11) rfl)) rfl)
set_option maxRecDepth 100000 in
theorem se_X5_takesAll : Cond.selects yX5_takesAll.cls yX5_takesAll yX5_takesAll ∈ jw_T := (jw_Tin (jw_p4 _ (List.mem_of_getElem? (i := 1) rfl)) rfl)
set_option maxRecDepth 100000 in
theorem lk_X10_132 : jw_lk RX10 132 yX5_takesAll := Or.inr ⟨"Lineorders", ((jw_tn (jw_c5 _ (List.mem_of_getElem? (i := 9) rfl)) rfl))⟩
set_option maxRecDepth 100000 in
theorem mt_X6_init : jw_mt yX6_init cX6_init 2 none 0 := ⟨((jw_tt (jw_c1 _ (List.mem_of_getElem? (i := 36) rfl)) rfl)), ((jw_tt (jw_c1 _ (List.mem_of_getElem? (i := 2) rfl)) rfl)), ⟨by decide, by decide, by decide +kernel⟩, by decide⟩
set_option maxRecDepth 100000 in
theorem in_X6_init : Cond.instanceMethod yX6_init ∈ jw_T := (jw_tt (jw_c1 _ (List.mem_of_getElem? (i := 35) rfl)) rfl)
set_option maxRecDepth 100000 in
theorem lk_X11_30 : jw_lk RX11 30 yX6_init := Or.inr ⟨"Lineorders", ((jw_tn (jw_c1 _ (List.mem_of_getElem? (i := 34) rfl)) rfl))⟩
set_option maxRecDepth 100000 in
theorem mt_X6_addElement : jw_mt yX6_addElement cX6_addElement 4 none 2 := ⟨((jw_tt (jw_c4 _ (List.mem_of_getElem? (i := 183) rfl)) rfl)), ((jw_tt (jw_c1 _ (List.mem_of_getElem? (i := 2) rfl)) rfl)), ⟨by decide, by decide, by decide +kernel⟩, by decide⟩
set_option maxRecDepth 100000 in
theorem in_X6_addElement : Cond.instanceMethod yX6_addElement ∈ jw_T := (jw_tt (jw_c4 _ (List.mem_of_getElem? (i := 182) rfl)) rfl)
set_option maxRecDepth 100000 in
theorem se_X6_addElement : Cond.selects yX6_addElement.cls yX6_addElement yX6_addElement ∈ jw_T := (jw_Tin (jw_p3 _ (List.mem_of_getElem? (i := 3) rfl)) rfl)
set_option maxRecDepth 100000 in
theorem lk_X6_177 : jw_lk RX6 177 yX6_addElement := Or.inl ((jw_tt (jw_c4 _ (List.mem_of_getElem? (i := 180) rfl)) rfl))
set_option maxRecDepth 100000 in
theorem mt_X6_begin : jw_mt yX6_begin cX6_begin 3 none 2 := ⟨((jw_tt (jw_c4 _ (List.mem_of_getElem? (i := 133) rfl)) rfl)), ((jw_tt (jw_c1 _ (List.mem_of_getElem? (i := 2) rfl)) rfl)), ⟨by decide, by decide, by decide +kernel⟩, by decide⟩
set_option maxRecDepth 100000 in
theorem in_X6_begin : Cond.instanceMethod yX6_begin ∈ jw_T := (jw_tt (jw_c4 _ (List.mem_of_getElem? (i := 132) rfl)) rfl)
set_option maxRecDepth 100000 in
theorem se_X6_begin : Cond.selects yX6_begin.cls yX6_begin yX6_begin ∈ jw_T := (jw_Tin (jw_p2 _ (List.mem_of_getElem? (i := 7) rfl)) rfl)
set_option maxRecDepth 100000 in
theorem lk_X6_49 : jw_lk RX6 49 yX6_begin := Or.inl ((jw_tt (jw_c4 _ (List.mem_of_getElem? (i := 130) rfl)) rfl))
set_option maxRecDepth 100000 in
theorem mt_X6_beginsAddress : jw_mt yX6_beginsAddress cX6_beginsAddress 2 (some .boolean) 1 := ⟨((jw_tt (jw_c4 _ (List.mem_of_getElem? (i := 162) rfl)) rfl)), ((jw_tt (jw_c1 _ (List.mem_of_getElem? (i := 2) rfl)) rfl)), ⟨by decide, by decide, by decide +kernel⟩, by decide⟩
set_option maxRecDepth 100000 in
theorem in_X6_beginsAddress : Cond.instanceMethod yX6_beginsAddress ∈ jw_T := (jw_tt (jw_c4 _ (List.mem_of_getElem? (i := 161) rfl)) rfl)
set_option maxRecDepth 100000 in
theorem se_X6_beginsAddress : Cond.selects yX6_beginsAddress.cls yX6_beginsAddress yX6_beginsAddress ∈ jw_T := (jw_Tin (jw_p2 _ (List.mem_of_getElem? (i := 14) rfl)) rfl)
set_option maxRecDepth 100000 in
theorem lk_X6_96 : jw_lk RX6 96 yX6_beginsAddress := Or.inl ((jw_tt (jw_c4 _ (List.mem_of_getElem? (i := 159) rfl)) rfl))
set_option maxRecDepth 100000 in
theorem mt_X6_beginsPlain : jw_mt yX6_beginsPlain cX6_beginsPlain 2 (some .boolean) 1 := ⟨((jw_tt (jw_c4 _ (List.mem_of_getElem? (i := 187) rfl)) rfl)), ((jw_tt (jw_c1 _ (List.mem_of_getElem? (i := 2) rfl)) rfl)), ⟨by decide, by decide, by decide +kernel⟩, by decide⟩
set_option maxRecDepth 100000 in
theorem in_X6_beginsPlain : Cond.instanceMethod yX6_beginsPlain ∈ jw_T := (jw_tt (jw_c4 _ (List.mem_of_getElem? (i := 186) rfl)) rfl)
set_option maxRecDepth 100000 in
theorem se_X6_beginsPlain : Cond.selects yX6_beginsPlain.cls yX6_beginsPlain yX6_beginsPlain ∈ jw_T := (jw_Tin (jw_p3 _ (List.mem_of_getElem? (i := 4) rfl)) rfl)
set_option maxRecDepth 100000 in
theorem lk_X6_181 : jw_lk RX6 181 yX6_beginsPlain := Or.inl ((jw_tt (jw_c4 _ (List.mem_of_getElem? (i := 184) rfl)) rfl))
set_option maxRecDepth 100000 in
theorem mt_X6_orderAt : jw_mt yX6_orderAt cX6_orderAt 2 (some (.object "Lineorders$Order")) 1 := ⟨((jw_tt (jw_c4 _ (List.mem_of_getElem? (i := 233) rfl)) rfl)), ((jw_tt (jw_c1 _ (List.mem_of_getElem? (i := 2) rfl)) rfl)), ⟨by decide, by decide, by decide +kernel⟩, by decide⟩
set_option maxRecDepth 100000 in
theorem in_X6_orderAt : Cond.instanceMethod yX6_orderAt ∈ jw_T := (jw_tt (jw_c4 _ (List.mem_of_getElem? (i := 232) rfl)) rfl)
set_option maxRecDepth 100000 in
theorem se_X6_orderAt : Cond.selects yX6_orderAt.cls yX6_orderAt yX6_orderAt ∈ jw_T := (jw_Tin (jw_p3 _ (List.mem_of_getElem? (i := 14) rfl)) rfl)
set_option maxRecDepth 100000 in
theorem lk_X1_121 : jw_lk RX1 121 yX6_orderAt := Or.inr ⟨"Lineorders", ((jw_tn (jw_c6 _ (List.mem_of_getElem? (i := 85) rfl)) rfl))⟩
set_option maxRecDepth 100000 in
theorem lk_X6_61 : jw_lk RX6 61 yX6_orderAt := Or.inl ((jw_tt (jw_c4 _ (List.mem_of_getElem? (i := 230) rfl)) rfl))
set_option maxRecDepth 100000 in
theorem lk_X10_73 : jw_lk RX10 73 yX6_orderAt := Or.inr ⟨"Lineorders", ((jw_tn (jw_c5 _ (List.mem_of_getElem? (i := 3) rfl)) rfl))⟩
set_option maxRecDepth 100000 in
theorem mt_X6_pass : jw_mt yX6_pass cX6_pass 2 (some .boolean) 1 := ⟨((jw_tt (jw_c4 _ (List.mem_of_getElem? (i := 154) rfl)) rfl)), ((jw_tt (jw_c1 _ (List.mem_of_getElem? (i := 2) rfl)) rfl)), ⟨by decide, by decide, by decide +kernel⟩, by decide⟩
set_option maxRecDepth 100000 in
theorem in_X6_pass : Cond.instanceMethod yX6_pass ∈ jw_T := (jw_tt (jw_c4 _ (List.mem_of_getElem? (i := 153) rfl)) rfl)
set_option maxRecDepth 100000 in
theorem se_X6_pass : Cond.selects yX6_pass.cls yX6_pass yX6_pass ∈ jw_T := (jw_Tin (jw_p2 _ (List.mem_of_getElem? (i := 12) rfl)) rfl)
set_option maxRecDepth 100000 in
theorem lk_X6_72 : jw_lk RX6 72 yX6_pass := Or.inl ((jw_tt (jw_c4 _ (List.mem_of_getElem? (i := 151) rfl)) rfl))
set_option maxRecDepth 100000 in
theorem mt_X6_peek : jw_mt yX6_peek cX6_peek 1 (some .int) 0 := ⟨((jw_tt (jw_c4 _ (List.mem_of_getElem? (i := 158) rfl)) rfl)), ((jw_tt (jw_c1 _ (List.mem_of_getElem? (i := 2) rfl)) rfl)), ⟨by decide, by decide, by decide +kernel⟩, by decide⟩
set_option maxRecDepth 100000 in
theorem in_X6_peek : Cond.instanceMethod yX6_peek ∈ jw_T := (jw_tt (jw_c4 _ (List.mem_of_getElem? (i := 157) rfl)) rfl)
set_option maxRecDepth 100000 in
theorem se_X6_peek : Cond.selects yX6_peek.cls yX6_peek yX6_peek ∈ jw_T := (jw_Tin (jw_p2 _ (List.mem_of_getElem? (i := 13) rfl)) rfl)
set_option maxRecDepth 100000 in
theorem lk_X6_93 : jw_lk RX6 93 yX6_peek := Or.inl ((jw_tt (jw_c4 _ (List.mem_of_getElem? (i := 155) rfl)) rfl))
set_option maxRecDepth 100000 in
theorem mt_X6_placeBehind : jw_mt yX6_placeBehind cX6_placeBehind 4 (some .int) 1 := ⟨((jw_tt (jw_c5 _ (List.mem_of_getElem? (i := 52) rfl)) rfl)), ((jw_tt (jw_c1 _ (List.mem_of_getElem? (i := 2) rfl)) rfl)), ⟨by decide, by decide, by decide +kernel⟩, by decide⟩
set_option maxRecDepth 100000 in
theorem in_X6_placeBehind : Cond.instanceMethod yX6_placeBehind ∈ jw_T := (jw_tt (jw_c5 _ (List.mem_of_getElem? (i := 51) rfl)) rfl)
set_option maxRecDepth 100000 in
theorem se_X6_placeBehind : Cond.selects yX6_placeBehind.cls yX6_placeBehind yX6_placeBehind ∈ jw_T := (jw_Tin (jw_p4 _ (List.mem_of_getElem? (i := 9) rfl)) rfl)
set_option maxRecDepth 100000 in
theorem lk_X1_243 : jw_lk RX1 243 yX6_placeBehind := Or.inr ⟨"Lineorders", ((jw_tn (jw_c6 _ (List.mem_of_getElem? (i := 129) rfl)) rfl))⟩
set_option maxRecDepth 100000 in
theorem lk_X10_191 : jw_lk RX10 191 yX6_placeBehind := Or.inr ⟨"Lineorders", ((jw_tn (jw_c5 _ (List.mem_of_getElem? (i := 49) rfl)) rfl))⟩
set_option maxRecDepth 100000 in
theorem mt_X6_readAct : jw_mt yX6_readAct cX6_readAct 4 (some .boolean) 2 := ⟨((jw_tt (jw_c4 _ (List.mem_of_getElem? (i := 201) rfl)) rfl)), ((jw_tt (jw_c1 _ (List.mem_of_getElem? (i := 2) rfl)) rfl)), ⟨by decide, by decide, by decide +kernel⟩, by decide⟩
set_option maxRecDepth 100000 in
theorem in_X6_readAct : Cond.instanceMethod yX6_readAct ∈ jw_T := (jw_tt (jw_c4 _ (List.mem_of_getElem? (i := 200) rfl)) rfl)
set_option maxRecDepth 100000 in
theorem se_X6_readAct : Cond.selects yX6_readAct.cls yX6_readAct yX6_readAct ∈ jw_T := (jw_Tin (jw_p3 _ (List.mem_of_getElem? (i := 6) rfl)) rfl)
set_option maxRecDepth 100000 in
theorem lk_X6_86 : jw_lk RX6 86 yX6_readAct := Or.inl ((jw_tt (jw_c4 _ (List.mem_of_getElem? (i := 198) rfl)) rfl))
set_option maxRecDepth 100000 in
theorem mt_X6_readAddress : jw_mt yX6_readAddress cX6_readAddress 6 (some .boolean) 1 := ⟨((jw_tt (jw_c4 _ (List.mem_of_getElem? (i := 166) rfl)) rfl)), ((jw_tt (jw_c1 _ (List.mem_of_getElem? (i := 2) rfl)) rfl)), ⟨by decide, by decide, by decide +kernel⟩, by decide⟩
set_option maxRecDepth 100000 in
theorem in_X6_readAddress : Cond.instanceMethod yX6_readAddress ∈ jw_T := (jw_tt (jw_c4 _ (List.mem_of_getElem? (i := 165) rfl)) rfl)
set_option maxRecDepth 100000 in
theorem se_X6_readAddress : Cond.selects yX6_readAddress.cls yX6_readAddress yX6_readAddress ∈ jw_T := (jw_Tin (jw_p2 _ (List.mem_of_getElem? (i := 15) rfl)) rfl)
set_option maxRecDepth 100000 in
theorem lk_X6_103 : jw_lk RX6 103 yX6_readAddress := Or.inl ((jw_tt (jw_c4 _ (List.mem_of_getElem? (i := 163) rfl)) rfl))
set_option maxRecDepth 100000 in
theorem mt_X6_readFindNumber : jw_mt yX6_readFindNumber cX6_readFindNumber 2 (some .int) 0 := ⟨((jw_tt (jw_c4 _ (List.mem_of_getElem? (i := 221) rfl)) rfl)), ((jw_tt (jw_c1 _ (List.mem_of_getElem? (i := 2) rfl)) rfl)), ⟨by decide, by decide, by decide +kernel⟩, by decide⟩
set_option maxRecDepth 100000 in
theorem in_X6_readFindNumber : Cond.instanceMethod yX6_readFindNumber ∈ jw_T := (jw_tt (jw_c4 _ (List.mem_of_getElem? (i := 220) rfl)) rfl)
set_option maxRecDepth 100000 in
theorem se_X6_readFindNumber : Cond.selects yX6_readFindNumber.cls yX6_readFindNumber yX6_readFindNumber ∈ jw_T := (jw_Tin (jw_p3 _ (List.mem_of_getElem? (i := 11) rfl)) rfl)
set_option maxRecDepth 100000 in
theorem lk_X6_171 : jw_lk RX6 171 yX6_readFindNumber := Or.inl ((jw_tt (jw_c4 _ (List.mem_of_getElem? (i := 218) rfl)) rfl))
set_option maxRecDepth 100000 in
theorem mt_X6_readFrom : jw_mt yX6_readFrom cX6_readFrom 4 (some .int) 2 := ⟨((jw_tt (jw_c4 _ (List.mem_of_getElem? (i := 175) rfl)) rfl)), ((jw_tt (jw_c1 _ (List.mem_of_getElem? (i := 2) rfl)) rfl)), ⟨by decide, by decide, by decide +kernel⟩, by decide⟩
set_option maxRecDepth 100000 in
theorem in_X6_readFrom : Cond.instanceMethod yX6_readFrom ∈ jw_T := (jw_tt (jw_c4 _ (List.mem_of_getElem? (i := 174) rfl)) rfl)
set_option maxRecDepth 100000 in
theorem se_X6_readFrom : Cond.selects yX6_readFrom.cls yX6_readFrom yX6_readFrom ∈ jw_T := (jw_Tin (jw_p3 _ (List.mem_of_getElem? (i := 1) rfl)) rfl)
set_option maxRecDepth 100000 in
theorem lk_X6_121 : jw_lk RX6 121 yX6_readFrom := Or.inl ((jw_tt (jw_c4 _ (List.mem_of_getElem? (i := 172) rfl)) rfl))
set_option maxRecDepth 100000 in
theorem mt_X6_readNumber : jw_mt yX6_readNumber cX6_readNumber 4 (some .int) 0 := ⟨((jw_tt (jw_c4 _ (List.mem_of_getElem? (i := 170) rfl)) rfl)), ((jw_tt (jw_c1 _ (List.mem_of_getElem? (i := 2) rfl)) rfl)), ⟨by decide, by decide, by decide +kernel⟩, by decide⟩
set_option maxRecDepth 100000 in
theorem in_X6_readNumber : Cond.instanceMethod yX6_readNumber ∈ jw_T := (jw_tt (jw_c4 _ (List.mem_of_getElem? (i := 169) rfl)) rfl)
set_option maxRecDepth 100000 in
theorem se_X6_readNumber : Cond.selects yX6_readNumber.cls yX6_readNumber yX6_readNumber ∈ jw_T := (jw_Tin (jw_p3 _ (List.mem_of_getElem? (i := 0) rfl)) rfl)
set_option maxRecDepth 100000 in
theorem lk_X6_115 : jw_lk RX6 115 yX6_readNumber := Or.inl ((jw_tt (jw_c4 _ (List.mem_of_getElem? (i := 167) rfl)) rfl))
set_option maxRecDepth 100000 in
theorem mt_X6_readOrder : jw_mt yX6_readOrder cX6_readOrder 3 (some .boolean) 1 := ⟨((jw_tt (jw_c4 _ (List.mem_of_getElem? (i := 138) rfl)) rfl)), ((jw_tt (jw_c1 _ (List.mem_of_getElem? (i := 2) rfl)) rfl)), ⟨by decide, by decide, by decide +kernel⟩, by decide⟩
set_option maxRecDepth 100000 in
theorem in_X6_readOrder : Cond.instanceMethod yX6_readOrder ∈ jw_T := (jw_tt (jw_c4 _ (List.mem_of_getElem? (i := 137) rfl)) rfl)
set_option maxRecDepth 100000 in
theorem se_X6_readOrder : Cond.selects yX6_readOrder.cls yX6_readOrder yX6_readOrder ∈ jw_T := (jw_Tin (jw_p2 _ (List.mem_of_getElem? (i := 8) rfl)) rfl)
set_option maxRecDepth 100000 in
theorem lk_X6_57 : jw_lk RX6 57 yX6_readOrder := Or.inl ((jw_tt (jw_c4 _ (List.mem_of_getElem? (i := 135) rfl)) rfl))
set_option maxRecDepth 100000 in
theorem mt_X6_readOrders : jw_mt yX6_readOrders cX6_readOrders 8 (some .int) 2 := ⟨((jw_tt (jw_c4 _ (List.mem_of_getElem? (i := 129) rfl)) rfl)), ((jw_tt (jw_c1 _ (List.mem_of_getElem? (i := 2) rfl)) rfl)), ⟨by decide, by decide, by decide +kernel⟩, by decide⟩
set_option maxRecDepth 100000 in
theorem in_X6_readOrders : Cond.instanceMethod yX6_readOrders ∈ jw_T := (jw_tt (jw_c4 _ (List.mem_of_getElem? (i := 128) rfl)) rfl)
set_option maxRecDepth 100000 in
theorem se_X6_readOrders : Cond.selects yX6_readOrders.cls yX6_readOrders yX6_readOrders ∈ jw_T := (jw_Tin (jw_p2 _ (List.mem_of_getElem? (i := 6) rfl)) rfl)
set_option maxRecDepth 100000 in
theorem lk_X11_104 : jw_lk RX11 104 yX6_readOrders := Or.inr ⟨"Lineorders", ((jw_tn (jw_c4 _ (List.mem_of_getElem? (i := 126) rfl)) rfl))⟩
set_option maxRecDepth 100000 in
theorem mt_X6_readPattern : jw_mt yX6_readPattern cX6_readPattern 9 (some .int) 0 := ⟨((jw_tt (jw_c4 _ (List.mem_of_getElem? (i := 179) rfl)) rfl)), ((jw_tt (jw_c1 _ (List.mem_of_getElem? (i := 2) rfl)) rfl)), ⟨by decide, by decide, by decide +kernel⟩, by decide⟩
set_option maxRecDepth 100000 in
theorem in_X6_readPattern : Cond.instanceMethod yX6_readPattern ∈ jw_T := (jw_tt (jw_c4 _ (List.mem_of_getElem? (i := 178) rfl)) rfl)
set_option maxRecDepth 100000 in
theorem se_X6_readPattern : Cond.selects yX6_readPattern.cls yX6_readPattern yX6_readPattern ∈ jw_T := (jw_Tin (jw_p3 _ (List.mem_of_getElem? (i := 2) rfl)) rfl)
set_option maxRecDepth 100000 in
theorem lk_X6_53 : jw_lk RX6 53 yX6_readPattern := Or.inl ((jw_tt (jw_c4 _ (List.mem_of_getElem? (i := 176) rfl)) rfl))
set_option maxRecDepth 100000 in
theorem mt_X6_readPatternOf : jw_mt yX6_readPatternOf cX6_readPatternOf 2 (some .boolean) 1 := ⟨((jw_tt (jw_c4 _ (List.mem_of_getElem? (i := 229) rfl)) rfl)), ((jw_tt (jw_c1 _ (List.mem_of_getElem? (i := 2) rfl)) rfl)), ⟨by decide, by decide, by decide +kernel⟩, by decide⟩
set_option maxRecDepth 100000 in
theorem in_X6_readPatternOf : Cond.instanceMethod yX6_readPatternOf ∈ jw_T := (jw_tt (jw_c4 _ (List.mem_of_getElem? (i := 228) rfl)) rfl)
set_option maxRecDepth 100000 in
theorem se_X6_readPatternOf : Cond.selects yX6_readPatternOf.cls yX6_readPatternOf yX6_readPatternOf ∈ jw_T := (jw_Tin (jw_p3 _ (List.mem_of_getElem? (i := 13) rfl)) rfl)
set_option maxRecDepth 100000 in
theorem lk_X6_152 : jw_lk RX6 152 yX6_readPatternOf := Or.inl ((jw_tt (jw_c4 _ (List.mem_of_getElem? (i := 226) rfl)) rfl))
set_option maxRecDepth 100000 in
theorem mt_X6_readPlain : jw_mt yX6_readPlain cX6_readPlain 6 (some .boolean) 0 := ⟨((jw_tt (jw_c4 _ (List.mem_of_getElem? (i := 195) rfl)) rfl)), ((jw_tt (jw_c1 _ (List.mem_of_getElem? (i := 2) rfl)) rfl)), ⟨by decide, by decide, by decide +kernel⟩, by decide⟩
set_option maxRecDepth 100000 in
theorem in_X6_readPlain : Cond.instanceMethod yX6_readPlain ∈ jw_T := (jw_tt (jw_c4 _ (List.mem_of_getElem? (i := 194) rfl)) rfl)
set_option maxRecDepth 100000 in
theorem se_X6_readPlain : Cond.selects yX6_readPlain.cls yX6_readPlain yX6_readPlain ∈ jw_T := (jw_Tin (jw_p3 _ (List.mem_of_getElem? (i := 5) rfl)) rfl)
set_option maxRecDepth 100000 in
theorem lk_X6_184 : jw_lk RX6 184 yX6_readPlain := Or.inl ((jw_tt (jw_c4 _ (List.mem_of_getElem? (i := 192) rfl)) rfl))
set_option maxRecDepth 100000 in
theorem mt_X6_readReplace : jw_mt yX6_readReplace cX6_readReplace 4 (some .boolean) 1 := ⟨((jw_tt (jw_c4 _ (List.mem_of_getElem? (i := 217) rfl)) rfl)), ((jw_tt (jw_c1 _ (List.mem_of_getElem? (i := 2) rfl)) rfl)), ⟨by decide, by decide, by decide +kernel⟩, by decide⟩
set_option maxRecDepth 100000 in
theorem in_X6_readReplace : Cond.instanceMethod yX6_readReplace ∈ jw_T := (jw_tt (jw_c4 _ (List.mem_of_getElem? (i := 216) rfl)) rfl)
set_option maxRecDepth 100000 in
theorem se_X6_readReplace : Cond.selects yX6_readReplace.cls yX6_readReplace yX6_readReplace ∈ jw_T := (jw_Tin (jw_p3 _ (List.mem_of_getElem? (i := 10) rfl)) rfl)
set_option maxRecDepth 100000 in
theorem lk_X6_146 : jw_lk RX6 146 yX6_readReplace := Or.inl ((jw_tt (jw_c4 _ (List.mem_of_getElem? (i := 214) rfl)) rfl))
set_option maxRecDepth 100000 in
theorem mt_X6_readRows : jw_mt yX6_readRows cX6_readRows 6 (some .boolean) 1 := ⟨((jw_tt (jw_c4 _ (List.mem_of_getElem? (i := 213) rfl)) rfl)), ((jw_tt (jw_c1 _ (List.mem_of_getElem? (i := 2) rfl)) rfl)), ⟨by decide, by decide, by decide +kernel⟩, by decide⟩
set_option maxRecDepth 100000 in
theorem in_X6_readRows : Cond.instanceMethod yX6_readRows ∈ jw_T := (jw_tt (jw_c4 _ (List.mem_of_getElem? (i := 212) rfl)) rfl)
set_option maxRecDepth 100000 in
theorem se_X6_readRows : Cond.selects yX6_readRows.cls yX6_readRows yX6_readRows ∈ jw_T := (jw_Tin (jw_p3 _ (List.mem_of_getElem? (i := 9) rfl)) rfl)
set_option maxRecDepth 100000 in
theorem lk_X6_137 : jw_lk RX6 137 yX6_readRows := Or.inl ((jw_tt (jw_c4 _ (List.mem_of_getElem? (i := 210) rfl)) rfl))
set_option maxRecDepth 100000 in
theorem mt_X6_readTapePattern : jw_mt yX6_readTapePattern cX6_readTapePattern 3 (some .int) 2 := ⟨((jw_tt (jw_c6 _ (List.mem_of_getElem? (i := 218) rfl)) rfl)), ((jw_tt (jw_c1 _ (List.mem_of_getElem? (i := 2) rfl)) rfl)), ⟨by decide, by decide, by decide +kernel⟩, by decide⟩
set_option maxRecDepth 100000 in
theorem in_X6_readTapePattern : Cond.instanceMethod yX6_readTapePattern ∈ jw_T := (jw_tt (jw_c6 _ (List.mem_of_getElem? (i := 217) rfl)) rfl)
set_option maxRecDepth 100000 in
theorem se_X6_readTapePattern : Cond.selects yX6_readTapePattern.cls yX6_readTapePattern yX6_readTapePattern ∈ jw_T := (jw_Tin (jw_p9 _ (List.mem_of_getElem? (i := 4) rfl)) rfl)
set_option maxRecDepth 100000 in
theorem lk_X11_108 : jw_lk RX11 108 yX6_readTapePattern := Or.inr ⟨"Lineorders", ((jw_tn (jw_c6 _ (List.mem_of_getElem? (i := 215) rfl)) rfl))⟩
set_option maxRecDepth 100000 in
theorem mt_X6_readTurn : jw_mt yX6_readTurn cX6_readTurn 3 (some .boolean) 1 := ⟨((jw_tt (jw_c4 _ (List.mem_of_getElem? (i := 225) rfl)) rfl)), ((jw_tt (jw_c1 _ (List.mem_of_getElem? (i := 2) rfl)) rfl)), ⟨by decide, by decide, by decide +kernel⟩, by decide⟩
set_option maxRecDepth 100000 in
theorem in_X6_readTurn : Cond.instanceMethod yX6_readTurn ∈ jw_T := (jw_tt (jw_c4 _ (List.mem_of_getElem? (i := 224) rfl)) rfl)
set_option maxRecDepth 100000 in
theorem se_X6_readTurn : Cond.selects yX6_readTurn.cls yX6_readTurn yX6_readTurn ∈ jw_T := (jw_Tin (jw_p3 _ (List.mem_of_getElem? (i := 12) rfl)) rfl)
set_option maxRecDepth 100000 in
theorem lk_X6_149 : jw_lk RX6 149 yX6_readTurn := Or.inl ((jw_tt (jw_c4 _ (List.mem_of_getElem? (i := 222) rfl)) rfl))
set_option maxRecDepth 100000 in
theorem mt_X6_readWhere : jw_mt yX6_readWhere cX6_readWhere 2 (some .boolean) 1 := ⟨((jw_tt (jw_c4 _ (List.mem_of_getElem? (i := 150) rfl)) rfl)), ((jw_tt (jw_c1 _ (List.mem_of_getElem? (i := 2) rfl)) rfl)), ⟨by decide, by decide, by decide +kernel⟩, by decide⟩
set_option maxRecDepth 100000 in
theorem in_X6_readWhere : Cond.instanceMethod yX6_readWhere ∈ jw_T := (jw_tt (jw_c4 _ (List.mem_of_getElem? (i := 149) rfl)) rfl)
set_option maxRecDepth 100000 in
theorem se_X6_readWhere : Cond.selects yX6_readWhere.cls yX6_readWhere yX6_readWhere ∈ jw_T := (jw_Tin (jw_p2 _ (List.mem_of_getElem? (i := 11) rfl)) rfl)
set_option maxRecDepth 100000 in
theorem lk_X6_82 : jw_lk RX6 82 yX6_readWhere := Or.inl ((jw_tt (jw_c4 _ (List.mem_of_getElem? (i := 147) rfl)) rfl))
set_option maxRecDepth 100000 in
theorem mt_X6_rowsOf : jw_mt yX6_rowsOf cX6_rowsOf 5 none 2 := ⟨((jw_tt (jw_c5 _ (List.mem_of_getElem? (i := 120) rfl)) rfl)), ((jw_tt (jw_c1 _ (List.mem_of_getElem? (i := 2) rfl)) rfl)), ⟨by decide, by decide, by decide +kernel⟩, by decide⟩
set_option maxRecDepth 100000 in
theorem in_X6_rowsOf : Cond.instanceMethod yX6_rowsOf ∈ jw_T := (jw_tt (jw_c5 _ (List.mem_of_getElem? (i := 119) rfl)) rfl)
set_option maxRecDepth 100000 in
theorem se_X6_rowsOf : Cond.selects yX6_rowsOf.cls yX6_rowsOf yX6_rowsOf ∈ jw_T := (jw_Tin (jw_p5 _ (List.mem_of_getElem? (i := 8) rfl)) rfl)
set_option maxRecDepth 100000 in
theorem lk_X1_250 : jw_lk RX1 250 yX6_rowsOf := Or.inr ⟨"Lineorders", ((jw_tn (jw_c6 _ (List.mem_of_getElem? (i := 135) rfl)) rfl))⟩
set_option maxRecDepth 100000 in
theorem lk_X10_224 : jw_lk RX10 224 yX6_rowsOf := Or.inr ⟨"Lineorders", ((jw_tn (jw_c5 _ (List.mem_of_getElem? (i := 117) rfl)) rfl))⟩
set_option maxRecDepth 100000 in
theorem mt_X6_signAt : jw_mt yX6_signAt cX6_signAt 2 (some .int) 1 := ⟨((jw_tt (jw_c5 _ (List.mem_of_getElem? (i := 99) rfl)) rfl)), ((jw_tt (jw_c1 _ (List.mem_of_getElem? (i := 2) rfl)) rfl)), ⟨by decide, by decide, by decide +kernel⟩, by decide⟩
set_option maxRecDepth 100000 in
theorem in_X6_signAt : Cond.instanceMethod yX6_signAt ∈ jw_T := (jw_tt (jw_c5 _ (List.mem_of_getElem? (i := 98) rfl)) rfl)
set_option maxRecDepth 100000 in
theorem se_X6_signAt : Cond.selects yX6_signAt.cls yX6_signAt yX6_signAt ∈ jw_T := (jw_Tin (jw_p5 _ (List.mem_of_getElem? (i := 3) rfl)) rfl)
set_option maxRecDepth 100000 in
theorem lk_X2_104 : jw_lk RX2 104 yX6_signAt := Or.inr ⟨"Lineorders", ((jw_tn (jw_c5 _ (List.mem_of_getElem? (i := 96) rfl)) rfl))⟩
set_option maxRecDepth 100000 in
theorem lk_X6_197 : jw_lk RX6 197 yX6_signAt := Or.inl ((jw_tt (jw_c5 _ (List.mem_of_getElem? (i := 125) rfl)) rfl))
set_option maxRecDepth 100000 in
theorem mt_X7_init : jw_mt yX7_init cX7_init 3 none 1 := ⟨((jw_tt (jw_c1 _ (List.mem_of_getElem? (i := 200) rfl)) rfl)), ((jw_tt (jw_c1 _ (List.mem_of_getElem? (i := 6) rfl)) rfl)), ⟨by decide, by decide, by decide +kernel⟩, by decide⟩
set_option maxRecDepth 100000 in
theorem in_X7_init : Cond.instanceMethod yX7_init ∈ jw_T := (jw_tt (jw_c1 _ (List.mem_of_getElem? (i := 199) rfl)) rfl)
set_option maxRecDepth 100000 in
theorem lk_X1_42 : jw_lk RX1 42 yX7_init := Or.inr ⟨"Lineorders", ((jw_tn (jw_c2 _ (List.mem_of_getElem? (i := 195) rfl)) rfl))⟩
set_option maxRecDepth 100000 in
theorem lk_X8_11 : jw_lk RX8 11 yX7_init := Or.inr ⟨"Lineorders", ((jw_tn (jw_c2 _ (List.mem_of_getElem? (i := 14) rfl)) rfl))⟩
set_option maxRecDepth 100000 in
theorem lk_X9_11 : jw_lk RX9 11 yX7_init := Or.inr ⟨"Lineorders", ((jw_tn (jw_c1 _ (List.mem_of_getElem? (i := 198) rfl)) rfl))⟩
set_option maxRecDepth 100000 in
theorem lk_X10_40 : jw_lk RX10 40 yX7_init := Or.inr ⟨"Lineorders", ((jw_tn (jw_c2 _ (List.mem_of_getElem? (i := 130) rfl)) rfl))⟩
set_option maxRecDepth 100000 in
theorem mt_X7_add : jw_mt yX7_add cX7_add 4 (some .boolean) 3 := ⟨((jw_tt (jw_c5 _ (List.mem_of_getElem? (i := 129) rfl)) rfl)), ((jw_tt (jw_c1 _ (List.mem_of_getElem? (i := 6) rfl)) rfl)), ⟨by decide, by decide, by decide +kernel⟩, by decide⟩
set_option maxRecDepth 100000 in
theorem in_X7_add : Cond.instanceMethod yX7_add ∈ jw_T := (jw_tt (jw_c5 _ (List.mem_of_getElem? (i := 128) rfl)) rfl)
set_option maxRecDepth 100000 in
theorem se_X7_add : Cond.selects yX7_add.cls yX7_add yX7_add ∈ jw_T := (jw_Tin (jw_p5 _ (List.mem_of_getElem? (i := 10) rfl)) rfl)
set_option maxRecDepth 100000 in
theorem lk_X6_201 : jw_lk RX6 201 yX7_add := Or.inr ⟨"Lineorders", ((jw_tn (jw_c5 _ (List.mem_of_getElem? (i := 126) rfl)) rfl))⟩
set_option maxRecDepth 100000 in
theorem lk_X7_46 : jw_lk RX7 46 yX7_add := Or.inl ((jw_tt (jw_c5 _ (List.mem_of_getElem? (i := 174) rfl)) rfl))
set_option maxRecDepth 100000 in
theorem lk_X8_55 : jw_lk RX8 55 yX7_add := Or.inr ⟨"Lineorders", ((jw_tn (jw_c6 _ (List.mem_of_getElem? (i := 5) rfl)) rfl))⟩
set_option maxRecDepth 100000 in
theorem mt_X7_addRow : jw_mt yX7_addRow cX7_addRow 3 (some .boolean) 2 := ⟨((jw_tt (jw_c5 _ (List.mem_of_getElem? (i := 173) rfl)) rfl)), ((jw_tt (jw_c1 _ (List.mem_of_getElem? (i := 6) rfl)) rfl)), ⟨by decide, by decide, by decide +kernel⟩, by decide⟩
set_option maxRecDepth 100000 in
theorem in_X7_addRow : Cond.instanceMethod yX7_addRow ∈ jw_T := (jw_tt (jw_c5 _ (List.mem_of_getElem? (i := 172) rfl)) rfl)
set_option maxRecDepth 100000 in
theorem se_X7_addRow : Cond.selects yX7_addRow.cls yX7_addRow yX7_addRow ∈ jw_T := (jw_Tin (jw_p6 _ (List.mem_of_getElem? (i := 3) rfl)) rfl)
set_option maxRecDepth 100000 in
theorem lk_X1_144 : jw_lk RX1 144 yX7_addRow := Or.inr ⟨"Lineorders", ((jw_tn (jw_c6 _ (List.mem_of_getElem? (i := 92) rfl)) rfl))⟩
set_option maxRecDepth 100000 in
theorem lk_X8_62 : jw_lk RX8 62 yX7_addRow := Or.inr ⟨"Lineorders", ((jw_tn (jw_c5 _ (List.mem_of_getElem? (i := 170) rfl)) rfl))⟩
set_option maxRecDepth 100000 in
theorem lk_X9_65 : jw_lk RX9 65 yX7_addRow := Or.inr ⟨"Lineorders", ((jw_tn (jw_c6 _ (List.mem_of_getElem? (i := 148) rfl)) rfl))⟩
set_option maxRecDepth 100000 in
theorem lk_X10_340 : jw_lk RX10 340 yX7_addRow := Or.inr ⟨"Lineorders", ((jw_tn (jw_c6 _ (List.mem_of_getElem? (i := 23) rfl)) rfl))⟩
set_option maxRecDepth 100000 in
theorem mt_X7_close : jw_mt yX7_close cX7_close 4 none 2 := ⟨((jw_tt (jw_c5 _ (List.mem_of_getElem? (i := 145) rfl)) rfl)), ((jw_tt (jw_c1 _ (List.mem_of_getElem? (i := 6) rfl)) rfl)), ⟨by decide, by decide, by decide +kernel⟩, by decide⟩
set_option maxRecDepth 100000 in
theorem in_X7_close : Cond.instanceMethod yX7_close ∈ jw_T := (jw_tt (jw_c5 _ (List.mem_of_getElem? (i := 144) rfl)) rfl)
set_option maxRecDepth 100000 in
theorem se_X7_close : Cond.selects yX7_close.cls yX7_close yX7_close ∈ jw_T := (jw_Tin (jw_p5 _ (List.mem_of_getElem? (i := 14) rfl)) rfl)
set_option maxRecDepth 100000 in
theorem lk_X9_61 : jw_lk RX9 61 yX7_close := Or.inr ⟨"Lineorders", ((jw_tn (jw_c5 _ (List.mem_of_getElem? (i := 142) rfl)) rfl))⟩
set_option maxRecDepth 100000 in
theorem mt_X7_compareFrom : jw_mt yX7_compareFrom cX7_compareFrom 7 (some .int) 3 := ⟨((jw_tt (jw_c5 _ (List.mem_of_getElem? (i := 227) rfl)) rfl)), ((jw_tt (jw_c1 _ (List.mem_of_getElem? (i := 6) rfl)) rfl)), ⟨by decide, by decide, by decide +kernel⟩, by decide⟩
set_option maxRecDepth 100000 in
theorem in_X7_compareFrom : Cond.instanceMethod yX7_compareFrom ∈ jw_T := (jw_tt (jw_c5 _ (List.mem_of_getElem? (i := 226) rfl)) rfl)
set_option maxRecDepth 100000 in
theorem se_X7_compareFrom : Cond.selects yX7_compareFrom.cls yX7_compareFrom yX7_compareFrom ∈ jw_T := (jw_Tin (jw_p6 _ (List.mem_of_getElem? (i := 15) rfl)) rfl)
set_option maxRecDepth 100000 in
theorem lk_X10_317 : jw_lk RX10 317 yX7_compareFrom := Or.inr ⟨"Lineorders", ((jw_tn (jw_c5 _ (List.mem_of_getElem? (i := 224) rfl)) rfl))⟩
set_option maxRecDepth 100000 in
theorem mt_X7_copy : jw_mt yX7_copy cX7_copy 3 none 1 := ⟨((jw_tt (jw_c3 _ (List.mem_of_getElem? (i := 178) rfl)) rfl)), ((jw_tt (jw_c1 _ (List.mem_of_getElem? (i := 6) rfl)) rfl)), ⟨by decide, by decide, by decide +kernel⟩, by decide⟩
set_option maxRecDepth 100000 in
theorem in_X7_copy : Cond.instanceMethod yX7_copy ∈ jw_T := (jw_tt (jw_c3 _ (List.mem_of_getElem? (i := 177) rfl)) rfl)
set_option maxRecDepth 100000 in
theorem se_X7_copy : Cond.selects yX7_copy.cls yX7_copy yX7_copy ∈ jw_T := (jw_Tin (jw_p1 _ (List.mem_of_getElem? (i := 5) rfl)) rfl)
set_option maxRecDepth 100000 in
theorem lk_X1_296 : jw_lk RX1 296 yX7_copy := Or.inr ⟨"Lineorders", ((jw_tn (jw_c6 _ (List.mem_of_getElem? (i := 174) rfl)) rfl))⟩
set_option maxRecDepth 100000 in
theorem lk_X8_31 : jw_lk RX8 31 yX7_copy := Or.inr ⟨"Lineorders", ((jw_tn (jw_c5 _ (List.mem_of_getElem? (i := 71) rfl)) rfl))⟩
set_option maxRecDepth 100000 in
theorem lk_X9_27 : jw_lk RX9 27 yX7_copy := Or.inr ⟨"Lineorders", ((jw_tn (jw_c3 _ (List.mem_of_getElem? (i := 175) rfl)) rfl))⟩
set_option maxRecDepth 100000 in
theorem lk_X10_284 : jw_lk RX10 284 yX7_copy := Or.inr ⟨"Lineorders", ((jw_tn (jw_c5 _ (List.mem_of_getElem? (i := 163) rfl)) rfl))⟩
set_option maxRecDepth 100000 in
theorem mt_X7_cutTo : jw_mt yX7_cutTo cX7_cutTo 3 none 2 := ⟨((jw_tt (jw_c6 _ (List.mem_of_getElem? (i := 164) rfl)) rfl)), ((jw_tt (jw_c1 _ (List.mem_of_getElem? (i := 6) rfl)) rfl)), ⟨by decide, by decide, by decide +kernel⟩, by decide⟩
set_option maxRecDepth 100000 in
theorem in_X7_cutTo : Cond.instanceMethod yX7_cutTo ∈ jw_T := (jw_tt (jw_c6 _ (List.mem_of_getElem? (i := 163) rfl)) rfl)
set_option maxRecDepth 100000 in
theorem se_X7_cutTo : Cond.selects yX7_cutTo.cls yX7_cutTo yX7_cutTo ∈ jw_T := (jw_Tin (jw_p8 _ (List.mem_of_getElem? (i := 13) rfl)) rfl)
set_option maxRecDepth 100000 in
theorem lk_X1_289 : jw_lk RX1 289 yX7_cutTo := Or.inr ⟨"Lineorders", ((jw_tn (jw_c6 _ (List.mem_of_getElem? (i := 161) rfl)) rfl))⟩
set_option maxRecDepth 100000 in
theorem mt_X7_extend : jw_mt yX7_extend cX7_extend 6 (some .boolean) 3 := ⟨((jw_tt (jw_c5 _ (List.mem_of_getElem? (i := 182) rfl)) rfl)), ((jw_tt (jw_c1 _ (List.mem_of_getElem? (i := 6) rfl)) rfl)), ⟨by decide, by decide, by decide +kernel⟩, by decide⟩
set_option maxRecDepth 100000 in
theorem in_X7_extend : Cond.instanceMethod yX7_extend ∈ jw_T := (jw_tt (jw_c5 _ (List.mem_of_getElem? (i := 181) rfl)) rfl)
set_option maxRecDepth 100000 in
theorem se_X7_extend : Cond.selects yX7_extend.cls yX7_extend yX7_extend ∈ jw_T := (jw_Tin (jw_p6 _ (List.mem_of_getElem? (i := 5) rfl)) rfl)
set_option maxRecDepth 100000 in
theorem lk_X1_292 : jw_lk RX1 292 yX7_extend := Or.inr ⟨"Lineorders", ((jw_tn (jw_c6 _ (List.mem_of_getElem? (i := 169) rfl)) rfl))⟩
set_option maxRecDepth 100000 in
theorem lk_X10_293 : jw_lk RX10 293 yX7_extend := Or.inr ⟨"Lineorders", ((jw_tn (jw_c5 _ (List.mem_of_getElem? (i := 179) rfl)) rfl))⟩
set_option maxRecDepth 100000 in
theorem mt_X7_has : jw_mt yX7_has cX7_has 2 (some .boolean) 1 := ⟨((jw_tt (jw_c4 _ (List.mem_of_getElem? (i := 33) rfl)) rfl)), ((jw_tt (jw_c1 _ (List.mem_of_getElem? (i := 6) rfl)) rfl)), ⟨by decide, by decide, by decide +kernel⟩, by decide⟩
set_option maxRecDepth 100000 in
theorem in_X7_has : Cond.instanceMethod yX7_has ∈ jw_T := (jw_tt (jw_c4 _ (List.mem_of_getElem? (i := 32) rfl)) rfl)
set_option maxRecDepth 100000 in
theorem se_X7_has : Cond.selects yX7_has.cls yX7_has yX7_has ∈ jw_T := (jw_Tin (jw_p2 _ (List.mem_of_getElem? (i := 4) rfl)) rfl)
set_option maxRecDepth 100000 in
theorem lk_X7_38 : jw_lk RX7 38 yX7_has := Or.inl ((jw_tt (jw_c5 _ (List.mem_of_getElem? (i := 151) rfl)) rfl))
set_option maxRecDepth 100000 in
theorem lk_X11_169 : jw_lk RX11 169 yX7_has := Or.inr ⟨"Lineorders", ((jw_tn (jw_c4 _ (List.mem_of_getElem? (i := 30) rfl)) rfl))⟩
set_option maxRecDepth 100000 in
theorem mt_X7_lengthOf : jw_mt yX7_lengthOf cX7_lengthOf 2 (some .int) 1 := ⟨((jw_tt (jw_c3 _ (List.mem_of_getElem? (i := 222) rfl)) rfl)), ((jw_tt (jw_c1 _ (List.mem_of_getElem? (i := 6) rfl)) rfl)), ⟨by decide, by decide, by decide +kernel⟩, by decide⟩
set_option maxRecDepth 100000 in
theorem in_X7_lengthOf : Cond.instanceMethod yX7_lengthOf ∈ jw_T := (jw_tt (jw_c3 _ (List.mem_of_getElem? (i := 221) rfl)) rfl)
set_option maxRecDepth 100000 in
theorem se_X7_lengthOf : Cond.selects yX7_lengthOf.cls yX7_lengthOf yX7_lengthOf ∈ jw_T := (jw_Tin (jw_p1 _ (List.mem_of_getElem? (i := 13) rfl)) rfl)
set_option maxRecDepth 100000 in
theorem lk_X1_278 : jw_lk RX1 278 yX7_lengthOf := Or.inr ⟨"Lineorders", ((jw_tn (jw_c6 _ (List.mem_of_getElem? (i := 158) rfl)) rfl))⟩
set_option maxRecDepth 100000 in
theorem lk_X4_34 : jw_lk RX4 34 yX7_lengthOf := Or.inr ⟨"Lineorders", ((jw_tn (jw_c5 _ (List.mem_of_getElem? (i := 27) rfl)) rfl))⟩
set_option maxRecDepth 100000 in
theorem lk_X7_42 : jw_lk RX7 42 yX7_lengthOf := Or.inl ((jw_tt (jw_c5 _ (List.mem_of_getElem? (i := 152) rfl)) rfl))
set_option maxRecDepth 100000 in
theorem lk_X8_47 : jw_lk RX8 47 yX7_lengthOf := Or.inr ⟨"Lineorders", ((jw_tn (jw_c6 _ (List.mem_of_getElem? (i := 3) rfl)) rfl))⟩
set_option maxRecDepth 100000 in
theorem lk_X9_88 : jw_lk RX9 88 yX7_lengthOf := Or.inr ⟨"Lineorders", ((jw_tn (jw_c3 _ (List.mem_of_getElem? (i := 219) rfl)) rfl))⟩
set_option maxRecDepth 100000 in
theorem lk_X10_297 : jw_lk RX10 297 yX7_lengthOf := Or.inr ⟨"Lineorders", ((jw_tn (jw_c5 _ (List.mem_of_getElem? (i := 187) rfl)) rfl))⟩
set_option maxRecDepth 100000 in
theorem lk_X11_174 : jw_lk RX11 174 yX7_lengthOf := Or.inr ⟨"Lineorders", ((jw_tn (jw_c4 _ (List.mem_of_getElem? (i := 50) rfl)) rfl))⟩
set_option maxRecDepth 100000 in
theorem mt_X7_moveRest : jw_mt yX7_moveRest cX7_moveRest 3 none 2 := ⟨((jw_tt (jw_c5 _ (List.mem_of_getElem? (i := 191) rfl)) rfl)), ((jw_tt (jw_c1 _ (List.mem_of_getElem? (i := 6) rfl)) rfl)), ⟨by decide, by decide, by decide +kernel⟩, by decide⟩
set_option maxRecDepth 100000 in
theorem in_X7_moveRest : Cond.instanceMethod yX7_moveRest ∈ jw_T := (jw_tt (jw_c5 _ (List.mem_of_getElem? (i := 190) rfl)) rfl)
set_option maxRecDepth 100000 in
theorem se_X7_moveRest : Cond.selects yX7_moveRest.cls yX7_moveRest yX7_moveRest ∈ jw_T := (jw_Tin (jw_p6 _ (List.mem_of_getElem? (i := 7) rfl)) rfl)
set_option maxRecDepth 100000 in
theorem lk_X1_285 : jw_lk RX1 285 yX7_moveRest := Or.inr ⟨"Lineorders", ((jw_tn (jw_c6 _ (List.mem_of_getElem? (i := 160) rfl)) rfl))⟩
set_option maxRecDepth 100000 in
theorem lk_X10_300 : jw_lk RX10 300 yX7_moveRest := Or.inr ⟨"Lineorders", ((jw_tn (jw_c5 _ (List.mem_of_getElem? (i := 188) rfl)) rfl))⟩
set_option maxRecDepth 100000 in
theorem mt_X7_open : jw_mt yX7_open cX7_open 5 (some .boolean) 2 := ⟨((jw_tt (jw_c3 _ (List.mem_of_getElem? (i := 202) rfl)) rfl)), ((jw_tt (jw_c1 _ (List.mem_of_getElem? (i := 6) rfl)) rfl)), ⟨by decide, by decide, by decide +kernel⟩, by decide⟩
set_option maxRecDepth 100000 in
theorem in_X7_open : Cond.instanceMethod yX7_open ∈ jw_T := (jw_tt (jw_c3 _ (List.mem_of_getElem? (i := 201) rfl)) rfl)
set_option maxRecDepth 100000 in
theorem se_X7_open : Cond.selects yX7_open.cls yX7_open yX7_open ∈ jw_T := (jw_Tin (jw_p1 _ (List.mem_of_getElem? (i := 9) rfl)) rfl)
set_option maxRecDepth 100000 in
theorem lk_X1_281 : jw_lk RX1 281 yX7_open := Or.inr ⟨"Lineorders", ((jw_tn (jw_c6 _ (List.mem_of_getElem? (i := 159) rfl)) rfl))⟩
set_option maxRecDepth 100000 in
theorem lk_X9_51 : jw_lk RX9 51 yX7_open := Or.inr ⟨"Lineorders", ((jw_tn (jw_c3 _ (List.mem_of_getElem? (i := 199) rfl)) rfl))⟩
set_option maxRecDepth 100000 in
theorem mt_X7_same : jw_mt yX7_same cX7_same 6 (some .boolean) 3 := ⟨((jw_tt (jw_c5 _ (List.mem_of_getElem? (i := 199) rfl)) rfl)), ((jw_tt (jw_c1 _ (List.mem_of_getElem? (i := 6) rfl)) rfl)), ⟨by decide, by decide, by decide +kernel⟩, by decide⟩
set_option maxRecDepth 100000 in
theorem in_X7_same : Cond.instanceMethod yX7_same ∈ jw_T := (jw_tt (jw_c5 _ (List.mem_of_getElem? (i := 198) rfl)) rfl)
set_option maxRecDepth 100000 in
theorem se_X7_same : Cond.selects yX7_same.cls yX7_same yX7_same ∈ jw_T := (jw_Tin (jw_p6 _ (List.mem_of_getElem? (i := 9) rfl)) rfl)
set_option maxRecDepth 100000 in
theorem lk_X10_303 : jw_lk RX10 303 yX7_same := Or.inr ⟨"Lineorders", ((jw_tn (jw_c5 _ (List.mem_of_getElem? (i := 196) rfl)) rfl))⟩
set_option maxRecDepth 100000 in
theorem mt_X7_shrink : jw_mt yX7_shrink cX7_shrink 2 none 1 := ⟨((jw_tt (jw_c5 _ (List.mem_of_getElem? (i := 124) rfl)) rfl)), ((jw_tt (jw_c1 _ (List.mem_of_getElem? (i := 6) rfl)) rfl)), ⟨by decide, by decide, by decide +kernel⟩, by decide⟩
set_option maxRecDepth 100000 in
theorem in_X7_shrink : Cond.instanceMethod yX7_shrink ∈ jw_T := (jw_tt (jw_c5 _ (List.mem_of_getElem? (i := 123) rfl)) rfl)
set_option maxRecDepth 100000 in
theorem se_X7_shrink : Cond.selects yX7_shrink.cls yX7_shrink yX7_shrink ∈ jw_T := (jw_Tin (jw_p5 _ (List.mem_of_getElem? (i := 9) rfl)) rfl)
set_option maxRecDepth 100000 in
theorem lk_X1_112 : jw_lk RX1 112 yX7_shrink := Or.inr ⟨"Lineorders", ((jw_tn (jw_c6 _ (List.mem_of_getElem? (i := 84) rfl)) rfl))⟩
set_option maxRecDepth 100000 in
theorem lk_X6_191 : jw_lk RX6 191 yX7_shrink := Or.inr ⟨"Lineorders", ((jw_tn (jw_c5 _ (List.mem_of_getElem? (i := 121) rfl)) rfl))⟩
set_option maxRecDepth 100000 in
theorem lk_X8_59 : jw_lk RX8 59 yX7_shrink := Or.inr ⟨"Lineorders", ((jw_tn (jw_c5 _ (List.mem_of_getElem? (i := 169) rfl)) rfl))⟩
set_option maxRecDepth 100000 in
theorem lk_X10_337 : jw_lk RX10 337 yX7_shrink := Or.inr ⟨"Lineorders", ((jw_tn (jw_c6 _ (List.mem_of_getElem? (i := 22) rfl)) rfl))⟩
set_option maxRecDepth 100000 in
theorem mt_X7_signAt : jw_mt yX7_signAt cX7_signAt 3 (some .int) 2 := ⟨((jw_tt (jw_c4 _ (List.mem_of_getElem? (i := 58) rfl)) rfl)), ((jw_tt (jw_c1 _ (List.mem_of_getElem? (i := 6) rfl)) rfl)), ⟨by decide, by decide, by decide +kernel⟩, by decide⟩
set_option maxRecDepth 100000 in
theorem in_X7_signAt : Cond.instanceMethod yX7_signAt ∈ jw_T := (jw_tt (jw_c4 _ (List.mem_of_getElem? (i := 57) rfl)) rfl)
set_option maxRecDepth 100000 in
theorem se_X7_signAt : Cond.selects yX7_signAt.cls yX7_signAt yX7_signAt ∈ jw_T := (jw_Tin (jw_p2 _ (List.mem_of_getElem? (i := 5) rfl)) rfl)
set_option maxRecDepth 100000 in
theorem lk_X4_46 : jw_lk RX4 46 yX7_signAt := Or.inr ⟨"Lineorders", ((jw_tn (jw_c5 _ (List.mem_of_getElem? (i := 29) rfl)) rfl))⟩
set_option maxRecDepth 100000 in
theorem lk_X7_54 : jw_lk RX7 54 yX7_signAt := Or.inl ((jw_tt (jw_c5 _ (List.mem_of_getElem? (i := 200) rfl)) rfl))
set_option maxRecDepth 100000 in
theorem lk_X8_51 : jw_lk RX8 51 yX7_signAt := Or.inr ⟨"Lineorders", ((jw_tn (jw_c6 _ (List.mem_of_getElem? (i := 4) rfl)) rfl))⟩
set_option maxRecDepth 100000 in
theorem lk_X11_177 : jw_lk RX11 177 yX7_signAt := Or.inr ⟨"Lineorders", ((jw_tn (jw_c4 _ (List.mem_of_getElem? (i := 55) rfl)) rfl))⟩
set_option maxRecDepth 100000 in
theorem mt_X7_take : jw_mt yX7_take cX7_take 4 none 3 := ⟨((jw_tt (jw_c5 _ (List.mem_of_getElem? (i := 150) rfl)) rfl)), ((jw_tt (jw_c1 _ (List.mem_of_getElem? (i := 6) rfl)) rfl)), ⟨by decide, by decide, by decide +kernel⟩, by decide⟩
set_option maxRecDepth 100000 in
theorem in_X7_take : Cond.instanceMethod yX7_take ∈ jw_T := (jw_tt (jw_c5 _ (List.mem_of_getElem? (i := 149) rfl)) rfl)
set_option maxRecDepth 100000 in
theorem se_X7_take : Cond.selects yX7_take.cls yX7_take yX7_take ∈ jw_T := (jw_Tin (jw_p5 _ (List.mem_of_getElem? (i := 15) rfl)) rfl)
set_option maxRecDepth 100000 in
theorem lk_X1_298 : jw_lk RX1 298 yX7_take := Or.inr ⟨"Lineorders", ((jw_tn (jw_c6 _ (List.mem_of_getElem? (i := 175) rfl)) rfl))⟩
set_option maxRecDepth 100000 in
theorem lk_X9_72 : jw_lk RX9 72 yX7_take := Or.inr ⟨"Lineorders", ((jw_tn (jw_c5 _ (List.mem_of_getElem? (i := 215) rfl)) rfl))⟩
set_option maxRecDepth 100000 in
theorem lk_X10_280 : jw_lk RX10 280 yX7_take := Or.inr ⟨"Lineorders", ((jw_tn (jw_c5 _ (List.mem_of_getElem? (i := 147) rfl)) rfl))⟩
set_option maxRecDepth 100000 in
theorem mt_X7_write : jw_mt yX7_write cX7_write 5 none 4 := ⟨((jw_tt (jw_c3 _ (List.mem_of_getElem? (i := 206) rfl)) rfl)), ((jw_tt (jw_c1 _ (List.mem_of_getElem? (i := 6) rfl)) rfl)), ⟨by decide, by decide, by decide +kernel⟩, by decide⟩
set_option maxRecDepth 100000 in
theorem in_X7_write : Cond.instanceMethod yX7_write ∈ jw_T := (jw_tt (jw_c3 _ (List.mem_of_getElem? (i := 205) rfl)) rfl)
set_option maxRecDepth 100000 in
theorem se_X7_write : Cond.selects yX7_write.cls yX7_write yX7_write ∈ jw_T := (jw_Tin (jw_p1 _ (List.mem_of_getElem? (i := 10) rfl)) rfl)
set_option maxRecDepth 100000 in
theorem lk_X2_59 : jw_lk RX2 59 yX7_write := Or.inr ⟨"Lineorders", ((jw_tn (jw_c5 _ (List.mem_of_getElem? (i := 116) rfl)) rfl))⟩
set_option maxRecDepth 100000 in
theorem lk_X7_50 : jw_lk RX7 50 yX7_write := Or.inl ((jw_tt (jw_c5 _ (List.mem_of_getElem? (i := 153) rfl)) rfl))
set_option maxRecDepth 100000 in
theorem lk_X9_83 : jw_lk RX9 83 yX7_write := Or.inr ⟨"Lineorders", ((jw_tn (jw_c3 _ (List.mem_of_getElem? (i := 203) rfl)) rfl))⟩
set_option maxRecDepth 100000 in
theorem mt_X8_init : jw_mt yX8_init cX8_init 2 none 0 := ⟨((jw_tt (jw_c2 _ (List.mem_of_getElem? (i := 11) rfl)) rfl)), ((jw_tt (jw_c1 _ (List.mem_of_getElem? (i := 8) rfl)) rfl)), ⟨by decide, by decide, by decide +kernel⟩, by decide⟩
set_option maxRecDepth 100000 in
theorem in_X8_init : Cond.instanceMethod yX8_init ∈ jw_T := (jw_tt (jw_c2 _ (List.mem_of_getElem? (i := 10) rfl)) rfl)
set_option maxRecDepth 100000 in
theorem lk_X11_44 : jw_lk RX11 44 yX8_init := Or.inr ⟨"Lineorders", ((jw_tn (jw_c2 _ (List.mem_of_getElem? (i := 9) rfl)) rfl))⟩
set_option maxRecDepth 100000 in
theorem mt_X8_copy : jw_mt yX8_copy cX8_copy 5 none 1 := ⟨((jw_tt (jw_c5 _ (List.mem_of_getElem? (i := 70) rfl)) rfl)), ((jw_tt (jw_c1 _ (List.mem_of_getElem? (i := 8) rfl)) rfl)), ⟨by decide, by decide, by decide +kernel⟩, by decide⟩
set_option maxRecDepth 100000 in
theorem in_X8_copy : Cond.instanceMethod yX8_copy ∈ jw_T := (jw_tt (jw_c5 _ (List.mem_of_getElem? (i := 69) rfl)) rfl)
set_option maxRecDepth 100000 in
theorem se_X8_copy : Cond.selects yX8_copy.cls yX8_copy yX8_copy ∈ jw_T := (jw_Tin (jw_p4 _ (List.mem_of_getElem? (i := 13) rfl)) rfl)
set_option maxRecDepth 100000 in
theorem lk_X1_90 : jw_lk RX1 90 yX8_copy := Or.inr ⟨"Lineorders", ((jw_tn (jw_c6 _ (List.mem_of_getElem? (i := 82) rfl)) rfl))⟩
set_option maxRecDepth 100000 in
theorem lk_X10_198 : jw_lk RX10 198 yX8_copy := Or.inr ⟨"Lineorders", ((jw_tn (jw_c5 _ (List.mem_of_getElem? (i := 67) rfl)) rfl))⟩
set_option maxRecDepth 100000 in
theorem mt_X8_file : jw_mt yX8_file cX8_file 2 (some (.object "Lineorders$Rows")) 1 := ⟨((jw_tt (jw_c4 _ (List.mem_of_getElem? (i := 6) rfl)) rfl)), ((jw_tt (jw_c1 _ (List.mem_of_getElem? (i := 8) rfl)) rfl)), ⟨by decide, by decide, by decide +kernel⟩, by decide⟩
set_option maxRecDepth 100000 in
theorem in_X8_file : Cond.instanceMethod yX8_file ∈ jw_T := (jw_tt (jw_c4 _ (List.mem_of_getElem? (i := 5) rfl)) rfl)
set_option maxRecDepth 100000 in
theorem se_X8_file : Cond.selects yX8_file.cls yX8_file yX8_file ∈ jw_T := (jw_Tin (jw_p2 _ (List.mem_of_getElem? (i := 3) rfl)) rfl)
set_option maxRecDepth 100000 in
theorem lk_X1_133 : jw_lk RX1 133 yX8_file := Or.inr ⟨"Lineorders", ((jw_tn (jw_c6 _ (List.mem_of_getElem? (i := 86) rfl)) rfl))⟩
set_option maxRecDepth 100000 in
theorem lk_X8_35 : jw_lk RX8 35 yX8_file := Or.inl ((jw_tt (jw_c4 _ (List.mem_of_getElem? (i := 3) rfl)) rfl))
set_option maxRecDepth 100000 in
theorem lk_X10_235 : jw_lk RX10 235 yX8_file := Or.inr ⟨"Lineorders", ((jw_tn (jw_c5 _ (List.mem_of_getElem? (i := 154) rfl)) rfl))⟩
set_option maxRecDepth 100000 in
theorem mt_X8_hold : jw_mt yX8_hold cX8_hold 5 none 3 := ⟨((jw_tt (jw_c5 _ (List.mem_of_getElem? (i := 168) rfl)) rfl)), ((jw_tt (jw_c1 _ (List.mem_of_getElem? (i := 8) rfl)) rfl)), ⟨by decide, by decide, by decide +kernel⟩, by decide⟩
set_option maxRecDepth 100000 in
theorem in_X8_hold : Cond.instanceMethod yX8_hold ∈ jw_T := (jw_tt (jw_c5 _ (List.mem_of_getElem? (i := 167) rfl)) rfl)
set_option maxRecDepth 100000 in
theorem se_X8_hold : Cond.selects yX8_hold.cls yX8_hold yX8_hold ∈ jw_T := (jw_Tin (jw_p6 _ (List.mem_of_getElem? (i := 2) rfl)) rfl)
set_option maxRecDepth 100000 in
theorem lk_X1_309 : jw_lk RX1 309 yX8_hold := Or.inr ⟨"Lineorders", ((jw_tn (jw_c6 _ (List.mem_of_getElem? (i := 182) rfl)) rfl))⟩
set_option maxRecDepth 100000 in
theorem lk_X10_289 : jw_lk RX10 289 yX8_hold := Or.inr ⟨"Lineorders", ((jw_tn (jw_c5 _ (List.mem_of_getElem? (i := 165) rfl)) rfl))⟩
set_option maxRecDepth 100000 in
theorem mt_X8_holdMore : jw_mt yX8_holdMore cX8_holdMore 5 (some .int) 3 := ⟨((jw_tt (jw_c6 _ (List.mem_of_getElem? (i := 13) rfl)) rfl)), ((jw_tt (jw_c1 _ (List.mem_of_getElem? (i := 8) rfl)) rfl)), ⟨by decide, by decide, by decide +kernel⟩, by decide⟩
set_option maxRecDepth 100000 in
theorem in_X8_holdMore : Cond.instanceMethod yX8_holdMore ∈ jw_T := (jw_tt (jw_c6 _ (List.mem_of_getElem? (i := 12) rfl)) rfl)
set_option maxRecDepth 100000 in
theorem se_X8_holdMore : Cond.selects yX8_holdMore.cls yX8_holdMore yX8_holdMore ∈ jw_T := (jw_Tin (jw_p7 _ (List.mem_of_getElem? (i := 4) rfl)) rfl)
set_option maxRecDepth 100000 in
theorem lk_X1_313 : jw_lk RX1 313 yX8_holdMore := Or.inr ⟨"Lineorders", ((jw_tn (jw_c6 _ (List.mem_of_getElem? (i := 183) rfl)) rfl))⟩
set_option maxRecDepth 100000 in
theorem lk_X10_327 : jw_lk RX10 327 yX8_holdMore := Or.inr ⟨"Lineorders", ((jw_tn (jw_c6 _ (List.mem_of_getElem? (i := 10) rfl)) rfl))⟩
set_option maxRecDepth 100000 in
theorem mt_X8_isWell : jw_mt yX8_isWell cX8_isWell 3 (some .boolean) 0 := ⟨((jw_tt (jw_c4 _ (List.mem_of_getElem? (i := 2) rfl)) rfl)), ((jw_tt (jw_c1 _ (List.mem_of_getElem? (i := 8) rfl)) rfl)), ⟨by decide, by decide, by decide +kernel⟩, by decide⟩
set_option maxRecDepth 100000 in
theorem in_X8_isWell : Cond.instanceMethod yX8_isWell ∈ jw_T := (jw_tt (jw_c4 _ (List.mem_of_getElem? (i := 1) rfl)) rfl)
set_option maxRecDepth 100000 in
theorem se_X8_isWell : Cond.selects yX8_isWell.cls yX8_isWell yX8_isWell ∈ jw_T := (jw_Tin (jw_p2 _ (List.mem_of_getElem? (i := 2) rfl)) rfl)
set_option maxRecDepth 100000 in
theorem lk_X11_255 : jw_lk RX11 255 yX8_isWell := Or.inr ⟨"Lineorders", ((jw_tn (jw_c3 _ (List.mem_of_getElem? (i := 239) rfl)) rfl))⟩
set_option maxRecDepth 100000 in
theorem mt_X8_print : jw_mt yX8_print cX8_print 10 (some .int) 4 := ⟨((jw_tt (jw_c5 _ (List.mem_of_getElem? (i := 238) rfl)) rfl)), ((jw_tt (jw_c1 _ (List.mem_of_getElem? (i := 8) rfl)) rfl)), ⟨by decide, by decide, by decide +kernel⟩, by decide⟩
set_option maxRecDepth 100000 in
theorem in_X8_print : Cond.instanceMethod yX8_print ∈ jw_T := (jw_tt (jw_c5 _ (List.mem_of_getElem? (i := 237) rfl)) rfl)
set_option maxRecDepth 100000 in
theorem se_X8_print : Cond.selects yX8_print.cls yX8_print yX8_print ∈ jw_T := (jw_Tin (jw_p7 _ (List.mem_of_getElem? (i := 1) rfl)) rfl)
set_option maxRecDepth 100000 in
theorem lk_X1_302 : jw_lk RX1 302 yX8_print := Or.inr ⟨"Lineorders", ((jw_tn (jw_c6 _ (List.mem_of_getElem? (i := 180) rfl)) rfl))⟩
set_option maxRecDepth 100000 in
theorem lk_X10_320 : jw_lk RX10 320 yX8_print := Or.inr ⟨"Lineorders", ((jw_tn (jw_c5 _ (List.mem_of_getElem? (i := 235) rfl)) rfl))⟩
set_option maxRecDepth 100000 in
theorem mt_X8_printNumber : jw_mt yX8_printNumber cX8_printNumber 2 (some .int) 1 := ⟨((jw_tt (jw_c6 _ (List.mem_of_getElem? (i := 9) rfl)) rfl)), ((jw_tt (jw_c1 _ (List.mem_of_getElem? (i := 8) rfl)) rfl)), ⟨by decide, by decide, by decide +kernel⟩, by decide⟩
set_option maxRecDepth 100000 in
theorem in_X8_printNumber : Cond.instanceMethod yX8_printNumber ∈ jw_T := (jw_tt (jw_c6 _ (List.mem_of_getElem? (i := 8) rfl)) rfl)
set_option maxRecDepth 100000 in
theorem se_X8_printNumber : Cond.selects yX8_printNumber.cls yX8_printNumber yX8_printNumber ∈ jw_T := (jw_Tin (jw_p7 _ (List.mem_of_getElem? (i := 3) rfl)) rfl)
set_option maxRecDepth 100000 in
theorem lk_X1_306 : jw_lk RX1 306 yX8_printNumber := Or.inr ⟨"Lineorders", ((jw_tn (jw_c6 _ (List.mem_of_getElem? (i := 181) rfl)) rfl))⟩
set_option maxRecDepth 100000 in
theorem lk_X10_324 : jw_lk RX10 324 yX8_printNumber := Or.inr ⟨"Lineorders", ((jw_tn (jw_c6 _ (List.mem_of_getElem? (i := 6) rfl)) rfl))⟩
set_option maxRecDepth 100000 in
theorem mt_X8_writeNumber : jw_mt yX8_writeNumber cX8_writeNumber 4 (some .int) 2 := ⟨((jw_tt (jw_c6 _ (List.mem_of_getElem? (i := 2) rfl)) rfl)), ((jw_tt (jw_c1 _ (List.mem_of_getElem? (i := 8) rfl)) rfl)), ⟨by decide, by decide, by decide +kernel⟩, by decide⟩
set_option maxRecDepth 100000 in
theorem in_X8_writeNumber : Cond.instanceMethod yX8_writeNumber ∈ jw_T := (jw_tt (jw_c6 _ (List.mem_of_getElem? (i := 1) rfl)) rfl)
set_option maxRecDepth 100000 in
theorem se_X8_writeNumber : Cond.selects yX8_writeNumber.cls yX8_writeNumber yX8_writeNumber ∈ jw_T := (jw_Tin (jw_p7 _ (List.mem_of_getElem? (i := 2) rfl)) rfl)
set_option maxRecDepth 100000 in
theorem lk_X8_43 : jw_lk RX8 43 yX8_writeNumber := Or.inl ((jw_tt (jw_c5 _ (List.mem_of_getElem? (i := 239) rfl)) rfl))
set_option maxRecDepth 100000 in
theorem mt_X9_init : jw_mt yX9_init cX9_init 2 none 0 := ⟨((jw_tt (jw_c1 _ (List.mem_of_getElem? (i := 194) rfl)) rfl)), ((jw_tt (jw_c1 _ (List.mem_of_getElem? (i := 5) rfl)) rfl)), ⟨by decide, by decide, by decide +kernel⟩, by decide⟩
set_option maxRecDepth 100000 in
theorem in_X9_init : Cond.instanceMethod yX9_init ∈ jw_T := (jw_tt (jw_c1 _ (List.mem_of_getElem? (i := 193) rfl)) rfl)
set_option maxRecDepth 100000 in
theorem lk_X1_36 : jw_lk RX1 36 yX9_init := Or.inr ⟨"Lineorders", ((jw_tn (jw_c2 _ (List.mem_of_getElem? (i := 193) rfl)) rfl))⟩
set_option maxRecDepth 100000 in
theorem lk_X3_21 : jw_lk RX3 21 yX9_init := Or.inr ⟨"Lineorders", ((jw_tn (jw_c2 _ (List.mem_of_getElem? (i := 39) rfl)) rfl))⟩
set_option maxRecDepth 100000 in
theorem lk_X10_49 : jw_lk RX10 49 yX9_init := Or.inr ⟨"Lineorders", ((jw_tn (jw_c2 _ (List.mem_of_getElem? (i := 132) rfl)) rfl))⟩
set_option maxRecDepth 100000 in
theorem lk_X11_37 : jw_lk RX11 37 yX9_init := Or.inr ⟨"Lineorders", ((jw_tn (jw_c1 _ (List.mem_of_getElem? (i := 192) rfl)) rfl))⟩
set_option maxRecDepth 100000 in
theorem mt_X9_addSample : jw_mt yX9_addSample cX9_addSample 9 none 2 := ⟨((jw_tt (jw_c3 _ (List.mem_of_getElem? (i := 189) rfl)) rfl)), ((jw_tt (jw_c1 _ (List.mem_of_getElem? (i := 5) rfl)) rfl)), ⟨by decide, by decide, by decide +kernel⟩, by decide⟩
set_option maxRecDepth 100000 in
theorem in_X9_addSample : Cond.instanceMethod yX9_addSample ∈ jw_T := (jw_tt (jw_c3 _ (List.mem_of_getElem? (i := 188) rfl)) rfl)
set_option maxRecDepth 100000 in
theorem se_X9_addSample : Cond.selects yX9_addSample.cls yX9_addSample yX9_addSample ∈ jw_T := (jw_Tin (jw_p1 _ (List.mem_of_getElem? (i := 6) rfl)) rfl)
set_option maxRecDepth 100000 in
theorem lk_X11_202 : jw_lk RX11 202 yX9_addSample := Or.inr ⟨"Lineorders", ((jw_tn (jw_c3 _ (List.mem_of_getElem? (i := 186) rfl)) rfl))⟩
set_option maxRecDepth 100000 in
theorem mt_X9_append : jw_mt yX9_append cX9_append 4 (some .boolean) 3 := ⟨((jw_tt (jw_c6 _ (List.mem_of_getElem? (i := 147) rfl)) rfl)), ((jw_tt (jw_c1 _ (List.mem_of_getElem? (i := 5) rfl)) rfl)), ⟨by decide, by decide, by decide +kernel⟩, by decide⟩
set_option maxRecDepth 100000 in
theorem in_X9_append : Cond.instanceMethod yX9_append ∈ jw_T := (jw_tt (jw_c6 _ (List.mem_of_getElem? (i := 146) rfl)) rfl)
set_option maxRecDepth 100000 in
theorem se_X9_append : Cond.selects yX9_append.cls yX9_append yX9_append ∈ jw_T := (jw_Tin (jw_p8 _ (List.mem_of_getElem? (i := 10) rfl)) rfl)
set_option maxRecDepth 100000 in
theorem lk_X1_156 : jw_lk RX1 156 yX9_append := Or.inr ⟨"Lineorders", ((jw_tn (jw_c6 _ (List.mem_of_getElem? (i := 144) rfl)) rfl))⟩
set_option maxRecDepth 100000 in
theorem mt_X9_arrange : jw_mt yX9_arrange cX9_arrange 5 none 2 := ⟨((jw_tt (jw_c5 _ (List.mem_of_getElem? (i := 213) rfl)) rfl)), ((jw_tt (jw_c1 _ (List.mem_of_getElem? (i := 5) rfl)) rfl)), ⟨by decide, by decide, by decide +kernel⟩, by decide⟩
set_option maxRecDepth 100000 in
theorem in_X9_arrange : Cond.instanceMethod yX9_arrange ∈ jw_T := (jw_tt (jw_c5 _ (List.mem_of_getElem? (i := 212) rfl)) rfl)
set_option maxRecDepth 100000 in
theorem se_X9_arrange : Cond.selects yX9_arrange.cls yX9_arrange yX9_arrange ∈ jw_T := (jw_Tin (jw_p6 _ (List.mem_of_getElem? (i := 12) rfl)) rfl)
set_option maxRecDepth 100000 in
theorem lk_X10_313 : jw_lk RX10 313 yX9_arrange := Or.inr ⟨"Lineorders", ((jw_tn (jw_c5 _ (List.mem_of_getElem? (i := 210) rfl)) rfl))⟩
set_option maxRecDepth 100000 in
theorem mt_X9_copy : jw_mt yX9_copy cX9_copy 2 none 1 := ⟨((jw_tt (jw_c3 _ (List.mem_of_getElem? (i := 174) rfl)) rfl)), ((jw_tt (jw_c1 _ (List.mem_of_getElem? (i := 5) rfl)) rfl)), ⟨by decide, by decide, by decide +kernel⟩, by decide⟩
set_option maxRecDepth 100000 in
theorem in_X9_copy : Cond.instanceMethod yX9_copy ∈ jw_T := (jw_tt (jw_c3 _ (List.mem_of_getElem? (i := 173) rfl)) rfl)
set_option maxRecDepth 100000 in
theorem se_X9_copy : Cond.selects yX9_copy.cls yX9_copy yX9_copy ∈ jw_T := (jw_Tin (jw_p1 _ (List.mem_of_getElem? (i := 4) rfl)) rfl)
set_option maxRecDepth 100000 in
theorem lk_X1_103 : jw_lk RX1 103 yX9_copy := Or.inr ⟨"Lineorders", ((jw_tn (jw_c6 _ (List.mem_of_getElem? (i := 83) rfl)) rfl))⟩
set_option maxRecDepth 100000 in
theorem lk_X3_43 : jw_lk RX3 43 yX9_copy := Or.inr ⟨"Lineorders", ((jw_tn (jw_c3 _ (List.mem_of_getElem? (i := 171) rfl)) rfl))⟩
set_option maxRecDepth 100000 in
theorem lk_X9_69 : jw_lk RX9 69 yX9_copy := Or.inl ((jw_tt (jw_c5 _ (List.mem_of_getElem? (i := 214) rfl)) rfl))
set_option maxRecDepth 100000 in
theorem lk_X10_287 : jw_lk RX10 287 yX9_copy := Or.inr ⟨"Lineorders", ((jw_tn (jw_c5 _ (List.mem_of_getElem? (i := 164) rfl)) rfl))⟩
set_option maxRecDepth 100000 in
theorem mt_X9_cut : jw_mt yX9_cut cX9_cut 5 none 2 := ⟨((jw_tt (jw_c5 _ (List.mem_of_getElem? (i := 137) rfl)) rfl)), ((jw_tt (jw_c1 _ (List.mem_of_getElem? (i := 5) rfl)) rfl)), ⟨by decide, by decide, by decide +kernel⟩, by decide⟩
set_option maxRecDepth 100000 in
theorem in_X9_cut : Cond.instanceMethod yX9_cut ∈ jw_T := (jw_tt (jw_c5 _ (List.mem_of_getElem? (i := 136) rfl)) rfl)
set_option maxRecDepth 100000 in
theorem se_X9_cut : Cond.selects yX9_cut.cls yX9_cut yX9_cut ∈ jw_T := (jw_Tin (jw_p5 _ (List.mem_of_getElem? (i := 12) rfl)) rfl)
set_option maxRecDepth 100000 in
theorem lk_X10_247 : jw_lk RX10 247 yX9_cut := Or.inr ⟨"Lineorders", ((jw_tn (jw_c5 _ (List.mem_of_getElem? (i := 134) rfl)) rfl))⟩
set_option maxRecDepth 100000 in
theorem mt_X9_dropMarks : jw_mt yX9_dropMarks cX9_dropMarks 3 none 1 := ⟨((jw_tt (jw_c5 _ (List.mem_of_getElem? (i := 141) rfl)) rfl)), ((jw_tt (jw_c1 _ (List.mem_of_getElem? (i := 5) rfl)) rfl)), ⟨by decide, by decide, by decide +kernel⟩, by decide⟩
set_option maxRecDepth 100000 in
theorem in_X9_dropMarks : Cond.instanceMethod yX9_dropMarks ∈ jw_T := (jw_tt (jw_c5 _ (List.mem_of_getElem? (i := 140) rfl)) rfl)
set_option maxRecDepth 100000 in
theorem se_X9_dropMarks : Cond.selects yX9_dropMarks.cls yX9_dropMarks yX9_dropMarks ∈ jw_T := (jw_Tin (jw_p5 _ (List.mem_of_getElem? (i := 13) rfl)) rfl)
set_option maxRecDepth 100000 in
theorem lk_X1_275 : jw_lk RX1 275 yX9_dropMarks := Or.inr ⟨"Lineorders", ((jw_tn (jw_c6 _ (List.mem_of_getElem? (i := 153) rfl)) rfl))⟩
set_option maxRecDepth 100000 in
theorem lk_X9_58 : jw_lk RX9 58 yX9_dropMarks := Or.inl ((jw_tt (jw_c5 _ (List.mem_of_getElem? (i := 138) rfl)) rfl))
set_option maxRecDepth 100000 in
theorem mt_X9_idOf : jw_mt yX9_idOf cX9_idOf 2 (some .int) 1 := ⟨((jw_tt (jw_c3 _ (List.mem_of_getElem? (i := 226) rfl)) rfl)), ((jw_tt (jw_c1 _ (List.mem_of_getElem? (i := 5) rfl)) rfl)), ⟨by decide, by decide, by decide +kernel⟩, by decide⟩
set_option maxRecDepth 100000 in
theorem in_X9_idOf : Cond.instanceMethod yX9_idOf ∈ jw_T := (jw_tt (jw_c3 _ (List.mem_of_getElem? (i := 225) rfl)) rfl)
set_option maxRecDepth 100000 in
theorem se_X9_idOf : Cond.selects yX9_idOf.cls yX9_idOf yX9_idOf ∈ jw_T := (jw_Tin (jw_p1 _ (List.mem_of_getElem? (i := 14) rfl)) rfl)
set_option maxRecDepth 100000 in
theorem lk_X1_138 : jw_lk RX1 138 yX9_idOf := Or.inr ⟨"Lineorders", ((jw_tn (jw_c6 _ (List.mem_of_getElem? (i := 91) rfl)) rfl))⟩
set_option maxRecDepth 100000 in
theorem lk_X9_76 : jw_lk RX9 76 yX9_idOf := Or.inl ((jw_tt (jw_c3 _ (List.mem_of_getElem? (i := 223) rfl)) rfl))
set_option maxRecDepth 100000 in
theorem lk_X10_217 : jw_lk RX10 217 yX9_idOf := Or.inr ⟨"Lineorders", ((jw_tn (jw_c5 _ (List.mem_of_getElem? (i := 66) rfl)) rfl))⟩
set_option maxRecDepth 100000 in
theorem lk_X11_183 : jw_lk RX11 183 yX9_idOf := Or.inr ⟨"Lineorders", ((jw_tn (jw_c4 _ (List.mem_of_getElem? (i := 68) rfl)) rfl))⟩
set_option maxRecDepth 100000 in
theorem mt_X9_isWell : jw_mt yX9_isWell cX9_isWell 4 (some .boolean) 0 := ⟨((jw_tt (jw_c3 _ (List.mem_of_getElem? (i := 218) rfl)) rfl)), ((jw_tt (jw_c1 _ (List.mem_of_getElem? (i := 5) rfl)) rfl)), ⟨by decide, by decide, by decide +kernel⟩, by decide⟩
set_option maxRecDepth 100000 in
theorem in_X9_isWell : Cond.instanceMethod yX9_isWell ∈ jw_T := (jw_tt (jw_c3 _ (List.mem_of_getElem? (i := 217) rfl)) rfl)
set_option maxRecDepth 100000 in
theorem se_X9_isWell : Cond.selects yX9_isWell.cls yX9_isWell yX9_isWell ∈ jw_T := (jw_Tin (jw_p1 _ (List.mem_of_getElem? (i := 12) rfl)) rfl)
set_option maxRecDepth 100000 in
theorem lk_X11_251 : jw_lk RX11 251 yX9_isWell := Or.inr ⟨"Lineorders", ((jw_tn (jw_c3 _ (List.mem_of_getElem? (i := 215) rfl)) rfl))⟩
set_option maxRecDepth 100000 in
theorem mt_X9_markedId : jw_mt yX9_markedId cX9_markedId 2 (some .int) 1 := ⟨((jw_tt (jw_c3 _ (List.mem_of_getElem? (i := 234) rfl)) rfl)), ((jw_tt (jw_c1 _ (List.mem_of_getElem? (i := 5) rfl)) rfl)), ⟨by decide, by decide, by decide +kernel⟩, by decide⟩
set_option maxRecDepth 100000 in
theorem in_X9_markedId : Cond.instanceMethod yX9_markedId ∈ jw_T := (jw_tt (jw_c3 _ (List.mem_of_getElem? (i := 233) rfl)) rfl)
set_option maxRecDepth 100000 in
theorem se_X9_markedId : Cond.selects yX9_markedId.cls yX9_markedId yX9_markedId ∈ jw_T := (jw_Tin (jw_p2 _ (List.mem_of_getElem? (i := 0) rfl)) rfl)
set_option maxRecDepth 100000 in
theorem lk_X1_240 : jw_lk RX1 240 yX9_markedId := Or.inr ⟨"Lineorders", ((jw_tn (jw_c6 _ (List.mem_of_getElem? (i := 117) rfl)) rfl))⟩
set_option maxRecDepth 100000 in
theorem lk_X9_44 : jw_lk RX9 44 yX9_markedId := Or.inl ((jw_tt (jw_c3 _ (List.mem_of_getElem? (i := 231) rfl)) rfl))
set_option maxRecDepth 100000 in
theorem mt_X9_markedLine : jw_mt yX9_markedLine cX9_markedLine 3 (some .int) 1 := ⟨((jw_tt (jw_c3 _ (List.mem_of_getElem? (i := 238) rfl)) rfl)), ((jw_tt (jw_c1 _ (List.mem_of_getElem? (i := 5) rfl)) rfl)), ⟨by decide, by decide, by decide +kernel⟩, by decide⟩
set_option maxRecDepth 100000 in
theorem in_X9_markedLine : Cond.instanceMethod yX9_markedLine ∈ jw_T := (jw_tt (jw_c3 _ (List.mem_of_getElem? (i := 237) rfl)) rfl)
set_option maxRecDepth 100000 in
theorem se_X9_markedLine : Cond.selects yX9_markedLine.cls yX9_markedLine yX9_markedLine ∈ jw_T := (jw_Tin (jw_p2 _ (List.mem_of_getElem? (i := 1) rfl)) rfl)
set_option maxRecDepth 100000 in
theorem lk_X9_91 : jw_lk RX9 91 yX9_markedLine := Or.inl ((jw_tt (jw_c3 _ (List.mem_of_getElem? (i := 235) rfl)) rfl))
set_option maxRecDepth 100000 in
theorem lk_X10_171 : jw_lk RX10 171 yX9_markedLine := Or.inr ⟨"Lineorders", ((jw_tn (jw_c5 _ (List.mem_of_getElem? (i := 18) rfl)) rfl))⟩
set_option maxRecDepth 100000 in
theorem lk_X11_194 : jw_lk RX11 194 yX9_markedLine := Or.inr ⟨"Lineorders", ((jw_tn (jw_c4 _ (List.mem_of_getElem? (i := 74) rfl)) rfl))⟩
set_option maxRecDepth 100000 in
theorem mt_X9_nextLot : jw_mt yX9_nextLot cX9_nextLot 2 (some .int) 1 := ⟨((jw_tt (jw_c3 _ (List.mem_of_getElem? (i := 193) rfl)) rfl)), ((jw_tt (jw_c1 _ (List.mem_of_getElem? (i := 5) rfl)) rfl)), ⟨by decide, by decide, by decide +kernel⟩, by decide⟩
set_option maxRecDepth 100000 in
theorem in_X9_nextLot : Cond.instanceMethod yX9_nextLot ∈ jw_T := (jw_tt (jw_c3 _ (List.mem_of_getElem? (i := 192) rfl)) rfl)
set_option maxRecDepth 100000 in
theorem se_X9_nextLot : Cond.selects yX9_nextLot.cls yX9_nextLot yX9_nextLot ∈ jw_T := (jw_Tin (jw_p1 _ (List.mem_of_getElem? (i := 7) rfl)) rfl)
set_option maxRecDepth 100000 in
theorem lk_X9_79 : jw_lk RX9 79 yX9_nextLot := Or.inl ((jw_tt (jw_c3 _ (List.mem_of_getElem? (i := 190) rfl)) rfl))
set_option maxRecDepth 100000 in
theorem mt_X9_numberOf : jw_mt yX9_numberOf cX9_numberOf 3 (some .int) 1 := ⟨((jw_tt (jw_c3 _ (List.mem_of_getElem? (i := 230) rfl)) rfl)), ((jw_tt (jw_c1 _ (List.mem_of_getElem? (i := 5) rfl)) rfl)), ⟨by decide, by decide, by decide +kernel⟩, by decide⟩
set_option maxRecDepth 100000 in
theorem in_X9_numberOf : Cond.instanceMethod yX9_numberOf ∈ jw_T := (jw_tt (jw_c3 _ (List.mem_of_getElem? (i := 229) rfl)) rfl)
set_option maxRecDepth 100000 in
theorem se_X9_numberOf : Cond.selects yX9_numberOf.cls yX9_numberOf yX9_numberOf ∈ jw_T := (jw_Tin (jw_p1 _ (List.mem_of_getElem? (i := 15) rfl)) rfl)
set_option maxRecDepth 100000 in
theorem lk_X9_48 : jw_lk RX9 48 yX9_numberOf := Or.inl ((jw_tt (jw_c3 _ (List.mem_of_getElem? (i := 227) rfl)) rfl))
set_option maxRecDepth 100000 in
theorem lk_X10_207 : jw_lk RX10 207 yX9_numberOf := Or.inr ⟨"Lineorders", ((jw_tn (jw_c5 _ (List.mem_of_getElem? (i := 72) rfl)) rfl))⟩
set_option maxRecDepth 100000 in
theorem mt_X9_open : jw_mt yX9_open cX9_open 5 (some .boolean) 2 := ⟨((jw_tt (jw_c3 _ (List.mem_of_getElem? (i := 198) rfl)) rfl)), ((jw_tt (jw_c1 _ (List.mem_of_getElem? (i := 5) rfl)) rfl)), ⟨by decide, by decide, by decide +kernel⟩, by decide⟩
set_option maxRecDepth 100000 in
theorem in_X9_open : Cond.instanceMethod yX9_open ∈ jw_T := (jw_tt (jw_c3 _ (List.mem_of_getElem? (i := 197) rfl)) rfl)
set_option maxRecDepth 100000 in
theorem se_X9_open : Cond.selects yX9_open.cls yX9_open yX9_open ∈ jw_T := (jw_Tin (jw_p1 _ (List.mem_of_getElem? (i := 8) rfl)) rfl)
set_option maxRecDepth 100000 in
theorem lk_X9_82 : jw_lk RX9 82 yX9_open := Or.inl ((jw_tt (jw_c3 _ (List.mem_of_getElem? (i := 195) rfl)) rfl))
set_option maxRecDepth 100000 in
theorem lk_X10_276 : jw_lk RX10 276 yX9_open := Or.inr ⟨"Lineorders", ((jw_tn (jw_c5 _ (List.mem_of_getElem? (i := 146) rfl)) rfl))⟩
set_option maxRecDepth 100000 in
theorem mt_X9_setMark : jw_mt yX9_setMark cX9_setMark 3 none 2 := ⟨((jw_tt (jw_c6 _ (List.mem_of_getElem? (i := 17) rfl)) rfl)), ((jw_tt (jw_c1 _ (List.mem_of_getElem? (i := 5) rfl)) rfl)), ⟨by decide, by decide, by decide +kernel⟩, by decide⟩
set_option maxRecDepth 100000 in
theorem in_X9_setMark : Cond.instanceMethod yX9_setMark ∈ jw_T := (jw_tt (jw_c6 _ (List.mem_of_getElem? (i := 16) rfl)) rfl)
set_option maxRecDepth 100000 in
theorem se_X9_setMark : Cond.selects yX9_setMark.cls yX9_setMark yX9_setMark ∈ jw_T := (jw_Tin (jw_p7 _ (List.mem_of_getElem? (i := 5) rfl)) rfl)
set_option maxRecDepth 100000 in
theorem lk_X1_317 : jw_lk RX1 317 yX9_setMark := Or.inr ⟨"Lineorders", ((jw_tn (jw_c6 _ (List.mem_of_getElem? (i := 184) rfl)) rfl))⟩
set_option maxRecDepth 100000 in
theorem lk_X10_331 : jw_lk RX10 331 yX9_setMark := Or.inr ⟨"Lineorders", ((jw_tn (jw_c6 _ (List.mem_of_getElem? (i := 14) rfl)) rfl))⟩
set_option maxRecDepth 100000 in
theorem mt_X10_init : jw_mt yX10_init cX10_init 8 none 7 := ⟨((jw_tt (jw_c2 _ (List.mem_of_getElem? (i := 127) rfl)) rfl)), ((jw_tt (jw_c1 _ (List.mem_of_getElem? (i := 12) rfl)) rfl)), ⟨by decide, by decide, by decide +kernel⟩, by decide⟩
set_option maxRecDepth 100000 in
theorem in_X10_init : Cond.instanceMethod yX10_init ∈ jw_T := (jw_tt (jw_c2 _ (List.mem_of_getElem? (i := 126) rfl)) rfl)
set_option maxRecDepth 100000 in
theorem lk_X11_72 : jw_lk RX11 72 yX10_init := Or.inr ⟨"Lineorders", ((jw_tn (jw_c2 _ (List.mem_of_getElem? (i := 125) rfl)) rfl))⟩
set_option maxRecDepth 100000 in
theorem mt_X10_bring : jw_mt yX10_bring cX10_bring 7 (some .int) 2 := ⟨((jw_tt (jw_c5 _ (List.mem_of_getElem? (i := 133) rfl)) rfl)), ((jw_tt (jw_c1 _ (List.mem_of_getElem? (i := 12) rfl)) rfl)), ⟨by decide, by decide, by decide +kernel⟩, by decide⟩
set_option maxRecDepth 100000 in
theorem in_X10_bring : Cond.instanceMethod yX10_bring ∈ jw_T := (jw_tt (jw_c5 _ (List.mem_of_getElem? (i := 132) rfl)) rfl)
set_option maxRecDepth 100000 in
theorem se_X10_bring : Cond.selects yX10_bring.cls yX10_bring yX10_bring ∈ jw_T := (jw_Tin (jw_p5 _ (List.mem_of_getElem? (i := 11) rfl)) rfl)
set_option maxRecDepth 100000 in
theorem lk_X10_228 : jw_lk RX10 228 yX10_bring := Or.inl ((jw_tt (jw_c5 _ (List.mem_of_getElem? (i := 130) rfl)) rfl))
set_option maxRecDepth 100000 in
theorem mt_X10_copyLines : jw_mt yX10_copyLines cX10_copyLines 4 (some .int) 1 := ⟨((jw_tt (jw_c5 _ (List.mem_of_getElem? (i := 219) rfl)) rfl)), ((jw_tt (jw_c1 _ (List.mem_of_getElem? (i := 12) rfl)) rfl)), ⟨by decide, by decide, by decide +kernel⟩, by decide⟩
set_option maxRecDepth 100000 in
theorem in_X10_copyLines : Cond.instanceMethod yX10_copyLines ∈ jw_T := (jw_tt (jw_c5 _ (List.mem_of_getElem? (i := 218) rfl)) rfl)
set_option maxRecDepth 100000 in
theorem se_X10_copyLines : Cond.selects yX10_copyLines.cls yX10_copyLines yX10_copyLines ∈ jw_T := (jw_Tin (jw_p6 _ (List.mem_of_getElem? (i := 13) rfl)) rfl)
set_option maxRecDepth 100000 in
theorem lk_X10_266 : jw_lk RX10 266 yX10_copyLines := Or.inl ((jw_tt (jw_c5 _ (List.mem_of_getElem? (i := 216) rfl)) rfl))
set_option maxRecDepth 100000 in
theorem mt_X10_doGroup : jw_mt yX10_doGroup cX10_doGroup 8 (some .int) 2 := ⟨((jw_tt (jw_c5 _ (List.mem_of_getElem? (i := 57) rfl)) rfl)), ((jw_tt (jw_c1 _ (List.mem_of_getElem? (i := 12) rfl)) rfl)), ⟨by decide, by decide, by decide +kernel⟩, by decide⟩
set_option maxRecDepth 100000 in
theorem in_X10_doGroup : Cond.instanceMethod yX10_doGroup ∈ jw_T := (jw_tt (jw_c5 _ (List.mem_of_getElem? (i := 56) rfl)) rfl)
set_option maxRecDepth 100000 in
theorem se_X10_doGroup : Cond.selects yX10_doGroup.cls yX10_doGroup yX10_doGroup ∈ jw_T := (jw_Tin (jw_p4 _ (List.mem_of_getElem? (i := 10) rfl)) rfl)
set_option maxRecDepth 100000 in
theorem lk_X10_107 : jw_lk RX10 107 yX10_doGroup := Or.inl ((jw_tt (jw_c5 _ (List.mem_of_getElem? (i := 54) rfl)) rfl))
set_option maxRecDepth 100000 in
theorem mt_X10_doOne : jw_mt yX10_doOne cX10_doOne 3 (some .int) 1 := ⟨((jw_tt (jw_c5 _ (List.mem_of_getElem? (i := 76) rfl)) rfl)), ((jw_tt (jw_c1 _ (List.mem_of_getElem? (i := 12) rfl)) rfl)), ⟨by decide, by decide, by decide +kernel⟩, by decide⟩
set_option maxRecDepth 100000 in
theorem in_X10_doOne : Cond.instanceMethod yX10_doOne ∈ jw_T := (jw_tt (jw_c5 _ (List.mem_of_getElem? (i := 75) rfl)) rfl)
set_option maxRecDepth 100000 in
theorem se_X10_doOne : Cond.selects yX10_doOne.cls yX10_doOne yX10_doOne ∈ jw_T := (jw_Tin (jw_p4 _ (List.mem_of_getElem? (i := 14) rfl)) rfl)
set_option maxRecDepth 100000 in
theorem lk_X10_111 : jw_lk RX10 111 yX10_doOne := Or.inl ((jw_tt (jw_c5 _ (List.mem_of_getElem? (i := 73) rfl)) rfl))
set_option maxRecDepth 100000 in
theorem mt_X10_exchange : jw_mt yX10_exchange cX10_exchange 2 (some .int) 0 := ⟨((jw_tt (jw_c5 _ (List.mem_of_getElem? (i := 162) rfl)) rfl)), ((jw_tt (jw_c1 _ (List.mem_of_getElem? (i := 12) rfl)) rfl)), ⟨by decide, by decide, by decide +kernel⟩, by decide⟩
set_option maxRecDepth 100000 in
theorem in_X10_exchange : Cond.instanceMethod yX10_exchange ∈ jw_T := (jw_tt (jw_c5 _ (List.mem_of_getElem? (i := 161) rfl)) rfl)
set_option maxRecDepth 100000 in
theorem se_X10_exchange : Cond.selects yX10_exchange.cls yX10_exchange yX10_exchange ∈ jw_T := (jw_Tin (jw_p6 _ (List.mem_of_getElem? (i := 1) rfl)) rfl)
set_option maxRecDepth 100000 in
theorem lk_X10_243 : jw_lk RX10 243 yX10_exchange := Or.inl ((jw_tt (jw_c5 _ (List.mem_of_getElem? (i := 159) rfl)) rfl))
set_option maxRecDepth 100000 in
theorem mt_X10_findRange : jw_mt yX10_findRange cX10_findRange 4 (some .int) 1 := ⟨((jw_tt (jw_c5 _ (List.mem_of_getElem? (i := 8) rfl)) rfl)), ((jw_tt (jw_c1 _ (List.mem_of_getElem? (i := 12) rfl)) rfl)), ⟨by decide, by decide, by decide +kernel⟩, by decide⟩
set_option maxRecDepth 100000 in
theorem in_X10_findRange : Cond.instanceMethod yX10_findRange ∈ jw_T := (jw_tt (jw_c5 _ (List.mem_of_getElem? (i := 7) rfl)) rfl)
set_option maxRecDepth 100000 in
theorem se_X10_findRange : Cond.selects yX10_findRange.cls yX10_findRange yX10_findRange ∈ jw_T := (jw_Tin (jw_p4 _ (List.mem_of_getElem? (i := 0) rfl)) rfl)
set_option maxRecDepth 100000 in
theorem lk_X10_93 : jw_lk RX10 93 yX10_findRange := Or.inl ((jw_tt (jw_c5 _ (List.mem_of_getElem? (i := 5) rfl)) rfl))
set_option maxRecDepth 100000 in
theorem mt_X10_join : jw_mt yX10_join cX10_join 3 (some .int) 0 := ⟨((jw_tt (jw_c5 _ (List.mem_of_getElem? (i := 178) rfl)) rfl)), ((jw_tt (jw_c1 _ (List.mem_of_getElem? (i := 12) rfl)) rfl)), ⟨by decide, by decide, by decide +kernel⟩, by decide⟩
set_option maxRecDepth 100000 in
theorem in_X10_join : Cond.instanceMethod yX10_join ∈ jw_T := (jw_tt (jw_c5 _ (List.mem_of_getElem? (i := 177) rfl)) rfl)
set_option maxRecDepth 100000 in
theorem se_X10_join : Cond.selects yX10_join.cls yX10_join yX10_join ∈ jw_T := (jw_Tin (jw_p6 _ (List.mem_of_getElem? (i := 4) rfl)) rfl)
set_option maxRecDepth 100000 in
theorem lk_X10_251 : jw_lk RX10 251 yX10_join := Or.inl ((jw_tt (jw_c5 _ (List.mem_of_getElem? (i := 175) rfl)) rfl))
set_option maxRecDepth 100000 in
theorem mt_X10_leaveOutSame : jw_mt yX10_leaveOutSame cX10_leaveOutSame 3 (some .int) 0 := ⟨((jw_tt (jw_c5 _ (List.mem_of_getElem? (i := 195) rfl)) rfl)), ((jw_tt (jw_c1 _ (List.mem_of_getElem? (i := 12) rfl)) rfl)), ⟨by decide, by decide, by decide +kernel⟩, by decide⟩
set_option maxRecDepth 100000 in
theorem in_X10_leaveOutSame : Cond.instanceMethod yX10_leaveOutSame ∈ jw_T := (jw_tt (jw_c5 _ (List.mem_of_getElem? (i := 194) rfl)) rfl)
set_option maxRecDepth 100000 in
theorem se_X10_leaveOutSame : Cond.selects yX10_leaveOutSame.cls yX10_leaveOutSame yX10_leaveOutSame ∈ jw_T := (jw_Tin (jw_p6 _ (List.mem_of_getElem? (i := 8) rfl)) rfl)
set_option maxRecDepth 100000 in
theorem lk_X10_257 : jw_lk RX10 257 yX10_leaveOutSame := Or.inl ((jw_tt (jw_c5 _ (List.mem_of_getElem? (i := 192) rfl)) rfl))
set_option maxRecDepth 100000 in
theorem mt_X10_lineUp : jw_mt yX10_lineUp cX10_lineUp 6 (some .int) 3 := ⟨((jw_tt (jw_c5 _ (List.mem_of_getElem? (i := 208) rfl)) rfl)), ((jw_tt (jw_c1 _ (List.mem_of_getElem? (i := 12) rfl)) rfl)), ⟨by decide, by decide, by decide +kernel⟩, by decide⟩
set_option maxRecDepth 100000 in
theorem in_X10_lineUp : Cond.instanceMethod yX10_lineUp ∈ jw_T := (jw_tt (jw_c5 _ (List.mem_of_getElem? (i := 207) rfl)) rfl)
set_option maxRecDepth 100000 in
theorem se_X10_lineUp : Cond.selects yX10_lineUp.cls yX10_lineUp yX10_lineUp ∈ jw_T := (jw_Tin (jw_p6 _ (List.mem_of_getElem? (i := 11) rfl)) rfl)
set_option maxRecDepth 100000 in
theorem lk_X10_306 : jw_lk RX10 306 yX10_lineUp := Or.inl ((jw_tt (jw_c5 _ (List.mem_of_getElem? (i := 205) rfl)) rfl))
set_option maxRecDepth 100000 in
theorem mt_X10_locate : jw_mt yX10_locate cX10_locate 3 (some .int) 1 := ⟨((jw_tt (jw_c5 _ (List.mem_of_getElem? (i := 17) rfl)) rfl)), ((jw_tt (jw_c1 _ (List.mem_of_getElem? (i := 12) rfl)) rfl)), ⟨by decide, by decide, by decide +kernel⟩, by decide⟩
set_option maxRecDepth 100000 in
theorem in_X10_locate : Cond.instanceMethod yX10_locate ∈ jw_T := (jw_tt (jw_c5 _ (List.mem_of_getElem? (i := 16) rfl)) rfl)
set_option maxRecDepth 100000 in
theorem se_X10_locate : Cond.selects yX10_locate.cls yX10_locate yX10_locate ∈ jw_T := (jw_Tin (jw_p4 _ (List.mem_of_getElem? (i := 2) rfl)) rfl)
set_option maxRecDepth 100000 in
theorem lk_X10_147 : jw_lk RX10 147 yX10_locate := Or.inl ((jw_tt (jw_c5 _ (List.mem_of_getElem? (i := 14) rfl)) rfl))
set_option maxRecDepth 100000 in
theorem mt_X10_meet : jw_mt yX10_meet cX10_meet 4 none 1 := ⟨((jw_tt (jw_c5 _ (List.mem_of_getElem? (i := 61) rfl)) rfl)), ((jw_tt (jw_c1 _ (List.mem_of_getElem? (i := 12) rfl)) rfl)), ⟨by decide, by decide, by decide +kernel⟩, by decide⟩
set_option maxRecDepth 100000 in
theorem in_X10_meet : Cond.instanceMethod yX10_meet ∈ jw_T := (jw_tt (jw_c5 _ (List.mem_of_getElem? (i := 60) rfl)) rfl)
set_option maxRecDepth 100000 in
theorem se_X10_meet : Cond.selects yX10_meet.cls yX10_meet yX10_meet ∈ jw_T := (jw_Tin (jw_p4 _ (List.mem_of_getElem? (i := 11) rfl)) rfl)
set_option maxRecDepth 100000 in
theorem lk_X10_194 : jw_lk RX10 194 yX10_meet := Or.inl ((jw_tt (jw_c5 _ (List.mem_of_getElem? (i := 58) rfl)) rfl))
set_option maxRecDepth 100000 in
theorem mt_X10_move : jw_mt yX10_move cX10_move 5 (some .int) 1 := ⟨((jw_tt (jw_c5 _ (List.mem_of_getElem? (i := 204) rfl)) rfl)), ((jw_tt (jw_c1 _ (List.mem_of_getElem? (i := 12) rfl)) rfl)), ⟨by decide, by decide, by decide +kernel⟩, by decide⟩
set_option maxRecDepth 100000 in
theorem in_X10_move : Cond.instanceMethod yX10_move ∈ jw_T := (jw_tt (jw_c5 _ (List.mem_of_getElem? (i := 203) rfl)) rfl)
set_option maxRecDepth 100000 in
theorem se_X10_move : Cond.selects yX10_move.cls yX10_move yX10_move ∈ jw_T := (jw_Tin (jw_p6 _ (List.mem_of_getElem? (i := 10) rfl)) rfl)
set_option maxRecDepth 100000 in
theorem lk_X10_263 : jw_lk RX10 263 yX10_move := Or.inl ((jw_tt (jw_c5 _ (List.mem_of_getElem? (i := 201) rfl)) rfl))
set_option maxRecDepth 100000 in
theorem mt_X10_part : jw_mt yX10_part cX10_part 4 (some .int) 1 := ⟨((jw_tt (jw_c5 _ (List.mem_of_getElem? (i := 186) rfl)) rfl)), ((jw_tt (jw_c1 _ (List.mem_of_getElem? (i := 12) rfl)) rfl)), ⟨by decide, by decide, by decide +kernel⟩, by decide⟩
set_option maxRecDepth 100000 in
theorem in_X10_part : Cond.instanceMethod yX10_part ∈ jw_T := (jw_tt (jw_c5 _ (List.mem_of_getElem? (i := 185) rfl)) rfl)
set_option maxRecDepth 100000 in
theorem se_X10_part : Cond.selects yX10_part.cls yX10_part yX10_part ∈ jw_T := (jw_Tin (jw_p6 _ (List.mem_of_getElem? (i := 6) rfl)) rfl)
set_option maxRecDepth 100000 in
theorem lk_X10_254 : jw_lk RX10 254 yX10_part := Or.inl ((jw_tt (jw_c5 _ (List.mem_of_getElem? (i := 183) rfl)) rfl))
set_option maxRecDepth 100000 in
theorem mt_X10_perform : jw_mt yX10_perform cX10_perform 6 (some .int) 1 := ⟨((jw_tt (jw_c5 _ (List.mem_of_getElem? (i := 2) rfl)) rfl)), ((jw_tt (jw_c1 _ (List.mem_of_getElem? (i := 12) rfl)) rfl)), ⟨by decide, by decide, by decide +kernel⟩, by decide⟩
set_option maxRecDepth 100000 in
theorem in_X10_perform : Cond.instanceMethod yX10_perform ∈ jw_T := (jw_tt (jw_c5 _ (List.mem_of_getElem? (i := 1) rfl)) rfl)
set_option maxRecDepth 100000 in
theorem se_X10_perform : Cond.selects yX10_perform.cls yX10_perform yX10_perform ∈ jw_T := (jw_Tin (jw_p3 _ (List.mem_of_getElem? (i := 15) rfl)) rfl)
set_option maxRecDepth 100000 in
theorem lk_X11_116 : jw_lk RX11 116 yX10_perform := Or.inr ⟨"Lineorders", ((jw_tn (jw_c4 _ (List.mem_of_getElem? (i := 239) rfl)) rfl))⟩
set_option maxRecDepth 100000 in
theorem mt_X10_readFile : jw_mt yX10_readFile cX10_readFile 2 (some .int) 1 := ⟨((jw_tt (jw_c5 _ (List.mem_of_getElem? (i := 158) rfl)) rfl)), ((jw_tt (jw_c1 _ (List.mem_of_getElem? (i := 12) rfl)) rfl)), ⟨by decide, by decide, by decide +kernel⟩, by decide⟩
set_option maxRecDepth 100000 in
theorem in_X10_readFile : Cond.instanceMethod yX10_readFile ∈ jw_T := (jw_tt (jw_c5 _ (List.mem_of_getElem? (i := 157) rfl)) rfl)
set_option maxRecDepth 100000 in
theorem se_X10_readFile : Cond.selects yX10_readFile.cls yX10_readFile yX10_readFile ∈ jw_T := (jw_Tin (jw_p6 _ (List.mem_of_getElem? (i := 0) rfl)) rfl)
set_option maxRecDepth 100000 in
theorem lk_X10_239 : jw_lk RX10 239 yX10_readFile := Or.inl ((jw_tt (jw_c5 _ (List.mem_of_getElem? (i := 155) rfl)) rfl))
set_option maxRecDepth 100000 in
theorem mt_X10_sort : jw_mt yX10_sort cX10_sort 8 (some .int) 2 := ⟨((jw_tt (jw_c5 _ (List.mem_of_getElem? (i := 223) rfl)) rfl)), ((jw_tt (jw_c1 _ (List.mem_of_getElem? (i := 12) rfl)) rfl)), ⟨by decide, by decide, by decide +kernel⟩, by decide⟩
set_option maxRecDepth 100000 in
theorem in_X10_sort : Cond.instanceMethod yX10_sort ∈ jw_T := (jw_tt (jw_c5 _ (List.mem_of_getElem? (i := 222) rfl)) rfl)
set_option maxRecDepth 100000 in
theorem se_X10_sort : Cond.selects yX10_sort.cls yX10_sort yX10_sort ∈ jw_T := (jw_Tin (jw_p6 _ (List.mem_of_getElem? (i := 14) rfl)) rfl)
set_option maxRecDepth 100000 in
theorem lk_X10_269 : jw_lk RX10 269 yX10_sort := Or.inl ((jw_tt (jw_c5 _ (List.mem_of_getElem? (i := 220) rfl)) rfl))
set_option maxRecDepth 100000 in
theorem mt_X10_steer : jw_mt yX10_steer cX10_steer 2 (some .int) 1 := ⟨((jw_tt (jw_c5 _ (List.mem_of_getElem? (i := 48) rfl)) rfl)), ((jw_tt (jw_c1 _ (List.mem_of_getElem? (i := 12) rfl)) rfl)), ⟨by decide, by decide, by decide +kernel⟩, by decide⟩
set_option maxRecDepth 100000 in
theorem in_X10_steer : Cond.instanceMethod yX10_steer ∈ jw_T := (jw_tt (jw_c5 _ (List.mem_of_getElem? (i := 47) rfl)) rfl)
set_option maxRecDepth 100000 in
theorem se_X10_steer : Cond.selects yX10_steer.cls yX10_steer yX10_steer ∈ jw_T := (jw_Tin (jw_p4 _ (List.mem_of_getElem? (i := 8) rfl)) rfl)
set_option maxRecDepth 100000 in
theorem lk_X10_101 : jw_lk RX10 101 yX10_steer := Or.inl ((jw_tt (jw_c5 _ (List.mem_of_getElem? (i := 45) rfl)) rfl))
set_option maxRecDepth 100000 in
theorem mt_X10_tell : jw_mt yX10_tell cX10_tell 3 (some .int) 1 := ⟨((jw_tt (jw_c5 _ (List.mem_of_getElem? (i := 234) rfl)) rfl)), ((jw_tt (jw_c1 _ (List.mem_of_getElem? (i := 12) rfl)) rfl)), ⟨by decide, by decide, by decide +kernel⟩, by decide⟩
set_option maxRecDepth 100000 in
theorem in_X10_tell : Cond.instanceMethod yX10_tell ∈ jw_T := (jw_tt (jw_c5 _ (List.mem_of_getElem? (i := 233) rfl)) rfl)
set_option maxRecDepth 100000 in
theorem se_X10_tell : Cond.selects yX10_tell.cls yX10_tell yX10_tell ∈ jw_T := (jw_Tin (jw_p7 _ (List.mem_of_getElem? (i := 0) rfl)) rfl)
set_option maxRecDepth 100000 in
theorem lk_X10_273 : jw_lk RX10 273 yX10_tell := Or.inl ((jw_tt (jw_c5 _ (List.mem_of_getElem? (i := 231) rfl)) rfl))
set_option maxRecDepth 100000 in
theorem mt_X10_writeFile : jw_mt yX10_writeFile cX10_writeFile 3 (some .int) 1 := ⟨((jw_tt (jw_c6 _ (List.mem_of_getElem? (i := 21) rfl)) rfl)), ((jw_tt (jw_c1 _ (List.mem_of_getElem? (i := 12) rfl)) rfl)), ⟨by decide, by decide, by decide +kernel⟩, by decide⟩
set_option maxRecDepth 100000 in
theorem in_X10_writeFile : Cond.instanceMethod yX10_writeFile ∈ jw_T := (jw_tt (jw_c6 _ (List.mem_of_getElem? (i := 20) rfl)) rfl)
set_option maxRecDepth 100000 in
theorem se_X10_writeFile : Cond.selects yX10_writeFile.cls yX10_writeFile yX10_writeFile ∈ jw_T := (jw_Tin (jw_p7 _ (List.mem_of_getElem? (i := 6) rfl)) rfl)
set_option maxRecDepth 100000 in
theorem lk_X10_334 : jw_lk RX10 334 yX10_writeFile := Or.inl ((jw_tt (jw_c6 _ (List.mem_of_getElem? (i := 18) rfl)) rfl))
set_option maxRecDepth 100000 in
theorem mt_X11_bitOf : jw_mt yX11_bitOf cX11_bitOf 1 (some .long) 1 := ⟨((jw_tt (jw_c4 _ (List.mem_of_getElem? (i := 190) rfl)) rfl)), ((jw_tt (jw_c1 _ (List.mem_of_getElem? (i := 1) rfl)) rfl)), ⟨by decide, by decide, by decide +kernel⟩, by decide⟩
set_option maxRecDepth 100000 in
theorem st_X11_bitOf : Cond.static yX11_bitOf ∈ jw_T := (jw_tt (jw_c4 _ (List.mem_of_getElem? (i := 189) rfl)) rfl)
set_option maxRecDepth 100000 in
theorem lk_X4_49 : jw_lk RX4 49 yX11_bitOf := Or.inr ⟨"Lineorders", ((jw_tn (jw_c5 _ (List.mem_of_getElem? (i := 30) rfl)) rfl))⟩
set_option maxRecDepth 100000 in
theorem lk_X6_158 : jw_lk RX6 158 yX11_bitOf := Or.inr ⟨"Lineorders", ((jw_tn (jw_c4 _ (List.mem_of_getElem? (i := 188) rfl)) rfl))⟩
set_option maxRecDepth 100000 in
theorem mt_X11_isNoScript : jw_mt yX11_isNoScript cX11_isNoScript 2 (some .boolean) 1 := ⟨((jw_tt (jw_c6 _ (List.mem_of_getElem? (i := 63) rfl)) rfl)), ((jw_tt (jw_c1 _ (List.mem_of_getElem? (i := 1) rfl)) rfl)), ⟨by decide, by decide, by decide +kernel⟩, by decide⟩
set_option maxRecDepth 100000 in
theorem in_X11_isNoScript : Cond.instanceMethod yX11_isNoScript ∈ jw_T := (jw_tt (jw_c6 _ (List.mem_of_getElem? (i := 62) rfl)) rfl)
set_option maxRecDepth 100000 in
theorem se_X11_isNoScript : Cond.selects yX11_isNoScript.cls yX11_isNoScript yX11_isNoScript ∈ jw_T := (jw_Tin (jw_p7 _ (List.mem_of_getElem? (i := 11) rfl)) rfl)
set_option maxRecDepth 100000 in
theorem lk_X11_126 : jw_lk RX11 126 yX11_isNoScript := Or.inl ((jw_tt (jw_c6 _ (List.mem_of_getElem? (i := 60) rfl)) rfl))
set_option maxRecDepth 100000 in
theorem mt_J6_compare_7cf53 : jw_mt yJ6_compare_7cf53 cJ6_compare_7cf53 2 (some .int) 2 := ⟨((jw_tt (jw_c5 _ (List.mem_of_getElem? (i := 230) rfl)) rfl)), ((jw_tt (jw_c1 _ (List.mem_of_getElem? (i := 21) rfl)) rfl)), ⟨by decide, by decide, by decide +kernel⟩, by decide⟩
set_option maxRecDepth 100000 in
theorem st_J6_compare_7cf53 : Cond.static yJ6_compare_7cf53 ∈ jw_T := (jw_tt (jw_c5 _ (List.mem_of_getElem? (i := 229) rfl)) rfl)
set_option maxRecDepth 100000 in
theorem lk_X7_57 : jw_lk RX7 57 yJ6_compare_7cf53 := Or.inl ((jw_tt (jw_c5 _ (List.mem_of_getElem? (i := 228) rfl)) rfl))
set_option maxRecDepth 100000 in
theorem mt_J9_floorMod_7cf53 : jw_mt yJ9_floorMod_7cf53 cJ9_floorMod_7cf53 3 (some .int) 2 := ⟨((jw_tt (jw_c3 _ (List.mem_of_getElem? (i := 170) rfl)) rfl)), ((jw_tt (jw_c1 _ (List.mem_of_getElem? (i := 7) rfl)) rfl)), ⟨by decide, by decide, by decide +kernel⟩, by decide⟩
set_option maxRecDepth 100000 in
theorem st_J9_floorMod_7cf53 : Cond.static yJ9_floorMod_7cf53 ∈ jw_T := (jw_tt (jw_c3 _ (List.mem_of_getElem? (i := 169) rfl)) rfl)
set_option maxRecDepth 100000 in
theorem lk_X3_26 : jw_lk RX3 26 yJ9_floorMod_7cf53 := Or.inl ((jw_tt (jw_c3 _ (List.mem_of_getElem? (i := 168) rfl)) rfl))
set_option maxRecDepth 100000 in
theorem mt_J9_max_7cf53 : jw_mt yJ9_max_7cf53 cJ9_max_7cf53 2 (some .int) 2 := ⟨((jw_tt (jw_c1 _ (List.mem_of_getElem? (i := 204) rfl)) rfl)), ((jw_tt (jw_c1 _ (List.mem_of_getElem? (i := 7) rfl)) rfl)), ⟨by decide, by decide, by decide +kernel⟩, by decide⟩
set_option maxRecDepth 100000 in
theorem st_J9_max_7cf53 : Cond.static yJ9_max_7cf53 ∈ jw_T := (jw_tt (jw_c1 _ (List.mem_of_getElem? (i := 203) rfl)) rfl)
set_option maxRecDepth 100000 in
theorem lk_X6_131 : jw_lk RX6 131 yJ9_max_7cf53 := Or.inl ((jw_tt (jw_c4 _ (List.mem_of_getElem? (i := 171) rfl)) rfl))
set_option maxRecDepth 100000 in
theorem lk_X7_9 : jw_lk RX7 9 yJ9_max_7cf53 := Or.inl ((jw_tt (jw_c1 _ (List.mem_of_getElem? (i := 202) rfl)) rfl))
set_option maxRecDepth 100000 in
theorem lk_X10_310 : jw_lk RX10 310 yJ9_max_7cf53 := Or.inl ((jw_tt (jw_c5 _ (List.mem_of_getElem? (i := 209) rfl)) rfl))
set_option maxRecDepth 100000 in
theorem mt_J9_min_7cf53 : jw_mt yJ9_min_7cf53 cJ9_min_7cf53 2 (some .int) 2 := ⟨((jw_tt (jw_c3 _ (List.mem_of_getElem? (i := 181) rfl)) rfl)), ((jw_tt (jw_c1 _ (List.mem_of_getElem? (i := 7) rfl)) rfl)), ⟨by decide, by decide, by decide +kernel⟩, by decide⟩
set_option maxRecDepth 100000 in
theorem st_J9_min_7cf53 : Cond.static yJ9_min_7cf53 ∈ jw_T := (jw_tt (jw_c3 _ (List.mem_of_getElem? (i := 180) rfl)) rfl)
set_option maxRecDepth 100000 in
theorem lk_X4_40 : jw_lk RX4 40 yJ9_min_7cf53 := Or.inl ((jw_tt (jw_c5 _ (List.mem_of_getElem? (i := 28) rfl)) rfl))
set_option maxRecDepth 100000 in
theorem lk_X6_37 : jw_lk RX6 37 yJ9_min_7cf53 := Or.inl ((jw_tt (jw_c4 _ (List.mem_of_getElem? (i := 134) rfl)) rfl))
set_option maxRecDepth 100000 in
theorem lk_X7_29 : jw_lk RX7 29 yJ9_min_7cf53 := Or.inl ((jw_tt (jw_c3 _ (List.mem_of_getElem? (i := 179) rfl)) rfl))
set_option maxRecDepth 100000 in
theorem lk_X10_154 : jw_lk RX10 154 yJ9_min_7cf53 := Or.inl ((jw_tt (jw_c5 _ (List.mem_of_getElem? (i := 40) rfl)) rfl))
set_option maxRecDepth 100000 in
theorem cl_X1_34 : Cond.classLink RX1 34 (jw_cn 9) ∈ jw_T := (jw_tt (jw_c2 _ (List.mem_of_getElem? (i := 192) rfl)) rfl)
set_option maxRecDepth 100000 in
theorem cl_X1_40 : Cond.classLink RX1 40 (jw_cn 7) ∈ jw_T := (jw_tt (jw_c2 _ (List.mem_of_getElem? (i := 194) rfl)) rfl)
set_option maxRecDepth 100000 in
theorem cl_X3_9 : Cond.classLink RX3 9 (jw_cn 9) ∈ jw_T := (jw_tt (jw_c2 _ (List.mem_of_getElem? (i := 37) rfl)) rfl)
set_option maxRecDepth 100000 in
theorem cl_X5_9 : Cond.classLink RX5 9 (jw_cn 0) ∈ jw_T := (jw_tt (jw_c1 _ (List.mem_of_getElem? (i := 45) rfl)) rfl)
set_option maxRecDepth 100000 in
theorem cl_X6_9 : Cond.classLink RX6 9 (jw_cn 5) ∈ jw_T := (jw_tt (jw_c1 _ (List.mem_of_getElem? (i := 38) rfl)) rfl)
set_option maxRecDepth 100000 in
theorem cl_X8_9 : Cond.classLink RX8 9 (jw_cn 7) ∈ jw_T := (jw_tt (jw_c2 _ (List.mem_of_getElem? (i := 13) rfl)) rfl)
set_option maxRecDepth 100000 in
theorem cl_X9_9 : Cond.classLink RX9 9 (jw_cn 7) ∈ jw_T := (jw_tt (jw_c1 _ (List.mem_of_getElem? (i := 196) rfl)) rfl)
set_option maxRecDepth 100000 in
theorem cl_X10_38 : Cond.classLink RX10 38 (jw_cn 7) ∈ jw_T := (jw_tt (jw_c2 _ (List.mem_of_getElem? (i := 129) rfl)) rfl)
set_option maxRecDepth 100000 in
theorem cl_X10_47 : Cond.classLink RX10 47 (jw_cn 9) ∈ jw_T := (jw_tt (jw_c2 _ (List.mem_of_getElem? (i := 131) rfl)) rfl)
set_option maxRecDepth 100000 in
theorem cl_X11_13 : Cond.classLink RX11 13 "[[B" ∈ jw_T := (jw_tt (jw_c1 _ (List.mem_of_getElem? (i := 30) rfl)) rfl)
set_option maxRecDepth 100000 in
theorem cl_X11_28 : Cond.classLink RX11 28 (jw_cn 6) ∈ jw_T := (jw_tt (jw_c1 _ (List.mem_of_getElem? (i := 32) rfl)) rfl)
set_option maxRecDepth 100000 in
theorem cl_X11_35 : Cond.classLink RX11 35 (jw_cn 9) ∈ jw_T := (jw_tt (jw_c1 _ (List.mem_of_getElem? (i := 190) rfl)) rfl)
set_option maxRecDepth 100000 in
theorem cl_X11_42 : Cond.classLink RX11 42 (jw_cn 8) ∈ jw_T := (jw_tt (jw_c2 _ (List.mem_of_getElem? (i := 7) rfl)) rfl)
set_option maxRecDepth 100000 in
theorem cl_X11_49 : Cond.classLink RX11 49 (jw_cn 3) ∈ jw_T := (jw_tt (jw_c2 _ (List.mem_of_getElem? (i := 31) rfl)) rfl)
set_option maxRecDepth 100000 in
theorem cl_X11_56 : Cond.classLink RX11 56 (jw_cn 4) ∈ jw_T := (jw_tt (jw_c2 _ (List.mem_of_getElem? (i := 57) rfl)) rfl)
set_option maxRecDepth 100000 in
theorem cl_X11_65 : Cond.classLink RX11 65 (jw_cn 2) ∈ jw_T := (jw_tt (jw_c2 _ (List.mem_of_getElem? (i := 96) rfl)) rfl)
set_option maxRecDepth 100000 in
theorem cl_X11_70 : Cond.classLink RX11 70 (jw_cn 10) ∈ jw_T := (jw_tt (jw_c2 _ (List.mem_of_getElem? (i := 123) rfl)) rfl)
set_option maxRecDepth 100000 in
theorem cl_X11_79 : Cond.classLink RX11 79 (jw_cn 1) ∈ jw_T := (jw_tt (jw_c2 _ (List.mem_of_getElem? (i := 186) rfl)) rfl)
set_option maxRecDepth 100000 in
theorem cw_X4_82 : Cond.constantLong RX4 82 (2 : Int64) ∈ jw_T := (jw_tt (jw_c5 _ (List.mem_of_getElem? (i := 39) rfl)) rfl)
set_option maxRecDepth 100000 in
theorem cw_X6_187 : Cond.constantLong RX6 187 (137438953471 : Int64) ∈ jw_T := (jw_tt (jw_c4 _ (List.mem_of_getElem? (i := 196) rfl)) rfl)
set_option maxRecDepth 100000 in
theorem cw_X6_189 : Cond.constantLong RX6 189 (-1 : Int64) ∈ jw_T := (jw_tt (jw_c4 _ (List.mem_of_getElem? (i := 197) rfl)) rfl)
set_option maxRecDepth 100000 in
theorem cw_X9_87 : Cond.constant RX9 87 (65535 : Int32) ∈ jw_T := (jw_tt (jw_c3 _ (List.mem_of_getElem? (i := 194) rfl)) rfl)
set_option maxRecDepth 100000 in
theorem cw_X11_197 : Cond.constant RX11 197 (65535 : Int32) ∈ jw_T := (jw_tt (jw_c3 _ (List.mem_of_getElem? (i := 72) rfl)) rfl)
set_option maxRecDepth 100000 in
theorem cw_X11_272 : Cond.constantLong RX11 272 (68719476736 : Int64) ∈ jw_T := (jw_tt (jw_c4 _ (List.mem_of_getElem? (i := 191) rfl)) rfl)
set_option maxRecDepth 100000 in
theorem fk_X1_15 : Cond.fieldLink RX1 15 (jw_cn 1) (jw_TX 1 1).2.1 (jw_TX 1 1).2.2.1 ∈ jw_T := (jw_tt (jw_c2 _ (List.mem_of_getElem? (i := 197) rfl)) rfl)
set_option maxRecDepth 100000 in
theorem fk_X1_19 : Cond.fieldLink RX1 19 (jw_cn 1) (jw_TX 1 2).2.1 (jw_TX 1 2).2.2.1 ∈ jw_T := (jw_tt (jw_c2 _ (List.mem_of_getElem? (i := 198) rfl)) rfl)
set_option maxRecDepth 100000 in
theorem fk_X1_23 : Cond.fieldLink RX1 23 (jw_cn 1) (jw_TX 1 3).2.1 (jw_TX 1 3).2.2.1 ∈ jw_T := (jw_tt (jw_c2 _ (List.mem_of_getElem? (i := 199) rfl)) rfl)
set_option maxRecDepth 100000 in
theorem fk_X1_26 : Cond.fieldLink RX1 26 (jw_cn 1) (jw_TX 1 4).2.1 (jw_TX 1 4).2.2.1 ∈ jw_T := (jw_tt (jw_c2 _ (List.mem_of_getElem? (i := 200) rfl)) rfl)
set_option maxRecDepth 100000 in
theorem fk_X1_30 : Cond.fieldLink RX1 30 (jw_cn 1) (jw_TX 1 5).2.1 (jw_TX 1 5).2.2.1 ∈ jw_T := (jw_tt (jw_c2 _ (List.mem_of_getElem? (i := 201) rfl)) rfl)
set_option maxRecDepth 100000 in
theorem fk_X1_37 : Cond.fieldLink RX1 37 (jw_cn 1) (jw_TX 1 6).2.1 (jw_TX 1 6).2.2.1 ∈ jw_T := (jw_tt (jw_c2 _ (List.mem_of_getElem? (i := 202) rfl)) rfl)
set_option maxRecDepth 100000 in
theorem fk_X1_45 : Cond.fieldLink RX1 45 (jw_cn 1) (jw_TX 1 7).2.1 (jw_TX 1 7).2.2.1 ∈ jw_T := (jw_tt (jw_c2 _ (List.mem_of_getElem? (i := 203) rfl)) rfl)
set_option maxRecDepth 100000 in
theorem fk_X1_49 : Cond.fieldLink RX1 49 (jw_cn 1) (jw_TX 1 8).2.1 (jw_TX 1 8).2.2.1 ∈ jw_T := (jw_tt (jw_c2 _ (List.mem_of_getElem? (i := 204) rfl)) rfl)
set_option maxRecDepth 100000 in
theorem fk_X1_52 : Cond.fieldLink RX1 52 (jw_cn 1) (jw_TX 1 9).2.1 (jw_TX 1 9).2.2.1 ∈ jw_T := (jw_tt (jw_c2 _ (List.mem_of_getElem? (i := 205) rfl)) rfl)
set_option maxRecDepth 100000 in
theorem fk_X1_9 : Cond.fieldLink RX1 9 (jw_cn 1) (jw_TX 1 0).2.1 (jw_TX 1 0).2.2.1 ∈ jw_T := (jw_tt (jw_c2 _ (List.mem_of_getElem? (i := 196) rfl)) rfl)
set_option maxRecDepth 100000 in
theorem fk_X2_15 : Cond.fieldLink RX2 15 (jw_cn 2) (jw_TX 2 1).2.1 (jw_TX 2 1).2.2.1 ∈ jw_T := (jw_tt (jw_c2 _ (List.mem_of_getElem? (i := 103) rfl)) rfl)
set_option maxRecDepth 100000 in
theorem fk_X2_19 : Cond.fieldLink RX2 19 (jw_cn 2) (jw_TX 2 2).2.1 (jw_TX 2 2).2.2.1 ∈ jw_T := (jw_tt (jw_c2 _ (List.mem_of_getElem? (i := 104) rfl)) rfl)
set_option maxRecDepth 100000 in
theorem fk_X2_9 : Cond.fieldLink RX2 9 (jw_cn 2) (jw_TX 2 0).2.1 (jw_TX 2 0).2.2.1 ∈ jw_T := (jw_tt (jw_c2 _ (List.mem_of_getElem? (i := 102) rfl)) rfl)
set_option maxRecDepth 100000 in
theorem fk_X3_11 : Cond.fieldLink RX3 11 (jw_cn 3) (jw_TX 3 0).2.1 (jw_TX 3 0).2.2.1 ∈ jw_T := (jw_tt (jw_c2 _ (List.mem_of_getElem? (i := 40) rfl)) rfl)
set_option maxRecDepth 100000 in
theorem fk_X3_17 : Cond.fieldLink RX3 17 (jw_cn 3) (jw_TX 3 1).2.1 (jw_TX 3 1).2.2.1 ∈ jw_T := (jw_tt (jw_c2 _ (List.mem_of_getElem? (i := 41) rfl)) rfl)
set_option maxRecDepth 100000 in
theorem fk_X4_15 : Cond.fieldLink RX4 15 (jw_cn 4) (jw_TX 4 1).2.1 (jw_TX 4 1).2.2.1 ∈ jw_T := (jw_tt (jw_c2 _ (List.mem_of_getElem? (i := 64) rfl)) rfl)
set_option maxRecDepth 100000 in
theorem fk_X4_19 : Cond.fieldLink RX4 19 (jw_cn 4) (jw_TX 4 2).2.1 (jw_TX 4 2).2.2.1 ∈ jw_T := (jw_tt (jw_c2 _ (List.mem_of_getElem? (i := 66) rfl)) rfl)
set_option maxRecDepth 100000 in
theorem fk_X4_23 : Cond.fieldLink RX4 23 (jw_cn 4) (jw_TX 4 3).2.1 (jw_TX 4 3).2.2.1 ∈ jw_T := (jw_tt (jw_c2 _ (List.mem_of_getElem? (i := 67) rfl)) rfl)
set_option maxRecDepth 100000 in
theorem fk_X4_27 : Cond.fieldLink RX4 27 (jw_cn 4) (jw_TX 4 4).2.1 (jw_TX 4 4).2.2.1 ∈ jw_T := (jw_tt (jw_c2 _ (List.mem_of_getElem? (i := 69) rfl)) rfl)
set_option maxRecDepth 100000 in
theorem fk_X4_9 : Cond.fieldLink RX4 9 (jw_cn 4) (jw_TX 4 0).2.1 (jw_TX 4 0).2.2.1 ∈ jw_T := (jw_tt (jw_c2 _ (List.mem_of_getElem? (i := 63) rfl)) rfl)
set_option maxRecDepth 100000 in
theorem fk_X5_12 : Cond.fieldLink RX5 12 (jw_cn 5) (jw_TX 5 0).2.1 (jw_TX 5 0).2.2.1 ∈ jw_T := (jw_tt (jw_c1 _ (List.mem_of_getElem? (i := 76) rfl)) rfl)
set_option maxRecDepth 100000 in
theorem fk_X5_18 : Cond.fieldLink RX5 18 (jw_cn 5) (jw_TX 5 1).2.1 (jw_TX 5 1).2.2.1 ∈ jw_T := (jw_tt (jw_c1 _ (List.mem_of_getElem? (i := 80) rfl)) rfl)
set_option maxRecDepth 100000 in
theorem fk_X5_21 : Cond.fieldLink RX5 21 (jw_cn 5) (jw_TX 5 2).2.1 (jw_TX 5 2).2.2.1 ∈ jw_T := (jw_tt (jw_c1 _ (List.mem_of_getElem? (i := 84) rfl)) rfl)
set_option maxRecDepth 100000 in
theorem fk_X6_11 : Cond.fieldLink RX6 11 (jw_cn 6) (jw_TX 6 0).2.1 (jw_TX 6 0).2.2.1 ∈ jw_T := (jw_tt (jw_c1 _ (List.mem_of_getElem? (i := 153) rfl)) rfl)
set_option maxRecDepth 100000 in
theorem fk_X6_18 : Cond.fieldLink RX6 18 (jw_cn 6) (jw_TX 6 1).2.1 (jw_TX 6 1).2.2.1 ∈ jw_T := (jw_tt (jw_c1 _ (List.mem_of_getElem? (i := 154) rfl)) rfl)
set_option maxRecDepth 100000 in
theorem fk_X6_22 : Cond.fieldLink RX6 22 (jw_cn 6) (jw_TX 6 2).2.1 (jw_TX 6 2).2.2.1 ∈ jw_T := (jw_tt (jw_c1 _ (List.mem_of_getElem? (i := 156) rfl)) rfl)
set_option maxRecDepth 100000 in
theorem fk_X7_15 : Cond.fieldLink RX7 15 (jw_cn 7) (jw_TX 7 0).2.1 (jw_TX 7 0).2.2.1 ∈ jw_T := (jw_tt (jw_c1 _ (List.mem_of_getElem? (i := 205) rfl)) rfl)
set_option maxRecDepth 100000 in
theorem fk_X7_21 : Cond.fieldLink RX7 21 (jw_cn 7) (jw_TX 7 1).2.1 (jw_TX 7 1).2.2.1 ∈ jw_T := (jw_tt (jw_c1 _ (List.mem_of_getElem? (i := 206) rfl)) rfl)
set_option maxRecDepth 100000 in
theorem fk_X8_14 : Cond.fieldLink RX8 14 (jw_cn 8) (jw_TX 8 0).2.1 (jw_TX 8 0).2.2.1 ∈ jw_T := (jw_tt (jw_c2 _ (List.mem_of_getElem? (i := 16) rfl)) rfl)
set_option maxRecDepth 100000 in
theorem fk_X8_20 : Cond.fieldLink RX8 20 (jw_cn 8) (jw_TX 8 1).2.1 (jw_TX 8 1).2.2.1 ∈ jw_T := (jw_tt (jw_c2 _ (List.mem_of_getElem? (i := 19) rfl)) rfl)
set_option maxRecDepth 100000 in
theorem fk_X8_23 : Cond.fieldLink RX8 23 (jw_cn 8) (jw_TX 8 2).2.1 (jw_TX 8 2).2.2.1 ∈ jw_T := (jw_tt (jw_c2 _ (List.mem_of_getElem? (i := 20) rfl)) rfl)
set_option maxRecDepth 100000 in
theorem fk_X8_27 : Cond.fieldLink RX8 27 (jw_cn 8) (jw_TX 8 3).2.1 (jw_TX 8 3).2.2.1 ∈ jw_T := (jw_tt (jw_c2 _ (List.mem_of_getElem? (i := 21) rfl)) rfl)
set_option maxRecDepth 100000 in
theorem fk_X9_14 : Cond.fieldLink RX9 14 (jw_cn 9) (jw_TX 9 0).2.1 (jw_TX 9 0).2.2.1 ∈ jw_T := (jw_tt (jw_c1 _ (List.mem_of_getElem? (i := 221) rfl)) rfl)
set_option maxRecDepth 100000 in
theorem fk_X9_20 : Cond.fieldLink RX9 20 (jw_cn 9) (jw_TX 9 1).2.1 (jw_TX 9 1).2.2.1 ∈ jw_T := (jw_tt (jw_c1 _ (List.mem_of_getElem? (i := 226) rfl)) rfl)
set_option maxRecDepth 100000 in
theorem fk_X9_24 : Cond.fieldLink RX9 24 (jw_cn 9) (jw_TX 9 2).2.1 (jw_TX 9 2).2.2.1 ∈ jw_T := (jw_tt (jw_c1 _ (List.mem_of_getElem? (i := 227) rfl)) rfl)
set_option maxRecDepth 100000 in
theorem fk_X10_15 : Cond.fieldLink RX10 15 (jw_cn 10) (jw_TX 10 1).2.1 (jw_TX 10 1).2.2.1 ∈ jw_T := (jw_tt (jw_c2 _ (List.mem_of_getElem? (i := 134) rfl)) rfl)
set_option maxRecDepth 100000 in
theorem fk_X10_19 : Cond.fieldLink RX10 19 (jw_cn 10) (jw_TX 10 2).2.1 (jw_TX 10 2).2.2.1 ∈ jw_T := (jw_tt (jw_c2 _ (List.mem_of_getElem? (i := 135) rfl)) rfl)
set_option maxRecDepth 100000 in
theorem fk_X10_23 : Cond.fieldLink RX10 23 (jw_cn 10) (jw_TX 10 3).2.1 (jw_TX 10 3).2.2.1 ∈ jw_T := (jw_tt (jw_c2 _ (List.mem_of_getElem? (i := 136) rfl)) rfl)
set_option maxRecDepth 100000 in
theorem fk_X10_26 : Cond.fieldLink RX10 26 (jw_cn 10) (jw_TX 10 4).2.1 (jw_TX 10 4).2.2.1 ∈ jw_T := (jw_tt (jw_c2 _ (List.mem_of_getElem? (i := 137) rfl)) rfl)
set_option maxRecDepth 100000 in
theorem fk_X10_30 : Cond.fieldLink RX10 30 (jw_cn 10) (jw_TX 10 5).2.1 (jw_TX 10 5).2.2.1 ∈ jw_T := (jw_tt (jw_c2 _ (List.mem_of_getElem? (i := 138) rfl)) rfl)
set_option maxRecDepth 100000 in
theorem fk_X10_34 : Cond.fieldLink RX10 34 (jw_cn 10) (jw_TX 10 6).2.1 (jw_TX 10 6).2.2.1 ∈ jw_T := (jw_tt (jw_c2 _ (List.mem_of_getElem? (i := 139) rfl)) rfl)
set_option maxRecDepth 100000 in
theorem fk_X10_43 : Cond.fieldLink RX10 43 (jw_cn 10) (jw_TX 10 7).2.1 (jw_TX 10 7).2.2.1 ∈ jw_T := (jw_tt (jw_c2 _ (List.mem_of_getElem? (i := 140) rfl)) rfl)
set_option maxRecDepth 100000 in
theorem fk_X10_50 : Cond.fieldLink RX10 50 (jw_cn 10) (jw_TX 10 8).2.1 (jw_TX 10 8).2.2.1 ∈ jw_T := (jw_tt (jw_c2 _ (List.mem_of_getElem? (i := 141) rfl)) rfl)
set_option maxRecDepth 100000 in
theorem fk_X10_53 : Cond.fieldLink RX10 53 (jw_cn 10) (jw_TX 10 9).2.1 (jw_TX 10 9).2.2.1 ∈ jw_T := (jw_tt (jw_c2 _ (List.mem_of_getElem? (i := 142) rfl)) rfl)
set_option maxRecDepth 100000 in
theorem fk_X10_57 : Cond.fieldLink RX10 57 (jw_cn 10) (jw_TX 10 10).2.1 (jw_TX 10 10).2.2.1 ∈ jw_T := (jw_tt (jw_c2 _ (List.mem_of_getElem? (i := 143) rfl)) rfl)
set_option maxRecDepth 100000 in
theorem fk_X10_9 : Cond.fieldLink RX10 9 (jw_cn 10) (jw_TX 10 0).2.1 (jw_TX 10 0).2.2.1 ∈ jw_T := (jw_tt (jw_c2 _ (List.mem_of_getElem? (i := 133) rfl)) rfl)
set_option maxRecDepth 100000 in
theorem fk_X11_15 : Cond.fieldLink RX11 15 (jw_cn 11) (jw_TX 11 1).2.1 (jw_TX 11 1).2.2.1 ∈ jw_T := (jw_tt (jw_c3 _ (List.mem_of_getElem? (i := 19) rfl)) rfl)
set_option maxRecDepth 100000 in
theorem fk_X11_18 : Cond.fieldLink RX11 18 (jw_cn 11) (jw_TX 11 2).2.1 (jw_TX 11 2).2.2.1 ∈ jw_T := (jw_tt (jw_c3 _ (List.mem_of_getElem? (i := 20) rfl)) rfl)
set_option maxRecDepth 100000 in
theorem fk_X11_22 : Cond.fieldLink RX11 22 (jw_cn 11) (jw_TX 11 3).2.1 (jw_TX 11 3).2.2.1 ∈ jw_T := (jw_tt (jw_c3 _ (List.mem_of_getElem? (i := 21) rfl)) rfl)
set_option maxRecDepth 100000 in
theorem fk_X11_25 : Cond.fieldLink RX11 25 (jw_cn 11) (jw_TX 11 4).2.1 (jw_TX 11 4).2.2.1 ∈ jw_T := (jw_tt (jw_c3 _ (List.mem_of_getElem? (i := 22) rfl)) rfl)
set_option maxRecDepth 100000 in
theorem fk_X11_31 : Cond.fieldLink RX11 31 (jw_cn 11) (jw_TX 11 5).2.1 (jw_TX 11 5).2.2.1 ∈ jw_T := (jw_tt (jw_c3 _ (List.mem_of_getElem? (i := 23) rfl)) rfl)
set_option maxRecDepth 100000 in
theorem fk_X11_38 : Cond.fieldLink RX11 38 (jw_cn 11) (jw_TX 11 6).2.1 (jw_TX 11 6).2.2.1 ∈ jw_T := (jw_tt (jw_c3 _ (List.mem_of_getElem? (i := 24) rfl)) rfl)
set_option maxRecDepth 100000 in
theorem fk_X11_45 : Cond.fieldLink RX11 45 (jw_cn 11) (jw_TX 11 7).2.1 (jw_TX 11 7).2.2.1 ∈ jw_T := (jw_tt (jw_c3 _ (List.mem_of_getElem? (i := 25) rfl)) rfl)
set_option maxRecDepth 100000 in
theorem fk_X11_52 : Cond.fieldLink RX11 52 (jw_cn 11) (jw_TX 11 11).2.1 (jw_TX 11 11).2.2.1 ∈ jw_T := (jw_tt (jw_c3 _ (List.mem_of_getElem? (i := 29) rfl)) rfl)
set_option maxRecDepth 100000 in
theorem fk_X11_61 : Cond.fieldLink RX11 61 (jw_cn 11) (jw_TX 11 8).2.1 (jw_TX 11 8).2.2.1 ∈ jw_T := (jw_tt (jw_c3 _ (List.mem_of_getElem? (i := 26) rfl)) rfl)
set_option maxRecDepth 100000 in
theorem fk_X11_75 : Cond.fieldLink RX11 75 (jw_cn 11) (jw_TX 11 9).2.1 (jw_TX 11 9).2.2.1 ∈ jw_T := (jw_tt (jw_c3 _ (List.mem_of_getElem? (i := 27) rfl)) rfl)
set_option maxRecDepth 100000 in
theorem fk_X11_84 : Cond.fieldLink RX11 84 (jw_cn 11) (jw_TX 11 10).2.1 (jw_TX 11 10).2.2.1 ∈ jw_T := (jw_tt (jw_c3 _ (List.mem_of_getElem? (i := 28) rfl)) rfl)
set_option maxRecDepth 100000 in
theorem fk_X11_9 : Cond.fieldLink RX11 9 (jw_cn 11) (jw_TX 11 0).2.1 (jw_TX 11 0).2.2.1 ∈ jw_T := (jw_tt (jw_c3 _ (List.mem_of_getElem? (i := 18) rfl)) rfl)
set_option maxRecDepth 100000 in
theorem fl_X0_13 : jw_fl RX0 13 0 1 := ⟨by decide, by decide, rfl, Or.inl ((jw_tt (jw_c1 _ (List.mem_of_getElem? (i := 55) rfl)) rfl))⟩
set_option maxRecDepth 100000 in
theorem fl_X0_16 : jw_fl RX0 16 0 2 := ⟨by decide, by decide, rfl, Or.inl ((jw_tt (jw_c1 _ (List.mem_of_getElem? (i := 59) rfl)) rfl))⟩
set_option maxRecDepth 100000 in
theorem fl_X0_19 : jw_fl RX0 19 0 3 := ⟨by decide, by decide, rfl, Or.inl ((jw_tt (jw_c1 _ (List.mem_of_getElem? (i := 63) rfl)) rfl))⟩
set_option maxRecDepth 100000 in
theorem fl_X0_7 : jw_fl RX0 7 0 0 := ⟨by decide, by decide, rfl, Or.inl ((jw_tt (jw_c1 _ (List.mem_of_getElem? (i := 51) rfl)) rfl))⟩
set_option maxRecDepth 100000 in
theorem fl_X1_100 : jw_fl RX1 100 9 3 := ⟨by decide, by decide, rfl, Or.inr ⟨"Lineorders", ((jw_tn (jw_c1 _ (List.mem_of_getElem? (i := 229) rfl)) rfl))⟩⟩
set_option maxRecDepth 100000 in
theorem fl_X1_106 : jw_fl RX1 106 9 4 := ⟨by decide, by decide, rfl, Or.inr ⟨"Lineorders", ((jw_tn (jw_c1 _ (List.mem_of_getElem? (i := 233) rfl)) rfl))⟩⟩
set_option maxRecDepth 100000 in
theorem fl_X1_109 : jw_fl RX1 109 1 14 := ⟨by decide, by decide, rfl, Or.inl ((jw_tt (jw_c2 _ (List.mem_of_getElem? (i := 210) rfl)) rfl))⟩
set_option maxRecDepth 100000 in
theorem fl_X1_115 : jw_fl RX1 115 1 12 := ⟨by decide, by decide, rfl, Or.inl ((jw_tt (jw_c2 _ (List.mem_of_getElem? (i := 208) rfl)) rfl))⟩
set_option maxRecDepth 100000 in
theorem fl_X1_118 : jw_fl RX1 118 1 13 := ⟨by decide, by decide, rfl, Or.inl ((jw_tt (jw_c2 _ (List.mem_of_getElem? (i := 209) rfl)) rfl))⟩
set_option maxRecDepth 100000 in
theorem fl_X1_125 : jw_fl RX1 125 5 3 := ⟨by decide, by decide, rfl, Or.inr ⟨"Lineorders", ((jw_tn (jw_c1 _ (List.mem_of_getElem? (i := 89) rfl)) rfl))⟩⟩
set_option maxRecDepth 100000 in
theorem fl_X1_130 : jw_fl RX1 130 5 5 := ⟨by decide, by decide, rfl, Or.inr ⟨"Lineorders", ((jw_tn (jw_c1 _ (List.mem_of_getElem? (i := 98) rfl)) rfl))⟩⟩
set_option maxRecDepth 100000 in
theorem fl_X1_137 : jw_fl RX1 137 1 11 := ⟨by decide, by decide, rfl, Or.inl ((jw_tt (jw_c2 _ (List.mem_of_getElem? (i := 207) rfl)) rfl))⟩
set_option maxRecDepth 100000 in
theorem fl_X1_141 : jw_fl RX1 141 1 10 := ⟨by decide, by decide, rfl, Or.inl ((jw_tt (jw_c2 _ (List.mem_of_getElem? (i := 206) rfl)) rfl))⟩
set_option maxRecDepth 100000 in
theorem fl_X1_148 : jw_fl RX1 148 1 16 := ⟨by decide, by decide, rfl, Or.inl ((jw_tt (jw_c2 _ (List.mem_of_getElem? (i := 213) rfl)) rfl))⟩
set_option maxRecDepth 100000 in
theorem fl_X1_15 : jw_fl RX1 15 1 1 := ⟨by decide, by decide, rfl, Or.inl ((jw_tt (jw_c2 _ (List.mem_of_getElem? (i := 197) rfl)) rfl))⟩
set_option maxRecDepth 100000 in
theorem fl_X1_151 : jw_fl RX1 151 2 5 := ⟨by decide, by decide, rfl, Or.inr ⟨"Lineorders", ((jw_tn (jw_c2 _ (List.mem_of_getElem? (i := 108) rfl)) rfl))⟩⟩
set_option maxRecDepth 100000 in
theorem fl_X1_172 : jw_fl RX1 172 5 9 := ⟨by decide, by decide, rfl, Or.inr ⟨"Lineorders", ((jw_tn (jw_c1 _ (List.mem_of_getElem? (i := 114) rfl)) rfl))⟩⟩
set_option maxRecDepth 100000 in
theorem fl_X1_178 : jw_fl RX1 178 5 6 := ⟨by decide, by decide, rfl, Or.inr ⟨"Lineorders", ((jw_tn (jw_c1 _ (List.mem_of_getElem? (i := 104) rfl)) rfl))⟩⟩
set_option maxRecDepth 100000 in
theorem fl_X1_19 : jw_fl RX1 19 1 2 := ⟨by decide, by decide, rfl, Or.inl ((jw_tt (jw_c2 _ (List.mem_of_getElem? (i := 198) rfl)) rfl))⟩
set_option maxRecDepth 100000 in
theorem fl_X1_196 : jw_fl RX1 196 5 4 := ⟨by decide, by decide, rfl, Or.inr ⟨"Lineorders", ((jw_tn (jw_c1 _ (List.mem_of_getElem? (i := 94) rfl)) rfl))⟩⟩
set_option maxRecDepth 100000 in
theorem fl_X1_199 : jw_fl RX1 199 5 0 := ⟨by decide, by decide, rfl, Or.inr ⟨"Lineorders", ((jw_tn (jw_c1 _ (List.mem_of_getElem? (i := 78) rfl)) rfl))⟩⟩
set_option maxRecDepth 100000 in
theorem fl_X1_207 : jw_fl RX1 207 5 13 := ⟨by decide, by decide, rfl, Or.inr ⟨"Lineorders", ((jw_tn (jw_c1 _ (List.mem_of_getElem? (i := 123) rfl)) rfl))⟩⟩
set_option maxRecDepth 100000 in
theorem fl_X1_210 : jw_fl RX1 210 5 11 := ⟨by decide, by decide, rfl, Or.inr ⟨"Lineorders", ((jw_tn (jw_c1 _ (List.mem_of_getElem? (i := 119) rfl)) rfl))⟩⟩
set_option maxRecDepth 100000 in
theorem fl_X1_213 : jw_fl RX1 213 5 1 := ⟨by decide, by decide, rfl, Or.inr ⟨"Lineorders", ((jw_tn (jw_c1 _ (List.mem_of_getElem? (i := 82) rfl)) rfl))⟩⟩
set_option maxRecDepth 100000 in
theorem fl_X1_225 : jw_fl RX1 225 5 10 := ⟨by decide, by decide, rfl, Or.inr ⟨"Lineorders", ((jw_tn (jw_c1 _ (List.mem_of_getElem? (i := 117) rfl)) rfl))⟩⟩
set_option maxRecDepth 100000 in
theorem fl_X1_228 : jw_fl RX1 228 5 12 := ⟨by decide, by decide, rfl, Or.inr ⟨"Lineorders", ((jw_tn (jw_c1 _ (List.mem_of_getElem? (i := 121) rfl)) rfl))⟩⟩
set_option maxRecDepth 100000 in
theorem fl_X1_23 : jw_fl RX1 23 1 3 := ⟨by decide, by decide, rfl, Or.inl ((jw_tt (jw_c2 _ (List.mem_of_getElem? (i := 199) rfl)) rfl))⟩
set_option maxRecDepth 100000 in
theorem fl_X1_231 : jw_fl RX1 231 0 0 := ⟨by decide, by decide, rfl, Or.inr ⟨"Lineorders", ((jw_tn (jw_c1 _ (List.mem_of_getElem? (i := 53) rfl)) rfl))⟩⟩
set_option maxRecDepth 100000 in
theorem fl_X1_234 : jw_fl RX1 234 0 1 := ⟨by decide, by decide, rfl, Or.inr ⟨"Lineorders", ((jw_tn (jw_c1 _ (List.mem_of_getElem? (i := 57) rfl)) rfl))⟩⟩
set_option maxRecDepth 100000 in
theorem fl_X1_237 : jw_fl RX1 237 0 2 := ⟨by decide, by decide, rfl, Or.inr ⟨"Lineorders", ((jw_tn (jw_c1 _ (List.mem_of_getElem? (i := 61) rfl)) rfl))⟩⟩
set_option maxRecDepth 100000 in
theorem fl_X1_26 : jw_fl RX1 26 1 4 := ⟨by decide, by decide, rfl, Or.inl ((jw_tt (jw_c2 _ (List.mem_of_getElem? (i := 200) rfl)) rfl))⟩
set_option maxRecDepth 100000 in
theorem fl_X1_266 : jw_fl RX1 266 8 0 := ⟨by decide, by decide, rfl, Or.inr ⟨"Lineorders", ((jw_tn (jw_c2 _ (List.mem_of_getElem? (i := 18) rfl)) rfl))⟩⟩
set_option maxRecDepth 100000 in
theorem fl_X1_30 : jw_fl RX1 30 1 5 := ⟨by decide, by decide, rfl, Or.inl ((jw_tt (jw_c2 _ (List.mem_of_getElem? (i := 201) rfl)) rfl))⟩
set_option maxRecDepth 100000 in
theorem fl_X1_37 : jw_fl RX1 37 1 6 := ⟨by decide, by decide, rfl, Or.inl ((jw_tt (jw_c2 _ (List.mem_of_getElem? (i := 202) rfl)) rfl))⟩
set_option maxRecDepth 100000 in
theorem fl_X1_45 : jw_fl RX1 45 1 7 := ⟨by decide, by decide, rfl, Or.inl ((jw_tt (jw_c2 _ (List.mem_of_getElem? (i := 203) rfl)) rfl))⟩
set_option maxRecDepth 100000 in
theorem fl_X1_49 : jw_fl RX1 49 1 8 := ⟨by decide, by decide, rfl, Or.inl ((jw_tt (jw_c2 _ (List.mem_of_getElem? (i := 204) rfl)) rfl))⟩
set_option maxRecDepth 100000 in
theorem fl_X1_52 : jw_fl RX1 52 1 9 := ⟨by decide, by decide, rfl, Or.inl ((jw_tt (jw_c2 _ (List.mem_of_getElem? (i := 205) rfl)) rfl))⟩
set_option maxRecDepth 100000 in
theorem fl_X1_61 : jw_fl RX1 61 1 17 := ⟨by decide, by decide, rfl, Or.inl ((jw_tt (jw_c2 _ (List.mem_of_getElem? (i := 214) rfl)) rfl))⟩
set_option maxRecDepth 100000 in
theorem fl_X1_65 : jw_fl RX1 65 1 15 := ⟨by decide, by decide, rfl, Or.inl ((jw_tt (jw_c2 _ (List.mem_of_getElem? (i := 211) rfl)) rfl))⟩
set_option maxRecDepth 100000 in
theorem fl_X1_69 : jw_fl RX1 69 1 18 := ⟨by decide, by decide, rfl, Or.inl ((jw_tt (jw_c2 _ (List.mem_of_getElem? (i := 215) rfl)) rfl))⟩
set_option maxRecDepth 100000 in
theorem fl_X1_72 : jw_fl RX1 72 6 6 := ⟨by decide, by decide, rfl, Or.inr ⟨"Lineorders", ((jw_tn (jw_c1 _ (List.mem_of_getElem? (i := 162) rfl)) rfl))⟩⟩
set_option maxRecDepth 100000 in
theorem fl_X1_84 : jw_fl RX1 84 1 19 := ⟨by decide, by decide, rfl, Or.inl ((jw_tt (jw_c2 _ (List.mem_of_getElem? (i := 216) rfl)) rfl))⟩
set_option maxRecDepth 100000 in
theorem fl_X1_9 : jw_fl RX1 9 1 0 := ⟨by decide, by decide, rfl, Or.inl ((jw_tt (jw_c2 _ (List.mem_of_getElem? (i := 196) rfl)) rfl))⟩
set_option maxRecDepth 100000 in
theorem fl_X1_96 : jw_fl RX1 96 9 0 := ⟨by decide, by decide, rfl, Or.inr ⟨"Lineorders", ((jw_tn (jw_c1 _ (List.mem_of_getElem? (i := 222) rfl)) rfl))⟩⟩
set_option maxRecDepth 100000 in
theorem fl_X1_99 : jw_fl RX1 99 7 2 := ⟨by decide, by decide, rfl, Or.inr ⟨"Lineorders", ((jw_tn (jw_c1 _ (List.mem_of_getElem? (i := 208) rfl)) rfl))⟩⟩
set_option maxRecDepth 100000 in
theorem fl_X2_101 : jw_fl RX2 101 5 8 := ⟨by decide, by decide, rfl, Or.inr ⟨"Lineorders", ((jw_tn (jw_c1 _ (List.mem_of_getElem? (i := 110) rfl)) rfl))⟩⟩
set_option maxRecDepth 100000 in
theorem fl_X2_110 : jw_fl RX2 110 4 3 := ⟨by decide, by decide, rfl, Or.inr ⟨"Lineorders", ((jw_tn (jw_c2 _ (List.mem_of_getElem? (i := 68) rfl)) rfl))⟩⟩
set_option maxRecDepth 100000 in
theorem fl_X2_114 : jw_fl RX2 114 4 4 := ⟨by decide, by decide, rfl, Or.inr ⟨"Lineorders", ((jw_tn (jw_c2 _ (List.mem_of_getElem? (i := 70) rfl)) rfl))⟩⟩
set_option maxRecDepth 100000 in
theorem fl_X2_15 : jw_fl RX2 15 2 1 := ⟨by decide, by decide, rfl, Or.inl ((jw_tt (jw_c2 _ (List.mem_of_getElem? (i := 103) rfl)) rfl))⟩
set_option maxRecDepth 100000 in
theorem fl_X2_19 : jw_fl RX2 19 2 2 := ⟨by decide, by decide, rfl, Or.inl ((jw_tt (jw_c2 _ (List.mem_of_getElem? (i := 104) rfl)) rfl))⟩
set_option maxRecDepth 100000 in
theorem fl_X2_23 : jw_fl RX2 23 2 3 := ⟨by decide, by decide, rfl, Or.inl ((jw_tt (jw_c2 _ (List.mem_of_getElem? (i := 105) rfl)) rfl))⟩
set_option maxRecDepth 100000 in
theorem fl_X2_27 : jw_fl RX2 27 2 4 := ⟨by decide, by decide, rfl, Or.inl ((jw_tt (jw_c2 _ (List.mem_of_getElem? (i := 106) rfl)) rfl))⟩
set_option maxRecDepth 100000 in
theorem fl_X2_37 : jw_fl RX2 37 5 3 := ⟨by decide, by decide, rfl, Or.inr ⟨"Lineorders", ((jw_tn (jw_c1 _ (List.mem_of_getElem? (i := 88) rfl)) rfl))⟩⟩
set_option maxRecDepth 100000 in
theorem fl_X2_49 : jw_fl RX2 49 5 5 := ⟨by decide, by decide, rfl, Or.inr ⟨"Lineorders", ((jw_tn (jw_c1 _ (List.mem_of_getElem? (i := 97) rfl)) rfl))⟩⟩
set_option maxRecDepth 100000 in
theorem fl_X2_65 : jw_fl RX2 65 4 1 := ⟨by decide, by decide, rfl, Or.inr ⟨"Lineorders", ((jw_tn (jw_c2 _ (List.mem_of_getElem? (i := 65) rfl)) rfl))⟩⟩
set_option maxRecDepth 100000 in
theorem fl_X2_74 : jw_fl RX2 74 5 6 := ⟨by decide, by decide, rfl, Or.inr ⟨"Lineorders", ((jw_tn (jw_c1 _ (List.mem_of_getElem? (i := 102) rfl)) rfl))⟩⟩
set_option maxRecDepth 100000 in
theorem fl_X2_77 : jw_fl RX2 77 4 7 := ⟨by decide, by decide, rfl, Or.inr ⟨"Lineorders", ((jw_tn (jw_c2 _ (List.mem_of_getElem? (i := 77) rfl)) rfl))⟩⟩
set_option maxRecDepth 100000 in
theorem fl_X2_84 : jw_fl RX2 84 4 6 := ⟨by decide, by decide, rfl, Or.inr ⟨"Lineorders", ((jw_tn (jw_c2 _ (List.mem_of_getElem? (i := 74) rfl)) rfl))⟩⟩
set_option maxRecDepth 100000 in
theorem fl_X2_9 : jw_fl RX2 9 2 0 := ⟨by decide, by decide, rfl, Or.inl ((jw_tt (jw_c2 _ (List.mem_of_getElem? (i := 102) rfl)) rfl))⟩
set_option maxRecDepth 100000 in
theorem fl_X2_94 : jw_fl RX2 94 2 5 := ⟨by decide, by decide, rfl, Or.inl ((jw_tt (jw_c2 _ (List.mem_of_getElem? (i := 109) rfl)) rfl))⟩
set_option maxRecDepth 100000 in
theorem fl_X2_97 : jw_fl RX2 97 4 5 := ⟨by decide, by decide, rfl, Or.inr ⟨"Lineorders", ((jw_tn (jw_c2 _ (List.mem_of_getElem? (i := 72) rfl)) rfl))⟩⟩
set_option maxRecDepth 100000 in
theorem fl_X2_98 : jw_fl RX2 98 5 7 := ⟨by decide, by decide, rfl, Or.inr ⟨"Lineorders", ((jw_tn (jw_c1 _ (List.mem_of_getElem? (i := 107) rfl)) rfl))⟩⟩
set_option maxRecDepth 100000 in
theorem fl_X3_11 : jw_fl RX3 11 3 0 := ⟨by decide, by decide, rfl, Or.inl ((jw_tt (jw_c2 _ (List.mem_of_getElem? (i := 40) rfl)) rfl))⟩
set_option maxRecDepth 100000 in
theorem fl_X3_17 : jw_fl RX3 17 3 1 := ⟨by decide, by decide, rfl, Or.inl ((jw_tt (jw_c2 _ (List.mem_of_getElem? (i := 41) rfl)) rfl))⟩
set_option maxRecDepth 100000 in
theorem fl_X3_22 : jw_fl RX3 22 3 2 := ⟨by decide, by decide, rfl, Or.inl ((jw_tt (jw_c2 _ (List.mem_of_getElem? (i := 42) rfl)) rfl))⟩
set_option maxRecDepth 100000 in
theorem fl_X3_36 : jw_fl RX3 36 3 3 := ⟨by decide, by decide, rfl, Or.inl ((jw_tt (jw_c2 _ (List.mem_of_getElem? (i := 43) rfl)) rfl))⟩
set_option maxRecDepth 100000 in
theorem fl_X3_47 : jw_fl RX3 47 9 4 := ⟨by decide, by decide, rfl, Or.inr ⟨"Lineorders", ((jw_tn (jw_c1 _ (List.mem_of_getElem? (i := 234) rfl)) rfl))⟩⟩
set_option maxRecDepth 100000 in
theorem fl_X3_50 : jw_fl RX3 50 3 4 := ⟨by decide, by decide, rfl, Or.inl ((jw_tt (jw_c2 _ (List.mem_of_getElem? (i := 45) rfl)) rfl))⟩
set_option maxRecDepth 100000 in
theorem fl_X4_15 : jw_fl RX4 15 4 1 := ⟨by decide, by decide, rfl, Or.inl ((jw_tt (jw_c2 _ (List.mem_of_getElem? (i := 64) rfl)) rfl))⟩
set_option maxRecDepth 100000 in
theorem fl_X4_19 : jw_fl RX4 19 4 2 := ⟨by decide, by decide, rfl, Or.inl ((jw_tt (jw_c2 _ (List.mem_of_getElem? (i := 66) rfl)) rfl))⟩
set_option maxRecDepth 100000 in
theorem fl_X4_23 : jw_fl RX4 23 4 3 := ⟨by decide, by decide, rfl, Or.inl ((jw_tt (jw_c2 _ (List.mem_of_getElem? (i := 67) rfl)) rfl))⟩
set_option maxRecDepth 100000 in
theorem fl_X4_27 : jw_fl RX4 27 4 4 := ⟨by decide, by decide, rfl, Or.inl ((jw_tt (jw_c2 _ (List.mem_of_getElem? (i := 69) rfl)) rfl))⟩
set_option maxRecDepth 100000 in
theorem fl_X4_30 : jw_fl RX4 30 4 5 := ⟨by decide, by decide, rfl, Or.inl ((jw_tt (jw_c2 _ (List.mem_of_getElem? (i := 71) rfl)) rfl))⟩
set_option maxRecDepth 100000 in
theorem fl_X4_65 : jw_fl RX4 65 4 6 := ⟨by decide, by decide, rfl, Or.inl ((jw_tt (jw_c2 _ (List.mem_of_getElem? (i := 73) rfl)) rfl))⟩
set_option maxRecDepth 100000 in
theorem fl_X4_68 : jw_fl RX4 68 4 7 := ⟨by decide, by decide, rfl, Or.inl ((jw_tt (jw_c2 _ (List.mem_of_getElem? (i := 76) rfl)) rfl))⟩
set_option maxRecDepth 100000 in
theorem fl_X4_71 : jw_fl RX4 71 6 7 := ⟨by decide, by decide, rfl, Or.inr ⟨"Lineorders", ((jw_tn (jw_c1 _ (List.mem_of_getElem? (i := 165) rfl)) rfl))⟩⟩
set_option maxRecDepth 100000 in
theorem fl_X4_76 : jw_fl RX4 76 6 1 := ⟨by decide, by decide, rfl, Or.inr ⟨"Lineorders", ((jw_tn (jw_c1 _ (List.mem_of_getElem? (i := 155) rfl)) rfl))⟩⟩
set_option maxRecDepth 100000 in
theorem fl_X4_79 : jw_fl RX4 79 6 2 := ⟨by decide, by decide, rfl, Or.inr ⟨"Lineorders", ((jw_tn (jw_c1 _ (List.mem_of_getElem? (i := 157) rfl)) rfl))⟩⟩
set_option maxRecDepth 100000 in
theorem fl_X4_84 : jw_fl RX4 84 9 3 := ⟨by decide, by decide, rfl, Or.inr ⟨"Lineorders", ((jw_tn (jw_c1 _ (List.mem_of_getElem? (i := 231) rfl)) rfl))⟩⟩
set_option maxRecDepth 100000 in
theorem fl_X4_89 : jw_fl RX4 89 9 0 := ⟨by decide, by decide, rfl, Or.inr ⟨"Lineorders", ((jw_tn (jw_c1 _ (List.mem_of_getElem? (i := 224) rfl)) rfl))⟩⟩
set_option maxRecDepth 100000 in
theorem fl_X4_9 : jw_fl RX4 9 4 0 := ⟨by decide, by decide, rfl, Or.inl ((jw_tt (jw_c2 _ (List.mem_of_getElem? (i := 63) rfl)) rfl))⟩
set_option maxRecDepth 100000 in
theorem fl_X4_93 : jw_fl RX4 93 7 2 := ⟨by decide, by decide, rfl, Or.inr ⟨"Lineorders", ((jw_tn (jw_c1 _ (List.mem_of_getElem? (i := 212) rfl)) rfl))⟩⟩
set_option maxRecDepth 100000 in
theorem fl_X5_12 : jw_fl RX5 12 5 0 := ⟨by decide, by decide, rfl, Or.inl ((jw_tt (jw_c1 _ (List.mem_of_getElem? (i := 76) rfl)) rfl))⟩
set_option maxRecDepth 100000 in
theorem fl_X5_18 : jw_fl RX5 18 5 1 := ⟨by decide, by decide, rfl, Or.inl ((jw_tt (jw_c1 _ (List.mem_of_getElem? (i := 80) rfl)) rfl))⟩
set_option maxRecDepth 100000 in
theorem fl_X5_21 : jw_fl RX5 21 5 2 := ⟨by decide, by decide, rfl, Or.inl ((jw_tt (jw_c1 _ (List.mem_of_getElem? (i := 84) rfl)) rfl))⟩
set_option maxRecDepth 100000 in
theorem fl_X5_27 : jw_fl RX5 27 5 3 := ⟨by decide, by decide, rfl, Or.inl ((jw_tt (jw_c1 _ (List.mem_of_getElem? (i := 87) rfl)) rfl))⟩
set_option maxRecDepth 100000 in
theorem fl_X5_31 : jw_fl RX5 31 5 4 := ⟨by decide, by decide, rfl, Or.inl ((jw_tt (jw_c1 _ (List.mem_of_getElem? (i := 92) rfl)) rfl))⟩
set_option maxRecDepth 100000 in
theorem fl_X5_34 : jw_fl RX5 34 5 5 := ⟨by decide, by decide, rfl, Or.inl ((jw_tt (jw_c1 _ (List.mem_of_getElem? (i := 96) rfl)) rfl))⟩
set_option maxRecDepth 100000 in
theorem fl_X5_37 : jw_fl RX5 37 5 6 := ⟨by decide, by decide, rfl, Or.inl ((jw_tt (jw_c1 _ (List.mem_of_getElem? (i := 101) rfl)) rfl))⟩
set_option maxRecDepth 100000 in
theorem fl_X5_40 : jw_fl RX5 40 5 7 := ⟨by decide, by decide, rfl, Or.inl ((jw_tt (jw_c1 _ (List.mem_of_getElem? (i := 106) rfl)) rfl))⟩
set_option maxRecDepth 100000 in
theorem fl_X5_43 : jw_fl RX5 43 5 8 := ⟨by decide, by decide, rfl, Or.inl ((jw_tt (jw_c1 _ (List.mem_of_getElem? (i := 109) rfl)) rfl))⟩
set_option maxRecDepth 100000 in
theorem fl_X5_46 : jw_fl RX5 46 5 9 := ⟨by decide, by decide, rfl, Or.inl ((jw_tt (jw_c1 _ (List.mem_of_getElem? (i := 112) rfl)) rfl))⟩
set_option maxRecDepth 100000 in
theorem fl_X5_49 : jw_fl RX5 49 5 10 := ⟨by decide, by decide, rfl, Or.inl ((jw_tt (jw_c1 _ (List.mem_of_getElem? (i := 116) rfl)) rfl))⟩
set_option maxRecDepth 100000 in
theorem fl_X5_53 : jw_fl RX5 53 5 11 := ⟨by decide, by decide, rfl, Or.inl ((jw_tt (jw_c1 _ (List.mem_of_getElem? (i := 118) rfl)) rfl))⟩
set_option maxRecDepth 100000 in
theorem fl_X5_56 : jw_fl RX5 56 5 12 := ⟨by decide, by decide, rfl, Or.inl ((jw_tt (jw_c1 _ (List.mem_of_getElem? (i := 120) rfl)) rfl))⟩
set_option maxRecDepth 100000 in
theorem fl_X5_59 : jw_fl RX5 59 5 13 := ⟨by decide, by decide, rfl, Or.inl ((jw_tt (jw_c1 _ (List.mem_of_getElem? (i := 122) rfl)) rfl))⟩
set_option maxRecDepth 100000 in
theorem fl_X6_107 : jw_fl RX6 107 5 1 := ⟨by decide, by decide, rfl, Or.inr ⟨"Lineorders", ((jw_tn (jw_c1 _ (List.mem_of_getElem? (i := 83) rfl)) rfl))⟩⟩
set_option maxRecDepth 100000 in
theorem fl_X6_11 : jw_fl RX6 11 6 0 := ⟨by decide, by decide, rfl, Or.inl ((jw_tt (jw_c1 _ (List.mem_of_getElem? (i := 153) rfl)) rfl))⟩
set_option maxRecDepth 100000 in
theorem fl_X6_110 : jw_fl RX6 110 0 0 := ⟨by decide, by decide, rfl, Or.inr ⟨"Lineorders", ((jw_tn (jw_c1 _ (List.mem_of_getElem? (i := 54) rfl)) rfl))⟩⟩
set_option maxRecDepth 100000 in
theorem fl_X6_118 : jw_fl RX6 118 0 1 := ⟨by decide, by decide, rfl, Or.inr ⟨"Lineorders", ((jw_tn (jw_c1 _ (List.mem_of_getElem? (i := 58) rfl)) rfl))⟩⟩
set_option maxRecDepth 100000 in
theorem fl_X6_124 : jw_fl RX6 124 0 2 := ⟨by decide, by decide, rfl, Or.inr ⟨"Lineorders", ((jw_tn (jw_c1 _ (List.mem_of_getElem? (i := 62) rfl)) rfl))⟩⟩
set_option maxRecDepth 100000 in
theorem fl_X6_127 : jw_fl RX6 127 0 3 := ⟨by decide, by decide, rfl, Or.inr ⟨"Lineorders", ((jw_tn (jw_c1 _ (List.mem_of_getElem? (i := 64) rfl)) rfl))⟩⟩
set_option maxRecDepth 100000 in
theorem fl_X6_140 : jw_fl RX6 140 5 5 := ⟨by decide, by decide, rfl, Or.inr ⟨"Lineorders", ((jw_tn (jw_c1 _ (List.mem_of_getElem? (i := 100) rfl)) rfl))⟩⟩
set_option maxRecDepth 100000 in
theorem fl_X6_143 : jw_fl RX6 143 5 2 := ⟨by decide, by decide, rfl, Or.inr ⟨"Lineorders", ((jw_tn (jw_c1 _ (List.mem_of_getElem? (i := 86) rfl)) rfl))⟩⟩
set_option maxRecDepth 100000 in
theorem fl_X6_155 : jw_fl RX6 155 5 7 := ⟨by decide, by decide, rfl, Or.inr ⟨"Lineorders", ((jw_tn (jw_c1 _ (List.mem_of_getElem? (i := 108) rfl)) rfl))⟩⟩
set_option maxRecDepth 100000 in
theorem fl_X6_162 : jw_fl RX6 162 5 8 := ⟨by decide, by decide, rfl, Or.inr ⟨"Lineorders", ((jw_tn (jw_c1 _ (List.mem_of_getElem? (i := 111) rfl)) rfl))⟩⟩
set_option maxRecDepth 100000 in
theorem fl_X6_165 : jw_fl RX6 165 5 6 := ⟨by decide, by decide, rfl, Or.inr ⟨"Lineorders", ((jw_tn (jw_c1 _ (List.mem_of_getElem? (i := 105) rfl)) rfl))⟩⟩
set_option maxRecDepth 100000 in
theorem fl_X6_168 : jw_fl RX6 168 6 9 := ⟨by decide, by decide, rfl, Or.inl ((jw_tt (jw_c1 _ (List.mem_of_getElem? (i := 167) rfl)) rfl))⟩
set_option maxRecDepth 100000 in
theorem fl_X6_174 : jw_fl RX6 174 6 8 := ⟨by decide, by decide, rfl, Or.inl ((jw_tt (jw_c1 _ (List.mem_of_getElem? (i := 166) rfl)) rfl))⟩
set_option maxRecDepth 100000 in
theorem fl_X6_18 : jw_fl RX6 18 6 1 := ⟨by decide, by decide, rfl, Or.inl ((jw_tt (jw_c1 _ (List.mem_of_getElem? (i := 154) rfl)) rfl))⟩
set_option maxRecDepth 100000 in
theorem fl_X6_22 : jw_fl RX6 22 6 2 := ⟨by decide, by decide, rfl, Or.inl ((jw_tt (jw_c1 _ (List.mem_of_getElem? (i := 156) rfl)) rfl))⟩
set_option maxRecDepth 100000 in
theorem fl_X6_26 : jw_fl RX6 26 6 3 := ⟨by decide, by decide, rfl, Or.inl ((jw_tt (jw_c1 _ (List.mem_of_getElem? (i := 158) rfl)) rfl))⟩
set_option maxRecDepth 100000 in
theorem fl_X6_30 : jw_fl RX6 30 6 6 := ⟨by decide, by decide, rfl, Or.inl ((jw_tt (jw_c1 _ (List.mem_of_getElem? (i := 161) rfl)) rfl))⟩
set_option maxRecDepth 100000 in
theorem fl_X6_34 : jw_fl RX6 34 6 4 := ⟨by decide, by decide, rfl, Or.inl ((jw_tt (jw_c1 _ (List.mem_of_getElem? (i := 159) rfl)) rfl))⟩
set_option maxRecDepth 100000 in
theorem fl_X6_43 : jw_fl RX6 43 6 5 := ⟨by decide, by decide, rfl, Or.inl ((jw_tt (jw_c1 _ (List.mem_of_getElem? (i := 160) rfl)) rfl))⟩
set_option maxRecDepth 100000 in
theorem fl_X6_46 : jw_fl RX6 46 6 7 := ⟨by decide, by decide, rfl, Or.inl ((jw_tt (jw_c1 _ (List.mem_of_getElem? (i := 164) rfl)) rfl))⟩
set_option maxRecDepth 100000 in
theorem fl_X6_69 : jw_fl RX6 69 5 3 := ⟨by decide, by decide, rfl, Or.inr ⟨"Lineorders", ((jw_tn (jw_c1 _ (List.mem_of_getElem? (i := 91) rfl)) rfl))⟩⟩
set_option maxRecDepth 100000 in
theorem fl_X6_76 : jw_fl RX6 76 5 9 := ⟨by decide, by decide, rfl, Or.inr ⟨"Lineorders", ((jw_tn (jw_c1 _ (List.mem_of_getElem? (i := 115) rfl)) rfl))⟩⟩
set_option maxRecDepth 100000 in
theorem fl_X6_90 : jw_fl RX6 90 5 4 := ⟨by decide, by decide, rfl, Or.inr ⟨"Lineorders", ((jw_tn (jw_c1 _ (List.mem_of_getElem? (i := 95) rfl)) rfl))⟩⟩
set_option maxRecDepth 100000 in
theorem fl_X6_99 : jw_fl RX6 99 5 0 := ⟨by decide, by decide, rfl, Or.inr ⟨"Lineorders", ((jw_tn (jw_c1 _ (List.mem_of_getElem? (i := 79) rfl)) rfl))⟩⟩
set_option maxRecDepth 100000 in
theorem fl_X7_15 : jw_fl RX7 15 7 0 := ⟨by decide, by decide, rfl, Or.inl ((jw_tt (jw_c1 _ (List.mem_of_getElem? (i := 205) rfl)) rfl))⟩
set_option maxRecDepth 100000 in
theorem fl_X7_21 : jw_fl RX7 21 7 1 := ⟨by decide, by decide, rfl, Or.inl ((jw_tt (jw_c1 _ (List.mem_of_getElem? (i := 206) rfl)) rfl))⟩
set_option maxRecDepth 100000 in
theorem fl_X7_25 : jw_fl RX7 25 7 2 := ⟨by decide, by decide, rfl, Or.inl ((jw_tt (jw_c1 _ (List.mem_of_getElem? (i := 207) rfl)) rfl))⟩
set_option maxRecDepth 100000 in
theorem fl_X8_14 : jw_fl RX8 14 8 0 := ⟨by decide, by decide, rfl, Or.inl ((jw_tt (jw_c2 _ (List.mem_of_getElem? (i := 16) rfl)) rfl))⟩
set_option maxRecDepth 100000 in
theorem fl_X8_20 : jw_fl RX8 20 8 1 := ⟨by decide, by decide, rfl, Or.inl ((jw_tt (jw_c2 _ (List.mem_of_getElem? (i := 19) rfl)) rfl))⟩
set_option maxRecDepth 100000 in
theorem fl_X8_23 : jw_fl RX8 23 8 2 := ⟨by decide, by decide, rfl, Or.inl ((jw_tt (jw_c2 _ (List.mem_of_getElem? (i := 20) rfl)) rfl))⟩
set_option maxRecDepth 100000 in
theorem fl_X8_27 : jw_fl RX8 27 8 3 := ⟨by decide, by decide, rfl, Or.inl ((jw_tt (jw_c2 _ (List.mem_of_getElem? (i := 21) rfl)) rfl))⟩
set_option maxRecDepth 100000 in
theorem fl_X8_39 : jw_fl RX8 39 7 2 := ⟨by decide, by decide, rfl, Or.inr ⟨"Lineorders", ((jw_tn (jw_c1 _ (List.mem_of_getElem? (i := 211) rfl)) rfl))⟩⟩
set_option maxRecDepth 100000 in
theorem fl_X9_14 : jw_fl RX9 14 9 0 := ⟨by decide, by decide, rfl, Or.inl ((jw_tt (jw_c1 _ (List.mem_of_getElem? (i := 221) rfl)) rfl))⟩
set_option maxRecDepth 100000 in
theorem fl_X9_20 : jw_fl RX9 20 9 1 := ⟨by decide, by decide, rfl, Or.inl ((jw_tt (jw_c1 _ (List.mem_of_getElem? (i := 226) rfl)) rfl))⟩
set_option maxRecDepth 100000 in
theorem fl_X9_24 : jw_fl RX9 24 9 2 := ⟨by decide, by decide, rfl, Or.inl ((jw_tt (jw_c1 _ (List.mem_of_getElem? (i := 227) rfl)) rfl))⟩
set_option maxRecDepth 100000 in
theorem fl_X9_37 : jw_fl RX9 37 9 3 := ⟨by decide, by decide, rfl, Or.inl ((jw_tt (jw_c1 _ (List.mem_of_getElem? (i := 228) rfl)) rfl))⟩
set_option maxRecDepth 100000 in
theorem fl_X9_41 : jw_fl RX9 41 7 2 := ⟨by decide, by decide, rfl, Or.inr ⟨"Lineorders", ((jw_tn (jw_c1 _ (List.mem_of_getElem? (i := 210) rfl)) rfl))⟩⟩
set_option maxRecDepth 100000 in
theorem fl_X9_55 : jw_fl RX9 55 9 4 := ⟨by decide, by decide, rfl, Or.inl ((jw_tt (jw_c1 _ (List.mem_of_getElem? (i := 235) rfl)) rfl))⟩
set_option maxRecDepth 100000 in
theorem fl_X10_123 : jw_fl RX10 123 9 0 := ⟨by decide, by decide, rfl, Or.inr ⟨"Lineorders", ((jw_tn (jw_c1 _ (List.mem_of_getElem? (i := 223) rfl)) rfl))⟩⟩
set_option maxRecDepth 100000 in
theorem fl_X10_126 : jw_fl RX10 126 7 2 := ⟨by decide, by decide, rfl, Or.inr ⟨"Lineorders", ((jw_tn (jw_c1 _ (List.mem_of_getElem? (i := 209) rfl)) rfl))⟩⟩
set_option maxRecDepth 100000 in
theorem fl_X10_129 : jw_fl RX10 129 5 4 := ⟨by decide, by decide, rfl, Or.inr ⟨"Lineorders", ((jw_tn (jw_c1 _ (List.mem_of_getElem? (i := 93) rfl)) rfl))⟩⟩
set_option maxRecDepth 100000 in
theorem fl_X10_135 : jw_fl RX10 135 9 3 := ⟨by decide, by decide, rfl, Or.inr ⟨"Lineorders", ((jw_tn (jw_c1 _ (List.mem_of_getElem? (i := 230) rfl)) rfl))⟩⟩
set_option maxRecDepth 100000 in
theorem fl_X10_138 : jw_fl RX10 138 10 12 := ⟨by decide, by decide, rfl, Or.inl ((jw_tt (jw_c2 _ (List.mem_of_getElem? (i := 145) rfl)) rfl))⟩
set_option maxRecDepth 100000 in
theorem fl_X10_141 : jw_fl RX10 141 10 13 := ⟨by decide, by decide, rfl, Or.inl ((jw_tt (jw_c2 _ (List.mem_of_getElem? (i := 146) rfl)) rfl))⟩
set_option maxRecDepth 100000 in
theorem fl_X10_144 : jw_fl RX10 144 5 0 := ⟨by decide, by decide, rfl, Or.inr ⟨"Lineorders", ((jw_tn (jw_c1 _ (List.mem_of_getElem? (i := 77) rfl)) rfl))⟩⟩
set_option maxRecDepth 100000 in
theorem fl_X10_15 : jw_fl RX10 15 10 1 := ⟨by decide, by decide, rfl, Or.inl ((jw_tt (jw_c2 _ (List.mem_of_getElem? (i := 134) rfl)) rfl))⟩
set_option maxRecDepth 100000 in
theorem fl_X10_151 : jw_fl RX10 151 5 1 := ⟨by decide, by decide, rfl, Or.inr ⟨"Lineorders", ((jw_tn (jw_c1 _ (List.mem_of_getElem? (i := 81) rfl)) rfl))⟩⟩
set_option maxRecDepth 100000 in
theorem fl_X10_163 : jw_fl RX10 163 0 0 := ⟨by decide, by decide, rfl, Or.inr ⟨"Lineorders", ((jw_tn (jw_c1 _ (List.mem_of_getElem? (i := 52) rfl)) rfl))⟩⟩
set_option maxRecDepth 100000 in
theorem fl_X10_168 : jw_fl RX10 168 0 1 := ⟨by decide, by decide, rfl, Or.inr ⟨"Lineorders", ((jw_tn (jw_c1 _ (List.mem_of_getElem? (i := 56) rfl)) rfl))⟩⟩
set_option maxRecDepth 100000 in
theorem fl_X10_181 : jw_fl RX10 181 0 2 := ⟨by decide, by decide, rfl, Or.inr ⟨"Lineorders", ((jw_tn (jw_c1 _ (List.mem_of_getElem? (i := 60) rfl)) rfl))⟩⟩
set_option maxRecDepth 100000 in
theorem fl_X10_184 : jw_fl RX10 184 5 3 := ⟨by decide, by decide, rfl, Or.inr ⟨"Lineorders", ((jw_tn (jw_c1 _ (List.mem_of_getElem? (i := 90) rfl)) rfl))⟩⟩
set_option maxRecDepth 100000 in
theorem fl_X10_187 : jw_fl RX10 187 6 6 := ⟨by decide, by decide, rfl, Or.inr ⟨"Lineorders", ((jw_tn (jw_c1 _ (List.mem_of_getElem? (i := 163) rfl)) rfl))⟩⟩
set_option maxRecDepth 100000 in
theorem fl_X10_188 : jw_fl RX10 188 5 5 := ⟨by decide, by decide, rfl, Or.inr ⟨"Lineorders", ((jw_tn (jw_c1 _ (List.mem_of_getElem? (i := 99) rfl)) rfl))⟩⟩
set_option maxRecDepth 100000 in
theorem fl_X10_19 : jw_fl RX10 19 10 2 := ⟨by decide, by decide, rfl, Or.inl ((jw_tt (jw_c2 _ (List.mem_of_getElem? (i := 135) rfl)) rfl))⟩
set_option maxRecDepth 100000 in
theorem fl_X10_204 : jw_fl RX10 204 10 11 := ⟨by decide, by decide, rfl, Or.inl ((jw_tt (jw_c2 _ (List.mem_of_getElem? (i := 144) rfl)) rfl))⟩
set_option maxRecDepth 100000 in
theorem fl_X10_210 : jw_fl RX10 210 5 6 := ⟨by decide, by decide, rfl, Or.inr ⟨"Lineorders", ((jw_tn (jw_c1 _ (List.mem_of_getElem? (i := 103) rfl)) rfl))⟩⟩
set_option maxRecDepth 100000 in
theorem fl_X10_23 : jw_fl RX10 23 10 3 := ⟨by decide, by decide, rfl, Or.inl ((jw_tt (jw_c2 _ (List.mem_of_getElem? (i := 136) rfl)) rfl))⟩
set_option maxRecDepth 100000 in
theorem fl_X10_232 : jw_fl RX10 232 8 0 := ⟨by decide, by decide, rfl, Or.inr ⟨"Lineorders", ((jw_tn (jw_c2 _ (List.mem_of_getElem? (i := 17) rfl)) rfl))⟩⟩
set_option maxRecDepth 100000 in
theorem fl_X10_26 : jw_fl RX10 26 10 4 := ⟨by decide, by decide, rfl, Or.inl ((jw_tt (jw_c2 _ (List.mem_of_getElem? (i := 137) rfl)) rfl))⟩
set_option maxRecDepth 100000 in
theorem fl_X10_260 : jw_fl RX10 260 5 2 := ⟨by decide, by decide, rfl, Or.inr ⟨"Lineorders", ((jw_tn (jw_c1 _ (List.mem_of_getElem? (i := 85) rfl)) rfl))⟩⟩
set_option maxRecDepth 100000 in
theorem fl_X10_30 : jw_fl RX10 30 10 5 := ⟨by decide, by decide, rfl, Or.inl ((jw_tt (jw_c2 _ (List.mem_of_getElem? (i := 138) rfl)) rfl))⟩
set_option maxRecDepth 100000 in
theorem fl_X10_34 : jw_fl RX10 34 10 6 := ⟨by decide, by decide, rfl, Or.inl ((jw_tt (jw_c2 _ (List.mem_of_getElem? (i := 139) rfl)) rfl))⟩
set_option maxRecDepth 100000 in
theorem fl_X10_43 : jw_fl RX10 43 10 7 := ⟨by decide, by decide, rfl, Or.inl ((jw_tt (jw_c2 _ (List.mem_of_getElem? (i := 140) rfl)) rfl))⟩
set_option maxRecDepth 100000 in
theorem fl_X10_50 : jw_fl RX10 50 10 8 := ⟨by decide, by decide, rfl, Or.inl ((jw_tt (jw_c2 _ (List.mem_of_getElem? (i := 141) rfl)) rfl))⟩
set_option maxRecDepth 100000 in
theorem fl_X10_53 : jw_fl RX10 53 10 9 := ⟨by decide, by decide, rfl, Or.inl ((jw_tt (jw_c2 _ (List.mem_of_getElem? (i := 142) rfl)) rfl))⟩
set_option maxRecDepth 100000 in
theorem fl_X10_57 : jw_fl RX10 57 10 10 := ⟨by decide, by decide, rfl, Or.inl ((jw_tt (jw_c2 _ (List.mem_of_getElem? (i := 143) rfl)) rfl))⟩
set_option maxRecDepth 100000 in
theorem fl_X10_60 : jw_fl RX10 60 10 15 := ⟨by decide, by decide, rfl, Or.inl ((jw_tt (jw_c2 _ (List.mem_of_getElem? (i := 148) rfl)) rfl))⟩
set_option maxRecDepth 100000 in
theorem fl_X10_64 : jw_fl RX10 64 10 16 := ⟨by decide, by decide, rfl, Or.inl ((jw_tt (jw_c2 _ (List.mem_of_getElem? (i := 149) rfl)) rfl))⟩
set_option maxRecDepth 100000 in
theorem fl_X10_67 : jw_fl RX10 67 2 5 := ⟨by decide, by decide, rfl, Or.inr ⟨"Lineorders", ((jw_tn (jw_c2 _ (List.mem_of_getElem? (i := 107) rfl)) rfl))⟩⟩
set_option maxRecDepth 100000 in
theorem fl_X10_85 : jw_fl RX10 85 5 9 := ⟨by decide, by decide, rfl, Or.inr ⟨"Lineorders", ((jw_tn (jw_c1 _ (List.mem_of_getElem? (i := 113) rfl)) rfl))⟩⟩
set_option maxRecDepth 100000 in
theorem fl_X10_9 : jw_fl RX10 9 10 0 := ⟨by decide, by decide, rfl, Or.inl ((jw_tt (jw_c2 _ (List.mem_of_getElem? (i := 133) rfl)) rfl))⟩
set_option maxRecDepth 100000 in
theorem fl_X10_90 : jw_fl RX10 90 10 14 := ⟨by decide, by decide, rfl, Or.inl ((jw_tt (jw_c2 _ (List.mem_of_getElem? (i := 147) rfl)) rfl))⟩
set_option maxRecDepth 100000 in
theorem fl_X11_113 : jw_fl RX11 113 11 13 := ⟨by decide, by decide, rfl, Or.inl ((jw_tt (jw_c3 _ (List.mem_of_getElem? (i := 31) rfl)) rfl))⟩
set_option maxRecDepth 100000 in
theorem fl_X11_120 : jw_fl RX11 120 10 16 := ⟨by decide, by decide, rfl, Or.inr ⟨"Lineorders", ((jw_tn (jw_c2 _ (List.mem_of_getElem? (i := 150) rfl)) rfl))⟩⟩
set_option maxRecDepth 100000 in
theorem fl_X11_123 : jw_fl RX11 123 11 14 := ⟨by decide, by decide, rfl, Or.inl ((jw_tt (jw_c3 _ (List.mem_of_getElem? (i := 32) rfl)) rfl))⟩
set_option maxRecDepth 100000 in
theorem fl_X11_144 : jw_fl RX11 144 1 15 := ⟨by decide, by decide, rfl, Or.inr ⟨"Lineorders", ((jw_tn (jw_c2 _ (List.mem_of_getElem? (i := 212) rfl)) rfl))⟩⟩
set_option maxRecDepth 100000 in
theorem fl_X11_149 : jw_fl RX11 149 3 3 := ⟨by decide, by decide, rfl, Or.inr ⟨"Lineorders", ((jw_tn (jw_c2 _ (List.mem_of_getElem? (i := 44) rfl)) rfl))⟩⟩
set_option maxRecDepth 100000 in
theorem fl_X11_15 : jw_fl RX11 15 11 1 := ⟨by decide, by decide, rfl, Or.inl ((jw_tt (jw_c3 _ (List.mem_of_getElem? (i := 19) rfl)) rfl))⟩
set_option maxRecDepth 100000 in
theorem fl_X11_160 : jw_fl RX11 160 9 0 := ⟨by decide, by decide, rfl, Or.inr ⟨"Lineorders", ((jw_tn (jw_c1 _ (List.mem_of_getElem? (i := 225) rfl)) rfl))⟩⟩
set_option maxRecDepth 100000 in
theorem fl_X11_164 : jw_fl RX11 164 7 2 := ⟨by decide, by decide, rfl, Or.inr ⟨"Lineorders", ((jw_tn (jw_c1 _ (List.mem_of_getElem? (i := 213) rfl)) rfl))⟩⟩
set_option maxRecDepth 100000 in
theorem fl_X11_18 : jw_fl RX11 18 11 2 := ⟨by decide, by decide, rfl, Or.inl ((jw_tt (jw_c3 _ (List.mem_of_getElem? (i := 20) rfl)) rfl))⟩
set_option maxRecDepth 100000 in
theorem fl_X11_189 : jw_fl RX11 189 9 3 := ⟨by decide, by decide, rfl, Or.inr ⟨"Lineorders", ((jw_tn (jw_c1 _ (List.mem_of_getElem? (i := 232) rfl)) rfl))⟩⟩
set_option maxRecDepth 100000 in
theorem fl_X11_22 : jw_fl RX11 22 11 3 := ⟨by decide, by decide, rfl, Or.inl ((jw_tt (jw_c3 _ (List.mem_of_getElem? (i := 21) rfl)) rfl))⟩
set_option maxRecDepth 100000 in
theorem fl_X11_239 : jw_fl RX11 239 4 6 := ⟨by decide, by decide, rfl, Or.inr ⟨"Lineorders", ((jw_tn (jw_c2 _ (List.mem_of_getElem? (i := 75) rfl)) rfl))⟩⟩
set_option maxRecDepth 100000 in
theorem fl_X11_242 : jw_fl RX11 242 4 7 := ⟨by decide, by decide, rfl, Or.inr ⟨"Lineorders", ((jw_tn (jw_c2 _ (List.mem_of_getElem? (i := 78) rfl)) rfl))⟩⟩
set_option maxRecDepth 100000 in
theorem fl_X11_25 : jw_fl RX11 25 11 4 := ⟨by decide, by decide, rfl, Or.inl ((jw_tt (jw_c3 _ (List.mem_of_getElem? (i := 22) rfl)) rfl))⟩
set_option maxRecDepth 100000 in
theorem fl_X11_31 : jw_fl RX11 31 11 5 := ⟨by decide, by decide, rfl, Or.inl ((jw_tt (jw_c3 _ (List.mem_of_getElem? (i := 23) rfl)) rfl))⟩
set_option maxRecDepth 100000 in
theorem fl_X11_38 : jw_fl RX11 38 11 6 := ⟨by decide, by decide, rfl, Or.inl ((jw_tt (jw_c3 _ (List.mem_of_getElem? (i := 24) rfl)) rfl))⟩
set_option maxRecDepth 100000 in
theorem fl_X11_45 : jw_fl RX11 45 11 7 := ⟨by decide, by decide, rfl, Or.inl ((jw_tt (jw_c3 _ (List.mem_of_getElem? (i := 25) rfl)) rfl))⟩
set_option maxRecDepth 100000 in
theorem fl_X11_52 : jw_fl RX11 52 11 11 := ⟨by decide, by decide, rfl, Or.inl ((jw_tt (jw_c3 _ (List.mem_of_getElem? (i := 29) rfl)) rfl))⟩
set_option maxRecDepth 100000 in
theorem fl_X11_61 : jw_fl RX11 61 11 8 := ⟨by decide, by decide, rfl, Or.inl ((jw_tt (jw_c3 _ (List.mem_of_getElem? (i := 26) rfl)) rfl))⟩
set_option maxRecDepth 100000 in
theorem fl_X11_75 : jw_fl RX11 75 11 9 := ⟨by decide, by decide, rfl, Or.inl ((jw_tt (jw_c3 _ (List.mem_of_getElem? (i := 27) rfl)) rfl))⟩
set_option maxRecDepth 100000 in
theorem fl_X11_84 : jw_fl RX11 84 11 10 := ⟨by decide, by decide, rfl, Or.inl ((jw_tt (jw_c3 _ (List.mem_of_getElem? (i := 28) rfl)) rfl))⟩
set_option maxRecDepth 100000 in
theorem fl_X11_9 : jw_fl RX11 9 11 0 := ⟨by decide, by decide, rfl, Or.inl ((jw_tt (jw_c3 _ (List.mem_of_getElem? (i := 18) rfl)) rfl))⟩
set_option maxRecDepth 100000 in
theorem fl_X11_95 : jw_fl RX11 95 11 12 := ⟨by decide, by decide, rfl, Or.inl ((jw_tt (jw_c3 _ (List.mem_of_getElem? (i := 30) rfl)) rfl))⟩
set_option maxRecDepth 100000 in
theorem inst_0 : Cond.instantiable (jw_cn 0) (jw_nf 0) ∈ jw_T := (jw_tt (jw_c1 _ (List.mem_of_getElem? (i := 46) rfl)) rfl)
set_option maxRecDepth 100000 in
theorem ini_0 : Cond.initialized (jw_cn 0) ∈ jw_T := (jw_tt (jw_c1 _ (List.mem_of_getElem? (i := 4) rfl)) rfl)
set_option maxRecDepth 100000 in
theorem inst_1 : Cond.instantiable (jw_cn 1) (jw_nf 1) ∈ jw_T := (jw_tt (jw_c2 _ (List.mem_of_getElem? (i := 187) rfl)) rfl)
set_option maxRecDepth 100000 in
theorem ini_1 : Cond.initialized (jw_cn 1) ∈ jw_T := (jw_tt (jw_c1 _ (List.mem_of_getElem? (i := 13) rfl)) rfl)
set_option maxRecDepth 100000 in
theorem inst_2 : Cond.instantiable (jw_cn 2) (jw_nf 2) ∈ jw_T := (jw_tt (jw_c2 _ (List.mem_of_getElem? (i := 97) rfl)) rfl)
set_option maxRecDepth 100000 in
theorem ini_2 : Cond.initialized (jw_cn 2) ∈ jw_T := (jw_tt (jw_c1 _ (List.mem_of_getElem? (i := 11) rfl)) rfl)
set_option maxRecDepth 100000 in
theorem inst_3 : Cond.instantiable (jw_cn 3) (jw_nf 3) ∈ jw_T := (jw_tt (jw_c2 _ (List.mem_of_getElem? (i := 32) rfl)) rfl)
set_option maxRecDepth 100000 in
theorem ini_3 : Cond.initialized (jw_cn 3) ∈ jw_T := (jw_tt (jw_c1 _ (List.mem_of_getElem? (i := 9) rfl)) rfl)
set_option maxRecDepth 100000 in
theorem inst_4 : Cond.instantiable (jw_cn 4) (jw_nf 4) ∈ jw_T := (jw_tt (jw_c2 _ (List.mem_of_getElem? (i := 58) rfl)) rfl)
set_option maxRecDepth 100000 in
theorem ini_4 : Cond.initialized (jw_cn 4) ∈ jw_T := (jw_tt (jw_c1 _ (List.mem_of_getElem? (i := 10) rfl)) rfl)
set_option maxRecDepth 100000 in
theorem inst_5 : Cond.instantiable (jw_cn 5) (jw_nf 5) ∈ jw_T := (jw_tt (jw_c1 _ (List.mem_of_getElem? (i := 40) rfl)) rfl)
set_option maxRecDepth 100000 in
theorem ini_5 : Cond.initialized (jw_cn 5) ∈ jw_T := (jw_tt (jw_c1 _ (List.mem_of_getElem? (i := 3) rfl)) rfl)
set_option maxRecDepth 100000 in
theorem inst_6 : Cond.instantiable (jw_cn 6) (jw_nf 6) ∈ jw_T := (jw_tt (jw_c1 _ (List.mem_of_getElem? (i := 33) rfl)) rfl)
set_option maxRecDepth 100000 in
theorem ini_6 : Cond.initialized (jw_cn 6) ∈ jw_T := (jw_tt (jw_c1 _ (List.mem_of_getElem? (i := 2) rfl)) rfl)
set_option maxRecDepth 100000 in
theorem inst_7 : Cond.instantiable (jw_cn 7) (jw_nf 7) ∈ jw_T := (jw_tt (jw_c1 _ (List.mem_of_getElem? (i := 197) rfl)) rfl)
set_option maxRecDepth 100000 in
theorem ini_7 : Cond.initialized (jw_cn 7) ∈ jw_T := (jw_tt (jw_c1 _ (List.mem_of_getElem? (i := 6) rfl)) rfl)
set_option maxRecDepth 100000 in
theorem inst_8 : Cond.instantiable (jw_cn 8) (jw_nf 8) ∈ jw_T := (jw_tt (jw_c2 _ (List.mem_of_getElem? (i := 8) rfl)) rfl)
set_option maxRecDepth 100000 in
theorem ini_8 : Cond.initialized (jw_cn 8) ∈ jw_T := (jw_tt (jw_c1 _ (List.mem_of_getElem? (i := 8) rfl)) rfl)
set_option maxRecDepth 100000 in
theorem inst_9 : Cond.instantiable (jw_cn 9) (jw_nf 9) ∈ jw_T := (jw_tt (jw_c1 _ (List.mem_of_getElem? (i := 191) rfl)) rfl)
set_option maxRecDepth 100000 in
theorem ini_9 : Cond.initialized (jw_cn 9) ∈ jw_T := (jw_tt (jw_c1 _ (List.mem_of_getElem? (i := 5) rfl)) rfl)
set_option maxRecDepth 100000 in
theorem inst_10 : Cond.instantiable (jw_cn 10) (jw_nf 10) ∈ jw_T := (jw_tt (jw_c2 _ (List.mem_of_getElem? (i := 124) rfl)) rfl)
set_option maxRecDepth 100000 in
theorem ini_10 : Cond.initialized (jw_cn 10) ∈ jw_T := (jw_tt (jw_c1 _ (List.mem_of_getElem? (i := 12) rfl)) rfl)
set_option maxRecDepth 100000 in
theorem ol_X0_1 : Cond.methodLink RX0 1 Lib.objectInit ∈ jw_T := (jw_tt (jw_c1 _ (List.mem_of_getElem? (i := 50) rfl)) rfl)
set_option maxRecDepth 100000 in
theorem oi_0 : Cond.instanceMethod Lib.objectInit ∈ jw_T := (jw_tt (jw_c1 _ (List.mem_of_getElem? (i := 28) rfl)) rfl)
set_option maxRecDepth 100000 in
theorem oc_0 : Cond.code Lib.objectInit ⟨#[0xb1]⟩ 1 none ∈ jw_T := (jw_tt (jw_c1 _ (List.mem_of_getElem? (i := 29) rfl)) rfl)
set_option maxRecDepth 100000 in
theorem ol_X1_3 : Cond.methodLink RX1 3 Lib.objectInit ∈ jw_T := (jw_tt (jw_c2 _ (List.mem_of_getElem? (i := 191) rfl)) rfl)
set_option maxRecDepth 100000 in
theorem ol_X2_3 : Cond.methodLink RX2 3 Lib.objectInit ∈ jw_T := (jw_tt (jw_c2 _ (List.mem_of_getElem? (i := 101) rfl)) rfl)
set_option maxRecDepth 100000 in
theorem ol_X3_3 : Cond.methodLink RX3 3 Lib.objectInit ∈ jw_T := (jw_tt (jw_c2 _ (List.mem_of_getElem? (i := 36) rfl)) rfl)
set_option maxRecDepth 100000 in
theorem ol_X4_3 : Cond.methodLink RX4 3 Lib.objectInit ∈ jw_T := (jw_tt (jw_c2 _ (List.mem_of_getElem? (i := 62) rfl)) rfl)
set_option maxRecDepth 100000 in
theorem ol_X5_3 : Cond.methodLink RX5 3 Lib.objectInit ∈ jw_T := (jw_tt (jw_c1 _ (List.mem_of_getElem? (i := 44) rfl)) rfl)
set_option maxRecDepth 100000 in
theorem ol_X6_3 : Cond.methodLink RX6 3 Lib.objectInit ∈ jw_T := (jw_tt (jw_c1 _ (List.mem_of_getElem? (i := 37) rfl)) rfl)
set_option maxRecDepth 100000 in
theorem ol_X7_3 : Cond.methodLink RX7 3 Lib.objectInit ∈ jw_T := (jw_tt (jw_c1 _ (List.mem_of_getElem? (i := 201) rfl)) rfl)
set_option maxRecDepth 100000 in
theorem ol_X8_3 : Cond.methodLink RX8 3 Lib.objectInit ∈ jw_T := (jw_tt (jw_c2 _ (List.mem_of_getElem? (i := 12) rfl)) rfl)
set_option maxRecDepth 100000 in
theorem ol_X9_3 : Cond.methodLink RX9 3 Lib.objectInit ∈ jw_T := (jw_tt (jw_c1 _ (List.mem_of_getElem? (i := 195) rfl)) rfl)
set_option maxRecDepth 100000 in
theorem ol_X10_3 : Cond.methodLink RX10 3 Lib.objectInit ∈ jw_T := (jw_tt (jw_c2 _ (List.mem_of_getElem? (i := 128) rfl)) rfl)
set_option maxRecDepth 100000 in
theorem ol_X11_1 : Cond.methodLink RX11 1 Lib.objectInit ∈ jw_T := (jw_tt (jw_c1 _ (List.mem_of_getElem? (i := 27) rfl)) rfl)
set_option maxRecDepth 100000 in
theorem te_IndexOutOfBoundsException_130_134 : jw_tE "java/lang/IndexOutOfBoundsException" 130 134 := ⟨by decide +kernel, by decide +kernel, (jw_tt (jw_c4 _ (List.mem_of_getElem? (i := 34) rfl)) rfl), (jw_tt (jw_c1 _ (List.mem_of_getElem? (i := 20) rfl)) rfl), (fun w hw => jw_Tin ((by decide +kernel : ∀ w ∈ (vx_atS RX11 134 "java/lang/IndexOutOfBoundsException" ["java/lang/RuntimeException", "java/lang/Exception"]).filter goodWord, w ∈ lw_tbl) w hw) (List.mem_filter.mp hw).2), (fun w hw => List.mem_filter.mpr ⟨((by decide +kernel : ∀ w ∈ (vx_atS RX11 134 "java/lang/IndexOutOfBoundsException" ["java/lang/RuntimeException", "java/lang/Exception"]).filter (fun w => !goodWord w), w ∈ tables_1 ∧ jw_nest w = true) w hw).1, ((by decide +kernel : ∀ w ∈ (vx_atS RX11 134 "java/lang/IndexOutOfBoundsException" ["java/lang/RuntimeException", "java/lang/Exception"]).filter (fun w => !goodWord w), w ∈ tables_1 ∧ jw_nest w = true) w hw).2⟩), (by decide +kernel)⟩
set_option maxRecDepth 100000 in
theorem te_IllegalStateException_99_103 : jw_tE "java/lang/IllegalStateException" 99 103 := ⟨by decide +kernel, by decide +kernel, (jw_tt (jw_c3 _ (List.mem_of_getElem? (i := 140) rfl)) rfl), (jw_tt (jw_c1 _ (List.mem_of_getElem? (i := 18) rfl)) rfl), (fun w hw => jw_Tin ((by decide +kernel : ∀ w ∈ (vx_atS RX11 103 "java/lang/IllegalStateException" ["java/lang/RuntimeException", "java/lang/Exception"]).filter goodWord, w ∈ lw_tbl) w hw) (List.mem_filter.mp hw).2), (fun w hw => List.mem_filter.mpr ⟨((by decide +kernel : ∀ w ∈ (vx_atS RX11 103 "java/lang/IllegalStateException" ["java/lang/RuntimeException", "java/lang/Exception"]).filter (fun w => !goodWord w), w ∈ tables_1 ∧ jw_nest w = true) w hw).1, ((by decide +kernel : ∀ w ∈ (vx_atS RX11 103 "java/lang/IllegalStateException" ["java/lang/RuntimeException", "java/lang/Exception"]).filter (fun w => !goodWord w), w ∈ tables_1 ∧ jw_nest w = true) w hw).2⟩), (by decide +kernel)⟩
set_option maxRecDepth 100000 in
theorem te_IllegalArgumentException_88_92 : jw_tE "java/lang/IllegalArgumentException" 88 92 := ⟨by decide +kernel, by decide +kernel, (jw_tt (jw_c3 _ (List.mem_of_getElem? (i := 73) rfl)) rfl), (jw_tt (jw_c1 _ (List.mem_of_getElem? (i := 17) rfl)) rfl), (fun w hw => jw_Tin ((by decide +kernel : ∀ w ∈ (vx_atS RX11 92 "java/lang/IllegalArgumentException" ["java/lang/RuntimeException", "java/lang/Exception"]).filter goodWord, w ∈ lw_tbl) w hw) (List.mem_filter.mp hw).2), (fun w hw => List.mem_filter.mpr ⟨((by decide +kernel : ∀ w ∈ (vx_atS RX11 92 "java/lang/IllegalArgumentException" ["java/lang/RuntimeException", "java/lang/Exception"]).filter (fun w => !goodWord w), w ∈ tables_1 ∧ jw_nest w = true) w hw).1, ((by decide +kernel : ∀ w ∈ (vx_atS RX11 92 "java/lang/IllegalArgumentException" ["java/lang/RuntimeException", "java/lang/Exception"]).filter (fun w => !goodWord w), w ∈ tables_1 ∧ jw_nest w = true) w hw).2⟩), (by decide +kernel)⟩
theorem th_X11_at_18 : jw_th uX11_at 18 "java/lang/IndexOutOfBoundsException" := ⟨⟨rfl, rfl⟩, 130, 181, 134, "no such line or place", te_IndexOutOfBoundsException_130_134, (by decide +kernel), dX11_at_18, dX11_at_21, dX11_at_22, dX11_at_24, dX11_at_27⟩
theorem th_X11_find_19 : jw_th uX11_find 19 "java/lang/IllegalStateException" := ⟨⟨rfl, rfl⟩, 99, 111, 103, "the tape has a fault", te_IllegalStateException_99_103, (by decide +kernel), dX11_find_19, dX11_find_22, dX11_find_23, dX11_find_25, dX11_find_28⟩
theorem th_X11_findEnd_14 : jw_th uX11_findEnd 14 "java/lang/IndexOutOfBoundsException" := ⟨⟨rfl, rfl⟩, 130, 172, 134, "no such line", te_IndexOutOfBoundsException_130_134, (by decide +kernel), dX11_findEnd_14, dX11_findEnd_17, dX11_findEnd_18, dX11_findEnd_20, dX11_findEnd_23⟩
theorem th_X11_findEnd_43 : jw_th uX11_findEnd 43 "java/lang/IllegalStateException" := ⟨⟨rfl, rfl⟩, 99, 111, 103, "the tape has a fault", te_IllegalStateException_99_103, (by decide +kernel), dX11_findEnd_43, dX11_findEnd_46, dX11_findEnd_47, dX11_findEnd_49, dX11_findEnd_52⟩
theorem th_X11_findStart_14 : jw_th uX11_findStart 14 "java/lang/IndexOutOfBoundsException" := ⟨⟨rfl, rfl⟩, 130, 172, 134, "no such line", te_IndexOutOfBoundsException_130_134, (by decide +kernel), dX11_findStart_14, dX11_findStart_17, dX11_findStart_18, dX11_findStart_20, dX11_findStart_23⟩
theorem th_X11_findStart_43 : jw_th uX11_findStart 43 "java/lang/IllegalStateException" := ⟨⟨rfl, rfl⟩, 99, 111, 103, "the tape has a fault", te_IllegalStateException_99_103, (by decide +kernel), dX11_findStart_43, dX11_findStart_46, dX11_findStart_47, dX11_findStart_49, dX11_findStart_52⟩
theorem th_X11_id_14 : jw_th uX11_id 14 "java/lang/IndexOutOfBoundsException" := ⟨⟨rfl, rfl⟩, 130, 172, 134, "no such line", te_IndexOutOfBoundsException_130_134, (by decide +kernel), dX11_id_14, dX11_id_17, dX11_id_18, dX11_id_20, dX11_id_23⟩
theorem th_X11_keep_37 : jw_th uX11_keep 37 "java/lang/IllegalStateException" := ⟨⟨rfl, rfl⟩, 99, 111, 103, "the tape has a fault", te_IllegalStateException_99_103, (by decide +kernel), dX11_keep_37, dX11_keep_40, dX11_keep_41, dX11_keep_43, dX11_keep_46⟩
theorem th_X11_keep_8 : jw_th uX11_keep 8 "java/lang/IndexOutOfBoundsException" := ⟨⟨rfl, rfl⟩, 130, 132, 134, "no such script", te_IndexOutOfBoundsException_130_134, (by decide +kernel), dX11_keep_8, dX11_keep_11, dX11_keep_12, dX11_keep_14, dX11_keep_17⟩
theorem th_X11_length_14 : jw_th uX11_length 14 "java/lang/IndexOutOfBoundsException" := ⟨⟨rfl, rfl⟩, 130, 172, 134, "no such line", te_IndexOutOfBoundsException_130_134, (by decide +kernel), dX11_length_14, dX11_length_17, dX11_length_18, dX11_length_20, dX11_length_23⟩
theorem th_X11_mark_9 : jw_th uX11_mark 9 "java/lang/IndexOutOfBoundsException" := ⟨⟨rfl, rfl⟩, 130, 192, 134, "no such mark", te_IndexOutOfBoundsException_130_134, (by decide +kernel), dX11_mark_9, dX11_mark_12, dX11_mark_13, dX11_mark_15, dX11_mark_18⟩
theorem th_X11_play_28 : jw_th uX11_play 28 "java/lang/IllegalStateException" := ⟨⟨rfl, rfl⟩, 99, 135, 103, "no script was kept there", te_IllegalStateException_99_103, (by decide +kernel), dX11_play_28, dX11_play_31, dX11_play_32, dX11_play_34, dX11_play_37⟩
theorem th_X11_play_8 : jw_th uX11_play 8 "java/lang/IndexOutOfBoundsException" := ⟨⟨rfl, rfl⟩, 130, 132, 134, "no such script", te_IndexOutOfBoundsException_130_134, (by decide +kernel), dX11_play_8, dX11_play_11, dX11_play_12, dX11_play_14, dX11_play_17⟩
theorem th_X11_run_19 : jw_th uX11_run 19 "java/lang/IllegalStateException" := ⟨⟨rfl, rfl⟩, 99, 111, 103, "the tape has a fault", te_IllegalStateException_99_103, (by decide +kernel), dX11_run_19, dX11_run_22, dX11_run_23, dX11_run_25, dX11_run_28⟩
theorem th_X11_sample_21 : jw_th uX11_sample 21 "java/lang/IllegalArgumentException" := ⟨⟨rfl, rfl⟩, 88, 198, 92, "seed or many is out of range", te_IllegalArgumentException_88_92, (by decide +kernel), dX11_sample_21, dX11_sample_24, dX11_sample_25, dX11_sample_27, dX11_sample_30⟩
theorem th_X11_sample_48 : jw_th uX11_sample 48 "java/lang/IllegalStateException" := ⟨⟨rfl, rfl⟩, 99, 200, 103, "too many lines", te_IllegalStateException_99_103, (by decide +kernel), dX11_sample_48, dX11_sample_51, dX11_sample_52, dX11_sample_54, dX11_sample_57⟩
theorem th_X11_stream_28 : jw_th uX11_stream 28 "java/lang/IllegalStateException" := ⟨⟨rfl, rfl⟩, 99, 135, 103, "no script was kept there", te_IllegalStateException_99_103, (by decide +kernel), dX11_stream_28, dX11_stream_31, dX11_stream_32, dX11_stream_34, dX11_stream_37⟩
theorem th_X11_stream_8 : jw_th uX11_stream 8 "java/lang/IndexOutOfBoundsException" := ⟨⟨rfl, rfl⟩, 130, 132, 134, "no such script", te_IndexOutOfBoundsException_130_134, (by decide +kernel), dX11_stream_8, dX11_stream_11, dX11_stream_12, dX11_stream_14, dX11_stream_17⟩
theorem th_X11_type_12 : jw_th uX11_type 12 "java/lang/IllegalArgumentException" := ⟨⟨rfl, rfl⟩, 88, 90, 92, "no such sign", te_IllegalArgumentException_88_92, (by decide +kernel), dX11_type_12, dX11_type_15, dX11_type_16, dX11_type_18, dX11_type_21⟩
theorem th_X11_type_41 : jw_th uX11_type 41 "java/lang/IllegalStateException" := ⟨⟨rfl, rfl⟩, 99, 101, 103, "the tape is full", te_IllegalStateException_99_103, (by decide +kernel), dX11_type_41, dX11_type_44, dX11_type_45, dX11_type_47, dX11_type_50⟩
theorem th_X11_undo_10 : jw_th uX11_undo 10 "java/lang/IllegalStateException" := ⟨⟨rfl, rfl⟩, 99, 152, 103, "no deed is kept", te_IllegalStateException_99_103, (by decide +kernel), dX11_undo_10, dX11_undo_13, dX11_undo_14, dX11_undo_16, dX11_undo_19⟩
theorem th_X11_undoRun_10 : jw_th uX11_undoRun 10 "java/lang/IllegalStateException" := ⟨⟨rfl, rfl⟩, 99, 152, 103, "no deed is kept", te_IllegalStateException_99_103, (by decide +kernel), dX11_undoRun_10, dX11_undoRun_13, dX11_undoRun_14, dX11_undoRun_16, dX11_undoRun_19⟩
