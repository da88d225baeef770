theorem dX12_stream_5 : decode cX12_stream 5 = .ok (.ifCond .ne 7, 3) := by decide +kernel
theorem dX12_stream_8 : decode cX12_stream 8 = .ok (.iconst 1, 1) := by decide +kernel
theorem dX12_stream_9 : decode cX12_stream 9 = .ok (.goto 17, 3) := by decide +kernel
theorem dX12_stream_12 : decode cX12_stream 12 = .ok (.aload_n 0, 1) := by decide +kernel
theorem dX12_stream_13 : decode cX12_stream 13 = .ok (.getfield 19, 3) := by decide +kernel
theorem dX12_stream_16 : decode cX12_stream 16 = .ok (.iload_n 1, 1) := by decide +kernel
theorem dX12_stream_17 : decode cX12_stream 17 = .ok (.baload, 1) := by decide +kernel
theorem dX12_stream_18 : decode cX12_stream 18 = .ok (.ifCond .ne 7, 3) := by decide +kernel
theorem dX12_stream_21 : decode cX12_stream 21 = .ok (.iconst 2, 1) := by decide +kernel
theorem dX12_stream_22 : decode cX12_stream 22 = .ok (.goto 4, 3) := by decide +kernel
theorem dX12_stream_25 : decode cX12_stream 25 = .ok (.iconst 0, 1) := by decide +kernel
theorem dX12_stream_26 : decode cX12_stream 26 = .ok (.putfield 105, 3) := by decide +kernel
theorem dX12_stream_29 : decode cX12_stream 29 = .ok (.aload_n 0, 1) := by decide +kernel
theorem dX12_stream_30 : decode cX12_stream 30 = .ok (.getfield 105, 3) := by decide +kernel
theorem dX12_stream_33 : decode cX12_stream 33 = .ok (.ifCond .le 5, 3) := by decide +kernel
theorem dX12_stream_36 : decode cX12_stream 36 = .ok (.iconst 0, 1) := by decide +kernel
theorem dX12_stream_37 : decode cX12_stream 37 = .ok (.ireturn, 1) := by decide +kernel
theorem dX12_stream_38 : decode cX12_stream 38 = .ok (.aload_n 0, 1) := by decide +kernel
theorem dX12_stream_39 : decode cX12_stream 39 = .ok (.iload_n 1, 1) := by decide +kernel
theorem dX12_stream_40 : decode cX12_stream 40 = .ok (.invokevirtual 694, 3) := by decide +kernel
theorem dX12_stream_43 : decode cX12_stream 43 = .ok (.aload_n 0, 1) := by decide +kernel
theorem dX12_stream_44 : decode cX12_stream 44 = .ok (.invokevirtual 697, 3) := by decide +kernel
theorem dX12_stream_47 : decode cX12_stream 47 = .ok (.ireturn, 1) := by decide +kernel
theorem dX12_reason_0 : decode cX12_reason 0 = .ok (.aload_n 0, 1) := by decide +kernel
theorem dX12_reason_1 : decode cX12_reason 1 = .ok (.iconst 0, 1) := by decide +kernel
theorem dX12_reason_2 : decode cX12_reason 2 = .ok (.putfield 105, 3) := by decide +kernel
theorem dX12_reason_5 : decode cX12_reason 5 = .ok (.aload_n 0, 1) := by decide +kernel
theorem dX12_reason_6 : decode cX12_reason 6 = .ok (.getfield 518, 3) := by decide +kernel
theorem dX12_reason_9 : decode cX12_reason 9 = .ok (.ireturn, 1) := by decide +kernel
theorem dX12_scriptLength_0 : decode cX12_scriptLength 0 = .ok (.aload_n 0, 1) := by decide +kernel
theorem dX12_scriptLength_1 : decode cX12_scriptLength 1 = .ok (.iload_n 1, 1) := by decide +kernel
theorem dX12_scriptLength_2 : decode cX12_scriptLength 2 = .ok (.invokestatic 691, 3) := by decide +kernel
theorem dX12_scriptLength_5 : decode cX12_scriptLength 5 = .ok (.ifCond .eq 7, 3) := by decide +kernel
theorem dX12_scriptLength_8 : decode cX12_scriptLength 8 = .ok (.iconst 0, 1) := by decide +kernel
theorem dX12_scriptLength_9 : decode cX12_scriptLength 9 = .ok (.goto 4, 3) := by decide +kernel
theorem dX12_scriptLength_12 : decode cX12_scriptLength 12 = .ok (.iconst 1, 1) := by decide +kernel
theorem dX12_scriptLength_13 : decode cX12_scriptLength 13 = .ok (.putfield 105, 3) := by decide +kernel
theorem dX12_scriptLength_16 : decode cX12_scriptLength 16 = .ok (.aload_n 0, 1) := by decide +kernel
theorem dX12_scriptLength_17 : decode cX12_scriptLength 17 = .ok (.getfield 105, 3) := by decide +kernel
theorem dX12_scriptLength_20 : decode cX12_scriptLength 20 = .ok (.ifCond .le 7, 3) := by decide +kernel
theorem dX12_scriptLength_23 : decode cX12_scriptLength 23 = .ok (.iconst 0, 1) := by decide +kernel
theorem dX12_scriptLength_24 : decode cX12_scriptLength 24 = .ok (.goto 22, 3) := by decide +kernel
theorem dX12_scriptLength_27 : decode cX12_scriptLength 27 = .ok (.aload_n 0, 1) := by decide +kernel
theorem dX12_scriptLength_28 : decode cX12_scriptLength 28 = .ok (.getfield 19, 3) := by decide +kernel
theorem dX12_scriptLength_31 : decode cX12_scriptLength 31 = .ok (.iload_n 1, 1) := by decide +kernel
theorem dX12_scriptLength_32 : decode cX12_scriptLength 32 = .ok (.baload, 1) := by decide +kernel
theorem dX12_scriptLength_33 : decode cX12_scriptLength 33 = .ok (.ifCond .eq 12, 3) := by decide +kernel
theorem dX12_scriptLength_36 : decode cX12_scriptLength 36 = .ok (.aload_n 0, 1) := by decide +kernel
theorem dX12_scriptLength_37 : decode cX12_scriptLength 37 = .ok (.getfield 16, 3) := by decide +kernel
theorem dX12_scriptLength_40 : decode cX12_scriptLength 40 = .ok (.iload_n 1, 1) := by decide +kernel
theorem dX12_scriptLength_41 : decode cX12_scriptLength 41 = .ok (.iaload, 1) := by decide +kernel
theorem dX12_scriptLength_42 : decode cX12_scriptLength 42 = .ok (.goto 4, 3) := by decide +kernel
theorem dX12_scriptLength_45 : decode cX12_scriptLength 45 = .ok (.iconst (-1), 1) := by decide +kernel
theorem dX12_scriptLength_46 : decode cX12_scriptLength 46 = .ok (.ireturn, 1) := by decide +kernel
theorem dX12_scriptAt_0 : decode cX12_scriptAt 0 = .ok (.iload_n 1, 1) := by decide +kernel
theorem dX12_scriptAt_1 : decode cX12_scriptAt 1 = .ok (.invokestatic 691, 3) := by decide +kernel
theorem dX12_scriptAt_4 : decode cX12_scriptAt 4 = .ok (.ifCond .eq 30, 3) := by decide +kernel
theorem dX12_scriptAt_7 : decode cX12_scriptAt 7 = .ok (.aload_n 0, 1) := by decide +kernel
theorem dX12_scriptAt_8 : decode cX12_scriptAt 8 = .ok (.getfield 19, 3) := by decide +kernel
theorem dX12_scriptAt_11 : decode cX12_scriptAt 11 = .ok (.iload_n 1, 1) := by decide +kernel
theorem dX12_scriptAt_12 : decode cX12_scriptAt 12 = .ok (.baload, 1) := by decide +kernel
theorem dX12_scriptAt_13 : decode cX12_scriptAt 13 = .ok (.ifCond .eq 21, 3) := by decide +kernel
theorem dX12_scriptAt_16 : decode cX12_scriptAt 16 = .ok (.iload_n 2, 1) := by decide +kernel
theorem dX12_scriptAt_17 : decode cX12_scriptAt 17 = .ok (.ifCond .lt 17, 3) := by decide +kernel
theorem dX12_scriptAt_20 : decode cX12_scriptAt 20 = .ok (.iload_n 2, 1) := by decide +kernel
theorem dX12_scriptAt_21 : decode cX12_scriptAt 21 = .ok (.aload_n 0, 1) := by decide +kernel
theorem dX12_scriptAt_22 : decode cX12_scriptAt 22 = .ok (.getfield 16, 3) := by decide +kernel
theorem dX12_scriptAt_25 : decode cX12_scriptAt 25 = .ok (.iload_n 1, 1) := by decide +kernel
theorem dX12_scriptAt_26 : decode cX12_scriptAt 26 = .ok (.iaload, 1) := by decide +kernel
theorem dX12_scriptAt_27 : decode cX12_scriptAt 27 = .ok (.if_icmp .ge 7, 3) := by decide +kernel
theorem dX12_scriptAt_30 : decode cX12_scriptAt 30 = .ok (.iconst 1, 1) := by decide +kernel
theorem dX12_scriptAt_31 : decode cX12_scriptAt 31 = .ok (.goto 4, 3) := by decide +kernel
theorem dX12_scriptAt_34 : decode cX12_scriptAt 34 = .ok (.iconst 0, 1) := by decide +kernel
theorem dX12_scriptAt_35 : decode cX12_scriptAt 35 = .ok (.istore_n 3, 1) := by decide +kernel
theorem dX12_scriptAt_36 : decode cX12_scriptAt 36 = .ok (.aload_n 0, 1) := by decide +kernel
theorem dX12_scriptAt_37 : decode cX12_scriptAt 37 = .ok (.iload_n 3, 1) := by decide +kernel
theorem dX12_scriptAt_38 : decode cX12_scriptAt 38 = .ok (.ifCond .eq 7, 3) := by decide +kernel
theorem dX12_scriptAt_41 : decode cX12_scriptAt 41 = .ok (.iconst 0, 1) := by decide +kernel
theorem dX12_scriptAt_42 : decode cX12_scriptAt 42 = .ok (.goto 4, 3) := by decide +kernel
theorem dX12_scriptAt_45 : decode cX12_scriptAt 45 = .ok (.iconst 1, 1) := by decide +kernel
theorem dX12_scriptAt_46 : decode cX12_scriptAt 46 = .ok (.putfield 105, 3) := by decide +kernel
theorem dX12_scriptAt_49 : decode cX12_scriptAt 49 = .ok (.iload_n 3, 1) := by decide +kernel
theorem dX12_scriptAt_50 : decode cX12_scriptAt 50 = .ok (.ifCond .eq 17, 3) := by decide +kernel
theorem dX12_scriptAt_53 : decode cX12_scriptAt 53 = .ok (.aload_n 0, 1) := by decide +kernel
theorem dX12_scriptAt_54 : decode cX12_scriptAt 54 = .ok (.getfield 13, 3) := by decide +kernel
theorem dX12_scriptAt_57 : decode cX12_scriptAt 57 = .ok (.bipush 60, 2) := by decide +kernel
theorem dX12_scriptAt_59 : decode cX12_scriptAt 59 = .ok (.iload_n 1, 1) := by decide +kernel
theorem dX12_scriptAt_60 : decode cX12_scriptAt 60 = .ok (.imul, 1) := by decide +kernel
theorem dX12_scriptAt_61 : decode cX12_scriptAt 61 = .ok (.iload_n 2, 1) := by decide +kernel
theorem dX12_scriptAt_62 : decode cX12_scriptAt 62 = .ok (.iadd, 1) := by decide +kernel
theorem dX12_scriptAt_63 : decode cX12_scriptAt 63 = .ok (.iaload, 1) := by decide +kernel
theorem dX12_scriptAt_64 : decode cX12_scriptAt 64 = .ok (.goto 4, 3) := by decide +kernel
theorem dX12_scriptAt_67 : decode cX12_scriptAt 67 = .ok (.iconst 0, 1) := by decide +kernel
theorem dX12_scriptAt_68 : decode cX12_scriptAt 68 = .ok (.ireturn, 1) := by decide +kernel
theorem dX12_undo_0 : decode cX12_undo 0 = .ok (.aload_n 0, 1) := by decide +kernel
theorem dX12_undo_1 : decode cX12_undo 1 = .ok (.aload_n 0, 1) := by decide +kernel
theorem dX12_undo_2 : decode cX12_undo 2 = .ok (.getfield 494, 3) := by decide +kernel
theorem dX12_undo_5 : decode cX12_undo 5 = .ok (.ifCond .ne 7, 3) := by decide +kernel
theorem dX12_undo_8 : decode cX12_undo 8 = .ok (.iconst 1, 1) := by decide +kernel
theorem dX12_undo_9 : decode cX12_undo 9 = .ok (.goto 4, 3) := by decide +kernel
theorem dX12_undo_12 : decode cX12_undo 12 = .ok (.iconst 0, 1) := by decide +kernel
theorem dX12_undo_13 : decode cX12_undo 13 = .ok (.putfield 105, 3) := by decide +kernel
theorem dX12_undo_16 : decode cX12_undo 16 = .ok (.aload_n 0, 1) := by decide +kernel
theorem dX12_undo_17 : decode cX12_undo 17 = .ok (.getfield 105, 3) := by decide +kernel
theorem dX12_undo_20 : decode cX12_undo 20 = .ok (.ifCond .le 5, 3) := by decide +kernel
theorem dX12_undo_23 : decode cX12_undo 23 = .ok (.iconst 0, 1) := by decide +kernel
theorem dX12_undo_24 : decode cX12_undo 24 = .ok (.ireturn, 1) := by decide +kernel
theorem dX12_undo_25 : decode cX12_undo 25 = .ok (.aload_n 0, 1) := by decide +kernel
theorem dX12_undo_26 : decode cX12_undo 26 = .ok (.invokevirtual 700, 3) := by decide +kernel
theorem dX12_undo_29 : decode cX12_undo 29 = .ok (.aload_n 0, 1) := by decide +kernel
theorem dX12_undo_30 : decode cX12_undo 30 = .ok (.getfield 494, 3) := by decide +kernel
theorem dX12_undo_33 : decode cX12_undo 33 = .ok (.ireturn, 1) := by decide +kernel
theorem dX12_undoRun_0 : decode cX12_undoRun 0 = .ok (.aload_n 0, 1) := by decide +kernel
theorem dX12_undoRun_1 : decode cX12_undoRun 1 = .ok (.aload_n 0, 1) := by decide +kernel
theorem dX12_undoRun_2 : decode cX12_undoRun 2 = .ok (.getfield 494, 3) := by decide +kernel
theorem dX12_undoRun_5 : decode cX12_undoRun 5 = .ok (.ifCond .ne 7, 3) := by decide +kernel
theorem dX12_undoRun_8 : decode cX12_undoRun 8 = .ok (.iconst 1, 1) := by decide +kernel
theorem dX12_undoRun_9 : decode cX12_undoRun 9 = .ok (.goto 4, 3) := by decide +kernel
theorem dX12_undoRun_12 : decode cX12_undoRun 12 = .ok (.iconst 0, 1) := by decide +kernel
theorem dX12_undoRun_13 : decode cX12_undoRun 13 = .ok (.putfield 105, 3) := by decide +kernel
theorem dX12_undoRun_16 : decode cX12_undoRun 16 = .ok (.aload_n 0, 1) := by decide +kernel
theorem dX12_undoRun_17 : decode cX12_undoRun 17 = .ok (.getfield 105, 3) := by decide +kernel
theorem dX12_undoRun_20 : decode cX12_undoRun 20 = .ok (.ifCond .le 5, 3) := by decide +kernel
theorem dX12_undoRun_23 : decode cX12_undoRun 23 = .ok (.iconst 0, 1) := by decide +kernel
theorem dX12_undoRun_24 : decode cX12_undoRun 24 = .ok (.ireturn, 1) := by decide +kernel
theorem dX12_undoRun_25 : decode cX12_undoRun 25 = .ok (.aload_n 0, 1) := by decide +kernel
theorem dX12_undoRun_26 : decode cX12_undoRun 26 = .ok (.getfield 87, 3) := by decide +kernel
theorem dX12_undoRun_29 : decode cX12_undoRun 29 = .ok (.aload_n 0, 1) := by decide +kernel
theorem dX12_undoRun_30 : decode cX12_undoRun 30 = .ok (.invokevirtual 500, 3) := by decide +kernel
theorem dX12_undoRun_33 : decode cX12_undoRun 33 = .ok (.iaload, 1) := by decide +kernel
theorem dX12_undoRun_34 : decode cX12_undoRun 34 = .ok (.istore_n 1, 1) := by decide +kernel
theorem dX12_undoRun_35 : decode cX12_undoRun 35 = .ok (.iconst 0, 1) := by decide +kernel
theorem dX12_undoRun_36 : decode cX12_undoRun 36 = .ok (.istore_n 2, 1) := by decide +kernel
theorem dX12_undoRun_37 : decode cX12_undoRun 37 = .ok (.aload_n 0, 1) := by decide +kernel
theorem dX12_undoRun_38 : decode cX12_undoRun 38 = .ok (.getfield 494, 3) := by decide +kernel
theorem dX12_undoRun_41 : decode cX12_undoRun 41 = .ok (.ifCond .le 26, 3) := by decide +kernel
theorem dX12_undoRun_44 : decode cX12_undoRun 44 = .ok (.aload_n 0, 1) := by decide +kernel
theorem dX12_undoRun_45 : decode cX12_undoRun 45 = .ok (.getfield 87, 3) := by decide +kernel
theorem dX12_undoRun_48 : decode cX12_undoRun 48 = .ok (.aload_n 0, 1) := by decide +kernel
theorem dX12_undoRun_49 : decode cX12_undoRun 49 = .ok (.invokevirtual 500, 3) := by decide +kernel
theorem dX12_undoRun_52 : decode cX12_undoRun 52 = .ok (.iaload, 1) := by decide +kernel
theorem dX12_undoRun_53 : decode cX12_undoRun 53 = .ok (.iload_n 1, 1) := by decide +kernel
theorem dX12_undoRun_54 : decode cX12_undoRun 54 = .ok (.if_icmp .ne 13, 3) := by decide +kernel
theorem dX12_undoRun_57 : decode cX12_undoRun 57 = .ok (.aload_n 0, 1) := by decide +kernel
theorem dX12_undoRun_58 : decode cX12_undoRun 58 = .ok (.invokevirtual 700, 3) := by decide +kernel
theorem dX12_undoRun_61 : decode cX12_undoRun 61 = .ok (.iinc 2 1, 3) := by decide +kernel
theorem dX12_undoRun_64 : decode cX12_undoRun 64 = .ok (.goto (-27), 3) := by decide +kernel
theorem dX12_undoRun_67 : decode cX12_undoRun 67 = .ok (.iload_n 2, 1) := by decide +kernel
theorem dX12_undoRun_68 : decode cX12_undoRun 68 = .ok (.ireturn, 1) := by decide +kernel
theorem dX12_deeds_0 : decode cX12_deeds 0 = .ok (.aload_n 0, 1) := by decide +kernel
theorem dX12_deeds_1 : decode cX12_deeds 1 = .ok (.iconst 0, 1) := by decide +kernel
theorem dX12_deeds_2 : decode cX12_deeds 2 = .ok (.putfield 105, 3) := by decide +kernel
theorem dX12_deeds_5 : decode cX12_deeds 5 = .ok (.aload_n 0, 1) := by decide +kernel
theorem dX12_deeds_6 : decode cX12_deeds 6 = .ok (.getfield 494, 3) := by decide +kernel
theorem dX12_deeds_9 : decode cX12_deeds 9 = .ok (.ireturn, 1) := by decide +kernel
theorem dX12_lines_0 : decode cX12_lines 0 = .ok (.aload_n 0, 1) := by decide +kernel
theorem dX12_lines_1 : decode cX12_lines 1 = .ok (.iconst 0, 1) := by decide +kernel
theorem dX12_lines_2 : decode cX12_lines 2 = .ok (.putfield 105, 3) := by decide +kernel
theorem dX12_lines_5 : decode cX12_lines 5 = .ok (.aload_n 0, 1) := by decide +kernel
theorem dX12_lines_6 : decode cX12_lines 6 = .ok (.getfield 124, 3) := by decide +kernel
theorem dX12_lines_9 : decode cX12_lines 9 = .ok (.ireturn, 1) := by decide +kernel
theorem dX12_isLine_0 : decode cX12_isLine 0 = .ok (.iload_n 1, 1) := by decide +kernel
theorem dX12_isLine_1 : decode cX12_isLine 1 = .ok (.iconst 1, 1) := by decide +kernel
theorem dX12_isLine_2 : decode cX12_isLine 2 = .ok (.if_icmp .lt 15, 3) := by decide +kernel
theorem dX12_isLine_5 : decode cX12_isLine 5 = .ok (.iload_n 1, 1) := by decide +kernel
theorem dX12_isLine_6 : decode cX12_isLine 6 = .ok (.aload_n 0, 1) := by decide +kernel
theorem dX12_isLine_7 : decode cX12_isLine 7 = .ok (.getfield 124, 3) := by decide +kernel
theorem dX12_isLine_10 : decode cX12_isLine 10 = .ok (.if_icmp .gt 7, 3) := by decide +kernel
theorem dX12_isLine_13 : decode cX12_isLine 13 = .ok (.iconst 1, 1) := by decide +kernel
theorem dX12_isLine_14 : decode cX12_isLine 14 = .ok (.goto 4, 3) := by decide +kernel
theorem dX12_isLine_17 : decode cX12_isLine 17 = .ok (.iconst 0, 1) := by decide +kernel
theorem dX12_isLine_18 : decode cX12_isLine 18 = .ok (.ireturn, 1) := by decide +kernel
theorem dX12_isPlace_0 : decode cX12_isPlace 0 = .ok (.iload_n 1, 1) := by decide +kernel
theorem dX12_isPlace_1 : decode cX12_isPlace 1 = .ok (.ifCond .eq 20, 3) := by decide +kernel
theorem dX12_isPlace_4 : decode cX12_isPlace 4 = .ok (.iload_n 3, 1) := by decide +kernel
theorem dX12_isPlace_5 : decode cX12_isPlace 5 = .ok (.ifCond .lt 16, 3) := by decide +kernel
theorem dX12_isPlace_8 : decode cX12_isPlace 8 = .ok (.iload_n 3, 1) := by decide +kernel
theorem dX12_isPlace_9 : decode cX12_isPlace 9 = .ok (.aload_n 0, 1) := by decide +kernel
theorem dX12_isPlace_10 : decode cX12_isPlace 10 = .ok (.iload_n 2, 1) := by decide +kernel
theorem dX12_isPlace_11 : decode cX12_isPlace 11 = .ok (.invokevirtual 109, 3) := by decide +kernel
theorem dX12_isPlace_14 : decode cX12_isPlace 14 = .ok (.if_icmp .ge 7, 3) := by decide +kernel
theorem dX12_isPlace_17 : decode cX12_isPlace 17 = .ok (.iconst 1, 1) := by decide +kernel
theorem dX12_isPlace_18 : decode cX12_isPlace 18 = .ok (.goto 4, 3) := by decide +kernel
theorem dX12_isPlace_21 : decode cX12_isPlace 21 = .ok (.iconst 0, 1) := by decide +kernel
theorem dX12_isPlace_22 : decode cX12_isPlace 22 = .ok (.istore 4, 2) := by decide +kernel
theorem dX12_isPlace_24 : decode cX12_isPlace 24 = .ok (.aload_n 0, 1) := by decide +kernel
theorem dX12_isPlace_25 : decode cX12_isPlace 25 = .ok (.iload 4, 2) := by decide +kernel
theorem dX12_isPlace_27 : decode cX12_isPlace 27 = .ok (.ifCond .eq 7, 3) := by decide +kernel
theorem dX12_isPlace_30 : decode cX12_isPlace 30 = .ok (.iconst 0, 1) := by decide +kernel
theorem dX12_isPlace_31 : decode cX12_isPlace 31 = .ok (.goto 4, 3) := by decide +kernel
theorem dX12_isPlace_34 : decode cX12_isPlace 34 = .ok (.iconst 1, 1) := by decide +kernel
theorem dX12_isPlace_35 : decode cX12_isPlace 35 = .ok (.putfield 105, 3) := by decide +kernel
theorem dX12_isPlace_38 : decode cX12_isPlace 38 = .ok (.iload 4, 2) := by decide +kernel
theorem dX12_isPlace_40 : decode cX12_isPlace 40 = .ok (.ireturn, 1) := by decide +kernel
theorem dX12_length_0 : decode cX12_length 0 = .ok (.aload_n 0, 1) := by decide +kernel
theorem dX12_length_1 : decode cX12_length 1 = .ok (.aload_n 0, 1) := by decide +kernel
theorem dX12_length_2 : decode cX12_length 2 = .ok (.iload_n 1, 1) := by decide +kernel
theorem dX12_length_3 : decode cX12_length 3 = .ok (.invokevirtual 703, 3) := by decide +kernel
theorem dX12_length_6 : decode cX12_length 6 = .ok (.ifCond .eq 7, 3) := by decide +kernel
theorem dX12_length_9 : decode cX12_length 9 = .ok (.iconst 0, 1) := by decide +kernel
theorem dX12_length_10 : decode cX12_length 10 = .ok (.goto 4, 3) := by decide +kernel
theorem dX12_length_13 : decode cX12_length 13 = .ok (.iconst 1, 1) := by decide +kernel
theorem dX12_length_14 : decode cX12_length 14 = .ok (.putfield 105, 3) := by decide +kernel
theorem dX12_length_17 : decode cX12_length 17 = .ok (.aload_n 0, 1) := by decide +kernel
theorem dX12_length_18 : decode cX12_length 18 = .ok (.getfield 105, 3) := by decide +kernel
theorem dX12_length_21 : decode cX12_length 21 = .ok (.ifCond .le 7, 3) := by decide +kernel
theorem dX12_length_24 : decode cX12_length 24 = .ok (.iconst 0, 1) := by decide +kernel
theorem dX12_length_25 : decode cX12_length 25 = .ok (.goto 11, 3) := by decide +kernel
theorem dX12_length_28 : decode cX12_length 28 = .ok (.aload_n 0, 1) := by decide +kernel
theorem dX12_length_29 : decode cX12_length 29 = .ok (.iload_n 1, 1) := by decide +kernel
theorem dX12_length_30 : decode cX12_length 30 = .ok (.invokestatic 298, 3) := by decide +kernel
theorem dX12_length_33 : decode cX12_length 33 = .ok (.invokevirtual 109, 3) := by decide +kernel
theorem dX12_length_36 : decode cX12_length 36 = .ok (.ireturn, 1) := by decide +kernel
theorem dX12_at_0 : decode cX12_at 0 = .ok (.aload_n 0, 1) := by decide +kernel
theorem dX12_at_1 : decode cX12_at 1 = .ok (.aload_n 0, 1) := by decide +kernel
theorem dX12_at_2 : decode cX12_at 2 = .ok (.iload_n 1, 1) := by decide +kernel
theorem dX12_at_3 : decode cX12_at 3 = .ok (.invokevirtual 703, 3) := by decide +kernel
theorem dX12_at_6 : decode cX12_at 6 = .ok (.aload_n 0, 1) := by decide +kernel
theorem dX12_at_7 : decode cX12_at 7 = .ok (.iload_n 1, 1) := by decide +kernel
theorem dX12_at_8 : decode cX12_at 8 = .ok (.invokevirtual 703, 3) := by decide +kernel
theorem dX12_at_11 : decode cX12_at 11 = .ok (.ifCond .eq 10, 3) := by decide +kernel
theorem dX12_at_14 : decode cX12_at 14 = .ok (.iload_n 1, 1) := by decide +kernel
theorem dX12_at_15 : decode cX12_at 15 = .ok (.invokestatic 298, 3) := by decide +kernel
theorem dX12_at_18 : decode cX12_at 18 = .ok (.goto 4, 3) := by decide +kernel
theorem dX12_at_21 : decode cX12_at 21 = .ok (.iconst 0, 1) := by decide +kernel
theorem dX12_at_22 : decode cX12_at 22 = .ok (.iload_n 2, 1) := by decide +kernel
theorem dX12_at_23 : decode cX12_at 23 = .ok (.invokevirtual 706, 3) := by decide +kernel
theorem dX12_at_26 : decode cX12_at 26 = .ok (.ifCond .eq 15, 3) := by decide +kernel
theorem dX12_at_29 : decode cX12_at 29 = .ok (.aload_n 0, 1) := by decide +kernel
theorem dX12_at_30 : decode cX12_at 30 = .ok (.iload_n 1, 1) := by decide +kernel
theorem dX12_at_31 : decode cX12_at 31 = .ok (.invokestatic 298, 3) := by decide +kernel
theorem dX12_at_34 : decode cX12_at 34 = .ok (.iload_n 2, 1) := by decide +kernel
theorem dX12_at_35 : decode cX12_at 35 = .ok (.invokevirtual 113, 3) := by decide +kernel
theorem dX12_at_38 : decode cX12_at 38 = .ok (.goto 4, 3) := by decide +kernel
theorem dX12_at_41 : decode cX12_at 41 = .ok (.iconst 0, 1) := by decide +kernel
theorem dX12_at_42 : decode cX12_at 42 = .ok (.ireturn, 1) := by decide +kernel
theorem dX12_id_0 : decode cX12_id 0 = .ok (.aload_n 0, 1) := by decide +kernel
theorem dX12_id_1 : decode cX12_id 1 = .ok (.aload_n 0, 1) := by decide +kernel
theorem dX12_id_2 : decode cX12_id 2 = .ok (.iload_n 1, 1) := by decide +kernel
theorem dX12_id_3 : decode cX12_id 3 = .ok (.invokevirtual 703, 3) := by decide +kernel
theorem dX12_id_6 : decode cX12_id 6 = .ok (.ifCond .eq 7, 3) := by decide +kernel
theorem dX12_id_9 : decode cX12_id 9 = .ok (.iconst 0, 1) := by decide +kernel
theorem dX12_id_10 : decode cX12_id 10 = .ok (.goto 4, 3) := by decide +kernel
theorem dX12_id_13 : decode cX12_id 13 = .ok (.iconst 1, 1) := by decide +kernel
theorem dX12_id_14 : decode cX12_id 14 = .ok (.putfield 105, 3) := by decide +kernel
theorem dX12_id_17 : decode cX12_id 17 = .ok (.aload_n 0, 1) := by decide +kernel
theorem dX12_id_18 : decode cX12_id 18 = .ok (.getfield 105, 3) := by decide +kernel
theorem dX12_id_21 : decode cX12_id 21 = .ok (.ifCond .le 7, 3) := by decide +kernel
theorem dX12_id_24 : decode cX12_id 24 = .ok (.iconst 0, 1) := by decide +kernel
theorem dX12_id_25 : decode cX12_id 25 = .ok (.goto 11, 3) := by decide +kernel
theorem dX12_id_28 : decode cX12_id 28 = .ok (.aload_n 0, 1) := by decide +kernel
theorem dX12_id_29 : decode cX12_id 29 = .ok (.getfield 26, 3) := by decide +kernel
theorem dX12_id_32 : decode cX12_id 32 = .ok (.iload_n 1, 1) := by decide +kernel
theorem dX12_id_33 : decode cX12_id 33 = .ok (.iconst 1, 1) := by decide +kernel
theorem dX12_id_34 : decode cX12_id 34 = .ok (.isub, 1) := by decide +kernel
theorem dX12_id_35 : decode cX12_id 35 = .ok (.iaload, 1) := by decide +kernel
theorem dX12_id_36 : decode cX12_id 36 = .ok (.ireturn, 1) := by decide +kernel
theorem dX12_lineOf_0 : decode cX12_lineOf 0 = .ok (.aload_n 0, 1) := by decide +kernel
theorem dX12_lineOf_1 : decode cX12_lineOf 1 = .ok (.iconst 0, 1) := by decide +kernel
theorem dX12_lineOf_2 : decode cX12_lineOf 2 = .ok (.putfield 105, 3) := by decide +kernel
theorem dX12_lineOf_5 : decode cX12_lineOf 5 = .ok (.aload_n 0, 1) := by decide +kernel
theorem dX12_lineOf_6 : decode cX12_lineOf 6 = .ok (.iload_n 1, 1) := by decide +kernel
theorem dX12_lineOf_7 : decode cX12_lineOf 7 = .ok (.invokevirtual 307, 3) := by decide +kernel
theorem dX12_lineOf_10 : decode cX12_lineOf 10 = .ok (.istore_n 2, 1) := by decide +kernel
theorem dX12_lineOf_11 : decode cX12_lineOf 11 = .ok (.iload_n 2, 1) := by decide +kernel
theorem dX12_lineOf_12 : decode cX12_lineOf 12 = .ok (.ifCond .le 7, 3) := by decide +kernel
theorem dX12_lineOf_15 : decode cX12_lineOf 15 = .ok (.iload_n 2, 1) := by decide +kernel
theorem dX12_lineOf_16 : decode cX12_lineOf 16 = .ok (.goto 4, 3) := by decide +kernel
theorem dX12_lineOf_19 : decode cX12_lineOf 19 = .ok (.iconst (-1), 1) := by decide +kernel
theorem dX12_lineOf_20 : decode cX12_lineOf 20 = .ok (.ireturn, 1) := by decide +kernel
theorem dX12_present_0 : decode cX12_present 0 = .ok (.aload_n 0, 1) := by decide +kernel
theorem dX12_present_1 : decode cX12_present 1 = .ok (.iconst 0, 1) := by decide +kernel
theorem dX12_present_2 : decode cX12_present 2 = .ok (.putfield 105, 3) := by decide +kernel
theorem dX12_present_5 : decode cX12_present 5 = .ok (.aload_n 0, 1) := by decide +kernel
theorem dX12_present_6 : decode cX12_present 6 = .ok (.getfield 295, 3) := by decide +kernel
theorem dX12_present_9 : decode cX12_present 9 = .ok (.ireturn, 1) := by decide +kernel
theorem dX12_mark_0 : decode cX12_mark 0 = .ok (.aload_n 0, 1) := by decide +kernel
theorem dX12_mark_1 : decode cX12_mark 1 = .ok (.iload_n 1, 1) := by decide +kernel
theorem dX12_mark_2 : decode cX12_mark 2 = .ok (.ifCond .lt 12, 3) := by decide +kernel
theorem dX12_mark_5 : decode cX12_mark 5 = .ok (.iload_n 1, 1) := by decide +kernel
theorem dX12_mark_6 : decode cX12_mark 6 = .ok (.iconst 5, 1) := by decide +kernel
theorem dX12_mark_7 : decode cX12_mark 7 = .ok (.if_icmp .ge 7, 3) := by decide +kernel
theorem dX12_mark_10 : decode cX12_mark 10 = .ok (.iconst 0, 1) := by decide +kernel
theorem dX12_mark_11 : decode cX12_mark 11 = .ok (.goto 4, 3) := by decide +kernel
theorem dX12_mark_14 : decode cX12_mark 14 = .ok (.iconst 1, 1) := by decide +kernel
theorem dX12_mark_15 : decode cX12_mark 15 = .ok (.putfield 105, 3) := by decide +kernel
theorem dX12_mark_18 : decode cX12_mark 18 = .ok (.aload_n 0, 1) := by decide +kernel
theorem dX12_mark_19 : decode cX12_mark 19 = .ok (.getfield 105, 3) := by decide +kernel
theorem dX12_mark_22 : decode cX12_mark 22 = .ok (.ifCond .gt 12, 3) := by decide +kernel
theorem dX12_mark_25 : decode cX12_mark 25 = .ok (.aload_n 0, 1) := by decide +kernel
theorem dX12_mark_26 : decode cX12_mark 26 = .ok (.getfield 35, 3) := by decide +kernel
theorem dX12_mark_29 : decode cX12_mark 29 = .ok (.iload_n 1, 1) := by decide +kernel
theorem dX12_mark_30 : decode cX12_mark 30 = .ok (.iaload, 1) := by decide +kernel
theorem dX12_mark_31 : decode cX12_mark 31 = .ok (.ifCond .ge 16, 3) := by decide +kernel
theorem dX12_mark_34 : decode cX12_mark 34 = .ok (.aload_n 0, 1) := by decide +kernel
theorem dX12_mark_35 : decode cX12_mark 35 = .ok (.getfield 105, 3) := by decide +kernel
theorem dX12_mark_38 : decode cX12_mark 38 = .ok (.ifCond .le 7, 3) := by decide +kernel
theorem dX12_mark_41 : decode cX12_mark 41 = .ok (.iconst 0, 1) := by decide +kernel
theorem dX12_mark_42 : decode cX12_mark 42 = .ok (.goto 4, 3) := by decide +kernel
theorem dX12_mark_45 : decode cX12_mark 45 = .ok (.iconst (-1), 1) := by decide +kernel
theorem dX12_mark_46 : decode cX12_mark 46 = .ok (.ireturn, 1) := by decide +kernel
theorem dX12_mark_47 : decode cX12_mark 47 = .ok (.aload_n 0, 1) := by decide +kernel
theorem dX12_mark_48 : decode cX12_mark 48 = .ok (.aload_n 0, 1) := by decide +kernel
theorem dX12_mark_49 : decode cX12_mark 49 = .ok (.getfield 35, 3) := by decide +kernel
theorem dX12_mark_52 : decode cX12_mark 52 = .ok (.iload_n 1, 1) := by decide +kernel
theorem dX12_mark_53 : decode cX12_mark 53 = .ok (.iaload, 1) := by decide +kernel
theorem dX12_mark_54 : decode cX12_mark 54 = .ok (.invokevirtual 307, 3) := by decide +kernel
theorem dX12_mark_57 : decode cX12_mark 57 = .ok (.ireturn, 1) := by decide +kernel
theorem dX12_lot_0 : decode cX12_lot 0 = .ok (.aload_n 0, 1) := by decide +kernel
theorem dX12_lot_1 : decode cX12_lot 1 = .ok (.sipush 25173, 3) := by decide +kernel
theorem dX12_lot_4 : decode cX12_lot 4 = .ok (.aload_n 0, 1) := by decide +kernel
theorem dX12_lot_5 : decode cX12_lot 5 = .ok (.getfield 710, 3) := by decide +kernel
theorem dX12_lot_8 : decode cX12_lot 8 = .ok (.imul, 1) := by decide +kernel
theorem dX12_lot_9 : decode cX12_lot 9 = .ok (.sipush 13849, 3) := by decide +kernel
theorem dX12_lot_12 : decode cX12_lot 12 = .ok (.iadd, 1) := by decide +kernel
theorem dX12_lot_13 : decode cX12_lot 13 = .ok (.ldc_w 713, 3) := by decide +kernel
theorem dX12_lot_16 : decode cX12_lot 16 = .ok (.irem, 1) := by decide +kernel
theorem dX12_lot_17 : decode cX12_lot 17 = .ok (.putfield 710, 3) := by decide +kernel
theorem dX12_lot_20 : decode cX12_lot 20 = .ok (.aload_n 0, 1) := by decide +kernel
theorem dX12_lot_21 : decode cX12_lot 21 = .ok (.getfield 710, 3) := by decide +kernel
theorem dX12_lot_24 : decode cX12_lot 24 = .ok (.bipush 16, 2) := by decide +kernel
theorem dX12_lot_26 : decode cX12_lot 26 = .ok (.idiv, 1) := by decide +kernel
theorem dX12_lot_27 : decode cX12_lot 27 = .ok (.iload_n 1, 1) := by decide +kernel
theorem dX12_lot_28 : decode cX12_lot 28 = .ok (.irem, 1) := by decide +kernel
theorem dX12_lot_29 : decode cX12_lot 29 = .ok (.ireturn, 1) := by decide +kernel
theorem dX12_sample_0 : decode cX12_sample 0 = .ok (.iload_n 1, 1) := by decide +kernel
theorem dX12_sample_1 : decode cX12_sample 1 = .ok (.ifCond .lt 25, 3) := by decide +kernel
theorem dX12_sample_4 : decode cX12_sample 4 = .ok (.iload_n 1, 1) := by decide +kernel
theorem dX12_sample_5 : decode cX12_sample 5 = .ok (.ldc_w 714, 3) := by decide +kernel
theorem dX12_sample_8 : decode cX12_sample 8 = .ok (.if_icmp .gt 18, 3) := by decide +kernel
theorem dX12_sample_11 : decode cX12_sample 11 = .ok (.iload_n 2, 1) := by decide +kernel
theorem dX12_sample_12 : decode cX12_sample 12 = .ok (.iconst 1, 1) := by decide +kernel
theorem dX12_sample_13 : decode cX12_sample 13 = .ok (.if_icmp .lt 13, 3) := by decide +kernel
theorem dX12_sample_16 : decode cX12_sample 16 = .ok (.iload_n 2, 1) := by decide +kernel
theorem dX12_sample_17 : decode cX12_sample 17 = .ok (.bipush 20, 2) := by decide +kernel
theorem dX12_sample_19 : decode cX12_sample 19 = .ok (.if_icmp .gt 7, 3) := by decide +kernel
theorem dX12_sample_22 : decode cX12_sample 22 = .ok (.iconst 1, 1) := by decide +kernel
theorem dX12_sample_23 : decode cX12_sample 23 = .ok (.goto 4, 3) := by decide +kernel
theorem dX12_sample_26 : decode cX12_sample 26 = .ok (.iconst 0, 1) := by decide +kernel
theorem dX12_sample_27 : decode cX12_sample 27 = .ok (.istore_n 3, 1) := by decide +kernel
theorem dX12_sample_28 : decode cX12_sample 28 = .ok (.aload_n 0, 1) := by decide +kernel
theorem dX12_sample_29 : decode cX12_sample 29 = .ok (.iload_n 3, 1) := by decide +kernel
theorem dX12_sample_30 : decode cX12_sample 30 = .ok (.ifCond .ne 7, 3) := by decide +kernel
theorem dX12_sample_33 : decode cX12_sample 33 = .ok (.iconst 1, 1) := by decide +kernel
theorem dX12_sample_34 : decode cX12_sample 34 = .ok (.goto 19, 3) := by decide +kernel
theorem dX12_sample_37 : decode cX12_sample 37 = .ok (.aload_n 0, 1) := by decide +kernel
theorem dX12_sample_38 : decode cX12_sample 38 = .ok (.getfield 124, 3) := by decide +kernel
theorem dX12_sample_41 : decode cX12_sample 41 = .ok (.iload_n 2, 1) := by decide +kernel
theorem dX12_sample_42 : decode cX12_sample 42 = .ok (.iadd, 1) := by decide +kernel
theorem dX12_sample_43 : decode cX12_sample 43 = .ok (.bipush 40, 2) := by decide +kernel
theorem dX12_sample_45 : decode cX12_sample 45 = .ok (.if_icmp .le 7, 3) := by decide +kernel
theorem dX12_sample_48 : decode cX12_sample 48 = .ok (.iconst 2, 1) := by decide +kernel
theorem dX12_sample_49 : decode cX12_sample 49 = .ok (.goto 4, 3) := by decide +kernel
theorem dX12_sample_52 : decode cX12_sample 52 = .ok (.iconst 0, 1) := by decide +kernel
theorem dX12_sample_53 : decode cX12_sample 53 = .ok (.putfield 105, 3) := by decide +kernel
theorem dX12_sample_56 : decode cX12_sample 56 = .ok (.aload_n 0, 1) := by decide +kernel
theorem dX12_sample_57 : decode cX12_sample 57 = .ok (.getfield 105, 3) := by decide +kernel
theorem dX12_sample_60 : decode cX12_sample 60 = .ok (.ifCond .le 5, 3) := by decide +kernel
theorem dX12_sample_63 : decode cX12_sample 63 = .ok (.iconst 0, 1) := by decide +kernel
theorem dX12_sample_64 : decode cX12_sample 64 = .ok (.ireturn, 1) := by decide +kernel
theorem dX12_sample_65 : decode cX12_sample 65 = .ok (.aload_n 0, 1) := by decide +kernel
theorem dX12_sample_66 : decode cX12_sample 66 = .ok (.dup, 1) := by decide +kernel
theorem dX12_sample_67 : decode cX12_sample 67 = .ok (.getfield 497, 3) := by decide +kernel
theorem dX12_sample_70 : decode cX12_sample 70 = .ok (.iconst 1, 1) := by decide +kernel
theorem dX12_sample_71 : decode cX12_sample 71 = .ok (.iadd, 1) := by decide +kernel
theorem dX12_sample_72 : decode cX12_sample 72 = .ok (.putfield 497, 3) := by decide +kernel
theorem dX12_sample_75 : decode cX12_sample 75 = .ok (.aload_n 0, 1) := by decide +kernel
theorem dX12_sample_76 : decode cX12_sample 76 = .ok (.invokevirtual 521, 3) := by decide +kernel
theorem dX12_sample_79 : decode cX12_sample 79 = .ok (.aload_n 0, 1) := by decide +kernel
theorem dX12_sample_80 : decode cX12_sample 80 = .ok (.iload_n 1, 1) := by decide +kernel
theorem dX12_sample_81 : decode cX12_sample 81 = .ok (.putfield 710, 3) := by decide +kernel
theorem dX12_sample_84 : decode cX12_sample 84 = .ok (.iconst 0, 1) := by decide +kernel
theorem dX12_sample_85 : decode cX12_sample 85 = .ok (.istore 4, 2) := by decide +kernel
theorem dX12_sample_87 : decode cX12_sample 87 = .ok (.iload 4, 2) := by decide +kernel
theorem dX12_sample_89 : decode cX12_sample 89 = .ok (.iload_n 2, 1) := by decide +kernel
theorem dX12_sample_90 : decode cX12_sample 90 = .ok (.if_icmp .ge 85, 3) := by decide +kernel
theorem dX12_sample_93 : decode cX12_sample 93 = .ok (.aload_n 0, 1) := by decide +kernel
theorem dX12_sample_94 : decode cX12_sample 94 = .ok (.bipush 9, 2) := by decide +kernel
theorem dX12_sample_96 : decode cX12_sample 96 = .ok (.invokevirtual 715, 3) := by decide +kernel
theorem dX12_sample_99 : decode cX12_sample 99 = .ok (.istore 5, 2) := by decide +kernel
theorem dX12_sample_101 : decode cX12_sample 101 = .ok (.aload_n 0, 1) := by decide +kernel
theorem dX12_sample_102 : decode cX12_sample 102 = .ok (.iconst 0, 1) := by decide +kernel
theorem dX12_sample_103 : decode cX12_sample 103 = .ok (.putfield 117, 3) := by decide +kernel
theorem dX12_sample_106 : decode cX12_sample 106 = .ok (.iconst 0, 1) := by decide +kernel
theorem dX12_sample_107 : decode cX12_sample 107 = .ok (.istore 6, 2) := by decide +kernel
theorem dX12_sample_109 : decode cX12_sample 109 = .ok (.iload 6, 2) := by decide +kernel
theorem dX12_sample_111 : decode cX12_sample 111 = .ok (.iload 5, 2) := by decide +kernel
theorem dX12_sample_113 : decode cX12_sample 113 = .ok (.if_icmp .ge 37, 3) := by decide +kernel
theorem dX12_sample_116 : decode cX12_sample 116 = .ok (.aload_n 0, 1) := by decide +kernel
theorem dX12_sample_117 : decode cX12_sample 117 = .ok (.bipush 6, 2) := by decide +kernel
theorem dX12_sample_119 : decode cX12_sample 119 = .ok (.invokevirtual 715, 3) := by decide +kernel
theorem dX12_sample_122 : decode cX12_sample 122 = .ok (.istore 7, 2) := by decide +kernel
theorem dX12_sample_124 : decode cX12_sample 124 = .ok (.aload_n 0, 1) := by decide +kernel
theorem dX12_sample_125 : decode cX12_sample 125 = .ok (.iload 7, 2) := by decide +kernel
theorem dX12_sample_127 : decode cX12_sample 127 = .ok (.iconst 5, 1) := by decide +kernel
theorem dX12_sample_128 : decode cX12_sample 128 = .ok (.if_icmp .ne 8, 3) := by decide +kernel
theorem dX12_sample_131 : decode cX12_sample 131 = .ok (.bipush 32, 2) := by decide +kernel
theorem dX12_sample_133 : decode cX12_sample 133 = .ok (.goto 8, 3) := by decide +kernel
theorem dX12_sample_136 : decode cX12_sample 136 = .ok (.bipush 97, 2) := by decide +kernel
theorem dX12_sample_138 : decode cX12_sample 138 = .ok (.iload 7, 2) := by decide +kernel
theorem dX12_sample_140 : decode cX12_sample 140 = .ok (.iadd, 1) := by decide +kernel
theorem dX12_sample_141 : decode cX12_sample 141 = .ok (.invokevirtual 120, 3) := by decide +kernel
theorem dX12_sample_144 : decode cX12_sample 144 = .ok (.iinc 6 1, 3) := by decide +kernel
theorem dX12_sample_147 : decode cX12_sample 147 = .ok (.goto (-38), 3) := by decide +kernel
theorem dX12_sample_150 : decode cX12_sample 150 = .ok (.aload_n 0, 1) := by decide +kernel
theorem dX12_sample_151 : decode cX12_sample 151 = .ok (.sipush 429, 3) := by decide +kernel
theorem dX12_sample_154 : decode cX12_sample 154 = .ok (.invokevirtual 329, 3) := by decide +kernel
theorem dX12_sample_157 : decode cX12_sample 157 = .ok (.pop, 1) := by decide +kernel
theorem dX12_sample_158 : decode cX12_sample 158 = .ok (.aload_n 0, 1) := by decide +kernel
theorem dX12_sample_159 : decode cX12_sample 159 = .ok (.sipush 429, 3) := by decide +kernel
theorem dX12_sample_162 : decode cX12_sample 162 = .ok (.aload_n 0, 1) := by decide +kernel
theorem dX12_sample_163 : decode cX12_sample 163 = .ok (.getfield 124, 3) := by decide +kernel
theorem dX12_sample_166 : decode cX12_sample 166 = .ok (.invokevirtual 332, 3) := by decide +kernel
theorem dX12_sample_169 : decode cX12_sample 169 = .ok (.iinc 4 1, 3) := by decide +kernel
theorem dX12_sample_172 : decode cX12_sample 172 = .ok (.goto (-85), 3) := by decide +kernel
theorem dX12_sample_175 : decode cX12_sample 175 = .ok (.aload_n 0, 1) := by decide +kernel
theorem dX12_sample_176 : decode cX12_sample 176 = .ok (.aload_n 0, 1) := by decide +kernel
theorem dX12_sample_177 : decode cX12_sample 177 = .ok (.getfield 124, 3) := by decide +kernel
theorem dX12_sample_180 : decode cX12_sample 180 = .ok (.putfield 295, 3) := by decide +kernel
theorem dX12_sample_183 : decode cX12_sample 183 = .ok (.aload_n 0, 1) := by decide +kernel
theorem dX12_sample_184 : decode cX12_sample 184 = .ok (.invokevirtual 533, 3) := by decide +kernel
theorem dX12_sample_187 : decode cX12_sample 187 = .ok (.aload_n 0, 1) := by decide +kernel
theorem dX12_sample_188 : decode cX12_sample 188 = .ok (.getfield 124, 3) := by decide +kernel
theorem dX12_sample_191 : decode cX12_sample 191 = .ok (.ireturn, 1) := by decide +kernel
theorem dX12_held_0 : decode cX12_held 0 = .ok (.aload_n 0, 1) := by decide +kernel
theorem dX12_held_1 : decode cX12_held 1 = .ok (.iconst 0, 1) := by decide +kernel
theorem dX12_held_2 : decode cX12_held 2 = .ok (.putfield 105, 3) := by decide +kernel
theorem dX12_held_5 : decode cX12_held 5 = .ok (.aload_n 0, 1) := by decide +kernel
theorem dX12_held_6 : decode cX12_held 6 = .ok (.getfield 366, 3) := by decide +kernel
theorem dX12_held_9 : decode cX12_held 9 = .ok (.ireturn, 1) := by decide +kernel
theorem dX12_lengthOf_0 : decode cX12_lengthOf 0 = .ok (.aload_n 0, 1) := by decide +kernel
theorem dX12_lengthOf_1 : decode cX12_lengthOf 1 = .ok (.iload_n 1, 1) := by decide +kernel
theorem dX12_lengthOf_2 : decode cX12_lengthOf 2 = .ok (.ifCond .eq 7, 3) := by decide +kernel
theorem dX12_lengthOf_5 : decode cX12_lengthOf 5 = .ok (.iconst 0, 1) := by decide +kernel
theorem dX12_lengthOf_6 : decode cX12_lengthOf 6 = .ok (.goto 4, 3) := by decide +kernel
theorem dX12_lengthOf_9 : decode cX12_lengthOf 9 = .ok (.iconst 1, 1) := by decide +kernel
theorem dX12_lengthOf_10 : decode cX12_lengthOf 10 = .ok (.putfield 105, 3) := by decide +kernel
theorem dX12_lengthOf_13 : decode cX12_lengthOf 13 = .ok (.iload_n 1, 1) := by decide +kernel
theorem dX12_lengthOf_14 : decode cX12_lengthOf 14 = .ok (.ifCond .eq 11, 3) := by decide +kernel
theorem dX12_lengthOf_17 : decode cX12_lengthOf 17 = .ok (.aload_n 0, 1) := by decide +kernel
theorem dX12_lengthOf_18 : decode cX12_lengthOf 18 = .ok (.iload_n 2, 1) := by decide +kernel
theorem dX12_lengthOf_19 : decode cX12_lengthOf 19 = .ok (.invokevirtual 109, 3) := by decide +kernel
theorem dX12_lengthOf_22 : decode cX12_lengthOf 22 = .ok (.goto 4, 3) := by decide +kernel
theorem dX12_lengthOf_25 : decode cX12_lengthOf 25 = .ok (.iconst 0, 1) := by decide +kernel
theorem dX12_lengthOf_26 : decode cX12_lengthOf 26 = .ok (.ireturn, 1) := by decide +kernel
theorem dX12_heldLength_0 : decode cX12_heldLength 0 = .ok (.iload_n 1, 1) := by decide +kernel
theorem dX12_heldLength_1 : decode cX12_heldLength 1 = .ok (.iconst 1, 1) := by decide +kernel
theorem dX12_heldLength_2 : decode cX12_heldLength 2 = .ok (.if_icmp .lt 15, 3) := by decide +kernel
theorem dX12_heldLength_5 : decode cX12_heldLength 5 = .ok (.iload_n 1, 1) := by decide +kernel
theorem dX12_heldLength_6 : decode cX12_heldLength 6 = .ok (.aload_n 0, 1) := by decide +kernel
theorem dX12_heldLength_7 : decode cX12_heldLength 7 = .ok (.getfield 366, 3) := by decide +kernel
theorem dX12_heldLength_10 : decode cX12_heldLength 10 = .ok (.if_icmp .gt 7, 3) := by decide +kernel
theorem dX12_heldLength_13 : decode cX12_heldLength 13 = .ok (.iconst 1, 1) := by decide +kernel
theorem dX12_heldLength_14 : decode cX12_heldLength 14 = .ok (.goto 4, 3) := by decide +kernel
theorem dX12_heldLength_17 : decode cX12_heldLength 17 = .ok (.iconst 0, 1) := by decide +kernel
theorem dX12_heldLength_18 : decode cX12_heldLength 18 = .ok (.istore_n 2, 1) := by decide +kernel
theorem dX12_heldLength_19 : decode cX12_heldLength 19 = .ok (.aload_n 0, 1) := by decide +kernel
theorem dX12_heldLength_20 : decode cX12_heldLength 20 = .ok (.iload_n 2, 1) := by decide +kernel
theorem dX12_heldLength_21 : decode cX12_heldLength 21 = .ok (.iload_n 2, 1) := by decide +kernel
theorem dX12_heldLength_22 : decode cX12_heldLength 22 = .ok (.ifCond .eq 12, 3) := by decide +kernel
theorem dX12_heldLength_25 : decode cX12_heldLength 25 = .ok (.bipush 82, 2) := by decide +kernel
theorem dX12_heldLength_27 : decode cX12_heldLength 27 = .ok (.iload_n 1, 1) := by decide +kernel
theorem dX12_heldLength_28 : decode cX12_heldLength 28 = .ok (.iadd, 1) := by decide +kernel
theorem dX12_heldLength_29 : decode cX12_heldLength 29 = .ok (.iconst 1, 1) := by decide +kernel
theorem dX12_heldLength_30 : decode cX12_heldLength 30 = .ok (.isub, 1) := by decide +kernel
theorem dX12_heldLength_31 : decode cX12_heldLength 31 = .ok (.goto 4, 3) := by decide +kernel
theorem dX12_heldLength_34 : decode cX12_heldLength 34 = .ok (.iconst 0, 1) := by decide +kernel
theorem dX12_heldLength_35 : decode cX12_heldLength 35 = .ok (.invokevirtual 718, 3) := by decide +kernel
theorem dX12_heldLength_38 : decode cX12_heldLength 38 = .ok (.ireturn, 1) := by decide +kernel
theorem dX12_heldAt_0 : decode cX12_heldAt 0 = .ok (.iload_n 1, 1) := by decide +kernel
theorem dX12_heldAt_1 : decode cX12_heldAt 1 = .ok (.iconst 1, 1) := by decide +kernel
theorem dX12_heldAt_2 : decode cX12_heldAt 2 = .ok (.if_icmp .lt 15, 3) := by decide +kernel
theorem dX12_heldAt_5 : decode cX12_heldAt 5 = .ok (.iload_n 1, 1) := by decide +kernel
theorem dX12_heldAt_6 : decode cX12_heldAt 6 = .ok (.aload_n 0, 1) := by decide +kernel
theorem dX12_heldAt_7 : decode cX12_heldAt 7 = .ok (.getfield 366, 3) := by decide +kernel
theorem dX12_heldAt_10 : decode cX12_heldAt 10 = .ok (.if_icmp .gt 7, 3) := by decide +kernel
theorem dX12_heldAt_13 : decode cX12_heldAt 13 = .ok (.iconst 1, 1) := by decide +kernel
theorem dX12_heldAt_14 : decode cX12_heldAt 14 = .ok (.goto 4, 3) := by decide +kernel
theorem dX12_heldAt_17 : decode cX12_heldAt 17 = .ok (.iconst 0, 1) := by decide +kernel
theorem dX12_heldAt_18 : decode cX12_heldAt 18 = .ok (.istore_n 3, 1) := by decide +kernel
theorem dX12_heldAt_19 : decode cX12_heldAt 19 = .ok (.aload_n 0, 1) := by decide +kernel
theorem dX12_heldAt_20 : decode cX12_heldAt 20 = .ok (.iload_n 3, 1) := by decide +kernel
theorem dX12_heldAt_21 : decode cX12_heldAt 21 = .ok (.iload_n 3, 1) := by decide +kernel
theorem dX12_heldAt_22 : decode cX12_heldAt 22 = .ok (.ifCond .eq 12, 3) := by decide +kernel
theorem dX12_heldAt_25 : decode cX12_heldAt 25 = .ok (.bipush 82, 2) := by decide +kernel
theorem dX12_heldAt_27 : decode cX12_heldAt 27 = .ok (.iload_n 1, 1) := by decide +kernel
theorem dX12_heldAt_28 : decode cX12_heldAt 28 = .ok (.iadd, 1) := by decide +kernel
theorem dX12_heldAt_29 : decode cX12_heldAt 29 = .ok (.iconst 1, 1) := by decide +kernel
theorem dX12_heldAt_30 : decode cX12_heldAt 30 = .ok (.isub, 1) := by decide +kernel
theorem dX12_heldAt_31 : decode cX12_heldAt 31 = .ok (.goto 4, 3) := by decide +kernel
theorem dX12_heldAt_34 : decode cX12_heldAt 34 = .ok (.iconst 0, 1) := by decide +kernel
theorem dX12_heldAt_35 : decode cX12_heldAt 35 = .ok (.iload_n 2, 1) := by decide +kernel
theorem dX12_heldAt_36 : decode cX12_heldAt 36 = .ok (.invokevirtual 706, 3) := by decide +kernel
theorem dX12_heldAt_39 : decode cX12_heldAt 39 = .ok (.ifCond .eq 17, 3) := by decide +kernel
theorem dX12_heldAt_42 : decode cX12_heldAt 42 = .ok (.aload_n 0, 1) := by decide +kernel
theorem dX12_heldAt_43 : decode cX12_heldAt 43 = .ok (.bipush 82, 2) := by decide +kernel
theorem dX12_heldAt_45 : decode cX12_heldAt 45 = .ok (.iload_n 1, 1) := by decide +kernel
theorem dX12_heldAt_46 : decode cX12_heldAt 46 = .ok (.iadd, 1) := by decide +kernel
theorem dX12_heldAt_47 : decode cX12_heldAt 47 = .ok (.iconst 1, 1) := by decide +kernel
theorem dX12_heldAt_48 : decode cX12_heldAt 48 = .ok (.isub, 1) := by decide +kernel
theorem dX12_heldAt_49 : decode cX12_heldAt 49 = .ok (.iload_n 2, 1) := by decide +kernel
theorem dX12_heldAt_50 : decode cX12_heldAt 50 = .ok (.invokevirtual 113, 3) := by decide +kernel
theorem dX12_heldAt_53 : decode cX12_heldAt 53 = .ok (.goto 4, 3) := by decide +kernel
theorem dX12_heldAt_56 : decode cX12_heldAt 56 = .ok (.iconst 0, 1) := by decide +kernel
theorem dX12_heldAt_57 : decode cX12_heldAt 57 = .ok (.ireturn, 1) := by decide +kernel
theorem dX12_outs_0 : decode cX12_outs 0 = .ok (.aload_n 0, 1) := by decide +kernel
theorem dX12_outs_1 : decode cX12_outs 1 = .ok (.iconst 0, 1) := by decide +kernel
theorem dX12_outs_2 : decode cX12_outs 2 = .ok (.putfield 105, 3) := by decide +kernel
theorem dX12_outs_5 : decode cX12_outs 5 = .ok (.aload_n 0, 1) := by decide +kernel
theorem dX12_outs_6 : decode cX12_outs 6 = .ok (.getfield 357, 3) := by decide +kernel
theorem dX12_outs_9 : decode cX12_outs 9 = .ok (.ireturn, 1) := by decide +kernel
theorem dX12_outLength_0 : decode cX12_outLength 0 = .ok (.iload_n 1, 1) := by decide +kernel
theorem dX12_outLength_1 : decode cX12_outLength 1 = .ok (.iconst 1, 1) := by decide +kernel
theorem dX12_outLength_2 : decode cX12_outLength 2 = .ok (.if_icmp .lt 15, 3) := by decide +kernel
theorem dX12_outLength_5 : decode cX12_outLength 5 = .ok (.iload_n 1, 1) := by decide +kernel
theorem dX12_outLength_6 : decode cX12_outLength 6 = .ok (.aload_n 0, 1) := by decide +kernel
theorem dX12_outLength_7 : decode cX12_outLength 7 = .ok (.getfield 357, 3) := by decide +kernel
theorem dX12_outLength_10 : decode cX12_outLength 10 = .ok (.if_icmp .gt 7, 3) := by decide +kernel
theorem dX12_outLength_13 : decode cX12_outLength 13 = .ok (.iconst 1, 1) := by decide +kernel
theorem dX12_outLength_14 : decode cX12_outLength 14 = .ok (.goto 4, 3) := by decide +kernel
theorem dX12_outLength_17 : decode cX12_outLength 17 = .ok (.iconst 0, 1) := by decide +kernel
theorem dX12_outLength_18 : decode cX12_outLength 18 = .ok (.istore_n 2, 1) := by decide +kernel
theorem dX12_outLength_19 : decode cX12_outLength 19 = .ok (.aload_n 0, 1) := by decide +kernel
theorem dX12_outLength_20 : decode cX12_outLength 20 = .ok (.iload_n 2, 1) := by decide +kernel
theorem dX12_outLength_21 : decode cX12_outLength 21 = .ok (.iload_n 2, 1) := by decide +kernel
theorem dX12_outLength_22 : decode cX12_outLength 22 = .ok (.ifCond .eq 13, 3) := by decide +kernel
theorem dX12_outLength_25 : decode cX12_outLength 25 = .ok (.sipush 287, 3) := by decide +kernel
theorem dX12_outLength_28 : decode cX12_outLength 28 = .ok (.iload_n 1, 1) := by decide +kernel
theorem dX12_outLength_29 : decode cX12_outLength 29 = .ok (.iadd, 1) := by decide +kernel
theorem dX12_outLength_30 : decode cX12_outLength 30 = .ok (.iconst 1, 1) := by decide +kernel
theorem dX12_outLength_31 : decode cX12_outLength 31 = .ok (.isub, 1) := by decide +kernel
theorem dX12_outLength_32 : decode cX12_outLength 32 = .ok (.goto 4, 3) := by decide +kernel
theorem dX12_outLength_35 : decode cX12_outLength 35 = .ok (.iconst 0, 1) := by decide +kernel
theorem dX12_outLength_36 : decode cX12_outLength 36 = .ok (.invokevirtual 718, 3) := by decide +kernel
theorem dX12_outLength_39 : decode cX12_outLength 39 = .ok (.ireturn, 1) := by decide +kernel
theorem dX12_outAt_0 : decode cX12_outAt 0 = .ok (.iload_n 1, 1) := by decide +kernel
theorem dX12_outAt_1 : decode cX12_outAt 1 = .ok (.iconst 1, 1) := by decide +kernel
theorem dX12_outAt_2 : decode cX12_outAt 2 = .ok (.if_icmp .lt 15, 3) := by decide +kernel
theorem dX12_outAt_5 : decode cX12_outAt 5 = .ok (.iload_n 1, 1) := by decide +kernel
theorem dX12_outAt_6 : decode cX12_outAt 6 = .ok (.aload_n 0, 1) := by decide +kernel
theorem dX12_outAt_7 : decode cX12_outAt 7 = .ok (.getfield 357, 3) := by decide +kernel
theorem dX12_outAt_10 : decode cX12_outAt 10 = .ok (.if_icmp .gt 7, 3) := by decide +kernel
theorem dX12_outAt_13 : decode cX12_outAt 13 = .ok (.iconst 1, 1) := by decide +kernel
theorem dX12_outAt_14 : decode cX12_outAt 14 = .ok (.goto 4, 3) := by decide +kernel
theorem dX12_outAt_17 : decode cX12_outAt 17 = .ok (.iconst 0, 1) := by decide +kernel
theorem dX12_outAt_18 : decode cX12_outAt 18 = .ok (.istore_n 3, 1) := by decide +kernel
theorem dX12_outAt_19 : decode cX12_outAt 19 = .ok (.aload_n 0, 1) := by decide +kernel
theorem dX12_outAt_20 : decode cX12_outAt 20 = .ok (.iload_n 3, 1) := by decide +kernel
theorem dX12_outAt_21 : decode cX12_outAt 21 = .ok (.iload_n 3, 1) := by decide +kernel
theorem dX12_outAt_22 : decode cX12_outAt 22 = .ok (.ifCond .eq 13, 3) := by decide +kernel
theorem dX12_outAt_25 : decode cX12_outAt 25 = .ok (.sipush 287, 3) := by decide +kernel
theorem dX12_outAt_28 : decode cX12_outAt 28 = .ok (.iload_n 1, 1) := by decide +kernel
theorem dX12_outAt_29 : decode cX12_outAt 29 = .ok (.iadd, 1) := by decide +kernel
theorem dX12_outAt_30 : decode cX12_outAt 30 = .ok (.iconst 1, 1) := by decide +kernel
theorem dX12_outAt_31 : decode cX12_outAt 31 = .ok (.isub, 1) := by decide +kernel
theorem dX12_outAt_32 : decode cX12_outAt 32 = .ok (.goto 4, 3) := by decide +kernel
theorem dX12_outAt_35 : decode cX12_outAt 35 = .ok (.iconst 0, 1) := by decide +kernel
theorem dX12_outAt_36 : decode cX12_outAt 36 = .ok (.iload_n 2, 1) := by decide +kernel
theorem dX12_outAt_37 : decode cX12_outAt 37 = .ok (.invokevirtual 706, 3) := by decide +kernel
theorem dX12_outAt_40 : decode cX12_outAt 40 = .ok (.ifCond .eq 18, 3) := by decide +kernel
theorem dX12_outAt_43 : decode cX12_outAt 43 = .ok (.aload_n 0, 1) := by decide +kernel
theorem dX12_outAt_44 : decode cX12_outAt 44 = .ok (.sipush 287, 3) := by decide +kernel
theorem dX12_outAt_47 : decode cX12_outAt 47 = .ok (.iload_n 1, 1) := by decide +kernel
theorem dX12_outAt_48 : decode cX12_outAt 48 = .ok (.iadd, 1) := by decide +kernel
theorem dX12_outAt_49 : decode cX12_outAt 49 = .ok (.iconst 1, 1) := by decide +kernel
theorem dX12_outAt_50 : decode cX12_outAt 50 = .ok (.isub, 1) := by decide +kernel
theorem dX12_outAt_51 : decode cX12_outAt 51 = .ok (.iload_n 2, 1) := by decide +kernel
theorem dX12_outAt_52 : decode cX12_outAt 52 = .ok (.invokevirtual 113, 3) := by decide +kernel
theorem dX12_outAt_55 : decode cX12_outAt 55 = .ok (.goto 4, 3) := by decide +kernel
theorem dX12_outAt_58 : decode cX12_outAt 58 = .ok (.iconst 0, 1) := by decide +kernel
theorem dX12_outAt_59 : decode cX12_outAt 59 = .ok (.ireturn, 1) := by decide +kernel
theorem dX12_clearOut_0 : decode cX12_clearOut 0 = .ok (.aload_n 0, 1) := by decide +kernel
theorem dX12_clearOut_1 : decode cX12_clearOut 1 = .ok (.iconst 0, 1) := by decide +kernel
theorem dX12_clearOut_2 : decode cX12_clearOut 2 = .ok (.putfield 105, 3) := by decide +kernel
theorem dX12_clearOut_5 : decode cX12_clearOut 5 = .ok (.aload_n 0, 1) := by decide +kernel
theorem dX12_clearOut_6 : decode cX12_clearOut 6 = .ok (.getfield 357, 3) := by decide +kernel
theorem dX12_clearOut_9 : decode cX12_clearOut 9 = .ok (.istore_n 1, 1) := by decide +kernel
theorem dX12_clearOut_10 : decode cX12_clearOut 10 = .ok (.aload_n 0, 1) := by decide +kernel
theorem dX12_clearOut_11 : decode cX12_clearOut 11 = .ok (.iconst 0, 1) := by decide +kernel
theorem dX12_clearOut_12 : decode cX12_clearOut 12 = .ok (.putfield 357, 3) := by decide +kernel
theorem dX12_clearOut_15 : decode cX12_clearOut 15 = .ok (.iload_n 1, 1) := by decide +kernel
theorem dX12_clearOut_16 : decode cX12_clearOut 16 = .ok (.ireturn, 1) := by decide +kernel
theorem dX12_fileRows_0 : decode cX12_fileRows 0 = .ok (.aload_n 0, 1) := by decide +kernel
theorem dX12_fileRows_1 : decode cX12_fileRows 1 = .ok (.iload_n 1, 1) := by decide +kernel
theorem dX12_fileRows_2 : decode cX12_fileRows 2 = .ok (.invokestatic 691, 3) := by decide +kernel
theorem dX12_fileRows_5 : decode cX12_fileRows 5 = .ok (.ifCond .eq 7, 3) := by decide +kernel
theorem dX12_fileRows_8 : decode cX12_fileRows 8 = .ok (.iconst 0, 1) := by decide +kernel
theorem dX12_fileRows_9 : decode cX12_fileRows 9 = .ok (.goto 4, 3) := by decide +kernel
theorem dX12_fileRows_12 : decode cX12_fileRows 12 = .ok (.iconst 1, 1) := by decide +kernel
theorem dX12_fileRows_13 : decode cX12_fileRows 13 = .ok (.putfield 105, 3) := by decide +kernel
theorem dX12_fileRows_16 : decode cX12_fileRows 16 = .ok (.aload_n 0, 1) := by decide +kernel
theorem dX12_fileRows_17 : decode cX12_fileRows 17 = .ok (.getfield 105, 3) := by decide +kernel
theorem dX12_fileRows_20 : decode cX12_fileRows 20 = .ok (.ifCond .le 7, 3) := by decide +kernel
theorem dX12_fileRows_23 : decode cX12_fileRows 23 = .ok (.iconst 0, 1) := by decide +kernel
theorem dX12_fileRows_24 : decode cX12_fileRows 24 = .ok (.goto 9, 3) := by decide +kernel
theorem dX12_fileRows_27 : decode cX12_fileRows 27 = .ok (.aload_n 0, 1) := by decide +kernel
theorem dX12_fileRows_28 : decode cX12_fileRows 28 = .ok (.getfield 38, 3) := by decide +kernel
theorem dX12_fileRows_31 : decode cX12_fileRows 31 = .ok (.iload_n 1, 1) := by decide +kernel
theorem dX12_fileRows_32 : decode cX12_fileRows 32 = .ok (.iaload, 1) := by decide +kernel
theorem dX12_fileRows_33 : decode cX12_fileRows 33 = .ok (.ireturn, 1) := by decide +kernel
theorem dX12_isFileRow_0 : decode cX12_isFileRow 0 = .ok (.iload_n 1, 1) := by decide +kernel
theorem dX12_isFileRow_1 : decode cX12_isFileRow 1 = .ok (.invokestatic 691, 3) := by decide +kernel
theorem dX12_isFileRow_4 : decode cX12_isFileRow 4 = .ok (.ifCond .eq 22, 3) := by decide +kernel
theorem dX12_isFileRow_7 : decode cX12_isFileRow 7 = .ok (.iload_n 2, 1) := by decide +kernel
theorem dX12_isFileRow_8 : decode cX12_isFileRow 8 = .ok (.iconst 1, 1) := by decide +kernel
theorem dX12_isFileRow_9 : decode cX12_isFileRow 9 = .ok (.if_icmp .lt 17, 3) := by decide +kernel
theorem dX12_isFileRow_12 : decode cX12_isFileRow 12 = .ok (.iload_n 2, 1) := by decide +kernel
theorem dX12_isFileRow_13 : decode cX12_isFileRow 13 = .ok (.aload_n 0, 1) := by decide +kernel
theorem dX12_isFileRow_14 : decode cX12_isFileRow 14 = .ok (.getfield 38, 3) := by decide +kernel
theorem dX12_isFileRow_17 : decode cX12_isFileRow 17 = .ok (.iload_n 1, 1) := by decide +kernel
theorem dX12_isFileRow_18 : decode cX12_isFileRow 18 = .ok (.iaload, 1) := by decide +kernel
theorem dX12_isFileRow_19 : decode cX12_isFileRow 19 = .ok (.if_icmp .gt 7, 3) := by decide +kernel
theorem dX12_isFileRow_22 : decode cX12_isFileRow 22 = .ok (.iconst 1, 1) := by decide +kernel
theorem dX12_isFileRow_23 : decode cX12_isFileRow 23 = .ok (.goto 4, 3) := by decide +kernel
theorem dX12_isFileRow_26 : decode cX12_isFileRow 26 = .ok (.iconst 0, 1) := by decide +kernel
theorem dX12_isFileRow_27 : decode cX12_isFileRow 27 = .ok (.ireturn, 1) := by decide +kernel
theorem dX12_fileLength_0 : decode cX12_fileLength 0 = .ok (.aload_n 0, 1) := by decide +kernel
theorem dX12_fileLength_1 : decode cX12_fileLength 1 = .ok (.iload_n 1, 1) := by decide +kernel
theorem dX12_fileLength_2 : decode cX12_fileLength 2 = .ok (.iload_n 2, 1) := by decide +kernel
theorem dX12_fileLength_3 : decode cX12_fileLength 3 = .ok (.invokevirtual 722, 3) := by decide +kernel
theorem dX12_fileLength_6 : decode cX12_fileLength 6 = .ok (.istore_n 3, 1) := by decide +kernel
theorem dX12_fileLength_7 : decode cX12_fileLength 7 = .ok (.aload_n 0, 1) := by decide +kernel
theorem dX12_fileLength_8 : decode cX12_fileLength 8 = .ok (.iload_n 3, 1) := by decide +kernel
theorem dX12_fileLength_9 : decode cX12_fileLength 9 = .ok (.iload_n 3, 1) := by decide +kernel
theorem dX12_fileLength_10 : decode cX12_fileLength 10 = .ok (.ifCond .eq 13, 3) := by decide +kernel
theorem dX12_fileLength_13 : decode cX12_fileLength 13 = .ok (.iload_n 1, 1) := by decide +kernel
theorem dX12_fileLength_14 : decode cX12_fileLength 14 = .ok (.iload_n 2, 1) := by decide +kernel
theorem dX12_fileLength_15 : decode cX12_fileLength 15 = .ok (.iconst 1, 1) := by decide +kernel
theorem dX12_fileLength_16 : decode cX12_fileLength 16 = .ok (.isub, 1) := by decide +kernel
theorem dX12_fileLength_17 : decode cX12_fileLength 17 = .ok (.invokestatic 394, 3) := by decide +kernel
theorem dX12_fileLength_20 : decode cX12_fileLength 20 = .ok (.goto 4, 3) := by decide +kernel
theorem dX12_fileLength_23 : decode cX12_fileLength 23 = .ok (.iconst 0, 1) := by decide +kernel
theorem dX12_fileLength_24 : decode cX12_fileLength 24 = .ok (.invokevirtual 718, 3) := by decide +kernel
theorem dX12_fileLength_27 : decode cX12_fileLength 27 = .ok (.ireturn, 1) := by decide +kernel
theorem dX12_fileAt_0 : decode cX12_fileAt 0 = .ok (.aload_n 0, 1) := by decide +kernel
theorem dX12_fileAt_1 : decode cX12_fileAt 1 = .ok (.iload_n 1, 1) := by decide +kernel
theorem dX12_fileAt_2 : decode cX12_fileAt 2 = .ok (.iload_n 2, 1) := by decide +kernel
theorem dX12_fileAt_3 : decode cX12_fileAt 3 = .ok (.invokevirtual 722, 3) := by decide +kernel
theorem dX12_fileAt_6 : decode cX12_fileAt 6 = .ok (.istore 4, 2) := by decide +kernel
theorem dX12_fileAt_8 : decode cX12_fileAt 8 = .ok (.aload_n 0, 1) := by decide +kernel
theorem dX12_fileAt_9 : decode cX12_fileAt 9 = .ok (.iload 4, 2) := by decide +kernel
theorem dX12_fileAt_11 : decode cX12_fileAt 11 = .ok (.iload 4, 2) := by decide +kernel
theorem dX12_fileAt_13 : decode cX12_fileAt 13 = .ok (.ifCond .eq 13, 3) := by decide +kernel
theorem dX12_fileAt_16 : decode cX12_fileAt 16 = .ok (.iload_n 1, 1) := by decide +kernel
theorem dX12_fileAt_17 : decode cX12_fileAt 17 = .ok (.iload_n 2, 1) := by decide +kernel
theorem dX12_fileAt_18 : decode cX12_fileAt 18 = .ok (.iconst 1, 1) := by decide +kernel
theorem dX12_fileAt_19 : decode cX12_fileAt 19 = .ok (.isub, 1) := by decide +kernel
theorem dX12_fileAt_20 : decode cX12_fileAt 20 = .ok (.invokestatic 394, 3) := by decide +kernel
theorem dX12_fileAt_23 : decode cX12_fileAt 23 = .ok (.goto 4, 3) := by decide +kernel
theorem dX12_fileAt_26 : decode cX12_fileAt 26 = .ok (.iconst 0, 1) := by decide +kernel
theorem dX12_fileAt_27 : decode cX12_fileAt 27 = .ok (.iload_n 3, 1) := by decide +kernel
theorem dX12_fileAt_28 : decode cX12_fileAt 28 = .ok (.invokevirtual 706, 3) := by decide +kernel
theorem dX12_fileAt_31 : decode cX12_fileAt 31 = .ok (.ifCond .eq 18, 3) := by decide +kernel
theorem dX12_fileAt_34 : decode cX12_fileAt 34 = .ok (.aload_n 0, 1) := by decide +kernel
theorem dX12_fileAt_35 : decode cX12_fileAt 35 = .ok (.iload_n 1, 1) := by decide +kernel
theorem dX12_fileAt_36 : decode cX12_fileAt 36 = .ok (.iload_n 2, 1) := by decide +kernel
theorem dX12_fileAt_37 : decode cX12_fileAt 37 = .ok (.iconst 1, 1) := by decide +kernel
theorem dX12_fileAt_38 : decode cX12_fileAt 38 = .ok (.isub, 1) := by decide +kernel
theorem dX12_fileAt_39 : decode cX12_fileAt 39 = .ok (.invokestatic 394, 3) := by decide +kernel
theorem dX12_fileAt_42 : decode cX12_fileAt 42 = .ok (.iload_n 3, 1) := by decide +kernel
theorem dX12_fileAt_43 : decode cX12_fileAt 43 = .ok (.invokevirtual 113, 3) := by decide +kernel
theorem dX12_fileAt_46 : decode cX12_fileAt 46 = .ok (.goto 4, 3) := by decide +kernel
theorem dX12_fileAt_49 : decode cX12_fileAt 49 = .ok (.iconst 0, 1) := by decide +kernel
theorem dX12_fileAt_50 : decode cX12_fileAt 50 = .ok (.ireturn, 1) := by decide +kernel
theorem dX12_find_0 : decode cX12_find 0 = .ok (.aload_n 0, 1) := by decide +kernel
theorem dX12_find_1 : decode cX12_find 1 = .ok (.invokevirtual 679, 3) := by decide +kernel
theorem dX12_find_4 : decode cX12_find 4 = .ok (.aload_n 0, 1) := by decide +kernel
theorem dX12_find_5 : decode cX12_find 5 = .ok (.aload_n 0, 1) := by decide +kernel
theorem dX12_find_6 : decode cX12_find 6 = .ok (.invokevirtual 685, 3) := by decide +kernel
theorem dX12_find_9 : decode cX12_find 9 = .ok (.ifCond .lt 7, 3) := by decide +kernel
theorem dX12_find_12 : decode cX12_find 12 = .ok (.iconst 1, 1) := by decide +kernel
theorem dX12_find_13 : decode cX12_find 13 = .ok (.goto 4, 3) := by decide +kernel
theorem dX12_find_16 : decode cX12_find 16 = .ok (.iconst 0, 1) := by decide +kernel
theorem dX12_find_17 : decode cX12_find 17 = .ok (.putfield 105, 3) := by decide +kernel
theorem dX12_find_20 : decode cX12_find 20 = .ok (.aload_n 0, 1) := by decide +kernel
theorem dX12_find_21 : decode cX12_find 21 = .ok (.getfield 105, 3) := by decide +kernel
theorem dX12_find_24 : decode cX12_find 24 = .ok (.ifCond .le 5, 3) := by decide +kernel
theorem dX12_find_27 : decode cX12_find 27 = .ok (.iconst 0, 1) := by decide +kernel
theorem dX12_find_28 : decode cX12_find 28 = .ok (.ireturn, 1) := by decide +kernel
theorem dX12_find_29 : decode cX12_find 29 = .ok (.aload_n 0, 1) := by decide +kernel
theorem dX12_find_30 : decode cX12_find 30 = .ok (.iconst 0, 1) := by decide +kernel
theorem dX12_find_31 : decode cX12_find 31 = .ok (.iconst 0, 1) := by decide +kernel
theorem dX12_find_32 : decode cX12_find 32 = .ok (.invokevirtual 310, 3) := by decide +kernel
theorem dX12_find_35 : decode cX12_find 35 = .ok (.aload_n 0, 1) := by decide +kernel
theorem dX12_find_36 : decode cX12_find 36 = .ok (.iload_n 1, 1) := by decide +kernel
theorem dX12_find_37 : decode cX12_find 37 = .ok (.invokevirtual 313, 3) := by decide +kernel
theorem dX12_find_40 : decode cX12_find 40 = .ok (.istore_n 2, 1) := by decide +kernel
theorem dX12_find_41 : decode cX12_find 41 = .ok (.iload_n 2, 1) := by decide +kernel
theorem dX12_find_42 : decode cX12_find 42 = .ok (.ifCond .le 7, 3) := by decide +kernel
theorem dX12_find_45 : decode cX12_find 45 = .ok (.iload_n 2, 1) := by decide +kernel
theorem dX12_find_46 : decode cX12_find 46 = .ok (.goto 4, 3) := by decide +kernel
theorem dX12_find_49 : decode cX12_find 49 = .ok (.iconst (-1), 1) := by decide +kernel
theorem dX12_find_50 : decode cX12_find 50 = .ok (.ireturn, 1) := by decide +kernel
theorem dX12_looks_0 : decode cX12_looks 0 = .ok (.aload_n 0, 1) := by decide +kernel
theorem dX12_looks_1 : decode cX12_looks 1 = .ok (.invokevirtual 679, 3) := by decide +kernel
theorem dX12_looks_4 : decode cX12_looks 4 = .ok (.aload_n 0, 1) := by decide +kernel
theorem dX12_looks_5 : decode cX12_looks 5 = .ok (.aload_n 0, 1) := by decide +kernel
theorem dX12_looks_6 : decode cX12_looks 6 = .ok (.iload_n 1, 1) := by decide +kernel
theorem dX12_looks_7 : decode cX12_looks 7 = .ok (.invokevirtual 703, 3) := by decide +kernel
theorem dX12_looks_10 : decode cX12_looks 10 = .ok (.ifCond .ne 7, 3) := by decide +kernel
theorem dX12_looks_13 : decode cX12_looks 13 = .ok (.iconst 1, 1) := by decide +kernel
theorem dX12_looks_14 : decode cX12_looks 14 = .ok (.goto 15, 3) := by decide +kernel
theorem dX12_looks_17 : decode cX12_looks 17 = .ok (.aload_n 0, 1) := by decide +kernel
theorem dX12_looks_18 : decode cX12_looks 18 = .ok (.invokevirtual 685, 3) := by decide +kernel
theorem dX12_looks_21 : decode cX12_looks 21 = .ok (.ifCond .lt 7, 3) := by decide +kernel
theorem dX12_looks_24 : decode cX12_looks 24 = .ok (.iconst 2, 1) := by decide +kernel
theorem dX12_looks_25 : decode cX12_looks 25 = .ok (.goto 4, 3) := by decide +kernel
theorem dX12_looks_28 : decode cX12_looks 28 = .ok (.iconst 0, 1) := by decide +kernel
theorem dX12_looks_29 : decode cX12_looks 29 = .ok (.putfield 105, 3) := by decide +kernel
theorem dX12_looks_32 : decode cX12_looks 32 = .ok (.aload_n 0, 1) := by decide +kernel
theorem dX12_looks_33 : decode cX12_looks 33 = .ok (.getfield 105, 3) := by decide +kernel
theorem dX12_looks_36 : decode cX12_looks 36 = .ok (.ifCond .le 5, 3) := by decide +kernel
theorem dX12_looks_39 : decode cX12_looks 39 = .ok (.iconst 0, 1) := by decide +kernel
theorem dX12_looks_40 : decode cX12_looks 40 = .ok (.ireturn, 1) := by decide +kernel
theorem dX12_looks_41 : decode cX12_looks 41 = .ok (.aload_n 0, 1) := by decide +kernel
theorem dX12_looks_42 : decode cX12_looks 42 = .ok (.iconst 0, 1) := by decide +kernel
theorem dX12_looks_43 : decode cX12_looks 43 = .ok (.iconst 0, 1) := by decide +kernel
theorem dX12_looks_44 : decode cX12_looks 44 = .ok (.invokevirtual 310, 3) := by decide +kernel
theorem dX12_looks_47 : decode cX12_looks 47 = .ok (.aload_n 0, 1) := by decide +kernel
theorem dX12_looks_48 : decode cX12_looks 48 = .ok (.iload_n 1, 1) := by decide +kernel
theorem dX12_looks_49 : decode cX12_looks 49 = .ok (.invokestatic 298, 3) := by decide +kernel
theorem dX12_looks_52 : decode cX12_looks 52 = .ok (.iconst 0, 1) := by decide +kernel
theorem dX12_looks_53 : decode cX12_looks 53 = .ok (.invokevirtual 292, 3) := by decide +kernel
theorem dX12_looks_56 : decode cX12_looks 56 = .ok (.ireturn, 1) := by decide +kernel
theorem dX12_findStart_0 : decode cX12_findStart 0 = .ok (.aload_n 0, 1) := by decide +kernel
theorem dX12_findStart_1 : decode cX12_findStart 1 = .ok (.iload_n 1, 1) := by decide +kernel
theorem dX12_findStart_2 : decode cX12_findStart 2 = .ok (.invokevirtual 725, 3) := by decide +kernel
theorem dX12_findStart_5 : decode cX12_findStart 5 = .ok (.istore_n 2, 1) := by decide +kernel
theorem dX12_findStart_6 : decode cX12_findStart 6 = .ok (.aload_n 0, 1) := by decide +kernel
theorem dX12_findStart_7 : decode cX12_findStart 7 = .ok (.getfield 105, 3) := by decide +kernel
theorem dX12_findStart_10 : decode cX12_findStart 10 = .ok (.ifCond .le 7, 3) := by decide +kernel
theorem dX12_findStart_13 : decode cX12_findStart 13 = .ok (.iconst 0, 1) := by decide +kernel
theorem dX12_findStart_14 : decode cX12_findStart 14 = .ok (.goto 15, 3) := by decide +kernel
theorem dX12_findStart_17 : decode cX12_findStart 17 = .ok (.iload_n 2, 1) := by decide +kernel
theorem dX12_findStart_18 : decode cX12_findStart 18 = .ok (.ifCond .eq 10, 3) := by decide +kernel
theorem dX12_findStart_21 : decode cX12_findStart 21 = .ok (.aload_n 0, 1) := by decide +kernel
theorem dX12_findStart_22 : decode cX12_findStart 22 = .ok (.getfield 289, 3) := by decide +kernel
theorem dX12_findStart_25 : decode cX12_findStart 25 = .ok (.goto 4, 3) := by decide +kernel
theorem dX12_findStart_28 : decode cX12_findStart 28 = .ok (.iconst (-1), 1) := by decide +kernel
theorem dX12_findStart_29 : decode cX12_findStart 29 = .ok (.ireturn, 1) := by decide +kernel
theorem dX12_findEnd_0 : decode cX12_findEnd 0 = .ok (.aload_n 0, 1) := by decide +kernel
theorem dX12_findEnd_1 : decode cX12_findEnd 1 = .ok (.iload_n 1, 1) := by decide +kernel
theorem dX12_findEnd_2 : decode cX12_findEnd 2 = .ok (.invokevirtual 725, 3) := by decide +kernel
theorem dX12_findEnd_5 : decode cX12_findEnd 5 = .ok (.istore_n 2, 1) := by decide +kernel
theorem dX12_findEnd_6 : decode cX12_findEnd 6 = .ok (.aload_n 0, 1) := by decide +kernel
theorem dX12_findEnd_7 : decode cX12_findEnd 7 = .ok (.getfield 105, 3) := by decide +kernel
theorem dX12_findEnd_10 : decode cX12_findEnd 10 = .ok (.ifCond .le 7, 3) := by decide +kernel
theorem dX12_findEnd_13 : decode cX12_findEnd 13 = .ok (.iconst 0, 1) := by decide +kernel
theorem dX12_findEnd_14 : decode cX12_findEnd 14 = .ok (.goto 15, 3) := by decide +kernel
theorem dX12_findEnd_17 : decode cX12_findEnd 17 = .ok (.iload_n 2, 1) := by decide +kernel
theorem dX12_findEnd_18 : decode cX12_findEnd 18 = .ok (.ifCond .eq 10, 3) := by decide +kernel
theorem dX12_findEnd_21 : decode cX12_findEnd 21 = .ok (.aload_n 0, 1) := by decide +kernel
theorem dX12_findEnd_22 : decode cX12_findEnd 22 = .ok (.getfield 279, 3) := by decide +kernel
theorem dX12_findEnd_25 : decode cX12_findEnd 25 = .ok (.goto 4, 3) := by decide +kernel
theorem dX12_findEnd_28 : decode cX12_findEnd 28 = .ok (.iconst (-1), 1) := by decide +kernel
theorem dX12_findEnd_29 : decode cX12_findEnd 29 = .ok (.ireturn, 1) := by decide +kernel
theorem dX12_compareTo_0 : decode cX12_compareTo 0 = .ok (.aload_n 0, 1) := by decide +kernel
theorem dX12_compareTo_1 : decode cX12_compareTo 1 = .ok (.getfield 38, 3) := by decide +kernel
theorem dX12_compareTo_4 : decode cX12_compareTo 4 = .ok (.iload_n 1, 1) := by decide +kernel
theorem dX12_compareTo_5 : decode cX12_compareTo 5 = .ok (.iaload, 1) := by decide +kernel
theorem dX12_compareTo_6 : decode cX12_compareTo 6 = .ok (.istore_n 2, 1) := by decide +kernel
theorem dX12_compareTo_7 : decode cX12_compareTo 7 = .ok (.aload_n 0, 1) := by decide +kernel
theorem dX12_compareTo_8 : decode cX12_compareTo 8 = .ok (.getfield 124, 3) := by decide +kernel
theorem dX12_compareTo_11 : decode cX12_compareTo 11 = .ok (.istore_n 3, 1) := by decide +kernel
theorem dX12_compareTo_12 : decode cX12_compareTo 12 = .ok (.iload_n 3, 1) := by decide +kernel
theorem dX12_compareTo_13 : decode cX12_compareTo 13 = .ok (.ifCond .lt 151, 3) := by decide +kernel
theorem dX12_compareTo_16 : decode cX12_compareTo 16 = .ok (.iload_n 2, 1) := by decide +kernel
theorem dX12_compareTo_17 : decode cX12_compareTo 17 = .ok (.istore 4, 2) := by decide +kernel
theorem dX12_compareTo_19 : decode cX12_compareTo 19 = .ok (.iload 4, 2) := by decide +kernel
theorem dX12_compareTo_21 : decode cX12_compareTo 21 = .ok (.ifCond .lt 137, 3) := by decide +kernel
theorem dX12_compareTo_24 : decode cX12_compareTo 24 = .ok (.iload_n 3, 1) := by decide +kernel
theorem dX12_compareTo_25 : decode cX12_compareTo 25 = .ok (.aload_n 0, 1) := by decide +kernel
theorem dX12_compareTo_26 : decode cX12_compareTo 26 = .ok (.getfield 124, 3) := by decide +kernel
theorem dX12_compareTo_29 : decode cX12_compareTo 29 = .ok (.if_icmp .eq 9, 3) := by decide +kernel
theorem dX12_compareTo_32 : decode cX12_compareTo 32 = .ok (.iload 4, 2) := by decide +kernel
theorem dX12_compareTo_34 : decode cX12_compareTo 34 = .ok (.iload_n 2, 1) := by decide +kernel
theorem dX12_compareTo_35 : decode cX12_compareTo 35 = .ok (.if_icmp .ne 7, 3) := by decide +kernel
theorem dX12_compareTo_38 : decode cX12_compareTo 38 = .ok (.iconst 0, 1) := by decide +kernel
theorem dX12_compareTo_39 : decode cX12_compareTo 39 = .ok (.goto 34, 3) := by decide +kernel
theorem dX12_compareTo_42 : decode cX12_compareTo 42 = .ok (.aload_n 0, 1) := by decide +kernel
theorem dX12_compareTo_43 : decode cX12_compareTo 43 = .ok (.getfield 99, 3) := by decide +kernel
theorem dX12_compareTo_46 : decode cX12_compareTo 46 = .ok (.bipush 41, 2) := by decide +kernel
theorem dX12_compareTo_48 : decode cX12_compareTo 48 = .ok (.iload_n 3, 1) := by decide +kernel
theorem dX12_compareTo_49 : decode cX12_compareTo 49 = .ok (.iconst 1, 1) := by decide +kernel
theorem dX12_compareTo_50 : decode cX12_compareTo 50 = .ok (.iadd, 1) := by decide +kernel
theorem dX12_compareTo_51 : decode cX12_compareTo 51 = .ok (.imul, 1) := by decide +kernel
theorem dX12_compareTo_52 : decode cX12_compareTo 52 = .ok (.iload 4, 2) := by decide +kernel
theorem dX12_compareTo_54 : decode cX12_compareTo 54 = .ok (.iadd, 1) := by decide +kernel
theorem dX12_compareTo_55 : decode cX12_compareTo 55 = .ok (.iaload, 1) := by decide +kernel
theorem dX12_compareTo_56 : decode cX12_compareTo 56 = .ok (.aload_n 0, 1) := by decide +kernel
theorem dX12_compareTo_57 : decode cX12_compareTo 57 = .ok (.getfield 99, 3) := by decide +kernel
theorem dX12_compareTo_60 : decode cX12_compareTo 60 = .ok (.bipush 41, 2) := by decide +kernel
theorem dX12_compareTo_62 : decode cX12_compareTo 62 = .ok (.iload_n 3, 1) := by decide +kernel
theorem dX12_compareTo_63 : decode cX12_compareTo 63 = .ok (.imul, 1) := by decide +kernel
theorem dX12_compareTo_64 : decode cX12_compareTo 64 = .ok (.iload 4, 2) := by decide +kernel
theorem dX12_compareTo_66 : decode cX12_compareTo 66 = .ok (.iadd, 1) := by decide +kernel
theorem dX12_compareTo_67 : decode cX12_compareTo 67 = .ok (.iconst 1, 1) := by decide +kernel
theorem dX12_compareTo_68 : decode cX12_compareTo 68 = .ok (.iadd, 1) := by decide +kernel
theorem dX12_compareTo_69 : decode cX12_compareTo 69 = .ok (.iaload, 1) := by decide +kernel
theorem dX12_compareTo_70 : decode cX12_compareTo 70 = .ok (.invokestatic 728, 3) := by decide +kernel
theorem dX12_compareTo_73 : decode cX12_compareTo 73 = .ok (.istore 5, 2) := by decide +kernel
theorem dX12_compareTo_75 : decode cX12_compareTo 75 = .ok (.iload_n 3, 1) := by decide +kernel
theorem dX12_compareTo_76 : decode cX12_compareTo 76 = .ok (.aload_n 0, 1) := by decide +kernel
theorem dX12_compareTo_77 : decode cX12_compareTo 77 = .ok (.getfield 124, 3) := by decide +kernel
theorem dX12_compareTo_80 : decode cX12_compareTo 80 = .ok (.if_icmp .ge 29, 3) := by decide +kernel
theorem dX12_compareTo_83 : decode cX12_compareTo 83 = .ok (.iload 4, 2) := by decide +kernel
theorem dX12_compareTo_85 : decode cX12_compareTo 85 = .ok (.iload_n 2, 1) := by decide +kernel
theorem dX12_compareTo_86 : decode cX12_compareTo 86 = .ok (.if_icmp .ge 23, 3) := by decide +kernel
theorem dX12_compareTo_89 : decode cX12_compareTo 89 = .ok (.aload_n 0, 1) := by decide +kernel
theorem dX12_compareTo_90 : decode cX12_compareTo 90 = .ok (.iconst 0, 1) := by decide +kernel
theorem dX12_compareTo_91 : decode cX12_compareTo 91 = .ok (.iload_n 3, 1) := by decide +kernel
theorem dX12_compareTo_92 : decode cX12_compareTo 92 = .ok (.iadd, 1) := by decide +kernel
theorem dX12_compareTo_93 : decode cX12_compareTo 93 = .ok (.iload_n 1, 1) := by decide +kernel
theorem dX12_compareTo_94 : decode cX12_compareTo 94 = .ok (.iload 4, 2) := by decide +kernel
theorem dX12_compareTo_96 : decode cX12_compareTo 96 = .ok (.invokestatic 394, 3) := by decide +kernel
theorem dX12_compareTo_99 : decode cX12_compareTo 99 = .ok (.invokevirtual 354, 3) := by decide +kernel
theorem dX12_compareTo_102 : decode cX12_compareTo 102 = .ok (.ifCond .eq 7, 3) := by decide +kernel
theorem dX12_compareTo_105 : decode cX12_compareTo 105 = .ok (.iconst 1, 1) := by decide +kernel
theorem dX12_compareTo_106 : decode cX12_compareTo 106 = .ok (.goto 4, 3) := by decide +kernel
theorem dX12_compareTo_109 : decode cX12_compareTo 109 = .ok (.iconst 0, 1) := by decide +kernel
theorem dX12_compareTo_110 : decode cX12_compareTo 110 = .ok (.istore 6, 2) := by decide +kernel
theorem dX12_compareTo_112 : decode cX12_compareTo 112 = .ok (.aload_n 0, 1) := by decide +kernel
theorem dX12_compareTo_113 : decode cX12_compareTo 113 = .ok (.getfield 99, 3) := by decide +kernel
theorem dX12_compareTo_116 : decode cX12_compareTo 116 = .ok (.bipush 41, 2) := by decide +kernel
theorem dX12_compareTo_118 : decode cX12_compareTo 118 = .ok (.iload_n 3, 1) := by decide +kernel
theorem dX12_compareTo_119 : decode cX12_compareTo 119 = .ok (.imul, 1) := by decide +kernel
theorem dX12_compareTo_120 : decode cX12_compareTo 120 = .ok (.iload 4, 2) := by decide +kernel
theorem dX12_compareTo_122 : decode cX12_compareTo 122 = .ok (.iadd, 1) := by decide +kernel
theorem dX12_compareTo_123 : decode cX12_compareTo 123 = .ok (.iload 6, 2) := by decide +kernel
theorem dX12_compareTo_125 : decode cX12_compareTo 125 = .ok (.ifCond .eq 24, 3) := by decide +kernel
theorem dX12_compareTo_128 : decode cX12_compareTo 128 = .ok (.aload_n 0, 1) := by decide +kernel
theorem dX12_compareTo_129 : decode cX12_compareTo 129 = .ok (.getfield 99, 3) := by decide +kernel
theorem dX12_compareTo_132 : decode cX12_compareTo 132 = .ok (.bipush 41, 2) := by decide +kernel
theorem dX12_compareTo_134 : decode cX12_compareTo 134 = .ok (.iload_n 3, 1) := by decide +kernel
theorem dX12_compareTo_135 : decode cX12_compareTo 135 = .ok (.iconst 1, 1) := by decide +kernel
theorem dX12_compareTo_136 : decode cX12_compareTo 136 = .ok (.iadd, 1) := by decide +kernel
theorem dX12_compareTo_137 : decode cX12_compareTo 137 = .ok (.imul, 1) := by decide +kernel
theorem dX12_compareTo_138 : decode cX12_compareTo 138 = .ok (.iload 4, 2) := by decide +kernel
theorem dX12_compareTo_140 : decode cX12_compareTo 140 = .ok (.iadd, 1) := by decide +kernel
theorem dX12_compareTo_141 : decode cX12_compareTo 141 = .ok (.iconst 1, 1) := by decide +kernel
theorem dX12_compareTo_142 : decode cX12_compareTo 142 = .ok (.iadd, 1) := by decide +kernel
theorem dX12_compareTo_143 : decode cX12_compareTo 143 = .ok (.iaload, 1) := by decide +kernel
theorem dX12_compareTo_144 : decode cX12_compareTo 144 = .ok (.iconst 1, 1) := by decide +kernel
theorem dX12_compareTo_145 : decode cX12_compareTo 145 = .ok (.iadd, 1) := by decide +kernel
theorem dX12_compareTo_146 : decode cX12_compareTo 146 = .ok (.goto 5, 3) := by decide +kernel
theorem dX12_compareTo_149 : decode cX12_compareTo 149 = .ok (.iload 5, 2) := by decide +kernel
theorem dX12_compareTo_151 : decode cX12_compareTo 151 = .ok (.iastore, 1) := by decide +kernel
theorem dX12_compareTo_152 : decode cX12_compareTo 152 = .ok (.iinc 4 (-1), 3) := by decide +kernel
theorem dX12_compareTo_155 : decode cX12_compareTo 155 = .ok (.goto (-136), 3) := by decide +kernel
theorem dX12_compareTo_158 : decode cX12_compareTo 158 = .ok (.iinc 3 (-1), 3) := by decide +kernel
theorem dX12_compareTo_161 : decode cX12_compareTo 161 = .ok (.goto (-149), 3) := by decide +kernel
theorem dX12_compareTo_164 : decode cX12_compareTo 164 = .ok (.return_, 1) := by decide +kernel
theorem dX12_larger_0 : decode cX12_larger 0 = .ok (.iload_n 0, 1) := by decide +kernel
theorem dX12_larger_1 : decode cX12_larger 1 = .ok (.iload_n 1, 1) := by decide +kernel
theorem dX12_larger_2 : decode cX12_larger 2 = .ok (.if_icmp .le 7, 3) := by decide +kernel
theorem dX12_larger_5 : decode cX12_larger 5 = .ok (.iload_n 0, 1) := by decide +kernel
theorem dX12_larger_6 : decode cX12_larger 6 = .ok (.goto 4, 3) := by decide +kernel
theorem dX12_larger_9 : decode cX12_larger 9 = .ok (.iload_n 1, 1) := by decide +kernel
theorem dX12_larger_10 : decode cX12_larger 10 = .ok (.ireturn, 1) := by decide +kernel
theorem dX12_pair_0 : decode cX12_pair 0 = .ok (.aload_n 0, 1) := by decide +kernel
theorem dX12_pair_1 : decode cX12_pair 1 = .ok (.iload_n 1, 1) := by decide +kernel
theorem dX12_pair_2 : decode cX12_pair 2 = .ok (.invokevirtual 731, 3) := by decide +kernel
theorem dX12_pair_5 : decode cX12_pair 5 = .ok (.aload_n 0, 1) := by decide +kernel
theorem dX12_pair_6 : decode cX12_pair 6 = .ok (.getfield 38, 3) := by decide +kernel
theorem dX12_pair_9 : decode cX12_pair 9 = .ok (.iload_n 1, 1) := by decide +kernel
theorem dX12_pair_10 : decode cX12_pair 10 = .ok (.iaload, 1) := by decide +kernel
theorem dX12_pair_11 : decode cX12_pair 11 = .ok (.istore_n 2, 1) := by decide +kernel
theorem dX12_pair_12 : decode cX12_pair 12 = .ok (.iconst 0, 1) := by decide +kernel
theorem dX12_pair_13 : decode cX12_pair 13 = .ok (.istore_n 3, 1) := by decide +kernel
theorem dX12_pair_14 : decode cX12_pair 14 = .ok (.iconst 0, 1) := by decide +kernel
theorem dX12_pair_15 : decode cX12_pair 15 = .ok (.istore 4, 2) := by decide +kernel
theorem dX12_pair_17 : decode cX12_pair 17 = .ok (.iconst 0, 1) := by decide +kernel
theorem dX12_pair_18 : decode cX12_pair 18 = .ok (.istore 5, 2) := by decide +kernel
theorem dX12_pair_20 : decode cX12_pair 20 = .ok (.iconst 0, 1) := by decide +kernel
theorem dX12_pair_21 : decode cX12_pair 21 = .ok (.istore 6, 2) := by decide +kernel
theorem dX12_pair_23 : decode cX12_pair 23 = .ok (.iload 6, 2) := by decide +kernel
theorem dX12_pair_25 : decode cX12_pair 25 = .ok (.bipush 40, 2) := by decide +kernel
theorem dX12_pair_27 : decode cX12_pair 27 = .ok (.if_icmp .ge 17, 3) := by decide +kernel
theorem dX12_pair_30 : decode cX12_pair 30 = .ok (.aload_n 0, 1) := by decide +kernel
theorem dX12_pair_31 : decode cX12_pair 31 = .ok (.getfield 102, 3) := by decide +kernel
theorem dX12_pair_34 : decode cX12_pair 34 = .ok (.iload 6, 2) := by decide +kernel
theorem dX12_pair_36 : decode cX12_pair 36 = .ok (.iconst 0, 1) := by decide +kernel
theorem dX12_pair_37 : decode cX12_pair 37 = .ok (.iastore, 1) := by decide +kernel
theorem dX12_pair_38 : decode cX12_pair 38 = .ok (.iinc 6 1, 3) := by decide +kernel
theorem dX12_pair_41 : decode cX12_pair 41 = .ok (.goto (-18), 3) := by decide +kernel
theorem dX12_pair_44 : decode cX12_pair 44 = .ok (.iload_n 3, 1) := by decide +kernel
theorem dX12_pair_45 : decode cX12_pair 45 = .ok (.aload_n 0, 1) := by decide +kernel
theorem dX12_pair_46 : decode cX12_pair 46 = .ok (.getfield 124, 3) := by decide +kernel
theorem dX12_pair_49 : decode cX12_pair 49 = .ok (.if_icmp .ge 90, 3) := by decide +kernel
theorem dX12_pair_52 : decode cX12_pair 52 = .ok (.iload 4, 2) := by decide +kernel
theorem dX12_pair_54 : decode cX12_pair 54 = .ok (.iload_n 2, 1) := by decide +kernel
theorem dX12_pair_55 : decode cX12_pair 55 = .ok (.if_icmp .ge 84, 3) := by decide +kernel
theorem dX12_pair_58 : decode cX12_pair 58 = .ok (.aload_n 0, 1) := by decide +kernel
theorem dX12_pair_59 : decode cX12_pair 59 = .ok (.iconst 0, 1) := by decide +kernel
theorem dX12_pair_60 : decode cX12_pair 60 = .ok (.iload_n 3, 1) := by decide +kernel
theorem dX12_pair_61 : decode cX12_pair 61 = .ok (.iadd, 1) := by decide +kernel
theorem dX12_pair_62 : decode cX12_pair 62 = .ok (.iload_n 1, 1) := by decide +kernel
theorem dX12_pair_63 : decode cX12_pair 63 = .ok (.iload 4, 2) := by decide +kernel
theorem dX12_pair_65 : decode cX12_pair 65 = .ok (.invokestatic 394, 3) := by decide +kernel
theorem dX12_pair_68 : decode cX12_pair 68 = .ok (.invokevirtual 354, 3) := by decide +kernel
theorem dX12_pair_71 : decode cX12_pair 71 = .ok (.ifCond .eq 25, 3) := by decide +kernel
theorem dX12_pair_74 : decode cX12_pair 74 = .ok (.aload_n 0, 1) := by decide +kernel
theorem dX12_pair_75 : decode cX12_pair 75 = .ok (.getfield 102, 3) := by decide +kernel
theorem dX12_pair_78 : decode cX12_pair 78 = .ok (.iload_n 3, 1) := by decide +kernel
theorem dX12_pair_79 : decode cX12_pair 79 = .ok (.iload 4, 2) := by decide +kernel
theorem dX12_pair_81 : decode cX12_pair 81 = .ok (.iconst 1, 1) := by decide +kernel
theorem dX12_pair_82 : decode cX12_pair 82 = .ok (.iadd, 1) := by decide +kernel
theorem dX12_pair_83 : decode cX12_pair 83 = .ok (.iastore, 1) := by decide +kernel
theorem dX12_pair_84 : decode cX12_pair 84 = .ok (.iinc 5 1, 3) := by decide +kernel
theorem dX12_pair_87 : decode cX12_pair 87 = .ok (.iinc 3 1, 3) := by decide +kernel
theorem dX12_pair_90 : decode cX12_pair 90 = .ok (.iinc 4 1, 3) := by decide +kernel
theorem dX12_pair_93 : decode cX12_pair 93 = .ok (.goto (-49), 3) := by decide +kernel
theorem dX12_pair_96 : decode cX12_pair 96 = .ok (.aload_n 0, 1) := by decide +kernel
theorem dX12_pair_97 : decode cX12_pair 97 = .ok (.getfield 99, 3) := by decide +kernel
theorem dX12_pair_100 : decode cX12_pair 100 = .ok (.bipush 41, 2) := by decide +kernel
theorem dX12_pair_102 : decode cX12_pair 102 = .ok (.iload_n 3, 1) := by decide +kernel
theorem dX12_pair_103 : decode cX12_pair 103 = .ok (.iconst 1, 1) := by decide +kernel
theorem dX12_pair_104 : decode cX12_pair 104 = .ok (.iadd, 1) := by decide +kernel
theorem dX12_pair_105 : decode cX12_pair 105 = .ok (.imul, 1) := by decide +kernel
theorem dX12_pair_106 : decode cX12_pair 106 = .ok (.iload 4, 2) := by decide +kernel
theorem dX12_pair_108 : decode cX12_pair 108 = .ok (.iadd, 1) := by decide +kernel
theorem dX12_pair_109 : decode cX12_pair 109 = .ok (.iaload, 1) := by decide +kernel
theorem dX12_pair_110 : decode cX12_pair 110 = .ok (.aload_n 0, 1) := by decide +kernel
theorem dX12_pair_111 : decode cX12_pair 111 = .ok (.getfield 99, 3) := by decide +kernel
theorem dX12_pair_114 : decode cX12_pair 114 = .ok (.bipush 41, 2) := by decide +kernel
theorem dX12_pair_116 : decode cX12_pair 116 = .ok (.iload_n 3, 1) := by decide +kernel
theorem dX12_pair_117 : decode cX12_pair 117 = .ok (.imul, 1) := by decide +kernel
theorem dX12_pair_118 : decode cX12_pair 118 = .ok (.iload 4, 2) := by decide +kernel
theorem dX12_pair_120 : decode cX12_pair 120 = .ok (.iadd, 1) := by decide +kernel
theorem dX12_pair_121 : decode cX12_pair 121 = .ok (.iconst 1, 1) := by decide +kernel
theorem dX12_pair_122 : decode cX12_pair 122 = .ok (.iadd, 1) := by decide +kernel
theorem dX12_pair_123 : decode cX12_pair 123 = .ok (.iaload, 1) := by decide +kernel
theorem dX12_pair_124 : decode cX12_pair 124 = .ok (.if_icmp .lt 9, 3) := by decide +kernel
theorem dX12_pair_127 : decode cX12_pair 127 = .ok (.iinc 3 1, 3) := by decide +kernel
theorem dX12_pair_130 : decode cX12_pair 130 = .ok (.goto (-86), 3) := by decide +kernel
theorem dX12_pair_133 : decode cX12_pair 133 = .ok (.iinc 4 1, 3) := by decide +kernel
theorem dX12_pair_136 : decode cX12_pair 136 = .ok (.goto (-92), 3) := by decide +kernel
theorem dX12_pair_139 : decode cX12_pair 139 = .ok (.iload 5, 2) := by decide +kernel
theorem dX12_pair_141 : decode cX12_pair 141 = .ok (.ireturn, 1) := by decide +kernel
theorem dX12_differ_0 : decode cX12_differ 0 = .ok (.aload_n 0, 1) := by decide +kernel
theorem dX12_differ_1 : decode cX12_differ 1 = .ok (.iload_n 1, 1) := by decide +kernel
theorem dX12_differ_2 : decode cX12_differ 2 = .ok (.invokestatic 691, 3) := by decide +kernel
theorem dX12_differ_5 : decode cX12_differ 5 = .ok (.ifCond .eq 7, 3) := by decide +kernel
theorem dX12_differ_8 : decode cX12_differ 8 = .ok (.iconst 0, 1) := by decide +kernel
theorem dX12_differ_9 : decode cX12_differ 9 = .ok (.goto 4, 3) := by decide +kernel
theorem dX12_differ_12 : decode cX12_differ 12 = .ok (.iconst 1, 1) := by decide +kernel
theorem dX12_differ_13 : decode cX12_differ 13 = .ok (.putfield 105, 3) := by decide +kernel
theorem dX12_differ_16 : decode cX12_differ 16 = .ok (.aload_n 0, 1) := by decide +kernel
theorem dX12_differ_17 : decode cX12_differ 17 = .ok (.getfield 105, 3) := by decide +kernel
theorem dX12_differ_20 : decode cX12_differ 20 = .ok (.ifCond .le 5, 3) := by decide +kernel
theorem dX12_differ_23 : decode cX12_differ 23 = .ok (.iconst 0, 1) := by decide +kernel
theorem dX12_differ_24 : decode cX12_differ 24 = .ok (.ireturn, 1) := by decide +kernel
theorem dX12_differ_25 : decode cX12_differ 25 = .ok (.aload_n 0, 1) := by decide +kernel
theorem dX12_differ_26 : decode cX12_differ 26 = .ok (.getfield 124, 3) := by decide +kernel
theorem dX12_differ_29 : decode cX12_differ 29 = .ok (.aload_n 0, 1) := by decide +kernel
theorem dX12_differ_30 : decode cX12_differ 30 = .ok (.getfield 38, 3) := by decide +kernel
theorem dX12_differ_33 : decode cX12_differ 33 = .ok (.iload_n 1, 1) := by decide +kernel
theorem dX12_differ_34 : decode cX12_differ 34 = .ok (.iaload, 1) := by decide +kernel
theorem dX12_differ_35 : decode cX12_differ 35 = .ok (.iadd, 1) := by decide +kernel
theorem dX12_differ_36 : decode cX12_differ 36 = .ok (.iconst 2, 1) := by decide +kernel
theorem dX12_differ_37 : decode cX12_differ 37 = .ok (.aload_n 0, 1) := by decide +kernel
theorem dX12_differ_38 : decode cX12_differ 38 = .ok (.iload_n 1, 1) := by decide +kernel
theorem dX12_differ_39 : decode cX12_differ 39 = .ok (.invokevirtual 734, 3) := by decide +kernel
theorem dX12_differ_42 : decode cX12_differ 42 = .ok (.imul, 1) := by decide +kernel
theorem dX12_differ_43 : decode cX12_differ 43 = .ok (.isub, 1) := by decide +kernel
theorem dX12_differ_44 : decode cX12_differ 44 = .ok (.ireturn, 1) := by decide +kernel
theorem dX12_pairOf_0 : decode cX12_pairOf 0 = .ok (.aload_n 0, 1) := by decide +kernel
theorem dX12_pairOf_1 : decode cX12_pairOf 1 = .ok (.iload_n 1, 1) := by decide +kernel
theorem dX12_pairOf_2 : decode cX12_pairOf 2 = .ok (.invokestatic 691, 3) := by decide +kernel
theorem dX12_pairOf_5 : decode cX12_pairOf 5 = .ok (.ifCond .eq 15, 3) := by decide +kernel
theorem dX12_pairOf_8 : decode cX12_pairOf 8 = .ok (.aload_n 0, 1) := by decide +kernel
theorem dX12_pairOf_9 : decode cX12_pairOf 9 = .ok (.iload_n 2, 1) := by decide +kernel
theorem dX12_pairOf_10 : decode cX12_pairOf 10 = .ok (.invokevirtual 703, 3) := by decide +kernel
theorem dX12_pairOf_13 : decode cX12_pairOf 13 = .ok (.ifCond .eq 7, 3) := by decide +kernel
theorem dX12_pairOf_16 : decode cX12_pairOf 16 = .ok (.iconst 0, 1) := by decide +kernel
theorem dX12_pairOf_17 : decode cX12_pairOf 17 = .ok (.goto 4, 3) := by decide +kernel
theorem dX12_pairOf_20 : decode cX12_pairOf 20 = .ok (.iconst 1, 1) := by decide +kernel
theorem dX12_pairOf_21 : decode cX12_pairOf 21 = .ok (.putfield 105, 3) := by decide +kernel
theorem dX12_pairOf_24 : decode cX12_pairOf 24 = .ok (.aload_n 0, 1) := by decide +kernel
theorem dX12_pairOf_25 : decode cX12_pairOf 25 = .ok (.getfield 105, 3) := by decide +kernel
theorem dX12_pairOf_28 : decode cX12_pairOf 28 = .ok (.ifCond .le 5, 3) := by decide +kernel
theorem dX12_pairOf_31 : decode cX12_pairOf 31 = .ok (.iconst 0, 1) := by decide +kernel
theorem dX12_pairOf_32 : decode cX12_pairOf 32 = .ok (.ireturn, 1) := by decide +kernel
theorem dX12_pairOf_33 : decode cX12_pairOf 33 = .ok (.aload_n 0, 1) := by decide +kernel
theorem dX12_pairOf_34 : decode cX12_pairOf 34 = .ok (.iload_n 1, 1) := by decide +kernel
theorem dX12_pairOf_35 : decode cX12_pairOf 35 = .ok (.invokevirtual 734, 3) := by decide +kernel
theorem dX12_pairOf_38 : decode cX12_pairOf 38 = .ok (.pop, 1) := by decide +kernel
theorem dX12_pairOf_39 : decode cX12_pairOf 39 = .ok (.aload_n 0, 1) := by decide +kernel
theorem dX12_pairOf_40 : decode cX12_pairOf 40 = .ok (.getfield 102, 3) := by decide +kernel
theorem dX12_pairOf_43 : decode cX12_pairOf 43 = .ok (.iload_n 2, 1) := by decide +kernel
theorem dX12_pairOf_44 : decode cX12_pairOf 44 = .ok (.iconst 1, 1) := by decide +kernel
theorem dX12_pairOf_45 : decode cX12_pairOf 45 = .ok (.isub, 1) := by decide +kernel
theorem dX12_pairOf_46 : decode cX12_pairOf 46 = .ok (.iaload, 1) := by decide +kernel
theorem dX12_pairOf_47 : decode cX12_pairOf 47 = .ok (.ifCond .le 14, 3) := by decide +kernel
theorem dX12_pairOf_50 : decode cX12_pairOf 50 = .ok (.aload_n 0, 1) := by decide +kernel
theorem dX12_pairOf_51 : decode cX12_pairOf 51 = .ok (.getfield 102, 3) := by decide +kernel
theorem dX12_pairOf_54 : decode cX12_pairOf 54 = .ok (.iload_n 2, 1) := by decide +kernel
theorem dX12_pairOf_55 : decode cX12_pairOf 55 = .ok (.iconst 1, 1) := by decide +kernel
theorem dX12_pairOf_56 : decode cX12_pairOf 56 = .ok (.isub, 1) := by decide +kernel
theorem dX12_pairOf_57 : decode cX12_pairOf 57 = .ok (.iaload, 1) := by decide +kernel
theorem dX12_pairOf_58 : decode cX12_pairOf 58 = .ok (.goto 4, 3) := by decide +kernel
theorem dX12_pairOf_61 : decode cX12_pairOf 61 = .ok (.iconst (-1), 1) := by decide +kernel
theorem dX12_pairOf_62 : decode cX12_pairOf 62 = .ok (.ireturn, 1) := by decide +kernel
theorem dX12_isSound_0 : decode cX12_isSound 0 = .ok (.aload_n 0, 1) := by decide +kernel
theorem dX12_isSound_1 : decode cX12_isSound 1 = .ok (.iconst 0, 1) := by decide +kernel
theorem dX12_isSound_2 : decode cX12_isSound 2 = .ok (.putfield 105, 3) := by decide +kernel
theorem dX12_isSound_5 : decode cX12_isSound 5 = .ok (.aload_n 0, 1) := by decide +kernel
theorem dX12_isSound_6 : decode cX12_isSound 6 = .ok (.getfield 124, 3) := by decide +kernel
theorem dX12_isSound_9 : decode cX12_isSound 9 = .ok (.bipush 40, 2) := by decide +kernel
theorem dX12_isSound_11 : decode cX12_isSound 11 = .ok (.if_icmp .gt 25, 3) := by decide +kernel
theorem dX12_isSound_14 : decode cX12_isSound 14 = .ok (.aload_n 0, 1) := by decide +kernel
theorem dX12_isSound_15 : decode cX12_isSound 15 = .ok (.getfield 366, 3) := by decide +kernel
theorem dX12_isSound_18 : decode cX12_isSound 18 = .ok (.bipush 40, 2) := by decide +kernel
theorem dX12_isSound_20 : decode cX12_isSound 20 = .ok (.if_icmp .gt 16, 3) := by decide +kernel
theorem dX12_isSound_23 : decode cX12_isSound 23 = .ok (.aload_n 0, 1) := by decide +kernel
theorem dX12_isSound_24 : decode cX12_isSound 24 = .ok (.getfield 357, 3) := by decide +kernel
theorem dX12_isSound_27 : decode cX12_isSound 27 = .ok (.bipush 100, 2) := by decide +kernel
theorem dX12_isSound_29 : decode cX12_isSound 29 = .ok (.if_icmp .gt 7, 3) := by decide +kernel
theorem dX12_isSound_32 : decode cX12_isSound 32 = .ok (.iconst 1, 1) := by decide +kernel
theorem dX12_isSound_33 : decode cX12_isSound 33 = .ok (.goto 4, 3) := by decide +kernel
theorem dX12_isSound_36 : decode cX12_isSound 36 = .ok (.iconst 0, 1) := by decide +kernel
theorem dX12_isSound_37 : decode cX12_isSound 37 = .ok (.istore_n 1, 1) := by decide +kernel
theorem dX12_isSound_38 : decode cX12_isSound 38 = .ok (.iconst 0, 1) := by decide +kernel
theorem dX12_isSound_39 : decode cX12_isSound 39 = .ok (.istore_n 2, 1) := by decide +kernel
theorem dX12_isSound_40 : decode cX12_isSound 40 = .ok (.iload_n 2, 1) := by decide +kernel
theorem dX12_isSound_41 : decode cX12_isSound 41 = .ok (.iconst 4, 1) := by decide +kernel
theorem dX12_isSound_42 : decode cX12_isSound 42 = .ok (.if_icmp .ge 30, 3) := by decide +kernel
theorem dX12_isSound_45 : decode cX12_isSound 45 = .ok (.iload_n 1, 1) := by decide +kernel
theorem dX12_isSound_46 : decode cX12_isSound 46 = .ok (.ifCond .eq 18, 3) := by decide +kernel
theorem dX12_isSound_49 : decode cX12_isSound 49 = .ok (.aload_n 0, 1) := by decide +kernel
theorem dX12_isSound_50 : decode cX12_isSound 50 = .ok (.getfield 38, 3) := by decide +kernel
theorem dX12_isSound_53 : decode cX12_isSound 53 = .ok (.iload_n 2, 1) := by decide +kernel
theorem dX12_isSound_54 : decode cX12_isSound 54 = .ok (.iaload, 1) := by decide +kernel
theorem dX12_isSound_55 : decode cX12_isSound 55 = .ok (.bipush 40, 2) := by decide +kernel
theorem dX12_isSound_57 : decode cX12_isSound 57 = .ok (.if_icmp .gt 7, 3) := by decide +kernel
theorem dX12_isSound_60 : decode cX12_isSound 60 = .ok (.iconst 1, 1) := by decide +kernel
theorem dX12_isSound_61 : decode cX12_isSound 61 = .ok (.goto 4, 3) := by decide +kernel
theorem dX12_isSound_64 : decode cX12_isSound 64 = .ok (.iconst 0, 1) := by decide +kernel
theorem dX12_isSound_65 : decode cX12_isSound 65 = .ok (.istore_n 1, 1) := by decide +kernel
theorem dX12_isSound_66 : decode cX12_isSound 66 = .ok (.iinc 2 1, 3) := by decide +kernel
theorem dX12_isSound_69 : decode cX12_isSound 69 = .ok (.goto (-29), 3) := by decide +kernel
theorem dX12_isSound_72 : decode cX12_isSound 72 = .ok (.iconst 0, 1) := by decide +kernel
theorem dX12_isSound_73 : decode cX12_isSound 73 = .ok (.istore_n 2, 1) := by decide +kernel
theorem dX12_isSound_74 : decode cX12_isSound 74 = .ok (.iload_n 2, 1) := by decide +kernel
theorem dX12_isSound_75 : decode cX12_isSound 75 = .ok (.aload_n 0, 1) := by decide +kernel
theorem dX12_isSound_76 : decode cX12_isSound 76 = .ok (.getfield 124, 3) := by decide +kernel
theorem dX12_isSound_79 : decode cX12_isSound 79 = .ok (.if_icmp .ge 48, 3) := by decide +kernel
theorem dX12_isSound_82 : decode cX12_isSound 82 = .ok (.iload_n 1, 1) := by decide +kernel
theorem dX12_isSound_83 : decode cX12_isSound 83 = .ok (.ifCond .eq 36, 3) := by decide +kernel
theorem dX12_isSound_86 : decode cX12_isSound 86 = .ok (.aload_n 0, 1) := by decide +kernel
theorem dX12_isSound_87 : decode cX12_isSound 87 = .ok (.getfield 26, 3) := by decide +kernel
theorem dX12_isSound_90 : decode cX12_isSound 90 = .ok (.iload_n 2, 1) := by decide +kernel
theorem dX12_isSound_91 : decode cX12_isSound 91 = .ok (.iaload, 1) := by decide +kernel
theorem dX12_isSound_92 : decode cX12_isSound 92 = .ok (.aload_n 0, 1) := by decide +kernel
theorem dX12_isSound_93 : decode cX12_isSound 93 = .ok (.getfield 134, 3) := by decide +kernel
theorem dX12_isSound_96 : decode cX12_isSound 96 = .ok (.if_icmp .ge 23, 3) := by decide +kernel
theorem dX12_isSound_99 : decode cX12_isSound 99 = .ok (.aload_n 0, 1) := by decide +kernel
theorem dX12_isSound_100 : decode cX12_isSound 100 = .ok (.aload_n 0, 1) := by decide +kernel
theorem dX12_isSound_101 : decode cX12_isSound 101 = .ok (.getfield 26, 3) := by decide +kernel
theorem dX12_isSound_104 : decode cX12_isSound 104 = .ok (.iload_n 2, 1) := by decide +kernel
theorem dX12_isSound_105 : decode cX12_isSound 105 = .ok (.iaload, 1) := by decide +kernel
theorem dX12_isSound_106 : decode cX12_isSound 106 = .ok (.invokevirtual 307, 3) := by decide +kernel
theorem dX12_isSound_109 : decode cX12_isSound 109 = .ok (.iload_n 2, 1) := by decide +kernel
theorem dX12_isSound_110 : decode cX12_isSound 110 = .ok (.iconst 1, 1) := by decide +kernel
theorem dX12_isSound_111 : decode cX12_isSound 111 = .ok (.iadd, 1) := by decide +kernel
theorem dX12_isSound_112 : decode cX12_isSound 112 = .ok (.if_icmp .ne 7, 3) := by decide +kernel
theorem dX12_isSound_115 : decode cX12_isSound 115 = .ok (.iconst 1, 1) := by decide +kernel
theorem dX12_isSound_116 : decode cX12_isSound 116 = .ok (.goto 4, 3) := by decide +kernel
theorem dX12_isSound_119 : decode cX12_isSound 119 = .ok (.iconst 0, 1) := by decide +kernel
theorem dX12_isSound_120 : decode cX12_isSound 120 = .ok (.istore_n 1, 1) := by decide +kernel
theorem dX12_isSound_121 : decode cX12_isSound 121 = .ok (.iinc 2 1, 3) := by decide +kernel
theorem dX12_isSound_124 : decode cX12_isSound 124 = .ok (.goto (-50), 3) := by decide +kernel
theorem dX12_isSound_127 : decode cX12_isSound 127 = .ok (.iconst 0, 1) := by decide +kernel
theorem dX12_isSound_128 : decode cX12_isSound 128 = .ok (.istore_n 2, 1) := by decide +kernel
theorem dX12_isSound_129 : decode cX12_isSound 129 = .ok (.iload_n 2, 1) := by decide +kernel
theorem dX12_isSound_130 : decode cX12_isSound 130 = .ok (.iconst 5, 1) := by decide +kernel
theorem dX12_isSound_131 : decode cX12_isSound 131 = .ok (.if_icmp .ge 41, 3) := by decide +kernel
theorem dX12_isSound_134 : decode cX12_isSound 134 = .ok (.iload_n 1, 1) := by decide +kernel
theorem dX12_isSound_135 : decode cX12_isSound 135 = .ok (.ifCond .eq 29, 3) := by decide +kernel
theorem dX12_isSound_138 : decode cX12_isSound 138 = .ok (.aload_n 0, 1) := by decide +kernel
theorem dX12_isSound_139 : decode cX12_isSound 139 = .ok (.getfield 35, 3) := by decide +kernel
theorem dX12_isSound_142 : decode cX12_isSound 142 = .ok (.iload_n 2, 1) := by decide +kernel
theorem dX12_isSound_143 : decode cX12_isSound 143 = .ok (.iaload, 1) := by decide +kernel
theorem dX12_isSound_144 : decode cX12_isSound 144 = .ok (.ifCond .lt 16, 3) := by decide +kernel
theorem dX12_isSound_147 : decode cX12_isSound 147 = .ok (.aload_n 0, 1) := by decide +kernel
theorem dX12_isSound_148 : decode cX12_isSound 148 = .ok (.aload_n 0, 1) := by decide +kernel
theorem dX12_isSound_149 : decode cX12_isSound 149 = .ok (.getfield 35, 3) := by decide +kernel
theorem dX12_isSound_152 : decode cX12_isSound 152 = .ok (.iload_n 2, 1) := by decide +kernel
theorem dX12_isSound_153 : decode cX12_isSound 153 = .ok (.iaload, 1) := by decide +kernel
theorem dX12_isSound_154 : decode cX12_isSound 154 = .ok (.invokevirtual 307, 3) := by decide +kernel
theorem dX12_isSound_157 : decode cX12_isSound 157 = .ok (.ifCond .le 7, 3) := by decide +kernel
theorem dX12_isSound_160 : decode cX12_isSound 160 = .ok (.iconst 1, 1) := by decide +kernel
theorem dX12_isSound_161 : decode cX12_isSound 161 = .ok (.goto 4, 3) := by decide +kernel
theorem dX12_isSound_164 : decode cX12_isSound 164 = .ok (.iconst 0, 1) := by decide +kernel
theorem dX12_isSound_165 : decode cX12_isSound 165 = .ok (.istore_n 1, 1) := by decide +kernel
theorem dX12_isSound_166 : decode cX12_isSound 166 = .ok (.iinc 2 1, 3) := by decide +kernel
theorem dX12_isSound_169 : decode cX12_isSound 169 = .ok (.goto (-40), 3) := by decide +kernel
theorem dX12_isSound_172 : decode cX12_isSound 172 = .ok (.iload_n 1, 1) := by decide +kernel
theorem dX12_isSound_173 : decode cX12_isSound 173 = .ok (.ifCond .eq 43, 3) := by decide +kernel
theorem dX12_isSound_176 : decode cX12_isSound 176 = .ok (.aload_n 0, 1) := by decide +kernel
theorem dX12_isSound_177 : decode cX12_isSound 177 = .ok (.getfield 124, 3) := by decide +kernel
theorem dX12_isSound_180 : decode cX12_isSound 180 = .ok (.ifCond .ne 13, 3) := by decide +kernel
theorem dX12_isSound_183 : decode cX12_isSound 183 = .ok (.aload_n 0, 1) := by decide +kernel
theorem dX12_isSound_184 : decode cX12_isSound 184 = .ok (.getfield 295, 3) := by decide +kernel
theorem dX12_isSound_187 : decode cX12_isSound 187 = .ok (.ifCond .ne 29, 3) := by decide +kernel
theorem dX12_isSound_190 : decode cX12_isSound 190 = .ok (.goto 22, 3) := by decide +kernel
theorem dX12_isSound_193 : decode cX12_isSound 193 = .ok (.aload_n 0, 1) := by decide +kernel
theorem dX12_isSound_194 : decode cX12_isSound 194 = .ok (.getfield 295, 3) := by decide +kernel
theorem dX12_isSound_197 : decode cX12_isSound 197 = .ok (.iconst 1, 1) := by decide +kernel
theorem dX12_isSound_198 : decode cX12_isSound 198 = .ok (.if_icmp .lt 18, 3) := by decide +kernel
theorem dX12_isSound_201 : decode cX12_isSound 201 = .ok (.aload_n 0, 1) := by decide +kernel
theorem dX12_isSound_202 : decode cX12_isSound 202 = .ok (.getfield 295, 3) := by decide +kernel
theorem dX12_isSound_205 : decode cX12_isSound 205 = .ok (.aload_n 0, 1) := by decide +kernel
theorem dX12_isSound_206 : decode cX12_isSound 206 = .ok (.getfield 124, 3) := by decide +kernel
theorem dX12_isSound_209 : decode cX12_isSound 209 = .ok (.if_icmp .gt 7, 3) := by decide +kernel
theorem dX12_isSound_212 : decode cX12_isSound 212 = .ok (.iconst 1, 1) := by decide +kernel
theorem dX12_isSound_213 : decode cX12_isSound 213 = .ok (.goto 4, 3) := by decide +kernel
theorem dX12_isSound_216 : decode cX12_isSound 216 = .ok (.iconst 0, 1) := by decide +kernel
theorem dX12_isSound_217 : decode cX12_isSound 217 = .ok (.ireturn, 1) := by decide +kernel
theorem dJ6_compare_7cf53_0 : decode cJ6_compare_7cf53 0 = .ok (.iload_n 0, 1) := by decide +kernel
theorem dJ6_compare_7cf53_1 : decode cJ6_compare_7cf53 1 = .ok (.iload_n 1, 1) := by decide +kernel
theorem dJ6_compare_7cf53_2 : decode cJ6_compare_7cf53 2 = .ok (.if_icmp .ge 7, 3) := by decide +kernel
theorem dJ6_compare_7cf53_5 : decode cJ6_compare_7cf53 5 = .ok (.iconst (-1), 1) := by decide +kernel
theorem dJ6_compare_7cf53_6 : decode cJ6_compare_7cf53 6 = .ok (.goto 13, 3) := by decide +kernel
theorem dJ6_compare_7cf53_9 : decode cJ6_compare_7cf53 9 = .ok (.iload_n 0, 1) := by decide +kernel
theorem dJ6_compare_7cf53_10 : decode cJ6_compare_7cf53 10 = .ok (.iload_n 1, 1) := by decide +kernel
theorem dJ6_compare_7cf53_11 : decode cJ6_compare_7cf53 11 = .ok (.if_icmp .ne 7, 3) := by decide +kernel
theorem dJ6_compare_7cf53_14 : decode cJ6_compare_7cf53 14 = .ok (.iconst 0, 1) := by decide +kernel
theorem dJ6_compare_7cf53_15 : decode cJ6_compare_7cf53 15 = .ok (.goto 4, 3) := by decide +kernel
theorem dJ6_compare_7cf53_18 : decode cJ6_compare_7cf53 18 = .ok (.iconst 1, 1) := by decide +kernel
theorem dJ6_compare_7cf53_19 : decode cJ6_compare_7cf53 19 = .ok (.ireturn, 1) := by decide +kernel
theorem dJ9_floorMod_7cf53_0 : decode cJ9_floorMod_7cf53 0 = .ok (.iload_n 0, 1) := by decide +kernel
theorem dJ9_floorMod_7cf53_1 : decode cJ9_floorMod_7cf53 1 = .ok (.iload_n 1, 1) := by decide +kernel
theorem dJ9_floorMod_7cf53_2 : decode cJ9_floorMod_7cf53 2 = .ok (.irem, 1) := by decide +kernel
theorem dJ9_floorMod_7cf53_3 : decode cJ9_floorMod_7cf53 3 = .ok (.istore_n 2, 1) := by decide +kernel
theorem dJ9_floorMod_7cf53_4 : decode cJ9_floorMod_7cf53 4 = .ok (.iload_n 0, 1) := by decide +kernel
theorem dJ9_floorMod_7cf53_5 : decode cJ9_floorMod_7cf53 5 = .ok (.iload_n 1, 1) := by decide +kernel
theorem dJ9_floorMod_7cf53_6 : decode cJ9_floorMod_7cf53 6 = .ok (.ixor, 1) := by decide +kernel
theorem dJ9_floorMod_7cf53_7 : decode cJ9_floorMod_7cf53 7 = .ok (.ifCond .ge 11, 3) := by decide +kernel
theorem dJ9_floorMod_7cf53_10 : decode cJ9_floorMod_7cf53 10 = .ok (.iload_n 2, 1) := by decide +kernel
theorem dJ9_floorMod_7cf53_11 : decode cJ9_floorMod_7cf53 11 = .ok (.ifCond .eq 7, 3) := by decide +kernel
theorem dJ9_floorMod_7cf53_14 : decode cJ9_floorMod_7cf53 14 = .ok (.iload_n 2, 1) := by decide +kernel
theorem dJ9_floorMod_7cf53_15 : decode cJ9_floorMod_7cf53 15 = .ok (.iload_n 1, 1) := by decide +kernel
theorem dJ9_floorMod_7cf53_16 : decode cJ9_floorMod_7cf53 16 = .ok (.iadd, 1) := by decide +kernel
theorem dJ9_floorMod_7cf53_17 : decode cJ9_floorMod_7cf53 17 = .ok (.ireturn, 1) := by decide +kernel
theorem dJ9_floorMod_7cf53_18 : decode cJ9_floorMod_7cf53 18 = .ok (.iload_n 2, 1) := by decide +kernel
theorem dJ9_floorMod_7cf53_19 : decode cJ9_floorMod_7cf53 19 = .ok (.ireturn, 1) := by decide +kernel
theorem dJ9_max_7cf53_0 : decode cJ9_max_7cf53 0 = .ok (.iload_n 0, 1) := by decide +kernel
theorem dJ9_max_7cf53_1 : decode cJ9_max_7cf53 1 = .ok (.iload_n 1, 1) := by decide +kernel
theorem dJ9_max_7cf53_2 : decode cJ9_max_7cf53 2 = .ok (.if_icmp .lt 7, 3) := by decide +kernel
theorem dJ9_max_7cf53_5 : decode cJ9_max_7cf53 5 = .ok (.iload_n 0, 1) := by decide +kernel
theorem dJ9_max_7cf53_6 : decode cJ9_max_7cf53 6 = .ok (.goto 4, 3) := by decide +kernel
theorem dJ9_max_7cf53_9 : decode cJ9_max_7cf53 9 = .ok (.iload_n 1, 1) := by decide +kernel
theorem dJ9_max_7cf53_10 : decode cJ9_max_7cf53 10 = .ok (.ireturn, 1) := by decide +kernel
theorem dJ9_min_7cf53_0 : decode cJ9_min_7cf53 0 = .ok (.iload_n 0, 1) := by decide +kernel
theorem dJ9_min_7cf53_1 : decode cJ9_min_7cf53 1 = .ok (.iload_n 1, 1) := by decide +kernel
theorem dJ9_min_7cf53_2 : decode cJ9_min_7cf53 2 = .ok (.if_icmp .gt 7, 3) := by decide +kernel
theorem dJ9_min_7cf53_5 : decode cJ9_min_7cf53 5 = .ok (.iload_n 0, 1) := by decide +kernel
theorem dJ9_min_7cf53_6 : decode cJ9_min_7cf53 6 = .ok (.goto 4, 3) := by decide +kernel
theorem dJ9_min_7cf53_9 : decode cJ9_min_7cf53 9 = .ok (.iload_n 1, 1) := by decide +kernel
theorem dJ9_min_7cf53_10 : decode cJ9_min_7cf53 10 = .ok (.ireturn, 1) := by decide +kernel
theorem dL_type_0 : decode cL_type 0 = .ok (.aload_n 2, 1) := by decide +kernel
theorem dL_type_1 : decode cL_type 1 = .ok (.iconst 0, 1) := by decide +kernel
theorem dL_type_2 : decode cL_type 2 = .ok (.aload_n 0, 1) := by decide +kernel
theorem dL_type_3 : decode cL_type 3 = .ok (.iload_n 1, 1) := by decide +kernel
theorem dL_type_4 : decode cL_type 4 = .ok (.invokevirtual 7, 3) := by decide +kernel
theorem dL_type_7 : decode cL_type 7 = .ok (.i2l, 1) := by decide +kernel
theorem dL_type_8 : decode cL_type 8 = .ok (.lastore, 1) := by decide +kernel
theorem dL_type_9 : decode cL_type 9 = .ok (.goto 9, 3) := by decide +kernel
theorem dL_type_12 : decode cL_type 12 = .ok (.astore_n 3, 1) := by decide +kernel
theorem dL_type_13 : decode cL_type 13 = .ok (.iconst 1, 1) := by decide +kernel
theorem dL_type_14 : decode cL_type 14 = .ok (.ireturn, 1) := by decide +kernel
theorem dL_type_15 : decode cL_type 15 = .ok (.astore_n 3, 1) := by decide +kernel
theorem dL_type_16 : decode cL_type 16 = .ok (.iconst 2, 1) := by decide +kernel
theorem dL_type_17 : decode cL_type 17 = .ok (.ireturn, 1) := by decide +kernel
theorem dL_type_18 : decode cL_type 18 = .ok (.iconst 0, 1) := by decide +kernel
theorem dL_type_19 : decode cL_type 19 = .ok (.ireturn, 1) := by decide +kernel
theorem dL_run_0 : decode cL_run 0 = .ok (.aload_n 1, 1) := by decide +kernel
theorem dL_run_1 : decode cL_run 1 = .ok (.iconst 0, 1) := by decide +kernel
theorem dL_run_2 : decode cL_run 2 = .ok (.aload_n 0, 1) := by decide +kernel
theorem dL_run_3 : decode cL_run 3 = .ok (.invokevirtual 17, 3) := by decide +kernel
theorem dL_run_6 : decode cL_run 6 = .ok (.i2l, 1) := by decide +kernel
theorem dL_run_7 : decode cL_run 7 = .ok (.lastore, 1) := by decide +kernel
theorem dL_run_8 : decode cL_run 8 = .ok (.goto 6, 3) := by decide +kernel
theorem dL_run_11 : decode cL_run 11 = .ok (.astore_n 2, 1) := by decide +kernel
theorem dL_run_12 : decode cL_run 12 = .ok (.iconst 1, 1) := by decide +kernel
theorem dL_run_13 : decode cL_run 13 = .ok (.ireturn, 1) := by decide +kernel
theorem dL_run_14 : decode cL_run 14 = .ok (.iconst 0, 1) := by decide +kernel
theorem dL_run_15 : decode cL_run 15 = .ok (.ireturn, 1) := by decide +kernel
theorem dL_keep_0 : decode cL_keep 0 = .ok (.aload_n 2, 1) := by decide +kernel
theorem dL_keep_1 : decode cL_keep 1 = .ok (.iconst 0, 1) := by decide +kernel
theorem dL_keep_2 : decode cL_keep 2 = .ok (.aload_n 0, 1) := by decide +kernel
theorem dL_keep_3 : decode cL_keep 3 = .ok (.iload_n 1, 1) := by decide +kernel
theorem dL_keep_4 : decode cL_keep 4 = .ok (.invokevirtual 21, 3) := by decide +kernel
theorem dL_keep_7 : decode cL_keep 7 = .ok (.i2l, 1) := by decide +kernel
theorem dL_keep_8 : decode cL_keep 8 = .ok (.lastore, 1) := by decide +kernel
theorem dL_keep_9 : decode cL_keep 9 = .ok (.goto 9, 3) := by decide +kernel
theorem dL_keep_12 : decode cL_keep 12 = .ok (.astore_n 3, 1) := by decide +kernel
theorem dL_keep_13 : decode cL_keep 13 = .ok (.iconst 1, 1) := by decide +kernel
theorem dL_keep_14 : decode cL_keep 14 = .ok (.ireturn, 1) := by decide +kernel
theorem dL_keep_15 : decode cL_keep 15 = .ok (.astore_n 3, 1) := by decide +kernel
theorem dL_keep_16 : decode cL_keep 16 = .ok (.iconst 2, 1) := by decide +kernel
theorem dL_keep_17 : decode cL_keep 17 = .ok (.ireturn, 1) := by decide +kernel
theorem dL_keep_18 : decode cL_keep 18 = .ok (.iconst 0, 1) := by decide +kernel
theorem dL_keep_19 : decode cL_keep 19 = .ok (.ireturn, 1) := by decide +kernel
theorem dL_play_0 : decode cL_play 0 = .ok (.aload_n 2, 1) := by decide +kernel
theorem dL_play_1 : decode cL_play 1 = .ok (.iconst 0, 1) := by decide +kernel
theorem dL_play_2 : decode cL_play 2 = .ok (.aload_n 0, 1) := by decide +kernel
theorem dL_play_3 : decode cL_play 3 = .ok (.iload_n 1, 1) := by decide +kernel
theorem dL_play_4 : decode cL_play 4 = .ok (.invokevirtual 26, 3) := by decide +kernel
theorem dL_play_7 : decode cL_play 7 = .ok (.i2l, 1) := by decide +kernel
theorem dL_play_8 : decode cL_play 8 = .ok (.lastore, 1) := by decide +kernel
theorem dL_play_9 : decode cL_play 9 = .ok (.goto 9, 3) := by decide +kernel
theorem dL_play_12 : decode cL_play 12 = .ok (.astore_n 3, 1) := by decide +kernel
theorem dL_play_13 : decode cL_play 13 = .ok (.iconst 1, 1) := by decide +kernel
theorem dL_play_14 : decode cL_play 14 = .ok (.ireturn, 1) := by decide +kernel
theorem dL_play_15 : decode cL_play 15 = .ok (.astore_n 3, 1) := by decide +kernel
theorem dL_play_16 : decode cL_play 16 = .ok (.iconst 2, 1) := by decide +kernel
theorem dL_play_17 : decode cL_play 17 = .ok (.ireturn, 1) := by decide +kernel
theorem dL_play_18 : decode cL_play 18 = .ok (.iconst 0, 1) := by decide +kernel
theorem dL_play_19 : decode cL_play 19 = .ok (.ireturn, 1) := by decide +kernel
theorem dL_stream_0 : decode cL_stream 0 = .ok (.aload_n 2, 1) := by decide +kernel
theorem dL_stream_1 : decode cL_stream 1 = .ok (.iconst 0, 1) := by decide +kernel
theorem dL_stream_2 : decode cL_stream 2 = .ok (.aload_n 0, 1) := by decide +kernel
theorem dL_stream_3 : decode cL_stream 3 = .ok (.iload_n 1, 1) := by decide +kernel
theorem dL_stream_4 : decode cL_stream 4 = .ok (.invokevirtual 29, 3) := by decide +kernel
theorem dL_stream_7 : decode cL_stream 7 = .ok (.i2l, 1) := by decide +kernel
theorem dL_stream_8 : decode cL_stream 8 = .ok (.lastore, 1) := by decide +kernel
theorem dL_stream_9 : decode cL_stream 9 = .ok (.goto 9, 3) := by decide +kernel
theorem dL_stream_12 : decode cL_stream 12 = .ok (.astore_n 3, 1) := by decide +kernel
theorem dL_stream_13 : decode cL_stream 13 = .ok (.iconst 1, 1) := by decide +kernel
theorem dL_stream_14 : decode cL_stream 14 = .ok (.ireturn, 1) := by decide +kernel
theorem dL_stream_15 : decode cL_stream 15 = .ok (.astore_n 3, 1) := by decide +kernel
theorem dL_stream_16 : decode cL_stream 16 = .ok (.iconst 2, 1) := by decide +kernel
theorem dL_stream_17 : decode cL_stream 17 = .ok (.ireturn, 1) := by decide +kernel
theorem dL_stream_18 : decode cL_stream 18 = .ok (.iconst 0, 1) := by decide +kernel
theorem dL_stream_19 : decode cL_stream 19 = .ok (.ireturn, 1) := by decide +kernel
theorem dL_scriptLength_0 : decode cL_scriptLength 0 = .ok (.aload_n 2, 1) := by decide +kernel
theorem dL_scriptLength_1 : decode cL_scriptLength 1 = .ok (.iconst 0, 1) := by decide +kernel
theorem dL_scriptLength_2 : decode cL_scriptLength 2 = .ok (.aload_n 0, 1) := by decide +kernel
theorem dL_scriptLength_3 : decode cL_scriptLength 3 = .ok (.iload_n 1, 1) := by decide +kernel
theorem dL_scriptLength_4 : decode cL_scriptLength 4 = .ok (.invokevirtual 32, 3) := by decide +kernel
theorem dL_scriptLength_7 : decode cL_scriptLength 7 = .ok (.i2l, 1) := by decide +kernel
theorem dL_scriptLength_8 : decode cL_scriptLength 8 = .ok (.lastore, 1) := by decide +kernel
theorem dL_scriptLength_9 : decode cL_scriptLength 9 = .ok (.goto 6, 3) := by decide +kernel
theorem dL_scriptLength_12 : decode cL_scriptLength 12 = .ok (.astore_n 3, 1) := by decide +kernel
theorem dL_scriptLength_13 : decode cL_scriptLength 13 = .ok (.iconst 1, 1) := by decide +kernel
theorem dL_scriptLength_14 : decode cL_scriptLength 14 = .ok (.ireturn, 1) := by decide +kernel
theorem dL_scriptLength_15 : decode cL_scriptLength 15 = .ok (.iconst 0, 1) := by decide +kernel
theorem dL_scriptLength_16 : decode cL_scriptLength 16 = .ok (.ireturn, 1) := by decide +kernel
theorem dL_scriptAt_0 : decode cL_scriptAt 0 = .ok (.aload_n 3, 1) := by decide +kernel
theorem dL_scriptAt_1 : decode cL_scriptAt 1 = .ok (.iconst 0, 1) := by decide +kernel
theorem dL_scriptAt_2 : decode cL_scriptAt 2 = .ok (.aload_n 0, 1) := by decide +kernel
theorem dL_scriptAt_3 : decode cL_scriptAt 3 = .ok (.iload_n 1, 1) := by decide +kernel
theorem dL_scriptAt_4 : decode cL_scriptAt 4 = .ok (.iload_n 2, 1) := by decide +kernel
theorem dL_scriptAt_5 : decode cL_scriptAt 5 = .ok (.invokevirtual 35, 3) := by decide +kernel
theorem dL_scriptAt_8 : decode cL_scriptAt 8 = .ok (.i2l, 1) := by decide +kernel
theorem dL_scriptAt_9 : decode cL_scriptAt 9 = .ok (.lastore, 1) := by decide +kernel
theorem dL_scriptAt_10 : decode cL_scriptAt 10 = .ok (.goto 7, 3) := by decide +kernel
theorem dL_scriptAt_13 : decode cL_scriptAt 13 = .ok (.astore 4, 2) := by decide +kernel
theorem dL_scriptAt_15 : decode cL_scriptAt 15 = .ok (.iconst 1, 1) := by decide +kernel
theorem dL_scriptAt_16 : decode cL_scriptAt 16 = .ok (.ireturn, 1) := by decide +kernel
theorem dL_scriptAt_17 : decode cL_scriptAt 17 = .ok (.iconst 0, 1) := by decide +kernel
theorem dL_scriptAt_18 : decode cL_scriptAt 18 = .ok (.ireturn, 1) := by decide +kernel
theorem dL_undo_0 : decode cL_undo 0 = .ok (.aload_n 1, 1) := by decide +kernel
theorem dL_undo_1 : decode cL_undo 1 = .ok (.iconst 0, 1) := by decide +kernel
theorem dL_undo_2 : decode cL_undo 2 = .ok (.aload_n 0, 1) := by decide +kernel
theorem dL_undo_3 : decode cL_undo 3 = .ok (.invokevirtual 39, 3) := by decide +kernel
theorem dL_undo_6 : decode cL_undo 6 = .ok (.i2l, 1) := by decide +kernel
theorem dL_undo_7 : decode cL_undo 7 = .ok (.lastore, 1) := by decide +kernel
theorem dL_undo_8 : decode cL_undo 8 = .ok (.goto 6, 3) := by decide +kernel
theorem dL_undo_11 : decode cL_undo 11 = .ok (.astore_n 2, 1) := by decide +kernel
theorem dL_undo_12 : decode cL_undo 12 = .ok (.iconst 1, 1) := by decide +kernel
theorem dL_undo_13 : decode cL_undo 13 = .ok (.ireturn, 1) := by decide +kernel
theorem dL_undo_14 : decode cL_undo 14 = .ok (.iconst 0, 1) := by decide +kernel
theorem dL_undo_15 : decode cL_undo 15 = .ok (.ireturn, 1) := by decide +kernel
theorem dL_undoRun_0 : decode cL_undoRun 0 = .ok (.aload_n 1, 1) := by decide +kernel
theorem dL_undoRun_1 : decode cL_undoRun 1 = .ok (.iconst 0, 1) := by decide +kernel
theorem dL_undoRun_2 : decode cL_undoRun 2 = .ok (.aload_n 0, 1) := by decide +kernel
theorem dL_undoRun_3 : decode cL_undoRun 3 = .ok (.invokevirtual 42, 3) := by decide +kernel
theorem dL_undoRun_6 : decode cL_undoRun 6 = .ok (.i2l, 1) := by decide +kernel
theorem dL_undoRun_7 : decode cL_undoRun 7 = .ok (.lastore, 1) := by decide +kernel
theorem dL_undoRun_8 : decode cL_undoRun 8 = .ok (.goto 6, 3) := by decide +kernel
theorem dL_undoRun_11 : decode cL_undoRun 11 = .ok (.astore_n 2, 1) := by decide +kernel
theorem dL_undoRun_12 : decode cL_undoRun 12 = .ok (.iconst 1, 1) := by decide +kernel
theorem dL_undoRun_13 : decode cL_undoRun 13 = .ok (.ireturn, 1) := by decide +kernel
theorem dL_undoRun_14 : decode cL_undoRun 14 = .ok (.iconst 0, 1) := by decide +kernel
theorem dL_undoRun_15 : decode cL_undoRun 15 = .ok (.ireturn, 1) := by decide +kernel
theorem dL_length_0 : decode cL_length 0 = .ok (.aload_n 2, 1) := by decide +kernel
theorem dL_length_1 : decode cL_length 1 = .ok (.iconst 0, 1) := by decide +kernel
theorem dL_length_2 : decode cL_length 2 = .ok (.aload_n 0, 1) := by decide +kernel
theorem dL_length_3 : decode cL_length 3 = .ok (.iload_n 1, 1) := by decide +kernel
theorem dL_length_4 : decode cL_length 4 = .ok (.invokevirtual 45, 3) := by decide +kernel
theorem dL_length_7 : decode cL_length 7 = .ok (.i2l, 1) := by decide +kernel
theorem dL_length_8 : decode cL_length 8 = .ok (.lastore, 1) := by decide +kernel
theorem dL_length_9 : decode cL_length 9 = .ok (.goto 6, 3) := by decide +kernel
theorem dL_length_12 : decode cL_length 12 = .ok (.astore_n 3, 1) := by decide +kernel
theorem dL_length_13 : decode cL_length 13 = .ok (.iconst 1, 1) := by decide +kernel
theorem dL_length_14 : decode cL_length 14 = .ok (.ireturn, 1) := by decide +kernel
theorem dL_length_15 : decode cL_length 15 = .ok (.iconst 0, 1) := by decide +kernel
