theorem dX11_patternFault_15 : decode cX11_patternFault 15 = .ok (.ireturn, 1) := by decide +kernel
theorem dX11_run_0 : decode cX11_run 0 = .ok (.aload_n 0, 1) := by decide +kernel
theorem dX11_run_1 : decode cX11_run 1 = .ok (.getfield 31, 3) := by decide +kernel
theorem dX11_run_4 : decode cX11_run 4 = .ok (.aload_n 0, 1) := by decide +kernel
theorem dX11_run_5 : decode cX11_run 5 = .ok (.getfield 9, 3) := by decide +kernel
theorem dX11_run_8 : decode cX11_run 8 = .ok (.aload_n 0, 1) := by decide +kernel
theorem dX11_run_9 : decode cX11_run 9 = .ok (.getfield 95, 3) := by decide +kernel
theorem dX11_run_12 : decode cX11_run 12 = .ok (.invokevirtual 104, 3) := by decide +kernel
theorem dX11_run_15 : decode cX11_run 15 = .ok (.iconst (-1), 1) := by decide +kernel
theorem dX11_run_16 : decode cX11_run 16 = .ok (.if_icmp .eq 13, 3) := by decide +kernel
theorem dX11_run_19 : decode cX11_run 19 = .ok (.new 99, 3) := by decide +kernel
theorem dX11_run_22 : decode cX11_run 22 = .ok (.dup, 1) := by decide +kernel
theorem dX11_run_23 : decode cX11_run 23 = .ok (.ldc 111, 2) := by decide +kernel
theorem dX11_run_25 : decode cX11_run 25 = .ok (.invokespecial 103, 3) := by decide +kernel
theorem dX11_run_28 : decode cX11_run 28 = .ok (.athrow, 1) := by decide +kernel
theorem dX11_run_29 : decode cX11_run 29 = .ok (.aload_n 0, 1) := by decide +kernel
theorem dX11_run_30 : decode cX11_run 30 = .ok (.dup, 1) := by decide +kernel
theorem dX11_run_31 : decode cX11_run 31 = .ok (.getfield 113, 3) := by decide +kernel
theorem dX11_run_34 : decode cX11_run 34 = .ok (.iconst 1, 1) := by decide +kernel
theorem dX11_run_35 : decode cX11_run 35 = .ok (.iadd, 1) := by decide +kernel
theorem dX11_run_36 : decode cX11_run 36 = .ok (.putfield 113, 3) := by decide +kernel
theorem dX11_run_39 : decode cX11_run 39 = .ok (.aload_n 0, 1) := by decide +kernel
theorem dX11_run_40 : decode cX11_run 40 = .ok (.getfield 75, 3) := by decide +kernel
theorem dX11_run_43 : decode cX11_run 43 = .ok (.aload_n 0, 1) := by decide +kernel
theorem dX11_run_44 : decode cX11_run 44 = .ok (.getfield 113, 3) := by decide +kernel
theorem dX11_run_47 : decode cX11_run 47 = .ok (.invokevirtual 116, 3) := by decide +kernel
theorem dX11_run_50 : decode cX11_run 50 = .ok (.istore_n 1, 1) := by decide +kernel
theorem dX11_run_51 : decode cX11_run 51 = .ok (.aload_n 0, 1) := by decide +kernel
theorem dX11_run_52 : decode cX11_run 52 = .ok (.aload_n 0, 1) := by decide +kernel
theorem dX11_run_53 : decode cX11_run 53 = .ok (.getfield 75, 3) := by decide +kernel
theorem dX11_run_56 : decode cX11_run 56 = .ok (.getfield 120, 3) := by decide +kernel
theorem dX11_run_59 : decode cX11_run 59 = .ok (.putfield 123, 3) := by decide +kernel
theorem dX11_run_62 : decode cX11_run 62 = .ok (.iload_n 1, 1) := by decide +kernel
theorem dX11_run_63 : decode cX11_run 63 = .ok (.ireturn, 1) := by decide +kernel
theorem dX11_keep_0 : decode cX11_keep 0 = .ok (.aload_n 0, 1) := by decide +kernel
theorem dX11_keep_1 : decode cX11_keep 1 = .ok (.iload_n 1, 1) := by decide +kernel
theorem dX11_keep_2 : decode cX11_keep 2 = .ok (.invokevirtual 126, 3) := by decide +kernel
theorem dX11_keep_5 : decode cX11_keep 5 = .ok (.ifCond .eq 13, 3) := by decide +kernel
theorem dX11_keep_8 : decode cX11_keep 8 = .ok (.new 130, 3) := by decide +kernel
theorem dX11_keep_11 : decode cX11_keep 11 = .ok (.dup, 1) := by decide +kernel
theorem dX11_keep_12 : decode cX11_keep 12 = .ok (.ldc 132, 2) := by decide +kernel
theorem dX11_keep_14 : decode cX11_keep 14 = .ok (.invokespecial 134, 3) := by decide +kernel
theorem dX11_keep_17 : decode cX11_keep 17 = .ok (.athrow, 1) := by decide +kernel
theorem dX11_keep_18 : decode cX11_keep 18 = .ok (.aload_n 0, 1) := by decide +kernel
theorem dX11_keep_19 : decode cX11_keep 19 = .ok (.getfield 31, 3) := by decide +kernel
theorem dX11_keep_22 : decode cX11_keep 22 = .ok (.aload_n 0, 1) := by decide +kernel
theorem dX11_keep_23 : decode cX11_keep 23 = .ok (.getfield 9, 3) := by decide +kernel
theorem dX11_keep_26 : decode cX11_keep 26 = .ok (.aload_n 0, 1) := by decide +kernel
theorem dX11_keep_27 : decode cX11_keep 27 = .ok (.getfield 95, 3) := by decide +kernel
theorem dX11_keep_30 : decode cX11_keep 30 = .ok (.invokevirtual 104, 3) := by decide +kernel
theorem dX11_keep_33 : decode cX11_keep 33 = .ok (.iconst (-1), 1) := by decide +kernel
theorem dX11_keep_34 : decode cX11_keep 34 = .ok (.if_icmp .eq 13, 3) := by decide +kernel
theorem dX11_keep_37 : decode cX11_keep 37 = .ok (.new 99, 3) := by decide +kernel
theorem dX11_keep_40 : decode cX11_keep 40 = .ok (.dup, 1) := by decide +kernel
theorem dX11_keep_41 : decode cX11_keep 41 = .ok (.ldc 111, 2) := by decide +kernel
theorem dX11_keep_43 : decode cX11_keep 43 = .ok (.invokespecial 103, 3) := by decide +kernel
theorem dX11_keep_46 : decode cX11_keep 46 = .ok (.athrow, 1) := by decide +kernel
theorem dX11_keep_47 : decode cX11_keep 47 = .ok (.aload_n 0, 1) := by decide +kernel
theorem dX11_keep_48 : decode cX11_keep 48 = .ok (.getfield 15, 3) := by decide +kernel
theorem dX11_keep_51 : decode cX11_keep 51 = .ok (.iload_n 1, 1) := by decide +kernel
theorem dX11_keep_52 : decode cX11_keep 52 = .ok (.aaload, 1) := by decide +kernel
theorem dX11_keep_53 : decode cX11_keep 53 = .ok (.astore_n 2, 1) := by decide +kernel
theorem dX11_keep_54 : decode cX11_keep 54 = .ok (.iconst 0, 1) := by decide +kernel
theorem dX11_keep_55 : decode cX11_keep 55 = .ok (.istore_n 3, 1) := by decide +kernel
theorem dX11_keep_56 : decode cX11_keep 56 = .ok (.iload_n 3, 1) := by decide +kernel
theorem dX11_keep_57 : decode cX11_keep 57 = .ok (.aload_n 0, 1) := by decide +kernel
theorem dX11_keep_58 : decode cX11_keep 58 = .ok (.getfield 95, 3) := by decide +kernel
theorem dX11_keep_61 : decode cX11_keep 61 = .ok (.if_icmp .ge 33, 3) := by decide +kernel
theorem dX11_keep_64 : decode cX11_keep 64 = .ok (.iload_n 3, 1) := by decide +kernel
theorem dX11_keep_65 : decode cX11_keep 65 = .ok (.aload_n 2, 1) := by decide +kernel
theorem dX11_keep_66 : decode cX11_keep 66 = .ok (.arraylength, 1) := by decide +kernel
theorem dX11_keep_67 : decode cX11_keep 67 = .ok (.if_icmp .ge 27, 3) := by decide +kernel
theorem dX11_keep_70 : decode cX11_keep 70 = .ok (.iload_n 3, 1) := by decide +kernel
theorem dX11_keep_71 : decode cX11_keep 71 = .ok (.aload_n 0, 1) := by decide +kernel
theorem dX11_keep_72 : decode cX11_keep 72 = .ok (.getfield 9, 3) := by decide +kernel
theorem dX11_keep_75 : decode cX11_keep 75 = .ok (.arraylength, 1) := by decide +kernel
theorem dX11_keep_76 : decode cX11_keep 76 = .ok (.if_icmp .ge 18, 3) := by decide +kernel
theorem dX11_keep_79 : decode cX11_keep 79 = .ok (.aload_n 2, 1) := by decide +kernel
theorem dX11_keep_80 : decode cX11_keep 80 = .ok (.iload_n 3, 1) := by decide +kernel
theorem dX11_keep_81 : decode cX11_keep 81 = .ok (.aload_n 0, 1) := by decide +kernel
theorem dX11_keep_82 : decode cX11_keep 82 = .ok (.getfield 9, 3) := by decide +kernel
theorem dX11_keep_85 : decode cX11_keep 85 = .ok (.iload_n 3, 1) := by decide +kernel
theorem dX11_keep_86 : decode cX11_keep 86 = .ok (.baload, 1) := by decide +kernel
theorem dX11_keep_87 : decode cX11_keep 87 = .ok (.bastore, 1) := by decide +kernel
theorem dX11_keep_88 : decode cX11_keep 88 = .ok (.iinc 3 1, 3) := by decide +kernel
theorem dX11_keep_91 : decode cX11_keep 91 = .ok (.goto (-35), 3) := by decide +kernel
theorem dX11_keep_94 : decode cX11_keep 94 = .ok (.aload_n 0, 1) := by decide +kernel
theorem dX11_keep_95 : decode cX11_keep 95 = .ok (.getfield 18, 3) := by decide +kernel
theorem dX11_keep_98 : decode cX11_keep 98 = .ok (.iload_n 1, 1) := by decide +kernel
theorem dX11_keep_99 : decode cX11_keep 99 = .ok (.aload_n 0, 1) := by decide +kernel
theorem dX11_keep_100 : decode cX11_keep 100 = .ok (.getfield 95, 3) := by decide +kernel
theorem dX11_keep_103 : decode cX11_keep 103 = .ok (.iastore, 1) := by decide +kernel
theorem dX11_keep_104 : decode cX11_keep 104 = .ok (.aload_n 0, 1) := by decide +kernel
theorem dX11_keep_105 : decode cX11_keep 105 = .ok (.getfield 95, 3) := by decide +kernel
theorem dX11_keep_108 : decode cX11_keep 108 = .ok (.ireturn, 1) := by decide +kernel
theorem dX11_play_0 : decode cX11_play 0 = .ok (.aload_n 0, 1) := by decide +kernel
theorem dX11_play_1 : decode cX11_play 1 = .ok (.iload_n 1, 1) := by decide +kernel
theorem dX11_play_2 : decode cX11_play 2 = .ok (.invokevirtual 126, 3) := by decide +kernel
theorem dX11_play_5 : decode cX11_play 5 = .ok (.ifCond .eq 13, 3) := by decide +kernel
theorem dX11_play_8 : decode cX11_play 8 = .ok (.new 130, 3) := by decide +kernel
theorem dX11_play_11 : decode cX11_play 11 = .ok (.dup, 1) := by decide +kernel
theorem dX11_play_12 : decode cX11_play 12 = .ok (.ldc 132, 2) := by decide +kernel
theorem dX11_play_14 : decode cX11_play 14 = .ok (.invokespecial 134, 3) := by decide +kernel
theorem dX11_play_17 : decode cX11_play 17 = .ok (.athrow, 1) := by decide +kernel
theorem dX11_play_18 : decode cX11_play 18 = .ok (.aload_n 0, 1) := by decide +kernel
theorem dX11_play_19 : decode cX11_play 19 = .ok (.getfield 18, 3) := by decide +kernel
theorem dX11_play_22 : decode cX11_play 22 = .ok (.iload_n 1, 1) := by decide +kernel
theorem dX11_play_23 : decode cX11_play 23 = .ok (.iaload, 1) := by decide +kernel
theorem dX11_play_24 : decode cX11_play 24 = .ok (.iconst (-1), 1) := by decide +kernel
theorem dX11_play_25 : decode cX11_play 25 = .ok (.if_icmp .ne 13, 3) := by decide +kernel
theorem dX11_play_28 : decode cX11_play 28 = .ok (.new 99, 3) := by decide +kernel
theorem dX11_play_31 : decode cX11_play 31 = .ok (.dup, 1) := by decide +kernel
theorem dX11_play_32 : decode cX11_play 32 = .ok (.ldc 135, 2) := by decide +kernel
theorem dX11_play_34 : decode cX11_play 34 = .ok (.invokespecial 103, 3) := by decide +kernel
theorem dX11_play_37 : decode cX11_play 37 = .ok (.athrow, 1) := by decide +kernel
theorem dX11_play_38 : decode cX11_play 38 = .ok (.aload_n 0, 1) := by decide +kernel
theorem dX11_play_39 : decode cX11_play 39 = .ok (.getfield 31, 3) := by decide +kernel
theorem dX11_play_42 : decode cX11_play 42 = .ok (.aload_n 0, 1) := by decide +kernel
theorem dX11_play_43 : decode cX11_play 43 = .ok (.getfield 15, 3) := by decide +kernel
theorem dX11_play_46 : decode cX11_play 46 = .ok (.iload_n 1, 1) := by decide +kernel
theorem dX11_play_47 : decode cX11_play 47 = .ok (.aaload, 1) := by decide +kernel
theorem dX11_play_48 : decode cX11_play 48 = .ok (.aload_n 0, 1) := by decide +kernel
theorem dX11_play_49 : decode cX11_play 49 = .ok (.getfield 18, 3) := by decide +kernel
theorem dX11_play_52 : decode cX11_play 52 = .ok (.iload_n 1, 1) := by decide +kernel
theorem dX11_play_53 : decode cX11_play 53 = .ok (.iaload, 1) := by decide +kernel
theorem dX11_play_54 : decode cX11_play 54 = .ok (.invokevirtual 104, 3) := by decide +kernel
theorem dX11_play_57 : decode cX11_play 57 = .ok (.pop, 1) := by decide +kernel
theorem dX11_play_58 : decode cX11_play 58 = .ok (.aload_n 0, 1) := by decide +kernel
theorem dX11_play_59 : decode cX11_play 59 = .ok (.dup, 1) := by decide +kernel
theorem dX11_play_60 : decode cX11_play 60 = .ok (.getfield 113, 3) := by decide +kernel
theorem dX11_play_63 : decode cX11_play 63 = .ok (.iconst 1, 1) := by decide +kernel
theorem dX11_play_64 : decode cX11_play 64 = .ok (.iadd, 1) := by decide +kernel
theorem dX11_play_65 : decode cX11_play 65 = .ok (.putfield 113, 3) := by decide +kernel
theorem dX11_play_68 : decode cX11_play 68 = .ok (.aload_n 0, 1) := by decide +kernel
theorem dX11_play_69 : decode cX11_play 69 = .ok (.getfield 75, 3) := by decide +kernel
theorem dX11_play_72 : decode cX11_play 72 = .ok (.aload_n 0, 1) := by decide +kernel
theorem dX11_play_73 : decode cX11_play 73 = .ok (.getfield 113, 3) := by decide +kernel
theorem dX11_play_76 : decode cX11_play 76 = .ok (.invokevirtual 116, 3) := by decide +kernel
theorem dX11_play_79 : decode cX11_play 79 = .ok (.istore_n 2, 1) := by decide +kernel
theorem dX11_play_80 : decode cX11_play 80 = .ok (.aload_n 0, 1) := by decide +kernel
theorem dX11_play_81 : decode cX11_play 81 = .ok (.aload_n 0, 1) := by decide +kernel
theorem dX11_play_82 : decode cX11_play 82 = .ok (.getfield 75, 3) := by decide +kernel
theorem dX11_play_85 : decode cX11_play 85 = .ok (.getfield 120, 3) := by decide +kernel
theorem dX11_play_88 : decode cX11_play 88 = .ok (.putfield 123, 3) := by decide +kernel
theorem dX11_play_91 : decode cX11_play 91 = .ok (.iload_n 2, 1) := by decide +kernel
theorem dX11_play_92 : decode cX11_play 92 = .ok (.ireturn, 1) := by decide +kernel
theorem dX11_stream_0 : decode cX11_stream 0 = .ok (.aload_n 0, 1) := by decide +kernel
theorem dX11_stream_1 : decode cX11_stream 1 = .ok (.iload_n 1, 1) := by decide +kernel
theorem dX11_stream_2 : decode cX11_stream 2 = .ok (.invokevirtual 126, 3) := by decide +kernel
theorem dX11_stream_5 : decode cX11_stream 5 = .ok (.ifCond .eq 13, 3) := by decide +kernel
theorem dX11_stream_8 : decode cX11_stream 8 = .ok (.new 130, 3) := by decide +kernel
theorem dX11_stream_11 : decode cX11_stream 11 = .ok (.dup, 1) := by decide +kernel
theorem dX11_stream_12 : decode cX11_stream 12 = .ok (.ldc 132, 2) := by decide +kernel
theorem dX11_stream_14 : decode cX11_stream 14 = .ok (.invokespecial 134, 3) := by decide +kernel
theorem dX11_stream_17 : decode cX11_stream 17 = .ok (.athrow, 1) := by decide +kernel
theorem dX11_stream_18 : decode cX11_stream 18 = .ok (.aload_n 0, 1) := by decide +kernel
theorem dX11_stream_19 : decode cX11_stream 19 = .ok (.getfield 18, 3) := by decide +kernel
theorem dX11_stream_22 : decode cX11_stream 22 = .ok (.iload_n 1, 1) := by decide +kernel
theorem dX11_stream_23 : decode cX11_stream 23 = .ok (.iaload, 1) := by decide +kernel
theorem dX11_stream_24 : decode cX11_stream 24 = .ok (.iconst (-1), 1) := by decide +kernel
theorem dX11_stream_25 : decode cX11_stream 25 = .ok (.if_icmp .ne 13, 3) := by decide +kernel
theorem dX11_stream_28 : decode cX11_stream 28 = .ok (.new 99, 3) := by decide +kernel
theorem dX11_stream_31 : decode cX11_stream 31 = .ok (.dup, 1) := by decide +kernel
theorem dX11_stream_32 : decode cX11_stream 32 = .ok (.ldc 135, 2) := by decide +kernel
theorem dX11_stream_34 : decode cX11_stream 34 = .ok (.invokespecial 103, 3) := by decide +kernel
theorem dX11_stream_37 : decode cX11_stream 37 = .ok (.athrow, 1) := by decide +kernel
theorem dX11_stream_38 : decode cX11_stream 38 = .ok (.aload_n 0, 1) := by decide +kernel
theorem dX11_stream_39 : decode cX11_stream 39 = .ok (.getfield 31, 3) := by decide +kernel
theorem dX11_stream_42 : decode cX11_stream 42 = .ok (.aload_n 0, 1) := by decide +kernel
theorem dX11_stream_43 : decode cX11_stream 43 = .ok (.getfield 15, 3) := by decide +kernel
theorem dX11_stream_46 : decode cX11_stream 46 = .ok (.iload_n 1, 1) := by decide +kernel
theorem dX11_stream_47 : decode cX11_stream 47 = .ok (.aaload, 1) := by decide +kernel
theorem dX11_stream_48 : decode cX11_stream 48 = .ok (.aload_n 0, 1) := by decide +kernel
theorem dX11_stream_49 : decode cX11_stream 49 = .ok (.getfield 18, 3) := by decide +kernel
theorem dX11_stream_52 : decode cX11_stream 52 = .ok (.iload_n 1, 1) := by decide +kernel
theorem dX11_stream_53 : decode cX11_stream 53 = .ok (.iaload, 1) := by decide +kernel
theorem dX11_stream_54 : decode cX11_stream 54 = .ok (.invokevirtual 104, 3) := by decide +kernel
theorem dX11_stream_57 : decode cX11_stream 57 = .ok (.pop, 1) := by decide +kernel
theorem dX11_stream_58 : decode cX11_stream 58 = .ok (.aload_n 0, 1) := by decide +kernel
theorem dX11_stream_59 : decode cX11_stream 59 = .ok (.dup, 1) := by decide +kernel
theorem dX11_stream_60 : decode cX11_stream 60 = .ok (.getfield 113, 3) := by decide +kernel
theorem dX11_stream_63 : decode cX11_stream 63 = .ok (.iconst 1, 1) := by decide +kernel
theorem dX11_stream_64 : decode cX11_stream 64 = .ok (.iadd, 1) := by decide +kernel
theorem dX11_stream_65 : decode cX11_stream 65 = .ok (.putfield 113, 3) := by decide +kernel
theorem dX11_stream_68 : decode cX11_stream 68 = .ok (.aload_n 0, 1) := by decide +kernel
theorem dX11_stream_69 : decode cX11_stream 69 = .ok (.getfield 52, 3) := by decide +kernel
theorem dX11_stream_72 : decode cX11_stream 72 = .ok (.aload_n 0, 1) := by decide +kernel
theorem dX11_stream_73 : decode cX11_stream 73 = .ok (.getfield 38, 3) := by decide +kernel
theorem dX11_stream_76 : decode cX11_stream 76 = .ok (.invokevirtual 137, 3) := by decide +kernel
theorem dX11_stream_79 : decode cX11_stream 79 = .ok (.aload_n 0, 1) := by decide +kernel
theorem dX11_stream_80 : decode cX11_stream 80 = .ok (.getfield 84, 3) := by decide +kernel
theorem dX11_stream_83 : decode cX11_stream 83 = .ok (.invokevirtual 141, 3) := by decide +kernel
theorem dX11_stream_86 : decode cX11_stream 86 = .ok (.istore_n 2, 1) := by decide +kernel
theorem dX11_stream_87 : decode cX11_stream 87 = .ok (.aload_n 0, 1) := by decide +kernel
theorem dX11_stream_88 : decode cX11_stream 88 = .ok (.aload_n 0, 1) := by decide +kernel
theorem dX11_stream_89 : decode cX11_stream 89 = .ok (.getfield 84, 3) := by decide +kernel
theorem dX11_stream_92 : decode cX11_stream 92 = .ok (.getfield 144, 3) := by decide +kernel
theorem dX11_stream_95 : decode cX11_stream 95 = .ok (.putfield 123, 3) := by decide +kernel
theorem dX11_stream_98 : decode cX11_stream 98 = .ok (.aload_n 0, 1) := by decide +kernel
theorem dX11_stream_99 : decode cX11_stream 99 = .ok (.getfield 123, 3) := by decide +kernel
theorem dX11_stream_102 : decode cX11_stream 102 = .ok (.ifCond .ne 14, 3) := by decide +kernel
theorem dX11_stream_105 : decode cX11_stream 105 = .ok (.aload_n 0, 1) := by decide +kernel
theorem dX11_stream_106 : decode cX11_stream 106 = .ok (.getfield 52, 3) := by decide +kernel
theorem dX11_stream_109 : decode cX11_stream 109 = .ok (.aload_n 0, 1) := by decide +kernel
theorem dX11_stream_110 : decode cX11_stream 110 = .ok (.getfield 113, 3) := by decide +kernel
theorem dX11_stream_113 : decode cX11_stream 113 = .ok (.invokevirtual 145, 3) := by decide +kernel
theorem dX11_stream_116 : decode cX11_stream 116 = .ok (.iload_n 2, 1) := by decide +kernel
theorem dX11_stream_117 : decode cX11_stream 117 = .ok (.ireturn, 1) := by decide +kernel
theorem dX11_reason_0 : decode cX11_reason 0 = .ok (.aload_n 0, 1) := by decide +kernel
theorem dX11_reason_1 : decode cX11_reason 1 = .ok (.getfield 123, 3) := by decide +kernel
theorem dX11_reason_4 : decode cX11_reason 4 = .ok (.ireturn, 1) := by decide +kernel
theorem dX11_undo_0 : decode cX11_undo 0 = .ok (.aload_n 0, 1) := by decide +kernel
theorem dX11_undo_1 : decode cX11_undo 1 = .ok (.getfield 52, 3) := by decide +kernel
theorem dX11_undo_4 : decode cX11_undo 4 = .ok (.getfield 149, 3) := by decide +kernel
theorem dX11_undo_7 : decode cX11_undo 7 = .ok (.ifCond .ne 13, 3) := by decide +kernel
theorem dX11_undo_10 : decode cX11_undo 10 = .ok (.new 99, 3) := by decide +kernel
theorem dX11_undo_13 : decode cX11_undo 13 = .ok (.dup, 1) := by decide +kernel
theorem dX11_undo_14 : decode cX11_undo 14 = .ok (.ldc 152, 2) := by decide +kernel
theorem dX11_undo_16 : decode cX11_undo 16 = .ok (.invokespecial 103, 3) := by decide +kernel
theorem dX11_undo_19 : decode cX11_undo 19 = .ok (.athrow, 1) := by decide +kernel
theorem dX11_undo_20 : decode cX11_undo 20 = .ok (.aload_n 0, 1) := by decide +kernel
theorem dX11_undo_21 : decode cX11_undo 21 = .ok (.getfield 52, 3) := by decide +kernel
theorem dX11_undo_24 : decode cX11_undo 24 = .ok (.aload_n 0, 1) := by decide +kernel
theorem dX11_undo_25 : decode cX11_undo 25 = .ok (.getfield 38, 3) := by decide +kernel
theorem dX11_undo_28 : decode cX11_undo 28 = .ok (.invokevirtual 154, 3) := by decide +kernel
theorem dX11_undo_31 : decode cX11_undo 31 = .ok (.aload_n 0, 1) := by decide +kernel
theorem dX11_undo_32 : decode cX11_undo 32 = .ok (.getfield 52, 3) := by decide +kernel
theorem dX11_undo_35 : decode cX11_undo 35 = .ok (.getfield 149, 3) := by decide +kernel
theorem dX11_undo_38 : decode cX11_undo 38 = .ok (.ireturn, 1) := by decide +kernel
theorem dX11_undoRun_0 : decode cX11_undoRun 0 = .ok (.aload_n 0, 1) := by decide +kernel
theorem dX11_undoRun_1 : decode cX11_undoRun 1 = .ok (.getfield 52, 3) := by decide +kernel
theorem dX11_undoRun_4 : decode cX11_undoRun 4 = .ok (.getfield 149, 3) := by decide +kernel
theorem dX11_undoRun_7 : decode cX11_undoRun 7 = .ok (.ifCond .ne 13, 3) := by decide +kernel
theorem dX11_undoRun_10 : decode cX11_undoRun 10 = .ok (.new 99, 3) := by decide +kernel
theorem dX11_undoRun_13 : decode cX11_undoRun 13 = .ok (.dup, 1) := by decide +kernel
theorem dX11_undoRun_14 : decode cX11_undoRun 14 = .ok (.ldc 152, 2) := by decide +kernel
theorem dX11_undoRun_16 : decode cX11_undoRun 16 = .ok (.invokespecial 103, 3) := by decide +kernel
theorem dX11_undoRun_19 : decode cX11_undoRun 19 = .ok (.athrow, 1) := by decide +kernel
theorem dX11_undoRun_20 : decode cX11_undoRun 20 = .ok (.aload_n 0, 1) := by decide +kernel
theorem dX11_undoRun_21 : decode cX11_undoRun 21 = .ok (.getfield 52, 3) := by decide +kernel
theorem dX11_undoRun_24 : decode cX11_undoRun 24 = .ok (.invokevirtual 157, 3) := by decide +kernel
theorem dX11_undoRun_27 : decode cX11_undoRun 27 = .ok (.istore_n 1, 1) := by decide +kernel
theorem dX11_undoRun_28 : decode cX11_undoRun 28 = .ok (.iconst 0, 1) := by decide +kernel
theorem dX11_undoRun_29 : decode cX11_undoRun 29 = .ok (.istore_n 2, 1) := by decide +kernel
theorem dX11_undoRun_30 : decode cX11_undoRun 30 = .ok (.aload_n 0, 1) := by decide +kernel
theorem dX11_undoRun_31 : decode cX11_undoRun 31 = .ok (.getfield 52, 3) := by decide +kernel
theorem dX11_undoRun_34 : decode cX11_undoRun 34 = .ok (.getfield 149, 3) := by decide +kernel
theorem dX11_undoRun_37 : decode cX11_undoRun 37 = .ok (.istore_n 3, 1) := by decide +kernel
theorem dX11_undoRun_38 : decode cX11_undoRun 38 = .ok (.iload_n 3, 1) := by decide +kernel
theorem dX11_undoRun_39 : decode cX11_undoRun 39 = .ok (.ifCond .le 34, 3) := by decide +kernel
theorem dX11_undoRun_42 : decode cX11_undoRun 42 = .ok (.aload_n 0, 1) := by decide +kernel
theorem dX11_undoRun_43 : decode cX11_undoRun 43 = .ok (.getfield 52, 3) := by decide +kernel
theorem dX11_undoRun_46 : decode cX11_undoRun 46 = .ok (.invokevirtual 157, 3) := by decide +kernel
theorem dX11_undoRun_49 : decode cX11_undoRun 49 = .ok (.iload_n 1, 1) := by decide +kernel
theorem dX11_undoRun_50 : decode cX11_undoRun 50 = .ok (.if_icmp .ne 23, 3) := by decide +kernel
theorem dX11_undoRun_53 : decode cX11_undoRun 53 = .ok (.aload_n 0, 1) := by decide +kernel
theorem dX11_undoRun_54 : decode cX11_undoRun 54 = .ok (.getfield 52, 3) := by decide +kernel
theorem dX11_undoRun_57 : decode cX11_undoRun 57 = .ok (.aload_n 0, 1) := by decide +kernel
theorem dX11_undoRun_58 : decode cX11_undoRun 58 = .ok (.getfield 38, 3) := by decide +kernel
theorem dX11_undoRun_61 : decode cX11_undoRun 61 = .ok (.invokevirtual 154, 3) := by decide +kernel
theorem dX11_undoRun_64 : decode cX11_undoRun 64 = .ok (.iinc 2 1, 3) := by decide +kernel
theorem dX11_undoRun_67 : decode cX11_undoRun 67 = .ok (.iinc 3 (-1), 3) := by decide +kernel
theorem dX11_undoRun_70 : decode cX11_undoRun 70 = .ok (.goto (-32), 3) := by decide +kernel
theorem dX11_undoRun_73 : decode cX11_undoRun 73 = .ok (.iload_n 2, 1) := by decide +kernel
theorem dX11_undoRun_74 : decode cX11_undoRun 74 = .ok (.ireturn, 1) := by decide +kernel
theorem dX11_deeds_0 : decode cX11_deeds 0 = .ok (.aload_n 0, 1) := by decide +kernel
theorem dX11_deeds_1 : decode cX11_deeds 1 = .ok (.getfield 52, 3) := by decide +kernel
theorem dX11_deeds_4 : decode cX11_deeds 4 = .ok (.getfield 149, 3) := by decide +kernel
theorem dX11_deeds_7 : decode cX11_deeds 7 = .ok (.ireturn, 1) := by decide +kernel
theorem dX11_lines_0 : decode cX11_lines 0 = .ok (.aload_n 0, 1) := by decide +kernel
theorem dX11_lines_1 : decode cX11_lines 1 = .ok (.getfield 38, 3) := by decide +kernel
theorem dX11_lines_4 : decode cX11_lines 4 = .ok (.getfield 160, 3) := by decide +kernel
theorem dX11_lines_7 : decode cX11_lines 7 = .ok (.getfield 164, 3) := by decide +kernel
theorem dX11_lines_10 : decode cX11_lines 10 = .ok (.ireturn, 1) := by decide +kernel
theorem dX11_length_0 : decode cX11_length 0 = .ok (.aload_n 0, 1) := by decide +kernel
theorem dX11_length_1 : decode cX11_length 1 = .ok (.getfield 38, 3) := by decide +kernel
theorem dX11_length_4 : decode cX11_length 4 = .ok (.getfield 160, 3) := by decide +kernel
theorem dX11_length_7 : decode cX11_length 7 = .ok (.iload_n 1, 1) := by decide +kernel
theorem dX11_length_8 : decode cX11_length 8 = .ok (.invokevirtual 169, 3) := by decide +kernel
theorem dX11_length_11 : decode cX11_length 11 = .ok (.ifCond .ne 13, 3) := by decide +kernel
theorem dX11_length_14 : decode cX11_length 14 = .ok (.new 130, 3) := by decide +kernel
theorem dX11_length_17 : decode cX11_length 17 = .ok (.dup, 1) := by decide +kernel
theorem dX11_length_18 : decode cX11_length 18 = .ok (.ldc 172, 2) := by decide +kernel
theorem dX11_length_20 : decode cX11_length 20 = .ok (.invokespecial 134, 3) := by decide +kernel
theorem dX11_length_23 : decode cX11_length 23 = .ok (.athrow, 1) := by decide +kernel
theorem dX11_length_24 : decode cX11_length 24 = .ok (.aload_n 0, 1) := by decide +kernel
theorem dX11_length_25 : decode cX11_length 25 = .ok (.getfield 38, 3) := by decide +kernel
theorem dX11_length_28 : decode cX11_length 28 = .ok (.getfield 160, 3) := by decide +kernel
theorem dX11_length_31 : decode cX11_length 31 = .ok (.iload_n 1, 1) := by decide +kernel
theorem dX11_length_32 : decode cX11_length 32 = .ok (.invokevirtual 174, 3) := by decide +kernel
theorem dX11_length_35 : decode cX11_length 35 = .ok (.ireturn, 1) := by decide +kernel
theorem dX11_at_0 : decode cX11_at 0 = .ok (.aload_n 0, 1) := by decide +kernel
theorem dX11_at_1 : decode cX11_at 1 = .ok (.getfield 38, 3) := by decide +kernel
theorem dX11_at_4 : decode cX11_at 4 = .ok (.getfield 160, 3) := by decide +kernel
theorem dX11_at_7 : decode cX11_at 7 = .ok (.iload_n 1, 1) := by decide +kernel
theorem dX11_at_8 : decode cX11_at 8 = .ok (.iload_n 2, 1) := by decide +kernel
theorem dX11_at_9 : decode cX11_at 9 = .ok (.invokevirtual 177, 3) := by decide +kernel
theorem dX11_at_12 : decode cX11_at 12 = .ok (.istore_n 3, 1) := by decide +kernel
theorem dX11_at_13 : decode cX11_at 13 = .ok (.iload_n 3, 1) := by decide +kernel
theorem dX11_at_14 : decode cX11_at 14 = .ok (.iconst (-1), 1) := by decide +kernel
theorem dX11_at_15 : decode cX11_at 15 = .ok (.if_icmp .ne 13, 3) := by decide +kernel
theorem dX11_at_18 : decode cX11_at 18 = .ok (.new 130, 3) := by decide +kernel
theorem dX11_at_21 : decode cX11_at 21 = .ok (.dup, 1) := by decide +kernel
theorem dX11_at_22 : decode cX11_at 22 = .ok (.ldc 181, 2) := by decide +kernel
theorem dX11_at_24 : decode cX11_at 24 = .ok (.invokespecial 134, 3) := by decide +kernel
theorem dX11_at_27 : decode cX11_at 27 = .ok (.athrow, 1) := by decide +kernel
theorem dX11_at_28 : decode cX11_at 28 = .ok (.iload_n 3, 1) := by decide +kernel
theorem dX11_at_29 : decode cX11_at 29 = .ok (.ireturn, 1) := by decide +kernel
theorem dX11_id_0 : decode cX11_id 0 = .ok (.aload_n 0, 1) := by decide +kernel
theorem dX11_id_1 : decode cX11_id 1 = .ok (.getfield 38, 3) := by decide +kernel
theorem dX11_id_4 : decode cX11_id 4 = .ok (.getfield 160, 3) := by decide +kernel
theorem dX11_id_7 : decode cX11_id 7 = .ok (.iload_n 1, 1) := by decide +kernel
theorem dX11_id_8 : decode cX11_id 8 = .ok (.invokevirtual 169, 3) := by decide +kernel
theorem dX11_id_11 : decode cX11_id 11 = .ok (.ifCond .ne 13, 3) := by decide +kernel
theorem dX11_id_14 : decode cX11_id 14 = .ok (.new 130, 3) := by decide +kernel
theorem dX11_id_17 : decode cX11_id 17 = .ok (.dup, 1) := by decide +kernel
theorem dX11_id_18 : decode cX11_id 18 = .ok (.ldc 172, 2) := by decide +kernel
theorem dX11_id_20 : decode cX11_id 20 = .ok (.invokespecial 134, 3) := by decide +kernel
theorem dX11_id_23 : decode cX11_id 23 = .ok (.athrow, 1) := by decide +kernel
theorem dX11_id_24 : decode cX11_id 24 = .ok (.aload_n 0, 1) := by decide +kernel
theorem dX11_id_25 : decode cX11_id 25 = .ok (.getfield 38, 3) := by decide +kernel
theorem dX11_id_28 : decode cX11_id 28 = .ok (.iload_n 1, 1) := by decide +kernel
theorem dX11_id_29 : decode cX11_id 29 = .ok (.invokevirtual 183, 3) := by decide +kernel
theorem dX11_id_32 : decode cX11_id 32 = .ok (.ireturn, 1) := by decide +kernel
theorem dX11_present_0 : decode cX11_present 0 = .ok (.aload_n 0, 1) := by decide +kernel
theorem dX11_present_1 : decode cX11_present 1 = .ok (.getfield 38, 3) := by decide +kernel
theorem dX11_present_4 : decode cX11_present 4 = .ok (.getfield 189, 3) := by decide +kernel
theorem dX11_present_7 : decode cX11_present 7 = .ok (.ireturn, 1) := by decide +kernel
theorem dX11_mark_0 : decode cX11_mark 0 = .ok (.iload_n 1, 1) := by decide +kernel
theorem dX11_mark_1 : decode cX11_mark 1 = .ok (.ifCond .lt 8, 3) := by decide +kernel
theorem dX11_mark_4 : decode cX11_mark 4 = .ok (.iload_n 1, 1) := by decide +kernel
theorem dX11_mark_5 : decode cX11_mark 5 = .ok (.iconst 5, 1) := by decide +kernel
theorem dX11_mark_6 : decode cX11_mark 6 = .ok (.if_icmp .lt 13, 3) := by decide +kernel
theorem dX11_mark_9 : decode cX11_mark 9 = .ok (.new 130, 3) := by decide +kernel
theorem dX11_mark_12 : decode cX11_mark 12 = .ok (.dup, 1) := by decide +kernel
theorem dX11_mark_13 : decode cX11_mark 13 = .ok (.ldc 192, 2) := by decide +kernel
theorem dX11_mark_15 : decode cX11_mark 15 = .ok (.invokespecial 134, 3) := by decide +kernel
theorem dX11_mark_18 : decode cX11_mark 18 = .ok (.athrow, 1) := by decide +kernel
theorem dX11_mark_19 : decode cX11_mark 19 = .ok (.aload_n 0, 1) := by decide +kernel
theorem dX11_mark_20 : decode cX11_mark 20 = .ok (.getfield 38, 3) := by decide +kernel
theorem dX11_mark_23 : decode cX11_mark 23 = .ok (.iload_n 1, 1) := by decide +kernel
theorem dX11_mark_24 : decode cX11_mark 24 = .ok (.invokevirtual 194, 3) := by decide +kernel
theorem dX11_mark_27 : decode cX11_mark 27 = .ok (.ireturn, 1) := by decide +kernel
theorem dX11_sample_0 : decode cX11_sample 0 = .ok (.iload_n 1, 1) := by decide +kernel
theorem dX11_sample_1 : decode cX11_sample 1 = .ok (.ifCond .lt 20, 3) := by decide +kernel
theorem dX11_sample_4 : decode cX11_sample 4 = .ok (.iload_n 1, 1) := by decide +kernel
theorem dX11_sample_5 : decode cX11_sample 5 = .ok (.ldc 197, 2) := by decide +kernel
theorem dX11_sample_7 : decode cX11_sample 7 = .ok (.if_icmp .gt 14, 3) := by decide +kernel
theorem dX11_sample_10 : decode cX11_sample 10 = .ok (.iload_n 2, 1) := by decide +kernel
theorem dX11_sample_11 : decode cX11_sample 11 = .ok (.iconst 1, 1) := by decide +kernel
theorem dX11_sample_12 : decode cX11_sample 12 = .ok (.if_icmp .lt 9, 3) := by decide +kernel
theorem dX11_sample_15 : decode cX11_sample 15 = .ok (.iload_n 2, 1) := by decide +kernel
theorem dX11_sample_16 : decode cX11_sample 16 = .ok (.bipush 20, 2) := by decide +kernel
theorem dX11_sample_18 : decode cX11_sample 18 = .ok (.if_icmp .le 13, 3) := by decide +kernel
theorem dX11_sample_21 : decode cX11_sample 21 = .ok (.new 88, 3) := by decide +kernel
theorem dX11_sample_24 : decode cX11_sample 24 = .ok (.dup, 1) := by decide +kernel
theorem dX11_sample_25 : decode cX11_sample 25 = .ok (.ldc 198, 2) := by decide +kernel
theorem dX11_sample_27 : decode cX11_sample 27 = .ok (.invokespecial 92, 3) := by decide +kernel
theorem dX11_sample_30 : decode cX11_sample 30 = .ok (.athrow, 1) := by decide +kernel
theorem dX11_sample_31 : decode cX11_sample 31 = .ok (.aload_n 0, 1) := by decide +kernel
theorem dX11_sample_32 : decode cX11_sample 32 = .ok (.getfield 38, 3) := by decide +kernel
theorem dX11_sample_35 : decode cX11_sample 35 = .ok (.getfield 160, 3) := by decide +kernel
theorem dX11_sample_38 : decode cX11_sample 38 = .ok (.getfield 164, 3) := by decide +kernel
theorem dX11_sample_41 : decode cX11_sample 41 = .ok (.iload_n 2, 1) := by decide +kernel
theorem dX11_sample_42 : decode cX11_sample 42 = .ok (.iadd, 1) := by decide +kernel
theorem dX11_sample_43 : decode cX11_sample 43 = .ok (.bipush 40, 2) := by decide +kernel
theorem dX11_sample_45 : decode cX11_sample 45 = .ok (.if_icmp .le 13, 3) := by decide +kernel
theorem dX11_sample_48 : decode cX11_sample 48 = .ok (.new 99, 3) := by decide +kernel
theorem dX11_sample_51 : decode cX11_sample 51 = .ok (.dup, 1) := by decide +kernel
theorem dX11_sample_52 : decode cX11_sample 52 = .ok (.ldc 200, 2) := by decide +kernel
theorem dX11_sample_54 : decode cX11_sample 54 = .ok (.invokespecial 103, 3) := by decide +kernel
theorem dX11_sample_57 : decode cX11_sample 57 = .ok (.athrow, 1) := by decide +kernel
theorem dX11_sample_58 : decode cX11_sample 58 = .ok (.aload_n 0, 1) := by decide +kernel
theorem dX11_sample_59 : decode cX11_sample 59 = .ok (.dup, 1) := by decide +kernel
theorem dX11_sample_60 : decode cX11_sample 60 = .ok (.getfield 113, 3) := by decide +kernel
theorem dX11_sample_63 : decode cX11_sample 63 = .ok (.iconst 1, 1) := by decide +kernel
theorem dX11_sample_64 : decode cX11_sample 64 = .ok (.iadd, 1) := by decide +kernel
theorem dX11_sample_65 : decode cX11_sample 65 = .ok (.putfield 113, 3) := by decide +kernel
theorem dX11_sample_68 : decode cX11_sample 68 = .ok (.aload_n 0, 1) := by decide +kernel
theorem dX11_sample_69 : decode cX11_sample 69 = .ok (.getfield 52, 3) := by decide +kernel
theorem dX11_sample_72 : decode cX11_sample 72 = .ok (.aload_n 0, 1) := by decide +kernel
theorem dX11_sample_73 : decode cX11_sample 73 = .ok (.getfield 38, 3) := by decide +kernel
theorem dX11_sample_76 : decode cX11_sample 76 = .ok (.invokevirtual 137, 3) := by decide +kernel
theorem dX11_sample_79 : decode cX11_sample 79 = .ok (.aload_n 0, 1) := by decide +kernel
theorem dX11_sample_80 : decode cX11_sample 80 = .ok (.getfield 38, 3) := by decide +kernel
theorem dX11_sample_83 : decode cX11_sample 83 = .ok (.iload_n 1, 1) := by decide +kernel
theorem dX11_sample_84 : decode cX11_sample 84 = .ok (.iload_n 2, 1) := by decide +kernel
theorem dX11_sample_85 : decode cX11_sample 85 = .ok (.invokevirtual 202, 3) := by decide +kernel
theorem dX11_sample_88 : decode cX11_sample 88 = .ok (.aload_n 0, 1) := by decide +kernel
theorem dX11_sample_89 : decode cX11_sample 89 = .ok (.getfield 52, 3) := by decide +kernel
theorem dX11_sample_92 : decode cX11_sample 92 = .ok (.aload_n 0, 1) := by decide +kernel
theorem dX11_sample_93 : decode cX11_sample 93 = .ok (.getfield 113, 3) := by decide +kernel
theorem dX11_sample_96 : decode cX11_sample 96 = .ok (.invokevirtual 145, 3) := by decide +kernel
theorem dX11_sample_99 : decode cX11_sample 99 = .ok (.aload_n 0, 1) := by decide +kernel
theorem dX11_sample_100 : decode cX11_sample 100 = .ok (.getfield 38, 3) := by decide +kernel
theorem dX11_sample_103 : decode cX11_sample 103 = .ok (.getfield 160, 3) := by decide +kernel
theorem dX11_sample_106 : decode cX11_sample 106 = .ok (.getfield 164, 3) := by decide +kernel
theorem dX11_sample_109 : decode cX11_sample 109 = .ok (.ireturn, 1) := by decide +kernel
theorem dX11_find_0 : decode cX11_find 0 = .ok (.aload_n 0, 1) := by decide +kernel
theorem dX11_find_1 : decode cX11_find 1 = .ok (.getfield 31, 3) := by decide +kernel
theorem dX11_find_4 : decode cX11_find 4 = .ok (.aload_n 0, 1) := by decide +kernel
theorem dX11_find_5 : decode cX11_find 5 = .ok (.getfield 9, 3) := by decide +kernel
theorem dX11_find_8 : decode cX11_find 8 = .ok (.aload_n 0, 1) := by decide +kernel
theorem dX11_find_9 : decode cX11_find 9 = .ok (.getfield 95, 3) := by decide +kernel
theorem dX11_find_12 : decode cX11_find 12 = .ok (.invokevirtual 108, 3) := by decide +kernel
theorem dX11_find_15 : decode cX11_find 15 = .ok (.iconst (-1), 1) := by decide +kernel
theorem dX11_find_16 : decode cX11_find 16 = .ok (.if_icmp .eq 13, 3) := by decide +kernel
theorem dX11_find_19 : decode cX11_find 19 = .ok (.new 99, 3) := by decide +kernel
theorem dX11_find_22 : decode cX11_find 22 = .ok (.dup, 1) := by decide +kernel
theorem dX11_find_23 : decode cX11_find 23 = .ok (.ldc 111, 2) := by decide +kernel
theorem dX11_find_25 : decode cX11_find 25 = .ok (.invokespecial 103, 3) := by decide +kernel
theorem dX11_find_28 : decode cX11_find 28 = .ok (.athrow, 1) := by decide +kernel
theorem dX11_find_29 : decode cX11_find 29 = .ok (.aload_n 0, 1) := by decide +kernel
theorem dX11_find_30 : decode cX11_find 30 = .ok (.getfield 61, 3) := by decide +kernel
theorem dX11_find_33 : decode cX11_find 33 = .ok (.aload_n 0, 1) := by decide +kernel
theorem dX11_find_34 : decode cX11_find 34 = .ok (.getfield 38, 3) := by decide +kernel
theorem dX11_find_37 : decode cX11_find 37 = .ok (.iconst 0, 1) := by decide +kernel
theorem dX11_find_38 : decode cX11_find 38 = .ok (.iload_n 1, 1) := by decide +kernel
theorem dX11_find_39 : decode cX11_find 39 = .ok (.invokevirtual 231, 3) := by decide +kernel
theorem dX11_find_42 : decode cX11_find 42 = .ok (.ireturn, 1) := by decide +kernel
theorem dX11_findStart_0 : decode cX11_findStart 0 = .ok (.aload_n 0, 1) := by decide +kernel
theorem dX11_findStart_1 : decode cX11_findStart 1 = .ok (.getfield 38, 3) := by decide +kernel
theorem dX11_findStart_4 : decode cX11_findStart 4 = .ok (.getfield 160, 3) := by decide +kernel
theorem dX11_findStart_7 : decode cX11_findStart 7 = .ok (.iload_n 1, 1) := by decide +kernel
theorem dX11_findStart_8 : decode cX11_findStart 8 = .ok (.invokevirtual 169, 3) := by decide +kernel
theorem dX11_findStart_11 : decode cX11_findStart 11 = .ok (.ifCond .ne 13, 3) := by decide +kernel
theorem dX11_findStart_14 : decode cX11_findStart 14 = .ok (.new 130, 3) := by decide +kernel
theorem dX11_findStart_17 : decode cX11_findStart 17 = .ok (.dup, 1) := by decide +kernel
theorem dX11_findStart_18 : decode cX11_findStart 18 = .ok (.ldc 172, 2) := by decide +kernel
theorem dX11_findStart_20 : decode cX11_findStart 20 = .ok (.invokespecial 134, 3) := by decide +kernel
theorem dX11_findStart_23 : decode cX11_findStart 23 = .ok (.athrow, 1) := by decide +kernel
theorem dX11_findStart_24 : decode cX11_findStart 24 = .ok (.aload_n 0, 1) := by decide +kernel
theorem dX11_findStart_25 : decode cX11_findStart 25 = .ok (.getfield 31, 3) := by decide +kernel
theorem dX11_findStart_28 : decode cX11_findStart 28 = .ok (.aload_n 0, 1) := by decide +kernel
theorem dX11_findStart_29 : decode cX11_findStart 29 = .ok (.getfield 9, 3) := by decide +kernel
theorem dX11_findStart_32 : decode cX11_findStart 32 = .ok (.aload_n 0, 1) := by decide +kernel
theorem dX11_findStart_33 : decode cX11_findStart 33 = .ok (.getfield 95, 3) := by decide +kernel
theorem dX11_findStart_36 : decode cX11_findStart 36 = .ok (.invokevirtual 108, 3) := by decide +kernel
theorem dX11_findStart_39 : decode cX11_findStart 39 = .ok (.iconst (-1), 1) := by decide +kernel
theorem dX11_findStart_40 : decode cX11_findStart 40 = .ok (.if_icmp .eq 13, 3) := by decide +kernel
theorem dX11_findStart_43 : decode cX11_findStart 43 = .ok (.new 99, 3) := by decide +kernel
theorem dX11_findStart_46 : decode cX11_findStart 46 = .ok (.dup, 1) := by decide +kernel
theorem dX11_findStart_47 : decode cX11_findStart 47 = .ok (.ldc 111, 2) := by decide +kernel
theorem dX11_findStart_49 : decode cX11_findStart 49 = .ok (.invokespecial 103, 3) := by decide +kernel
theorem dX11_findStart_52 : decode cX11_findStart 52 = .ok (.athrow, 1) := by decide +kernel
theorem dX11_findStart_53 : decode cX11_findStart 53 = .ok (.aload_n 0, 1) := by decide +kernel
theorem dX11_findStart_54 : decode cX11_findStart 54 = .ok (.getfield 61, 3) := by decide +kernel
theorem dX11_findStart_57 : decode cX11_findStart 57 = .ok (.aload_n 0, 1) := by decide +kernel
theorem dX11_findStart_58 : decode cX11_findStart 58 = .ok (.getfield 38, 3) := by decide +kernel
theorem dX11_findStart_61 : decode cX11_findStart 61 = .ok (.getfield 160, 3) := by decide +kernel
theorem dX11_findStart_64 : decode cX11_findStart 64 = .ok (.iload_n 1, 1) := by decide +kernel
theorem dX11_findStart_65 : decode cX11_findStart 65 = .ok (.iconst 0, 1) := by decide +kernel
theorem dX11_findStart_66 : decode cX11_findStart 66 = .ok (.invokevirtual 235, 3) := by decide +kernel
theorem dX11_findStart_69 : decode cX11_findStart 69 = .ok (.ifCond .eq 13, 3) := by decide +kernel
theorem dX11_findStart_72 : decode cX11_findStart 72 = .ok (.aload_n 0, 1) := by decide +kernel
theorem dX11_findStart_73 : decode cX11_findStart 73 = .ok (.getfield 61, 3) := by decide +kernel
theorem dX11_findStart_76 : decode cX11_findStart 76 = .ok (.getfield 239, 3) := by decide +kernel
theorem dX11_findStart_79 : decode cX11_findStart 79 = .ok (.goto 4, 3) := by decide +kernel
theorem dX11_findStart_82 : decode cX11_findStart 82 = .ok (.iconst (-1), 1) := by decide +kernel
theorem dX11_findStart_83 : decode cX11_findStart 83 = .ok (.ireturn, 1) := by decide +kernel
theorem dX11_findEnd_0 : decode cX11_findEnd 0 = .ok (.aload_n 0, 1) := by decide +kernel
theorem dX11_findEnd_1 : decode cX11_findEnd 1 = .ok (.getfield 38, 3) := by decide +kernel
theorem dX11_findEnd_4 : decode cX11_findEnd 4 = .ok (.getfield 160, 3) := by decide +kernel
theorem dX11_findEnd_7 : decode cX11_findEnd 7 = .ok (.iload_n 1, 1) := by decide +kernel
theorem dX11_findEnd_8 : decode cX11_findEnd 8 = .ok (.invokevirtual 169, 3) := by decide +kernel
theorem dX11_findEnd_11 : decode cX11_findEnd 11 = .ok (.ifCond .ne 13, 3) := by decide +kernel
theorem dX11_findEnd_14 : decode cX11_findEnd 14 = .ok (.new 130, 3) := by decide +kernel
theorem dX11_findEnd_17 : decode cX11_findEnd 17 = .ok (.dup, 1) := by decide +kernel
theorem dX11_findEnd_18 : decode cX11_findEnd 18 = .ok (.ldc 172, 2) := by decide +kernel
theorem dX11_findEnd_20 : decode cX11_findEnd 20 = .ok (.invokespecial 134, 3) := by decide +kernel
theorem dX11_findEnd_23 : decode cX11_findEnd 23 = .ok (.athrow, 1) := by decide +kernel
theorem dX11_findEnd_24 : decode cX11_findEnd 24 = .ok (.aload_n 0, 1) := by decide +kernel
theorem dX11_findEnd_25 : decode cX11_findEnd 25 = .ok (.getfield 31, 3) := by decide +kernel
theorem dX11_findEnd_28 : decode cX11_findEnd 28 = .ok (.aload_n 0, 1) := by decide +kernel
theorem dX11_findEnd_29 : decode cX11_findEnd 29 = .ok (.getfield 9, 3) := by decide +kernel
theorem dX11_findEnd_32 : decode cX11_findEnd 32 = .ok (.aload_n 0, 1) := by decide +kernel
theorem dX11_findEnd_33 : decode cX11_findEnd 33 = .ok (.getfield 95, 3) := by decide +kernel
theorem dX11_findEnd_36 : decode cX11_findEnd 36 = .ok (.invokevirtual 108, 3) := by decide +kernel
theorem dX11_findEnd_39 : decode cX11_findEnd 39 = .ok (.iconst (-1), 1) := by decide +kernel
theorem dX11_findEnd_40 : decode cX11_findEnd 40 = .ok (.if_icmp .eq 13, 3) := by decide +kernel
theorem dX11_findEnd_43 : decode cX11_findEnd 43 = .ok (.new 99, 3) := by decide +kernel
theorem dX11_findEnd_46 : decode cX11_findEnd 46 = .ok (.dup, 1) := by decide +kernel
theorem dX11_findEnd_47 : decode cX11_findEnd 47 = .ok (.ldc 111, 2) := by decide +kernel
theorem dX11_findEnd_49 : decode cX11_findEnd 49 = .ok (.invokespecial 103, 3) := by decide +kernel
theorem dX11_findEnd_52 : decode cX11_findEnd 52 = .ok (.athrow, 1) := by decide +kernel
theorem dX11_findEnd_53 : decode cX11_findEnd 53 = .ok (.aload_n 0, 1) := by decide +kernel
theorem dX11_findEnd_54 : decode cX11_findEnd 54 = .ok (.getfield 61, 3) := by decide +kernel
theorem dX11_findEnd_57 : decode cX11_findEnd 57 = .ok (.aload_n 0, 1) := by decide +kernel
theorem dX11_findEnd_58 : decode cX11_findEnd 58 = .ok (.getfield 38, 3) := by decide +kernel
theorem dX11_findEnd_61 : decode cX11_findEnd 61 = .ok (.getfield 160, 3) := by decide +kernel
theorem dX11_findEnd_64 : decode cX11_findEnd 64 = .ok (.iload_n 1, 1) := by decide +kernel
theorem dX11_findEnd_65 : decode cX11_findEnd 65 = .ok (.iconst 0, 1) := by decide +kernel
theorem dX11_findEnd_66 : decode cX11_findEnd 66 = .ok (.invokevirtual 235, 3) := by decide +kernel
theorem dX11_findEnd_69 : decode cX11_findEnd 69 = .ok (.ifCond .eq 13, 3) := by decide +kernel
theorem dX11_findEnd_72 : decode cX11_findEnd 72 = .ok (.aload_n 0, 1) := by decide +kernel
theorem dX11_findEnd_73 : decode cX11_findEnd 73 = .ok (.getfield 61, 3) := by decide +kernel
theorem dX11_findEnd_76 : decode cX11_findEnd 76 = .ok (.getfield 242, 3) := by decide +kernel
theorem dX11_findEnd_79 : decode cX11_findEnd 79 = .ok (.goto 4, 3) := by decide +kernel
theorem dX11_findEnd_82 : decode cX11_findEnd 82 = .ok (.iconst (-1), 1) := by decide +kernel
theorem dX11_findEnd_83 : decode cX11_findEnd 83 = .ok (.ireturn, 1) := by decide +kernel
theorem dX11_isSound_0 : decode cX11_isSound 0 = .ok (.aload_n 0, 1) := by decide +kernel
theorem dX11_isSound_1 : decode cX11_isSound 1 = .ok (.getfield 38, 3) := by decide +kernel
theorem dX11_isSound_4 : decode cX11_isSound 4 = .ok (.invokevirtual 251, 3) := by decide +kernel
theorem dX11_isSound_7 : decode cX11_isSound 7 = .ok (.ifCond .eq 17, 3) := by decide +kernel
theorem dX11_isSound_10 : decode cX11_isSound 10 = .ok (.aload_n 0, 1) := by decide +kernel
theorem dX11_isSound_11 : decode cX11_isSound 11 = .ok (.getfield 45, 3) := by decide +kernel
theorem dX11_isSound_14 : decode cX11_isSound 14 = .ok (.invokevirtual 255, 3) := by decide +kernel
theorem dX11_isSound_17 : decode cX11_isSound 17 = .ok (.ifCond .eq 7, 3) := by decide +kernel
theorem dX11_isSound_20 : decode cX11_isSound 20 = .ok (.iconst 1, 1) := by decide +kernel
theorem dX11_isSound_21 : decode cX11_isSound 21 = .ok (.goto 4, 3) := by decide +kernel
theorem dX11_isSound_24 : decode cX11_isSound 24 = .ok (.iconst 0, 1) := by decide +kernel
theorem dX11_isSound_25 : decode cX11_isSound 25 = .ok (.ireturn, 1) := by decide +kernel
theorem dX11_isNoScript_0 : decode cX11_isNoScript 0 = .ok (.iload_n 1, 1) := by decide +kernel
theorem dX11_isNoScript_1 : decode cX11_isNoScript 1 = .ok (.ifCond .lt 8, 3) := by decide +kernel
theorem dX11_isNoScript_4 : decode cX11_isNoScript 4 = .ok (.iload_n 1, 1) := by decide +kernel
theorem dX11_isNoScript_5 : decode cX11_isNoScript 5 = .ok (.iconst 4, 1) := by decide +kernel
theorem dX11_isNoScript_6 : decode cX11_isNoScript 6 = .ok (.if_icmp .lt 7, 3) := by decide +kernel
theorem dX11_isNoScript_9 : decode cX11_isNoScript 9 = .ok (.iconst 1, 1) := by decide +kernel
theorem dX11_isNoScript_10 : decode cX11_isNoScript 10 = .ok (.goto 4, 3) := by decide +kernel
theorem dX11_isNoScript_13 : decode cX11_isNoScript 13 = .ok (.iconst 0, 1) := by decide +kernel
theorem dX11_isNoScript_14 : decode cX11_isNoScript 14 = .ok (.ireturn, 1) := by decide +kernel
theorem dX11_bitOf_0 : decode cX11_bitOf 0 = .ok (.iload_n 0, 1) := by decide +kernel
theorem dX11_bitOf_1 : decode cX11_bitOf 1 = .ok (.bipush 97, 2) := by decide +kernel
theorem dX11_bitOf_3 : decode cX11_bitOf 3 = .ok (.if_icmp .lt 16, 3) := by decide +kernel
theorem dX11_bitOf_6 : decode cX11_bitOf 6 = .ok (.iload_n 0, 1) := by decide +kernel
theorem dX11_bitOf_7 : decode cX11_bitOf 7 = .ok (.bipush 122, 2) := by decide +kernel
theorem dX11_bitOf_9 : decode cX11_bitOf 9 = .ok (.if_icmp .gt 10, 3) := by decide +kernel
theorem dX11_bitOf_12 : decode cX11_bitOf 12 = .ok (.lconst 1, 1) := by decide +kernel
theorem dX11_bitOf_13 : decode cX11_bitOf 13 = .ok (.iload_n 0, 1) := by decide +kernel
theorem dX11_bitOf_14 : decode cX11_bitOf 14 = .ok (.bipush 97, 2) := by decide +kernel
theorem dX11_bitOf_16 : decode cX11_bitOf 16 = .ok (.isub, 1) := by decide +kernel
theorem dX11_bitOf_17 : decode cX11_bitOf 17 = .ok (.lshl, 1) := by decide +kernel
theorem dX11_bitOf_18 : decode cX11_bitOf 18 = .ok (.lreturn, 1) := by decide +kernel
theorem dX11_bitOf_19 : decode cX11_bitOf 19 = .ok (.iload_n 0, 1) := by decide +kernel
theorem dX11_bitOf_20 : decode cX11_bitOf 20 = .ok (.bipush 48, 2) := by decide +kernel
theorem dX11_bitOf_22 : decode cX11_bitOf 22 = .ok (.if_icmp .lt 19, 3) := by decide +kernel
theorem dX11_bitOf_25 : decode cX11_bitOf 25 = .ok (.iload_n 0, 1) := by decide +kernel
theorem dX11_bitOf_26 : decode cX11_bitOf 26 = .ok (.bipush 57, 2) := by decide +kernel
theorem dX11_bitOf_28 : decode cX11_bitOf 28 = .ok (.if_icmp .gt 13, 3) := by decide +kernel
theorem dX11_bitOf_31 : decode cX11_bitOf 31 = .ok (.lconst 1, 1) := by decide +kernel
theorem dX11_bitOf_32 : decode cX11_bitOf 32 = .ok (.iload_n 0, 1) := by decide +kernel
theorem dX11_bitOf_33 : decode cX11_bitOf 33 = .ok (.bipush 48, 2) := by decide +kernel
theorem dX11_bitOf_35 : decode cX11_bitOf 35 = .ok (.isub, 1) := by decide +kernel
theorem dX11_bitOf_36 : decode cX11_bitOf 36 = .ok (.bipush 26, 2) := by decide +kernel
theorem dX11_bitOf_38 : decode cX11_bitOf 38 = .ok (.iadd, 1) := by decide +kernel
theorem dX11_bitOf_39 : decode cX11_bitOf 39 = .ok (.lshl, 1) := by decide +kernel
theorem dX11_bitOf_40 : decode cX11_bitOf 40 = .ok (.lreturn, 1) := by decide +kernel
theorem dX11_bitOf_41 : decode cX11_bitOf 41 = .ok (.iload_n 0, 1) := by decide +kernel
theorem dX11_bitOf_42 : decode cX11_bitOf 42 = .ok (.bipush 32, 2) := by decide +kernel
theorem dX11_bitOf_44 : decode cX11_bitOf 44 = .ok (.if_icmp .ne 9, 3) := by decide +kernel
theorem dX11_bitOf_47 : decode cX11_bitOf 47 = .ok (.ldc2_w 272, 3) := by decide +kernel
theorem dX11_bitOf_50 : decode cX11_bitOf 50 = .ok (.goto 4, 3) := by decide +kernel
theorem dX11_bitOf_53 : decode cX11_bitOf 53 = .ok (.lconst 0, 1) := by decide +kernel
theorem dX11_bitOf_54 : decode cX11_bitOf 54 = .ok (.lreturn, 1) := by decide +kernel
theorem dJ6_compare_7cf53_0 : decode cJ6_compare_7cf53 0 = .ok (.iload_n 0, 1) := by decide +kernel
theorem dJ6_compare_7cf53_1 : decode cJ6_compare_7cf53 1 = .ok (.iload_n 1, 1) := by decide +kernel
theorem dJ6_compare_7cf53_2 : decode cJ6_compare_7cf53 2 = .ok (.if_icmp .ge 7, 3) := by decide +kernel
theorem dJ6_compare_7cf53_5 : decode cJ6_compare_7cf53 5 = .ok (.iconst (-1), 1) := by decide +kernel
theorem dJ6_compare_7cf53_6 : decode cJ6_compare_7cf53 6 = .ok (.goto 13, 3) := by decide +kernel
theorem dJ6_compare_7cf53_9 : decode cJ6_compare_7cf53 9 = .ok (.iload_n 0, 1) := by decide +kernel
theorem dJ6_compare_7cf53_10 : decode cJ6_compare_7cf53 10 = .ok (.iload_n 1, 1) := by decide +kernel
theorem dJ6_compare_7cf53_11 : decode cJ6_compare_7cf53 11 = .ok (.if_icmp .ne 7, 3) := by decide +kernel
theorem dJ6_compare_7cf53_14 : decode cJ6_compare_7cf53 14 = .ok (.iconst 0, 1) := by decide +kernel
theorem dJ6_compare_7cf53_15 : decode cJ6_compare_7cf53 15 = .ok (.goto 4, 3) := by decide +kernel
theorem dJ6_compare_7cf53_18 : decode cJ6_compare_7cf53 18 = .ok (.iconst 1, 1) := by decide +kernel
theorem dJ6_compare_7cf53_19 : decode cJ6_compare_7cf53 19 = .ok (.ireturn, 1) := by decide +kernel
theorem dJ9_floorMod_7cf53_0 : decode cJ9_floorMod_7cf53 0 = .ok (.iload_n 0, 1) := by decide +kernel
theorem dJ9_floorMod_7cf53_1 : decode cJ9_floorMod_7cf53 1 = .ok (.iload_n 1, 1) := by decide +kernel
theorem dJ9_floorMod_7cf53_2 : decode cJ9_floorMod_7cf53 2 = .ok (.irem, 1) := by decide +kernel
theorem dJ9_floorMod_7cf53_3 : decode cJ9_floorMod_7cf53 3 = .ok (.istore_n 2, 1) := by decide +kernel
theorem dJ9_floorMod_7cf53_4 : decode cJ9_floorMod_7cf53 4 = .ok (.iload_n 0, 1) := by decide +kernel
theorem dJ9_floorMod_7cf53_5 : decode cJ9_floorMod_7cf53 5 = .ok (.iload_n 1, 1) := by decide +kernel
theorem dJ9_floorMod_7cf53_6 : decode cJ9_floorMod_7cf53 6 = .ok (.ixor, 1) := by decide +kernel
theorem dJ9_floorMod_7cf53_7 : decode cJ9_floorMod_7cf53 7 = .ok (.ifCond .ge 11, 3) := by decide +kernel
theorem dJ9_floorMod_7cf53_10 : decode cJ9_floorMod_7cf53 10 = .ok (.iload_n 2, 1) := by decide +kernel
theorem dJ9_floorMod_7cf53_11 : decode cJ9_floorMod_7cf53 11 = .ok (.ifCond .eq 7, 3) := by decide +kernel
theorem dJ9_floorMod_7cf53_14 : decode cJ9_floorMod_7cf53 14 = .ok (.iload_n 2, 1) := by decide +kernel
theorem dJ9_floorMod_7cf53_15 : decode cJ9_floorMod_7cf53 15 = .ok (.iload_n 1, 1) := by decide +kernel
theorem dJ9_floorMod_7cf53_16 : decode cJ9_floorMod_7cf53 16 = .ok (.iadd, 1) := by decide +kernel
theorem dJ9_floorMod_7cf53_17 : decode cJ9_floorMod_7cf53 17 = .ok (.ireturn, 1) := by decide +kernel
theorem dJ9_floorMod_7cf53_18 : decode cJ9_floorMod_7cf53 18 = .ok (.iload_n 2, 1) := by decide +kernel
theorem dJ9_floorMod_7cf53_19 : decode cJ9_floorMod_7cf53 19 = .ok (.ireturn, 1) := by decide +kernel
theorem dJ9_max_7cf53_0 : decode cJ9_max_7cf53 0 = .ok (.iload_n 0, 1) := by decide +kernel
theorem dJ9_max_7cf53_1 : decode cJ9_max_7cf53 1 = .ok (.iload_n 1, 1) := by decide +kernel
theorem dJ9_max_7cf53_2 : decode cJ9_max_7cf53 2 = .ok (.if_icmp .lt 7, 3) := by decide +kernel
theorem dJ9_max_7cf53_5 : decode cJ9_max_7cf53 5 = .ok (.iload_n 0, 1) := by decide +kernel
theorem dJ9_max_7cf53_6 : decode cJ9_max_7cf53 6 = .ok (.goto 4, 3) := by decide +kernel
theorem dJ9_max_7cf53_9 : decode cJ9_max_7cf53 9 = .ok (.iload_n 1, 1) := by decide +kernel
theorem dJ9_max_7cf53_10 : decode cJ9_max_7cf53 10 = .ok (.ireturn, 1) := by decide +kernel
theorem dJ9_min_7cf53_0 : decode cJ9_min_7cf53 0 = .ok (.iload_n 0, 1) := by decide +kernel
theorem dJ9_min_7cf53_1 : decode cJ9_min_7cf53 1 = .ok (.iload_n 1, 1) := by decide +kernel
theorem dJ9_min_7cf53_2 : decode cJ9_min_7cf53 2 = .ok (.if_icmp .gt 7, 3) := by decide +kernel
theorem dJ9_min_7cf53_5 : decode cJ9_min_7cf53 5 = .ok (.iload_n 0, 1) := by decide +kernel
theorem dJ9_min_7cf53_6 : decode cJ9_min_7cf53 6 = .ok (.goto 4, 3) := by decide +kernel
theorem dJ9_min_7cf53_9 : decode cJ9_min_7cf53 9 = .ok (.iload_n 1, 1) := by decide +kernel
theorem dJ9_min_7cf53_10 : decode cJ9_min_7cf53 10 = .ok (.ireturn, 1) := by decide +kernel
theorem dL_cell_0 : decode cL_cell 0 = .ok (.iload_n 1, 1) := by decide +kernel
theorem dL_cell_1 : decode cL_cell 1 = .ok (.aload_n 0, 1) := by decide +kernel
theorem dL_cell_2 : decode cL_cell 2 = .ok (.arraylength, 1) := by decide +kernel
theorem dL_cell_3 : decode cL_cell 3 = .ok (.if_icmp .ge 9, 3) := by decide +kernel
theorem dL_cell_6 : decode cL_cell 6 = .ok (.aload_n 0, 1) := by decide +kernel
theorem dL_cell_7 : decode cL_cell 7 = .ok (.iload_n 1, 1) := by decide +kernel
theorem dL_cell_8 : decode cL_cell 8 = .ok (.iaload, 1) := by decide +kernel
theorem dL_cell_9 : decode cL_cell 9 = .ok (.goto 13, 3) := by decide +kernel
theorem dL_cell_12 : decode cL_cell 12 = .ok (.ldc 7, 2) := by decide +kernel
theorem dL_cell_14 : decode cL_cell 14 = .ok (.iload_n 1, 1) := by decide +kernel
theorem dL_cell_15 : decode cL_cell 15 = .ok (.iconst 2, 1) := by decide +kernel
theorem dL_cell_16 : decode cL_cell 16 = .ok (.iadd, 1) := by decide +kernel
theorem dL_cell_17 : decode cL_cell 17 = .ok (.imul, 1) := by decide +kernel
theorem dL_cell_18 : decode cL_cell 18 = .ok (.sipush 11981, 3) := by decide +kernel
theorem dL_cell_21 : decode cL_cell 21 = .ok (.iadd, 1) := by decide +kernel
theorem dL_cell_22 : decode cL_cell 22 = .ok (.ireturn, 1) := by decide +kernel
theorem dL_low_0 : decode cL_low 0 = .ok (.iload_n 0, 1) := by decide +kernel
theorem dL_low_1 : decode cL_low 1 = .ok (.ldc 8, 2) := by decide +kernel
theorem dL_low_3 : decode cL_low 3 = .ok (.iand, 1) := by decide +kernel
theorem dL_low_4 : decode cL_low 4 = .ok (.iload_n 1, 1) := by decide +kernel
theorem dL_low_5 : decode cL_low 5 = .ok (.irem, 1) := by decide +kernel
theorem dL_low_6 : decode cL_low 6 = .ok (.ireturn, 1) := by decide +kernel
theorem dL_typed_0 : decode cL_typed 0 = .ok (.iconst 1, 1) := by decide +kernel
theorem dL_typed_1 : decode cL_typed 1 = .ok (.istore 4, 2) := by decide +kernel
theorem dL_typed_3 : decode cL_typed 3 = .ok (.iconst 0, 1) := by decide +kernel
theorem dL_typed_4 : decode cL_typed 4 = .ok (.istore 5, 2) := by decide +kernel
theorem dL_typed_6 : decode cL_typed 6 = .ok (.iload 5, 2) := by decide +kernel
theorem dL_typed_8 : decode cL_typed 8 = .ok (.iload_n 3, 1) := by decide +kernel
theorem dL_typed_9 : decode cL_typed 9 = .ok (.if_icmp .ge 40, 3) := by decide +kernel
theorem dL_typed_12 : decode cL_typed 12 = .ok (.iload 4, 2) := by decide +kernel
theorem dL_typed_14 : decode cL_typed 14 = .ok (.ifCond .eq 26, 3) := by decide +kernel
theorem dL_typed_17 : decode cL_typed 17 = .ok (.aload_n 0, 1) := by decide +kernel
theorem dL_typed_18 : decode cL_typed 18 = .ok (.lload_n 1, 1) := by decide +kernel
theorem dL_typed_19 : decode cL_typed 19 = .ok (.bipush 7, 2) := by decide +kernel
theorem dL_typed_21 : decode cL_typed 21 = .ok (.iload 5, 2) := by decide +kernel
theorem dL_typed_23 : decode cL_typed 23 = .ok (.imul, 1) := by decide +kernel
theorem dL_typed_24 : decode cL_typed 24 = .ok (.lshr, 1) := by decide +kernel
theorem dL_typed_25 : decode cL_typed 25 = .ok (.ldc2_w 9, 3) := by decide +kernel
theorem dL_typed_28 : decode cL_typed 28 = .ok (.land, 1) := by decide +kernel
theorem dL_typed_29 : decode cL_typed 29 = .ok (.l2i, 1) := by decide +kernel
theorem dL_typed_30 : decode cL_typed 30 = .ok (.invokevirtual 11, 3) := by decide +kernel
theorem dL_typed_33 : decode cL_typed 33 = .ok (.ifCond .le 7, 3) := by decide +kernel
theorem dL_typed_36 : decode cL_typed 36 = .ok (.iconst 1, 1) := by decide +kernel
theorem dL_typed_37 : decode cL_typed 37 = .ok (.goto 4, 3) := by decide +kernel
theorem dL_typed_40 : decode cL_typed 40 = .ok (.iconst 0, 1) := by decide +kernel
theorem dL_typed_41 : decode cL_typed 41 = .ok (.istore 4, 2) := by decide +kernel
theorem dL_typed_43 : decode cL_typed 43 = .ok (.iinc 5 1, 3) := by decide +kernel
theorem dL_typed_46 : decode cL_typed 46 = .ok (.goto (-40), 3) := by decide +kernel
theorem dL_typed_49 : decode cL_typed 49 = .ok (.iload 4, 2) := by decide +kernel
theorem dL_typed_51 : decode cL_typed 51 = .ok (.ireturn, 1) := by decide +kernel
theorem dL_types_0 : decode cL_types 0 = .ok (.aload_n 0, 1) := by decide +kernel
theorem dL_types_1 : decode cL_types 1 = .ok (.invokevirtual 17, 3) := by decide +kernel
theorem dL_types_4 : decode cL_types 4 = .ok (.ifCond .lt 7, 3) := by decide +kernel
theorem dL_types_7 : decode cL_types 7 = .ok (.iconst 1, 1) := by decide +kernel
theorem dL_types_8 : decode cL_types 8 = .ok (.goto 4, 3) := by decide +kernel
theorem dL_types_11 : decode cL_types 11 = .ok (.iconst 0, 1) := by decide +kernel
theorem dL_types_12 : decode cL_types 12 = .ok (.istore_n 2, 1) := by decide +kernel
theorem dL_types_13 : decode cL_types 13 = .ok (.iload_n 1, 1) := by decide +kernel
theorem dL_types_14 : decode cL_types 14 = .ok (.tableswitch 491 0 17 #[86, 108, 129, 150, 171, 192, 213, 234, 255, 288, 309, 330, 352, 373, 394, 427, 449, 470], 86) := by decide +kernel
theorem dL_types_100 : decode cL_types 100 = .ok (.iload_n 2, 1) := by decide +kernel
theorem dL_types_101 : decode cL_types 101 = .ok (.ifCond .eq 19, 3) := by decide +kernel
theorem dL_types_104 : decode cL_types 104 = .ok (.aload_n 0, 1) := by decide +kernel
theorem dL_types_105 : decode cL_types 105 = .ok (.ldc2_w 21, 3) := by decide +kernel
theorem dL_types_108 : decode cL_types 108 = .ok (.bipush 9, 2) := by decide +kernel
theorem dL_types_110 : decode cL_types 110 = .ok (.invokestatic 23, 3) := by decide +kernel
theorem dL_types_113 : decode cL_types 113 = .ok (.ifCond .eq 7, 3) := by decide +kernel
theorem dL_types_116 : decode cL_types 116 = .ok (.iconst 1, 1) := by decide +kernel
theorem dL_types_117 : decode cL_types 117 = .ok (.goto 4, 3) := by decide +kernel
theorem dL_types_120 : decode cL_types 120 = .ok (.iconst 0, 1) := by decide +kernel
theorem dL_types_121 : decode cL_types 121 = .ok (.ireturn, 1) := by decide +kernel
theorem dL_types_122 : decode cL_types 122 = .ok (.iload_n 2, 1) := by decide +kernel
theorem dL_types_123 : decode cL_types 123 = .ok (.ifCond .eq 18, 3) := by decide +kernel
theorem dL_types_126 : decode cL_types 126 = .ok (.aload_n 0, 1) := by decide +kernel
theorem dL_types_127 : decode cL_types 127 = .ok (.ldc2_w 29, 3) := by decide +kernel
theorem dL_types_130 : decode cL_types 130 = .ok (.iconst 5, 1) := by decide +kernel
theorem dL_types_131 : decode cL_types 131 = .ok (.invokestatic 23, 3) := by decide +kernel
theorem dL_types_134 : decode cL_types 134 = .ok (.ifCond .eq 7, 3) := by decide +kernel
theorem dL_types_137 : decode cL_types 137 = .ok (.iconst 1, 1) := by decide +kernel
theorem dL_types_138 : decode cL_types 138 = .ok (.goto 4, 3) := by decide +kernel
theorem dL_types_141 : decode cL_types 141 = .ok (.iconst 0, 1) := by decide +kernel
theorem dL_types_142 : decode cL_types 142 = .ok (.ireturn, 1) := by decide +kernel
theorem dL_types_143 : decode cL_types 143 = .ok (.iload_n 2, 1) := by decide +kernel
theorem dL_types_144 : decode cL_types 144 = .ok (.ifCond .eq 18, 3) := by decide +kernel
theorem dL_types_147 : decode cL_types 147 = .ok (.aload_n 0, 1) := by decide +kernel
theorem dL_types_148 : decode cL_types 148 = .ok (.ldc2_w 31, 3) := by decide +kernel
theorem dL_types_151 : decode cL_types 151 = .ok (.iconst 5, 1) := by decide +kernel
theorem dL_types_152 : decode cL_types 152 = .ok (.invokestatic 23, 3) := by decide +kernel
theorem dL_types_155 : decode cL_types 155 = .ok (.ifCond .eq 7, 3) := by decide +kernel
theorem dL_types_158 : decode cL_types 158 = .ok (.iconst 1, 1) := by decide +kernel
theorem dL_types_159 : decode cL_types 159 = .ok (.goto 4, 3) := by decide +kernel
theorem dL_types_162 : decode cL_types 162 = .ok (.iconst 0, 1) := by decide +kernel
theorem dL_types_163 : decode cL_types 163 = .ok (.ireturn, 1) := by decide +kernel
theorem dL_types_164 : decode cL_types 164 = .ok (.iload_n 2, 1) := by decide +kernel
theorem dL_types_165 : decode cL_types 165 = .ok (.ifCond .eq 18, 3) := by decide +kernel
theorem dL_types_168 : decode cL_types 168 = .ok (.aload_n 0, 1) := by decide +kernel
theorem dL_types_169 : decode cL_types 169 = .ok (.ldc2_w 33, 3) := by decide +kernel
theorem dL_types_172 : decode cL_types 172 = .ok (.iconst 3, 1) := by decide +kernel
theorem dL_types_173 : decode cL_types 173 = .ok (.invokestatic 23, 3) := by decide +kernel
theorem dL_types_176 : decode cL_types 176 = .ok (.ifCond .eq 7, 3) := by decide +kernel
theorem dL_types_179 : decode cL_types 179 = .ok (.iconst 1, 1) := by decide +kernel
theorem dL_types_180 : decode cL_types 180 = .ok (.goto 4, 3) := by decide +kernel
theorem dL_types_183 : decode cL_types 183 = .ok (.iconst 0, 1) := by decide +kernel
theorem dL_types_184 : decode cL_types 184 = .ok (.ireturn, 1) := by decide +kernel
theorem dL_types_185 : decode cL_types 185 = .ok (.iload_n 2, 1) := by decide +kernel
theorem dL_types_186 : decode cL_types 186 = .ok (.ifCond .eq 18, 3) := by decide +kernel
theorem dL_types_189 : decode cL_types 189 = .ok (.aload_n 0, 1) := by decide +kernel
theorem dL_types_190 : decode cL_types 190 = .ok (.ldc2_w 35, 3) := by decide +kernel
theorem dL_types_193 : decode cL_types 193 = .ok (.iconst 3, 1) := by decide +kernel
theorem dL_types_194 : decode cL_types 194 = .ok (.invokestatic 23, 3) := by decide +kernel
theorem dL_types_197 : decode cL_types 197 = .ok (.ifCond .eq 7, 3) := by decide +kernel
theorem dL_types_200 : decode cL_types 200 = .ok (.iconst 1, 1) := by decide +kernel
theorem dL_types_201 : decode cL_types 201 = .ok (.goto 4, 3) := by decide +kernel
theorem dL_types_204 : decode cL_types 204 = .ok (.iconst 0, 1) := by decide +kernel
theorem dL_types_205 : decode cL_types 205 = .ok (.ireturn, 1) := by decide +kernel
theorem dL_types_206 : decode cL_types 206 = .ok (.iload_n 2, 1) := by decide +kernel
theorem dL_types_207 : decode cL_types 207 = .ok (.ifCond .eq 18, 3) := by decide +kernel
theorem dL_types_210 : decode cL_types 210 = .ok (.aload_n 0, 1) := by decide +kernel
theorem dL_types_211 : decode cL_types 211 = .ok (.ldc2_w 37, 3) := by decide +kernel
theorem dL_types_214 : decode cL_types 214 = .ok (.iconst 2, 1) := by decide +kernel
theorem dL_types_215 : decode cL_types 215 = .ok (.invokestatic 23, 3) := by decide +kernel
theorem dL_types_218 : decode cL_types 218 = .ok (.ifCond .eq 7, 3) := by decide +kernel
theorem dL_types_221 : decode cL_types 221 = .ok (.iconst 1, 1) := by decide +kernel
theorem dL_types_222 : decode cL_types 222 = .ok (.goto 4, 3) := by decide +kernel
theorem dL_types_225 : decode cL_types 225 = .ok (.iconst 0, 1) := by decide +kernel
theorem dL_types_226 : decode cL_types 226 = .ok (.ireturn, 1) := by decide +kernel
theorem dL_types_227 : decode cL_types 227 = .ok (.iload_n 2, 1) := by decide +kernel
theorem dL_types_228 : decode cL_types 228 = .ok (.ifCond .eq 18, 3) := by decide +kernel
theorem dL_types_231 : decode cL_types 231 = .ok (.aload_n 0, 1) := by decide +kernel
theorem dL_types_232 : decode cL_types 232 = .ok (.ldc2_w 39, 3) := by decide +kernel
theorem dL_types_235 : decode cL_types 235 = .ok (.iconst 4, 1) := by decide +kernel
theorem dL_types_236 : decode cL_types 236 = .ok (.invokestatic 23, 3) := by decide +kernel
theorem dL_types_239 : decode cL_types 239 = .ok (.ifCond .eq 7, 3) := by decide +kernel
theorem dL_types_242 : decode cL_types 242 = .ok (.iconst 1, 1) := by decide +kernel
theorem dL_types_243 : decode cL_types 243 = .ok (.goto 4, 3) := by decide +kernel
theorem dL_types_246 : decode cL_types 246 = .ok (.iconst 0, 1) := by decide +kernel
theorem dL_types_247 : decode cL_types 247 = .ok (.ireturn, 1) := by decide +kernel
theorem dL_types_248 : decode cL_types 248 = .ok (.iload_n 2, 1) := by decide +kernel
theorem dL_types_249 : decode cL_types 249 = .ok (.ifCond .eq 18, 3) := by decide +kernel
theorem dL_types_252 : decode cL_types 252 = .ok (.aload_n 0, 1) := by decide +kernel
theorem dL_types_253 : decode cL_types 253 = .ok (.ldc2_w 41, 3) := by decide +kernel
theorem dL_types_256 : decode cL_types 256 = .ok (.iconst 3, 1) := by decide +kernel
theorem dL_types_257 : decode cL_types 257 = .ok (.invokestatic 23, 3) := by decide +kernel
theorem dL_types_260 : decode cL_types 260 = .ok (.ifCond .eq 7, 3) := by decide +kernel
theorem dL_types_263 : decode cL_types 263 = .ok (.iconst 1, 1) := by decide +kernel
theorem dL_types_264 : decode cL_types 264 = .ok (.goto 4, 3) := by decide +kernel
theorem dL_types_267 : decode cL_types 267 = .ok (.iconst 0, 1) := by decide +kernel
theorem dL_types_268 : decode cL_types 268 = .ok (.ireturn, 1) := by decide +kernel
theorem dL_types_269 : decode cL_types 269 = .ok (.iload_n 2, 1) := by decide +kernel
theorem dL_types_270 : decode cL_types 270 = .ok (.ifCond .eq 30, 3) := by decide +kernel
theorem dL_types_273 : decode cL_types 273 = .ok (.aload_n 0, 1) := by decide +kernel
theorem dL_types_274 : decode cL_types 274 = .ok (.ldc2_w 43, 3) := by decide +kernel
theorem dL_types_277 : decode cL_types 277 = .ok (.bipush 9, 2) := by decide +kernel
theorem dL_types_279 : decode cL_types 279 = .ok (.invokestatic 23, 3) := by decide +kernel
theorem dL_types_282 : decode cL_types 282 = .ok (.ifCond .eq 18, 3) := by decide +kernel
theorem dL_types_285 : decode cL_types 285 = .ok (.aload_n 0, 1) := by decide +kernel
theorem dL_types_286 : decode cL_types 286 = .ok (.ldc2_w 45, 3) := by decide +kernel
theorem dL_types_289 : decode cL_types 289 = .ok (.iconst 2, 1) := by decide +kernel
theorem dL_types_290 : decode cL_types 290 = .ok (.invokestatic 23, 3) := by decide +kernel
theorem dL_types_293 : decode cL_types 293 = .ok (.ifCond .eq 7, 3) := by decide +kernel
theorem dL_types_296 : decode cL_types 296 = .ok (.iconst 1, 1) := by decide +kernel
theorem dL_types_297 : decode cL_types 297 = .ok (.goto 4, 3) := by decide +kernel
theorem dL_types_300 : decode cL_types 300 = .ok (.iconst 0, 1) := by decide +kernel
theorem dL_types_301 : decode cL_types 301 = .ok (.ireturn, 1) := by decide +kernel
theorem dL_types_302 : decode cL_types 302 = .ok (.iload_n 2, 1) := by decide +kernel
theorem dL_types_303 : decode cL_types 303 = .ok (.ifCond .eq 18, 3) := by decide +kernel
theorem dL_types_306 : decode cL_types 306 = .ok (.aload_n 0, 1) := by decide +kernel
theorem dL_types_307 : decode cL_types 307 = .ok (.ldc2_w 47, 3) := by decide +kernel
theorem dL_types_310 : decode cL_types 310 = .ok (.iconst 2, 1) := by decide +kernel
theorem dL_types_311 : decode cL_types 311 = .ok (.invokestatic 23, 3) := by decide +kernel
theorem dL_types_314 : decode cL_types 314 = .ok (.ifCond .eq 7, 3) := by decide +kernel
theorem dL_types_317 : decode cL_types 317 = .ok (.iconst 1, 1) := by decide +kernel
theorem dL_types_318 : decode cL_types 318 = .ok (.goto 4, 3) := by decide +kernel
theorem dL_types_321 : decode cL_types 321 = .ok (.iconst 0, 1) := by decide +kernel
theorem dL_types_322 : decode cL_types 322 = .ok (.ireturn, 1) := by decide +kernel
theorem dL_types_323 : decode cL_types 323 = .ok (.iload_n 2, 1) := by decide +kernel
theorem dL_types_324 : decode cL_types 324 = .ok (.ifCond .eq 18, 3) := by decide +kernel
theorem dL_types_327 : decode cL_types 327 = .ok (.aload_n 0, 1) := by decide +kernel
theorem dL_types_328 : decode cL_types 328 = .ok (.ldc2_w 49, 3) := by decide +kernel
theorem dL_types_331 : decode cL_types 331 = .ok (.iconst 2, 1) := by decide +kernel
theorem dL_types_332 : decode cL_types 332 = .ok (.invokestatic 23, 3) := by decide +kernel
theorem dL_types_335 : decode cL_types 335 = .ok (.ifCond .eq 7, 3) := by decide +kernel
theorem dL_types_338 : decode cL_types 338 = .ok (.iconst 1, 1) := by decide +kernel
theorem dL_types_339 : decode cL_types 339 = .ok (.goto 4, 3) := by decide +kernel
theorem dL_types_342 : decode cL_types 342 = .ok (.iconst 0, 1) := by decide +kernel
theorem dL_types_343 : decode cL_types 343 = .ok (.ireturn, 1) := by decide +kernel
theorem dL_types_344 : decode cL_types 344 = .ok (.iload_n 2, 1) := by decide +kernel
theorem dL_types_345 : decode cL_types 345 = .ok (.ifCond .eq 19, 3) := by decide +kernel
theorem dL_types_348 : decode cL_types 348 = .ok (.aload_n 0, 1) := by decide +kernel
theorem dL_types_349 : decode cL_types 349 = .ok (.ldc2_w 51, 3) := by decide +kernel
theorem dL_types_352 : decode cL_types 352 = .ok (.bipush 9, 2) := by decide +kernel
theorem dL_types_354 : decode cL_types 354 = .ok (.invokestatic 23, 3) := by decide +kernel
theorem dL_types_357 : decode cL_types 357 = .ok (.ifCond .eq 7, 3) := by decide +kernel
theorem dL_types_360 : decode cL_types 360 = .ok (.iconst 1, 1) := by decide +kernel
theorem dL_types_361 : decode cL_types 361 = .ok (.goto 4, 3) := by decide +kernel
theorem dL_types_364 : decode cL_types 364 = .ok (.iconst 0, 1) := by decide +kernel
theorem dL_types_365 : decode cL_types 365 = .ok (.ireturn, 1) := by decide +kernel
theorem dL_types_366 : decode cL_types 366 = .ok (.iload_n 2, 1) := by decide +kernel
theorem dL_types_367 : decode cL_types 367 = .ok (.ifCond .eq 18, 3) := by decide +kernel
theorem dL_types_370 : decode cL_types 370 = .ok (.aload_n 0, 1) := by decide +kernel
theorem dL_types_371 : decode cL_types 371 = .ok (.ldc2_w 53, 3) := by decide +kernel
theorem dL_types_374 : decode cL_types 374 = .ok (.iconst 3, 1) := by decide +kernel
theorem dL_types_375 : decode cL_types 375 = .ok (.invokestatic 23, 3) := by decide +kernel
theorem dL_types_378 : decode cL_types 378 = .ok (.ifCond .eq 7, 3) := by decide +kernel
theorem dL_types_381 : decode cL_types 381 = .ok (.iconst 1, 1) := by decide +kernel
theorem dL_types_382 : decode cL_types 382 = .ok (.goto 4, 3) := by decide +kernel
theorem dL_types_385 : decode cL_types 385 = .ok (.iconst 0, 1) := by decide +kernel
theorem dL_types_386 : decode cL_types 386 = .ok (.ireturn, 1) := by decide +kernel
theorem dL_types_387 : decode cL_types 387 = .ok (.iload_n 2, 1) := by decide +kernel
theorem dL_types_388 : decode cL_types 388 = .ok (.ifCond .eq 18, 3) := by decide +kernel
theorem dL_types_391 : decode cL_types 391 = .ok (.aload_n 0, 1) := by decide +kernel
theorem dL_types_392 : decode cL_types 392 = .ok (.ldc2_w 55, 3) := by decide +kernel
theorem dL_types_395 : decode cL_types 395 = .ok (.iconst 4, 1) := by decide +kernel
theorem dL_types_396 : decode cL_types 396 = .ok (.invokestatic 23, 3) := by decide +kernel
theorem dL_types_399 : decode cL_types 399 = .ok (.ifCond .eq 7, 3) := by decide +kernel
theorem dL_types_402 : decode cL_types 402 = .ok (.iconst 1, 1) := by decide +kernel
theorem dL_types_403 : decode cL_types 403 = .ok (.goto 4, 3) := by decide +kernel
theorem dL_types_406 : decode cL_types 406 = .ok (.iconst 0, 1) := by decide +kernel
theorem dL_types_407 : decode cL_types 407 = .ok (.ireturn, 1) := by decide +kernel
theorem dL_types_408 : decode cL_types 408 = .ok (.iload_n 2, 1) := by decide +kernel
theorem dL_types_409 : decode cL_types 409 = .ok (.ifCond .eq 30, 3) := by decide +kernel
theorem dL_types_412 : decode cL_types 412 = .ok (.aload_n 0, 1) := by decide +kernel
theorem dL_types_413 : decode cL_types 413 = .ok (.ldc2_w 57, 3) := by decide +kernel
theorem dL_types_416 : decode cL_types 416 = .ok (.bipush 9, 2) := by decide +kernel
theorem dL_types_418 : decode cL_types 418 = .ok (.invokestatic 23, 3) := by decide +kernel
theorem dL_types_421 : decode cL_types 421 = .ok (.ifCond .eq 18, 3) := by decide +kernel
theorem dL_types_424 : decode cL_types 424 = .ok (.aload_n 0, 1) := by decide +kernel
theorem dL_types_425 : decode cL_types 425 = .ok (.ldc2_w 59, 3) := by decide +kernel
theorem dL_types_428 : decode cL_types 428 = .ok (.iconst 2, 1) := by decide +kernel
theorem dL_types_429 : decode cL_types 429 = .ok (.invokestatic 23, 3) := by decide +kernel
theorem dL_types_432 : decode cL_types 432 = .ok (.ifCond .eq 7, 3) := by decide +kernel
theorem dL_types_435 : decode cL_types 435 = .ok (.iconst 1, 1) := by decide +kernel
theorem dL_types_436 : decode cL_types 436 = .ok (.goto 4, 3) := by decide +kernel
theorem dL_types_439 : decode cL_types 439 = .ok (.iconst 0, 1) := by decide +kernel
theorem dL_types_440 : decode cL_types 440 = .ok (.ireturn, 1) := by decide +kernel
theorem dL_types_441 : decode cL_types 441 = .ok (.iload_n 2, 1) := by decide +kernel
theorem dL_types_442 : decode cL_types 442 = .ok (.ifCond .eq 19, 3) := by decide +kernel
theorem dL_types_445 : decode cL_types 445 = .ok (.aload_n 0, 1) := by decide +kernel
theorem dL_types_446 : decode cL_types 446 = .ok (.ldc2_w 61, 3) := by decide +kernel
theorem dL_types_449 : decode cL_types 449 = .ok (.bipush 7, 2) := by decide +kernel
theorem dL_types_451 : decode cL_types 451 = .ok (.invokestatic 23, 3) := by decide +kernel
theorem dL_types_454 : decode cL_types 454 = .ok (.ifCond .eq 7, 3) := by decide +kernel
theorem dL_types_457 : decode cL_types 457 = .ok (.iconst 1, 1) := by decide +kernel
theorem dL_types_458 : decode cL_types 458 = .ok (.goto 4, 3) := by decide +kernel
theorem dL_types_461 : decode cL_types 461 = .ok (.iconst 0, 1) := by decide +kernel
theorem dL_types_462 : decode cL_types 462 = .ok (.ireturn, 1) := by decide +kernel
theorem dL_types_463 : decode cL_types 463 = .ok (.iload_n 2, 1) := by decide +kernel
theorem dL_types_464 : decode cL_types 464 = .ok (.ifCond .eq 18, 3) := by decide +kernel
theorem dL_types_467 : decode cL_types 467 = .ok (.aload_n 0, 1) := by decide +kernel
theorem dL_types_468 : decode cL_types 468 = .ok (.ldc2_w 63, 3) := by decide +kernel
theorem dL_types_471 : decode cL_types 471 = .ok (.iconst 1, 1) := by decide +kernel
theorem dL_types_472 : decode cL_types 472 = .ok (.invokestatic 23, 3) := by decide +kernel
theorem dL_types_475 : decode cL_types 475 = .ok (.ifCond .eq 7, 3) := by decide +kernel
theorem dL_types_478 : decode cL_types 478 = .ok (.iconst 1, 1) := by decide +kernel
theorem dL_types_479 : decode cL_types 479 = .ok (.goto 4, 3) := by decide +kernel
theorem dL_types_482 : decode cL_types 482 = .ok (.iconst 0, 1) := by decide +kernel
theorem dL_types_483 : decode cL_types 483 = .ok (.ireturn, 1) := by decide +kernel
theorem dL_types_484 : decode cL_types 484 = .ok (.iload_n 2, 1) := by decide +kernel
theorem dL_types_485 : decode cL_types 485 = .ok (.ifCond .eq 18, 3) := by decide +kernel
theorem dL_types_488 : decode cL_types 488 = .ok (.aload_n 0, 1) := by decide +kernel
theorem dL_types_489 : decode cL_types 489 = .ok (.ldc2_w 65, 3) := by decide +kernel
theorem dL_types_492 : decode cL_types 492 = .ok (.iconst 2, 1) := by decide +kernel
theorem dL_types_493 : decode cL_types 493 = .ok (.invokestatic 23, 3) := by decide +kernel
theorem dL_types_496 : decode cL_types 496 = .ok (.ifCond .eq 7, 3) := by decide +kernel
theorem dL_types_499 : decode cL_types 499 = .ok (.iconst 1, 1) := by decide +kernel
theorem dL_types_500 : decode cL_types 500 = .ok (.goto 4, 3) := by decide +kernel
theorem dL_types_503 : decode cL_types 503 = .ok (.iconst 0, 1) := by decide +kernel
theorem dL_types_504 : decode cL_types 504 = .ok (.ireturn, 1) := by decide +kernel
theorem dL_types_505 : decode cL_types 505 = .ok (.iload_n 2, 1) := by decide +kernel
theorem dL_types_506 : decode cL_types 506 = .ok (.ifCond .eq 19, 3) := by decide +kernel
theorem dL_types_509 : decode cL_types 509 = .ok (.aload_n 0, 1) := by decide +kernel
theorem dL_types_510 : decode cL_types 510 = .ok (.ldc2_w 67, 3) := by decide +kernel
theorem dL_types_513 : decode cL_types 513 = .ok (.bipush 6, 2) := by decide +kernel
theorem dL_types_515 : decode cL_types 515 = .ok (.invokestatic 23, 3) := by decide +kernel
theorem dL_types_518 : decode cL_types 518 = .ok (.ifCond .eq 7, 3) := by decide +kernel
theorem dL_types_521 : decode cL_types 521 = .ok (.iconst 1, 1) := by decide +kernel
theorem dL_types_522 : decode cL_types 522 = .ok (.goto 4, 3) := by decide +kernel
theorem dL_types_525 : decode cL_types 525 = .ok (.iconst 0, 1) := by decide +kernel
theorem dL_types_526 : decode cL_types 526 = .ok (.ireturn, 1) := by decide +kernel
theorem dL_rows_0 : decode cL_rows 0 = .ok (.ldc2_w 69, 3) := by decide +kernel
theorem dL_rows_3 : decode cL_rows 3 = .ok (.lstore_n 1, 1) := by decide +kernel
theorem dL_rows_4 : decode cL_rows 4 = .ok (.iconst 1, 1) := by decide +kernel
theorem dL_rows_5 : decode cL_rows 5 = .ok (.istore_n 3, 1) := by decide +kernel
theorem dL_rows_6 : decode cL_rows 6 = .ok (.iload_n 3, 1) := by decide +kernel
theorem dL_rows_7 : decode cL_rows 7 = .ok (.aload_n 0, 1) := by decide +kernel
theorem dL_rows_8 : decode cL_rows 8 = .ok (.invokevirtual 71, 3) := by decide +kernel
theorem dL_rows_11 : decode cL_rows 11 = .ok (.if_icmp .gt 56, 3) := by decide +kernel
theorem dL_rows_14 : decode cL_rows 14 = .ok (.ldc2_w 74, 3) := by decide +kernel
theorem dL_rows_17 : decode cL_rows 17 = .ok (.lload_n 1, 1) := by decide +kernel
theorem dL_rows_18 : decode cL_rows 18 = .ok (.lmul, 1) := by decide +kernel
theorem dL_rows_19 : decode cL_rows 19 = .ok (.aload_n 0, 1) := by decide +kernel
theorem dL_rows_20 : decode cL_rows 20 = .ok (.iload_n 3, 1) := by decide +kernel
theorem dL_rows_21 : decode cL_rows 21 = .ok (.invokevirtual 76, 3) := by decide +kernel
theorem dL_rows_24 : decode cL_rows 24 = .ok (.i2l, 1) := by decide +kernel
theorem dL_rows_25 : decode cL_rows 25 = .ok (.ladd, 1) := by decide +kernel
theorem dL_rows_26 : decode cL_rows 26 = .ok (.lstore_n 1, 1) := by decide +kernel
theorem dL_rows_27 : decode cL_rows 27 = .ok (.iconst 0, 1) := by decide +kernel
theorem dL_rows_28 : decode cL_rows 28 = .ok (.istore 4, 2) := by decide +kernel
theorem dL_rows_30 : decode cL_rows 30 = .ok (.iload 4, 2) := by decide +kernel
theorem dL_rows_32 : decode cL_rows 32 = .ok (.aload_n 0, 1) := by decide +kernel
theorem dL_rows_33 : decode cL_rows 33 = .ok (.iload_n 3, 1) := by decide +kernel
theorem dL_rows_34 : decode cL_rows 34 = .ok (.invokevirtual 76, 3) := by decide +kernel
theorem dL_rows_37 : decode cL_rows 37 = .ok (.if_icmp .ge 24, 3) := by decide +kernel
theorem dL_rows_40 : decode cL_rows 40 = .ok (.ldc2_w 74, 3) := by decide +kernel
theorem dL_rows_43 : decode cL_rows 43 = .ok (.lload_n 1, 1) := by decide +kernel
theorem dL_rows_44 : decode cL_rows 44 = .ok (.lmul, 1) := by decide +kernel
theorem dL_rows_45 : decode cL_rows 45 = .ok (.aload_n 0, 1) := by decide +kernel
theorem dL_rows_46 : decode cL_rows 46 = .ok (.iload_n 3, 1) := by decide +kernel
theorem dL_rows_47 : decode cL_rows 47 = .ok (.iload 4, 2) := by decide +kernel
theorem dL_rows_49 : decode cL_rows 49 = .ok (.invokevirtual 79, 3) := by decide +kernel
theorem dL_rows_52 : decode cL_rows 52 = .ok (.i2l, 1) := by decide +kernel
theorem dL_rows_53 : decode cL_rows 53 = .ok (.ladd, 1) := by decide +kernel
theorem dL_rows_54 : decode cL_rows 54 = .ok (.lstore_n 1, 1) := by decide +kernel
theorem dL_rows_55 : decode cL_rows 55 = .ok (.iinc 4 1, 3) := by decide +kernel
theorem dL_rows_58 : decode cL_rows 58 = .ok (.goto (-28), 3) := by decide +kernel
theorem dL_rows_61 : decode cL_rows 61 = .ok (.iinc 3 1, 3) := by decide +kernel
theorem dL_rows_64 : decode cL_rows 64 = .ok (.goto (-58), 3) := by decide +kernel
theorem dL_rows_67 : decode cL_rows 67 = .ok (.lload_n 1, 1) := by decide +kernel
theorem dL_rows_68 : decode cL_rows 68 = .ok (.lreturn, 1) := by decide +kernel
theorem dL_all_0 : decode cL_all 0 = .ok (.aload_n 0, 1) := by decide +kernel
theorem dL_all_1 : decode cL_all 1 = .ok (.invokestatic 83, 3) := by decide +kernel
theorem dL_all_4 : decode cL_all 4 = .ok (.ldc2_w 74, 3) := by decide +kernel
theorem dL_all_7 : decode cL_all 7 = .ok (.lmul, 1) := by decide +kernel
theorem dL_all_8 : decode cL_all 8 = .ok (.aload_n 0, 1) := by decide +kernel
theorem dL_all_9 : decode cL_all 9 = .ok (.invokevirtual 87, 3) := by decide +kernel
theorem dL_all_12 : decode cL_all 12 = .ok (.i2l, 1) := by decide +kernel
theorem dL_all_13 : decode cL_all 13 = .ok (.ladd, 1) := by decide +kernel
theorem dL_all_14 : decode cL_all 14 = .ok (.lstore_n 1, 1) := by decide +kernel
theorem dL_all_15 : decode cL_all 15 = .ok (.iconst 1, 1) := by decide +kernel
theorem dL_all_16 : decode cL_all 16 = .ok (.istore_n 3, 1) := by decide +kernel
theorem dL_all_17 : decode cL_all 17 = .ok (.iload_n 3, 1) := by decide +kernel
theorem dL_all_18 : decode cL_all 18 = .ok (.aload_n 0, 1) := by decide +kernel
theorem dL_all_19 : decode cL_all 19 = .ok (.invokevirtual 71, 3) := by decide +kernel
theorem dL_all_22 : decode cL_all 22 = .ok (.if_icmp .gt 22, 3) := by decide +kernel
theorem dL_all_25 : decode cL_all 25 = .ok (.ldc2_w 74, 3) := by decide +kernel
theorem dL_all_28 : decode cL_all 28 = .ok (.lload_n 1, 1) := by decide +kernel
theorem dL_all_29 : decode cL_all 29 = .ok (.lmul, 1) := by decide +kernel
theorem dL_all_30 : decode cL_all 30 = .ok (.aload_n 0, 1) := by decide +kernel
theorem dL_all_31 : decode cL_all 31 = .ok (.iload_n 3, 1) := by decide +kernel
theorem dL_all_32 : decode cL_all 32 = .ok (.invokevirtual 90, 3) := by decide +kernel
theorem dL_all_35 : decode cL_all 35 = .ok (.i2l, 1) := by decide +kernel
theorem dL_all_36 : decode cL_all 36 = .ok (.ladd, 1) := by decide +kernel
theorem dL_all_37 : decode cL_all 37 = .ok (.lstore_n 1, 1) := by decide +kernel
theorem dL_all_38 : decode cL_all 38 = .ok (.iinc 3 1, 3) := by decide +kernel
theorem dL_all_41 : decode cL_all 41 = .ok (.goto (-24), 3) := by decide +kernel
theorem dL_all_44 : decode cL_all 44 = .ok (.iconst 0, 1) := by decide +kernel
theorem dL_all_45 : decode cL_all 45 = .ok (.istore_n 3, 1) := by decide +kernel
theorem dL_all_46 : decode cL_all 46 = .ok (.iload_n 3, 1) := by decide +kernel
theorem dL_all_47 : decode cL_all 47 = .ok (.iconst 5, 1) := by decide +kernel
theorem dL_all_48 : decode cL_all 48 = .ok (.if_icmp .ge 22, 3) := by decide +kernel
theorem dL_all_51 : decode cL_all 51 = .ok (.ldc2_w 74, 3) := by decide +kernel
theorem dL_all_54 : decode cL_all 54 = .ok (.lload_n 1, 1) := by decide +kernel
theorem dL_all_55 : decode cL_all 55 = .ok (.lmul, 1) := by decide +kernel
theorem dL_all_56 : decode cL_all 56 = .ok (.aload_n 0, 1) := by decide +kernel
theorem dL_all_57 : decode cL_all 57 = .ok (.iload_n 3, 1) := by decide +kernel
theorem dL_all_58 : decode cL_all 58 = .ok (.invokevirtual 93, 3) := by decide +kernel
theorem dL_all_61 : decode cL_all 61 = .ok (.i2l, 1) := by decide +kernel
theorem dL_all_62 : decode cL_all 62 = .ok (.ladd, 1) := by decide +kernel
theorem dL_all_63 : decode cL_all 63 = .ok (.lstore_n 1, 1) := by decide +kernel
theorem dL_all_64 : decode cL_all 64 = .ok (.iinc 3 1, 3) := by decide +kernel
theorem dL_all_67 : decode cL_all 67 = .ok (.goto (-21), 3) := by decide +kernel
theorem dL_all_70 : decode cL_all 70 = .ok (.lload_n 1, 1) := by decide +kernel
theorem dL_all_71 : decode cL_all 71 = .ok (.lreturn, 1) := by decide +kernel
theorem dL_lines_0 : decode cL_lines 0 = .ok (.aload_n 0, 1) := by decide +kernel
theorem dL_lines_1 : decode cL_lines 1 = .ok (.invokevirtual 71, 3) := by decide +kernel
theorem dL_lines_4 : decode cL_lines 4 = .ok (.i2l, 1) := by decide +kernel
theorem dL_lines_5 : decode cL_lines 5 = .ok (.lstore_n 1, 1) := by decide +kernel
theorem dL_lines_6 : decode cL_lines 6 = .ok (.iconst 1, 1) := by decide +kernel
theorem dL_lines_7 : decode cL_lines 7 = .ok (.istore_n 3, 1) := by decide +kernel
theorem dL_lines_8 : decode cL_lines 8 = .ok (.iload_n 3, 1) := by decide +kernel
theorem dL_lines_9 : decode cL_lines 9 = .ok (.aload_n 0, 1) := by decide +kernel
theorem dL_lines_10 : decode cL_lines 10 = .ok (.invokevirtual 71, 3) := by decide +kernel
theorem dL_lines_13 : decode cL_lines 13 = .ok (.if_icmp .gt 47, 3) := by decide +kernel
theorem dL_lines_16 : decode cL_lines 16 = .ok (.lload_n 1, 1) := by decide +kernel
theorem dL_lines_17 : decode cL_lines 17 = .ok (.ldc2_w 96, 3) := by decide +kernel
theorem dL_lines_20 : decode cL_lines 20 = .ok (.aload_n 0, 1) := by decide +kernel
theorem dL_lines_21 : decode cL_lines 21 = .ok (.iload_n 3, 1) := by decide +kernel
theorem dL_lines_22 : decode cL_lines 22 = .ok (.invokevirtual 90, 3) := by decide +kernel
theorem dL_lines_25 : decode cL_lines 25 = .ok (.i2l, 1) := by decide +kernel
theorem dL_lines_26 : decode cL_lines 26 = .ok (.lmul, 1) := by decide +kernel
theorem dL_lines_27 : decode cL_lines 27 = .ok (.aload_n 0, 1) := by decide +kernel
theorem dL_lines_28 : decode cL_lines 28 = .ok (.iload_n 3, 1) := by decide +kernel
theorem dL_lines_29 : decode cL_lines 29 = .ok (.invokevirtual 90, 3) := by decide +kernel
theorem dL_lines_32 : decode cL_lines 32 = .ok (.i2l, 1) := by decide +kernel
theorem dL_lines_33 : decode cL_lines 33 = .ok (.lmul, 1) := by decide +kernel
theorem dL_lines_34 : decode cL_lines 34 = .ok (.ldc2_w 98, 3) := by decide +kernel
theorem dL_lines_37 : decode cL_lines 37 = .ok (.aload_n 0, 1) := by decide +kernel
theorem dL_lines_38 : decode cL_lines 38 = .ok (.iload_n 3, 1) := by decide +kernel
theorem dL_lines_39 : decode cL_lines 39 = .ok (.invokevirtual 90, 3) := by decide +kernel
theorem dL_lines_42 : decode cL_lines 42 = .ok (.i2l, 1) := by decide +kernel
theorem dL_lines_43 : decode cL_lines 43 = .ok (.lmul, 1) := by decide +kernel
theorem dL_lines_44 : decode cL_lines 44 = .ok (.aload_n 0, 1) := by decide +kernel
theorem dL_lines_45 : decode cL_lines 45 = .ok (.iload_n 3, 1) := by decide +kernel
theorem dL_lines_46 : decode cL_lines 46 = .ok (.invokevirtual 76, 3) := by decide +kernel
theorem dL_lines_49 : decode cL_lines 49 = .ok (.i2l, 1) := by decide +kernel
theorem dL_lines_50 : decode cL_lines 50 = .ok (.lmul, 1) := by decide +kernel
theorem dL_lines_51 : decode cL_lines 51 = .ok (.ladd, 1) := by decide +kernel
theorem dL_lines_52 : decode cL_lines 52 = .ok (.ladd, 1) := by decide +kernel
theorem dL_lines_53 : decode cL_lines 53 = .ok (.lstore_n 1, 1) := by decide +kernel
theorem dL_lines_54 : decode cL_lines 54 = .ok (.iinc 3 1, 3) := by decide +kernel
theorem dL_lines_57 : decode cL_lines 57 = .ok (.goto (-49), 3) := by decide +kernel
theorem dL_lines_60 : decode cL_lines 60 = .ok (.lload_n 1, 1) := by decide +kernel
theorem dL_lines_61 : decode cL_lines 61 = .ok (.lreturn, 1) := by decide +kernel
theorem dL_undone_0 : decode cL_undone 0 = .ok (.aload_n 0, 1) := by decide +kernel
theorem dL_undone_1 : decode cL_undone 1 = .ok (.invokestatic 100, 3) := by decide +kernel
theorem dL_undone_4 : decode cL_undone 4 = .ok (.lstore_n 2, 1) := by decide +kernel
theorem dL_undone_5 : decode cL_undone 5 = .ok (.aload_n 0, 1) := by decide +kernel
theorem dL_undone_6 : decode cL_undone 6 = .ok (.invokestatic 103, 3) := by decide +kernel
theorem dL_undone_9 : decode cL_undone 9 = .ok (.lstore 4, 2) := by decide +kernel
theorem dL_undone_11 : decode cL_undone 11 = .ok (.aload_n 0, 1) := by decide +kernel
theorem dL_undone_12 : decode cL_undone 12 = .ok (.invokevirtual 105, 3) := by decide +kernel
theorem dL_undone_15 : decode cL_undone 15 = .ok (.istore 6, 2) := by decide +kernel
theorem dL_undone_17 : decode cL_undone 17 = .ok (.aload_n 0, 1) := by decide +kernel
theorem dL_undone_18 : decode cL_undone 18 = .ok (.iload_n 1, 1) := by decide +kernel
theorem dL_undone_19 : decode cL_undone 19 = .ok (.invokestatic 108, 3) := by decide +kernel
theorem dL_undone_22 : decode cL_undone 22 = .ok (.ifCond .eq 15, 3) := by decide +kernel
theorem dL_undone_25 : decode cL_undone 25 = .ok (.aload_n 0, 1) := by decide +kernel
theorem dL_undone_26 : decode cL_undone 26 = .ok (.invokevirtual 112, 3) := by decide +kernel
theorem dL_undone_29 : decode cL_undone 29 = .ok (.iconst (-1), 1) := by decide +kernel
theorem dL_undone_30 : decode cL_undone 30 = .ok (.if_icmp .ne 7, 3) := by decide +kernel
theorem dL_undone_33 : decode cL_undone 33 = .ok (.iconst 1, 1) := by decide +kernel
theorem dL_undone_34 : decode cL_undone 34 = .ok (.goto 4, 3) := by decide +kernel
theorem dL_undone_37 : decode cL_undone 37 = .ok (.iconst 0, 1) := by decide +kernel
theorem dL_undone_38 : decode cL_undone 38 = .ok (.istore 7, 2) := by decide +kernel
theorem dL_undone_40 : decode cL_undone 40 = .ok (.aload_n 0, 1) := by decide +kernel
theorem dL_undone_41 : decode cL_undone 41 = .ok (.invokevirtual 115, 3) := by decide +kernel
theorem dL_undone_44 : decode cL_undone 44 = .ok (.istore 8, 2) := by decide +kernel
theorem dL_undone_46 : decode cL_undone 46 = .ok (.iload 7, 2) := by decide +kernel
theorem dL_undone_48 : decode cL_undone 48 = .ok (.ifCond .eq 32, 3) := by decide +kernel
theorem dL_undone_51 : decode cL_undone 51 = .ok (.aload_n 0, 1) := by decide +kernel
theorem dL_undone_52 : decode cL_undone 52 = .ok (.invokevirtual 118, 3) := by decide +kernel
theorem dL_undone_55 : decode cL_undone 55 = .ok (.ifCond .eq 25, 3) := by decide +kernel
theorem dL_undone_58 : decode cL_undone 58 = .ok (.iload 8, 2) := by decide +kernel
theorem dL_undone_60 : decode cL_undone 60 = .ok (.ifCond .lt 20, 3) := by decide +kernel
theorem dL_undone_63 : decode cL_undone 63 = .ok (.aload_n 0, 1) := by decide +kernel
theorem dL_undone_64 : decode cL_undone 64 = .ok (.invokevirtual 122, 3) := by decide +kernel
theorem dL_undone_67 : decode cL_undone 67 = .ok (.ifCond .eq 9, 3) := by decide +kernel
theorem dL_undone_70 : decode cL_undone 70 = .ok (.iload 8, 2) := by decide +kernel
theorem dL_undone_72 : decode cL_undone 72 = .ok (.iconst 2, 1) := by decide +kernel
theorem dL_undone_73 : decode cL_undone 73 = .ok (.if_icmp .ge 7, 3) := by decide +kernel
theorem dL_undone_76 : decode cL_undone 76 = .ok (.iconst 1, 1) := by decide +kernel
theorem dL_undone_77 : decode cL_undone 77 = .ok (.goto 4, 3) := by decide +kernel
theorem dL_undone_80 : decode cL_undone 80 = .ok (.iconst 0, 1) := by decide +kernel
theorem dL_undone_81 : decode cL_undone 81 = .ok (.istore 7, 2) := by decide +kernel
theorem dL_undone_83 : decode cL_undone 83 = .ok (.iload 7, 2) := by decide +kernel
theorem dL_undone_85 : decode cL_undone 85 = .ok (.ifCond .eq 32, 3) := by decide +kernel
theorem dL_undone_88 : decode cL_undone 88 = .ok (.iload 8, 2) := by decide +kernel
theorem dL_undone_90 : decode cL_undone 90 = .ok (.ifCond .ne 27, 3) := by decide +kernel
theorem dL_undone_93 : decode cL_undone 93 = .ok (.aload_n 0, 1) := by decide +kernel
theorem dL_undone_94 : decode cL_undone 94 = .ok (.invokestatic 100, 3) := by decide +kernel
theorem dL_undone_97 : decode cL_undone 97 = .ok (.lload_n 2, 1) := by decide +kernel
theorem dL_undone_98 : decode cL_undone 98 = .ok (.lcmp, 1) := by decide +kernel
theorem dL_undone_99 : decode cL_undone 99 = .ok (.ifCond .ne 16, 3) := by decide +kernel
theorem dL_undone_102 : decode cL_undone 102 = .ok (.aload_n 0, 1) := by decide +kernel
theorem dL_undone_103 : decode cL_undone 103 = .ok (.invokevirtual 105, 3) := by decide +kernel
theorem dL_undone_106 : decode cL_undone 106 = .ok (.iload 6, 2) := by decide +kernel
theorem dL_undone_108 : decode cL_undone 108 = .ok (.if_icmp .ne 7, 3) := by decide +kernel
theorem dL_undone_111 : decode cL_undone 111 = .ok (.iconst 1, 1) := by decide +kernel
theorem dL_undone_112 : decode cL_undone 112 = .ok (.goto 4, 3) := by decide +kernel
theorem dL_undone_115 : decode cL_undone 115 = .ok (.iconst 0, 1) := by decide +kernel
theorem dL_undone_116 : decode cL_undone 116 = .ok (.ireturn, 1) := by decide +kernel
theorem dL_undone_117 : decode cL_undone 117 = .ok (.iload 7, 2) := by decide +kernel
theorem dL_undone_119 : decode cL_undone 119 = .ok (.ifCond .eq 27, 3) := by decide +kernel
theorem dL_undone_122 : decode cL_undone 122 = .ok (.iload_n 1, 1) := by decide +kernel
theorem dL_undone_123 : decode cL_undone 123 = .ok (.iconst 2, 1) := by decide +kernel
theorem dL_undone_124 : decode cL_undone 124 = .ok (.if_icmp .eq 8, 3) := by decide +kernel
theorem dL_undone_127 : decode cL_undone 127 = .ok (.iload_n 1, 1) := by decide +kernel
theorem dL_undone_128 : decode cL_undone 128 = .ok (.iconst 3, 1) := by decide +kernel
theorem dL_undone_129 : decode cL_undone 129 = .ok (.if_icmp .ne 13, 3) := by decide +kernel
theorem dL_undone_132 : decode cL_undone 132 = .ok (.aload_n 0, 1) := by decide +kernel
theorem dL_undone_133 : decode cL_undone 133 = .ok (.invokestatic 103, 3) := by decide +kernel
theorem dL_undone_136 : decode cL_undone 136 = .ok (.lload 4, 2) := by decide +kernel
theorem dL_undone_138 : decode cL_undone 138 = .ok (.lcmp, 1) := by decide +kernel
theorem dL_undone_139 : decode cL_undone 139 = .ok (.ifCond .ne 7, 3) := by decide +kernel
theorem dL_undone_142 : decode cL_undone 142 = .ok (.iconst 1, 1) := by decide +kernel
theorem dL_undone_143 : decode cL_undone 143 = .ok (.goto 4, 3) := by decide +kernel
theorem dL_undone_146 : decode cL_undone 146 = .ok (.iconst 0, 1) := by decide +kernel
theorem dL_undone_147 : decode cL_undone 147 = .ok (.istore 7, 2) := by decide +kernel
theorem dL_undone_149 : decode cL_undone 149 = .ok (.aload_n 0, 1) := by decide +kernel
theorem dL_undone_150 : decode cL_undone 150 = .ok (.invokevirtual 105, 3) := by decide +kernel
theorem dL_undone_153 : decode cL_undone 153 = .ok (.istore 9, 2) := by decide +kernel
theorem dL_undone_155 : decode cL_undone 155 = .ok (.aload_n 0, 1) := by decide +kernel
theorem dL_undone_156 : decode cL_undone 156 = .ok (.invokevirtual 125, 3) := by decide +kernel
theorem dL_undone_159 : decode cL_undone 159 = .ok (.istore 10, 2) := by decide +kernel
theorem dL_undone_161 : decode cL_undone 161 = .ok (.iload 7, 2) := by decide +kernel
theorem dL_undone_163 : decode cL_undone 163 = .ok (.ifCond .eq 41, 3) := by decide +kernel
theorem dL_undone_166 : decode cL_undone 166 = .ok (.iload 10, 2) := by decide +kernel
theorem dL_undone_168 : decode cL_undone 168 = .ok (.iconst 1, 1) := by decide +kernel
theorem dL_undone_169 : decode cL_undone 169 = .ok (.if_icmp .lt 35, 3) := by decide +kernel
theorem dL_undone_172 : decode cL_undone 172 = .ok (.iload 10, 2) := by decide +kernel
theorem dL_undone_174 : decode cL_undone 174 = .ok (.iload 8, 2) := by decide +kernel
theorem dL_undone_176 : decode cL_undone 176 = .ok (.if_icmp .gt 28, 3) := by decide +kernel
theorem dL_undone_179 : decode cL_undone 179 = .ok (.aload_n 0, 1) := by decide +kernel
theorem dL_undone_180 : decode cL_undone 180 = .ok (.invokevirtual 105, 3) := by decide +kernel
theorem dL_undone_183 : decode cL_undone 183 = .ok (.iload 9, 2) := by decide +kernel
theorem dL_undone_185 : decode cL_undone 185 = .ok (.iload 10, 2) := by decide +kernel
theorem dL_undone_187 : decode cL_undone 187 = .ok (.isub, 1) := by decide +kernel
theorem dL_undone_188 : decode cL_undone 188 = .ok (.if_icmp .ne 16, 3) := by decide +kernel
theorem dL_undone_191 : decode cL_undone 191 = .ok (.aload_n 0, 1) := by decide +kernel
theorem dL_undone_192 : decode cL_undone 192 = .ok (.invokestatic 100, 3) := by decide +kernel
theorem dL_undone_195 : decode cL_undone 195 = .ok (.lload_n 2, 1) := by decide +kernel
theorem dL_undone_196 : decode cL_undone 196 = .ok (.lcmp, 1) := by decide +kernel
theorem dL_undone_197 : decode cL_undone 197 = .ok (.ifCond .ne 7, 3) := by decide +kernel
theorem dL_undone_200 : decode cL_undone 200 = .ok (.iconst 1, 1) := by decide +kernel
theorem dL_undone_201 : decode cL_undone 201 = .ok (.goto 4, 3) := by decide +kernel
theorem dL_undone_204 : decode cL_undone 204 = .ok (.iconst 0, 1) := by decide +kernel
theorem dL_undone_205 : decode cL_undone 205 = .ok (.istore 7, 2) := by decide +kernel
theorem dL_undone_207 : decode cL_undone 207 = .ok (.iload 7, 2) := by decide +kernel
theorem dL_undone_209 : decode cL_undone 209 = .ok (.ifCond .eq 23, 3) := by decide +kernel
theorem dL_undone_212 : decode cL_undone 212 = .ok (.aload_n 0, 1) := by decide +kernel
theorem dL_undone_213 : decode cL_undone 213 = .ok (.invokevirtual 115, 3) := by decide +kernel
theorem dL_undone_216 : decode cL_undone 216 = .ok (.iload 8, 2) := by decide +kernel
theorem dL_undone_218 : decode cL_undone 218 = .ok (.if_icmp .ne 14, 3) := by decide +kernel
theorem dL_undone_221 : decode cL_undone 221 = .ok (.aload_n 0, 1) := by decide +kernel
theorem dL_undone_222 : decode cL_undone 222 = .ok (.invokevirtual 118, 3) := by decide +kernel
theorem dL_undone_225 : decode cL_undone 225 = .ok (.ifCond .eq 7, 3) := by decide +kernel
theorem dL_undone_228 : decode cL_undone 228 = .ok (.iconst 1, 1) := by decide +kernel
theorem dL_undone_229 : decode cL_undone 229 = .ok (.goto 4, 3) := by decide +kernel
theorem dL_undone_232 : decode cL_undone 232 = .ok (.iconst 0, 1) := by decide +kernel
theorem dL_undone_233 : decode cL_undone 233 = .ok (.ireturn, 1) := by decide +kernel
theorem dL_streamed_0 : decode cL_streamed 0 = .ok (.aload_n 0, 1) := by decide +kernel
theorem dL_streamed_1 : decode cL_streamed 1 = .ok (.invokevirtual 17, 3) := by decide +kernel
theorem dL_streamed_4 : decode cL_streamed 4 = .ok (.ifCond .lt 53, 3) := by decide +kernel
theorem dL_streamed_7 : decode cL_streamed 7 = .ok (.aload_n 0, 1) := by decide +kernel
theorem dL_streamed_8 : decode cL_streamed 8 = .ok (.ldc2_w 128, 3) := by decide +kernel
theorem dL_streamed_11 : decode cL_streamed 11 = .ok (.bipush 9, 2) := by decide +kernel
theorem dL_streamed_13 : decode cL_streamed 13 = .ok (.invokestatic 23, 3) := by decide +kernel
theorem dL_streamed_16 : decode cL_streamed 16 = .ok (.ifCond .eq 41, 3) := by decide +kernel
theorem dL_streamed_19 : decode cL_streamed 19 = .ok (.aload_n 0, 1) := by decide +kernel
theorem dL_streamed_20 : decode cL_streamed 20 = .ok (.ldc2_w 130, 3) := by decide +kernel
theorem dL_streamed_23 : decode cL_streamed 23 = .ok (.bipush 9, 2) := by decide +kernel
theorem dL_streamed_25 : decode cL_streamed 25 = .ok (.invokestatic 23, 3) := by decide +kernel
theorem dL_streamed_28 : decode cL_streamed 28 = .ok (.ifCond .eq 29, 3) := by decide +kernel
theorem dL_streamed_31 : decode cL_streamed 31 = .ok (.aload_n 0, 1) := by decide +kernel
theorem dL_streamed_32 : decode cL_streamed 32 = .ok (.ldc2_w 132, 3) := by decide +kernel
theorem dL_streamed_35 : decode cL_streamed 35 = .ok (.bipush 8, 2) := by decide +kernel
theorem dL_streamed_37 : decode cL_streamed 37 = .ok (.invokestatic 23, 3) := by decide +kernel
theorem dL_streamed_40 : decode cL_streamed 40 = .ok (.ifCond .eq 17, 3) := by decide +kernel
theorem dL_streamed_43 : decode cL_streamed 43 = .ok (.aload_n 0, 1) := by decide +kernel
theorem dL_streamed_44 : decode cL_streamed 44 = .ok (.iconst 0, 1) := by decide +kernel
theorem dL_streamed_45 : decode cL_streamed 45 = .ok (.invokevirtual 134, 3) := by decide +kernel
theorem dL_streamed_48 : decode cL_streamed 48 = .ok (.bipush 26, 2) := by decide +kernel
theorem dL_streamed_50 : decode cL_streamed 50 = .ok (.if_icmp .ne 7, 3) := by decide +kernel
theorem dL_streamed_53 : decode cL_streamed 53 = .ok (.iconst 1, 1) := by decide +kernel
theorem dL_streamed_54 : decode cL_streamed 54 = .ok (.goto 4, 3) := by decide +kernel
theorem dL_streamed_57 : decode cL_streamed 57 = .ok (.iconst 0, 1) := by decide +kernel
theorem dL_streamed_58 : decode cL_streamed 58 = .ok (.istore_n 1, 1) := by decide +kernel
theorem dL_streamed_59 : decode cL_streamed 59 = .ok (.aload_n 0, 1) := by decide +kernel
theorem dL_streamed_60 : decode cL_streamed 60 = .ok (.invokestatic 100, 3) := by decide +kernel
theorem dL_streamed_63 : decode cL_streamed 63 = .ok (.lstore_n 2, 1) := by decide +kernel
theorem dL_streamed_64 : decode cL_streamed 64 = .ok (.aload_n 0, 1) := by decide +kernel
theorem dL_streamed_65 : decode cL_streamed 65 = .ok (.iconst 0, 1) := by decide +kernel
theorem dL_streamed_66 : decode cL_streamed 66 = .ok (.invokevirtual 137, 3) := by decide +kernel
theorem dL_streamed_69 : decode cL_streamed 69 = .ok (.istore 4, 2) := by decide +kernel
theorem dL_streamed_71 : decode cL_streamed 71 = .ok (.aload_n 0, 1) := by decide +kernel
theorem dL_streamed_72 : decode cL_streamed 72 = .ok (.invokevirtual 122, 3) := by decide +kernel
theorem dL_streamed_75 : decode cL_streamed 75 = .ok (.istore 5, 2) := by decide +kernel
theorem dL_streamed_77 : decode cL_streamed 77 = .ok (.aload_n 0, 1) := by decide +kernel
theorem dL_streamed_78 : decode cL_streamed 78 = .ok (.invokestatic 83, 3) := by decide +kernel
theorem dL_streamed_81 : decode cL_streamed 81 = .ok (.lstore 6, 2) := by decide +kernel
theorem dL_streamed_83 : decode cL_streamed 83 = .ok (.iload_n 1, 1) := by decide +kernel
theorem dL_streamed_84 : decode cL_streamed 84 = .ok (.ifCond .eq 30, 3) := by decide +kernel
theorem dL_streamed_87 : decode cL_streamed 87 = .ok (.iload 4, 2) := by decide +kernel
theorem dL_streamed_89 : decode cL_streamed 89 = .ok (.ifCond .eq 12, 3) := by decide +kernel
theorem dL_streamed_92 : decode cL_streamed 92 = .ok (.aload_n 0, 1) := by decide +kernel
theorem dL_streamed_93 : decode cL_streamed 93 = .ok (.invokevirtual 125, 3) := by decide +kernel
theorem dL_streamed_96 : decode cL_streamed 96 = .ok (.iload 4, 2) := by decide +kernel
theorem dL_streamed_98 : decode cL_streamed 98 = .ok (.if_icmp .ne 16, 3) := by decide +kernel
theorem dL_streamed_101 : decode cL_streamed 101 = .ok (.aload_n 0, 1) := by decide +kernel
theorem dL_streamed_102 : decode cL_streamed 102 = .ok (.invokestatic 100, 3) := by decide +kernel
theorem dL_streamed_105 : decode cL_streamed 105 = .ok (.lload_n 2, 1) := by decide +kernel
theorem dL_streamed_106 : decode cL_streamed 106 = .ok (.lcmp, 1) := by decide +kernel
theorem dL_streamed_107 : decode cL_streamed 107 = .ok (.ifCond .ne 7, 3) := by decide +kernel
theorem dL_streamed_110 : decode cL_streamed 110 = .ok (.iconst 1, 1) := by decide +kernel
theorem dL_streamed_111 : decode cL_streamed 111 = .ok (.goto 4, 3) := by decide +kernel
theorem dL_streamed_114 : decode cL_streamed 114 = .ok (.iconst 0, 1) := by decide +kernel
theorem dL_streamed_115 : decode cL_streamed 115 = .ok (.istore_n 1, 1) := by decide +kernel
theorem dL_streamed_116 : decode cL_streamed 116 = .ok (.aload_n 0, 1) := by decide +kernel
theorem dL_streamed_117 : decode cL_streamed 117 = .ok (.iconst 0, 1) := by decide +kernel
theorem dL_streamed_118 : decode cL_streamed 118 = .ok (.invokevirtual 140, 3) := by decide +kernel
theorem dL_streamed_121 : decode cL_streamed 121 = .ok (.istore 8, 2) := by decide +kernel
theorem dL_streamed_123 : decode cL_streamed 123 = .ok (.iload_n 1, 1) := by decide +kernel
theorem dL_streamed_124 : decode cL_streamed 124 = .ok (.ifCond .eq 62, 3) := by decide +kernel
theorem dL_streamed_127 : decode cL_streamed 127 = .ok (.iload 5, 2) := by decide +kernel
theorem dL_streamed_129 : decode cL_streamed 129 = .ok (.ifCond .gt 18, 3) := by decide +kernel
theorem dL_streamed_132 : decode cL_streamed 132 = .ok (.iload 8, 2) := by decide +kernel
theorem dL_streamed_134 : decode cL_streamed 134 = .ok (.ifCond .lt 13, 3) := by decide +kernel
theorem dL_streamed_137 : decode cL_streamed 137 = .ok (.aload_n 0, 1) := by decide +kernel
theorem dL_streamed_138 : decode cL_streamed 138 = .ok (.invokestatic 83, 3) := by decide +kernel
theorem dL_streamed_141 : decode cL_streamed 141 = .ok (.lload 6, 2) := by decide +kernel
theorem dL_streamed_143 : decode cL_streamed 143 = .ok (.lcmp, 1) := by decide +kernel
theorem dL_streamed_144 : decode cL_streamed 144 = .ok (.ifCond .ne 42, 3) := by decide +kernel
theorem dL_streamed_147 : decode cL_streamed 147 = .ok (.iload 8, 2) := by decide +kernel
theorem dL_streamed_149 : decode cL_streamed 149 = .ok (.ifCond .ge 12, 3) := by decide +kernel
theorem dL_streamed_152 : decode cL_streamed 152 = .ok (.aload_n 0, 1) := by decide +kernel
theorem dL_streamed_153 : decode cL_streamed 153 = .ok (.invokestatic 100, 3) := by decide +kernel
theorem dL_streamed_156 : decode cL_streamed 156 = .ok (.lload_n 2, 1) := by decide +kernel
theorem dL_streamed_157 : decode cL_streamed 157 = .ok (.lcmp, 1) := by decide +kernel
theorem dL_streamed_158 : decode cL_streamed 158 = .ok (.ifCond .ne 28, 3) := by decide +kernel
theorem dL_streamed_161 : decode cL_streamed 161 = .ok (.iload 8, 2) := by decide +kernel
theorem dL_streamed_163 : decode cL_streamed 163 = .ok (.ifCond .lt 19, 3) := by decide +kernel
theorem dL_streamed_166 : decode cL_streamed 166 = .ok (.aload_n 0, 1) := by decide +kernel
theorem dL_streamed_167 : decode cL_streamed 167 = .ok (.invokevirtual 143, 3) := by decide +kernel
theorem dL_streamed_170 : decode cL_streamed 170 = .ok (.ifCond .lt 16, 3) := by decide +kernel
theorem dL_streamed_173 : decode cL_streamed 173 = .ok (.aload_n 0, 1) := by decide +kernel
theorem dL_streamed_174 : decode cL_streamed 174 = .ok (.invokestatic 100, 3) := by decide +kernel
theorem dL_streamed_177 : decode cL_streamed 177 = .ok (.lload_n 2, 1) := by decide +kernel
theorem dL_streamed_178 : decode cL_streamed 178 = .ok (.lcmp, 1) := by decide +kernel
theorem dL_streamed_179 : decode cL_streamed 179 = .ok (.ifCond .ne 7, 3) := by decide +kernel
theorem dL_streamed_182 : decode cL_streamed 182 = .ok (.iconst 1, 1) := by decide +kernel
theorem dL_streamed_183 : decode cL_streamed 183 = .ok (.goto 4, 3) := by decide +kernel
theorem dL_streamed_186 : decode cL_streamed 186 = .ok (.iconst 0, 1) := by decide +kernel
theorem dL_streamed_187 : decode cL_streamed 187 = .ok (.ireturn, 1) := by decide +kernel
theorem dL_oneByOne_0 : decode cL_oneByOne 0 = .ok (.aload_n 0, 1) := by decide +kernel
theorem dL_oneByOne_1 : decode cL_oneByOne 1 = .ok (.invokestatic 83, 3) := by decide +kernel
theorem dL_oneByOne_4 : decode cL_oneByOne 4 = .ok (.lstore_n 1, 1) := by decide +kernel
theorem dL_oneByOne_5 : decode cL_oneByOne 5 = .ok (.aload_n 0, 1) := by decide +kernel
theorem dL_oneByOne_6 : decode cL_oneByOne 6 = .ok (.invokevirtual 17, 3) := by decide +kernel
theorem dL_oneByOne_9 : decode cL_oneByOne 9 = .ok (.ifCond .lt 30, 3) := by decide +kernel
theorem dL_oneByOne_12 : decode cL_oneByOne 12 = .ok (.aload_n 0, 1) := by decide +kernel
theorem dL_oneByOne_13 : decode cL_oneByOne 13 = .ok (.ldc2_w 146, 3) := by decide +kernel
theorem dL_oneByOne_16 : decode cL_oneByOne 16 = .ok (.bipush 9, 2) := by decide +kernel
theorem dL_oneByOne_18 : decode cL_oneByOne 18 = .ok (.invokestatic 23, 3) := by decide +kernel
theorem dL_oneByOne_21 : decode cL_oneByOne 21 = .ok (.ifCond .eq 18, 3) := by decide +kernel
theorem dL_oneByOne_24 : decode cL_oneByOne 24 = .ok (.aload_n 0, 1) := by decide +kernel
theorem dL_oneByOne_25 : decode cL_oneByOne 25 = .ok (.ldc2_w 148, 3) := by decide +kernel
theorem dL_oneByOne_28 : decode cL_oneByOne 28 = .ok (.iconst 1, 1) := by decide +kernel
theorem dL_oneByOne_29 : decode cL_oneByOne 29 = .ok (.invokestatic 23, 3) := by decide +kernel
theorem dL_oneByOne_32 : decode cL_oneByOne 32 = .ok (.ifCond .eq 7, 3) := by decide +kernel
theorem dL_oneByOne_35 : decode cL_oneByOne 35 = .ok (.iconst 1, 1) := by decide +kernel
theorem dL_oneByOne_36 : decode cL_oneByOne 36 = .ok (.goto 4, 3) := by decide +kernel
theorem dL_oneByOne_39 : decode cL_oneByOne 39 = .ok (.iconst 0, 1) := by decide +kernel
theorem dL_oneByOne_40 : decode cL_oneByOne 40 = .ok (.istore_n 3, 1) := by decide +kernel
theorem dL_oneByOne_41 : decode cL_oneByOne 41 = .ok (.aload_n 0, 1) := by decide +kernel
theorem dL_oneByOne_42 : decode cL_oneByOne 42 = .ok (.invokevirtual 115, 3) := by decide +kernel
theorem dL_oneByOne_45 : decode cL_oneByOne 45 = .ok (.istore 4, 2) := by decide +kernel
theorem dL_oneByOne_47 : decode cL_oneByOne 47 = .ok (.aload_n 0, 1) := by decide +kernel
theorem dL_oneByOne_48 : decode cL_oneByOne 48 = .ok (.invokestatic 83, 3) := by decide +kernel
theorem dL_oneByOne_51 : decode cL_oneByOne 51 = .ok (.lstore 5, 2) := by decide +kernel
theorem dL_oneByOne_53 : decode cL_oneByOne 53 = .ok (.iload_n 3, 1) := by decide +kernel
theorem dL_oneByOne_54 : decode cL_oneByOne 54 = .ok (.ifCond .eq 8, 3) := by decide +kernel
theorem dL_oneByOne_57 : decode cL_oneByOne 57 = .ok (.iload 4, 2) := by decide +kernel
theorem dL_oneByOne_59 : decode cL_oneByOne 59 = .ok (.ifCond .ne 22, 3) := by decide +kernel
theorem dL_oneByOne_62 : decode cL_oneByOne 62 = .ok (.iload_n 3, 1) := by decide +kernel
theorem dL_oneByOne_63 : decode cL_oneByOne 63 = .ok (.ifCond .eq 16, 3) := by decide +kernel
theorem dL_oneByOne_66 : decode cL_oneByOne 66 = .ok (.aload_n 0, 1) := by decide +kernel
theorem dL_oneByOne_67 : decode cL_oneByOne 67 = .ok (.invokestatic 83, 3) := by decide +kernel
theorem dL_oneByOne_70 : decode cL_oneByOne 70 = .ok (.lload_n 1, 1) := by decide +kernel
theorem dL_oneByOne_71 : decode cL_oneByOne 71 = .ok (.lcmp, 1) := by decide +kernel
theorem dL_oneByOne_72 : decode cL_oneByOne 72 = .ok (.ifCond .ne 7, 3) := by decide +kernel
theorem dL_oneByOne_75 : decode cL_oneByOne 75 = .ok (.iconst 1, 1) := by decide +kernel
theorem dL_oneByOne_76 : decode cL_oneByOne 76 = .ok (.goto 4, 3) := by decide +kernel
theorem dL_oneByOne_79 : decode cL_oneByOne 79 = .ok (.iconst 0, 1) := by decide +kernel
theorem dL_oneByOne_80 : decode cL_oneByOne 80 = .ok (.ireturn, 1) := by decide +kernel
theorem dL_oneByOne_81 : decode cL_oneByOne 81 = .ok (.aload_n 0, 1) := by decide +kernel
theorem dL_oneByOne_82 : decode cL_oneByOne 82 = .ok (.invokevirtual 143, 3) := by decide +kernel
theorem dL_oneByOne_85 : decode cL_oneByOne 85 = .ok (.ifCond .lt 16, 3) := by decide +kernel
theorem dL_oneByOne_88 : decode cL_oneByOne 88 = .ok (.aload_n 0, 1) := by decide +kernel
theorem dL_oneByOne_89 : decode cL_oneByOne 89 = .ok (.invokestatic 83, 3) := by decide +kernel
theorem dL_oneByOne_92 : decode cL_oneByOne 92 = .ok (.lload_n 1, 1) := by decide +kernel
theorem dL_oneByOne_93 : decode cL_oneByOne 93 = .ok (.lcmp, 1) := by decide +kernel
theorem dL_oneByOne_94 : decode cL_oneByOne 94 = .ok (.ifCond .ne 7, 3) := by decide +kernel
theorem dL_oneByOne_97 : decode cL_oneByOne 97 = .ok (.iconst 1, 1) := by decide +kernel
theorem dL_oneByOne_98 : decode cL_oneByOne 98 = .ok (.goto 4, 3) := by decide +kernel
theorem dL_oneByOne_101 : decode cL_oneByOne 101 = .ok (.iconst 0, 1) := by decide +kernel
theorem dL_oneByOne_102 : decode cL_oneByOne 102 = .ok (.istore_n 3, 1) := by decide +kernel
theorem dL_oneByOne_103 : decode cL_oneByOne 103 = .ok (.iconst 1, 1) := by decide +kernel
theorem dL_oneByOne_104 : decode cL_oneByOne 104 = .ok (.istore 7, 2) := by decide +kernel
theorem dL_oneByOne_106 : decode cL_oneByOne 106 = .ok (.iload 7, 2) := by decide +kernel
theorem dL_oneByOne_108 : decode cL_oneByOne 108 = .ok (.aload_n 0, 1) := by decide +kernel
theorem dL_oneByOne_109 : decode cL_oneByOne 109 = .ok (.invokevirtual 71, 3) := by decide +kernel
theorem dL_oneByOne_112 : decode cL_oneByOne 112 = .ok (.if_icmp .gt 83, 3) := by decide +kernel
theorem dL_oneByOne_115 : decode cL_oneByOne 115 = .ok (.iload_n 3, 1) := by decide +kernel
theorem dL_oneByOne_116 : decode cL_oneByOne 116 = .ok (.ifCond .eq 79, 3) := by decide +kernel
theorem dL_oneByOne_119 : decode cL_oneByOne 119 = .ok (.aload_n 0, 1) := by decide +kernel
theorem dL_oneByOne_120 : decode cL_oneByOne 120 = .ok (.invokevirtual 17, 3) := by decide +kernel
theorem dL_oneByOne_123 : decode cL_oneByOne 123 = .ok (.ifCond .lt 64, 3) := by decide +kernel
theorem dL_oneByOne_126 : decode cL_oneByOne 126 = .ok (.iload 7, 2) := by decide +kernel
theorem dL_oneByOne_128 : decode cL_oneByOne 128 = .ok (.bipush 10, 2) := by decide +kernel
theorem dL_oneByOne_130 : decode cL_oneByOne 130 = .ok (.if_icmp .lt 18, 3) := by decide +kernel
theorem dL_oneByOne_133 : decode cL_oneByOne 133 = .ok (.aload_n 0, 1) := by decide +kernel
theorem dL_oneByOne_134 : decode cL_oneByOne 134 = .ok (.bipush 48, 2) := by decide +kernel
theorem dL_oneByOne_136 : decode cL_oneByOne 136 = .ok (.iload 7, 2) := by decide +kernel
theorem dL_oneByOne_138 : decode cL_oneByOne 138 = .ok (.bipush 10, 2) := by decide +kernel
theorem dL_oneByOne_140 : decode cL_oneByOne 140 = .ok (.idiv, 1) := by decide +kernel
theorem dL_oneByOne_141 : decode cL_oneByOne 141 = .ok (.iadd, 1) := by decide +kernel
theorem dL_oneByOne_142 : decode cL_oneByOne 142 = .ok (.invokevirtual 11, 3) := by decide +kernel
theorem dL_oneByOne_145 : decode cL_oneByOne 145 = .ok (.ifCond .le 42, 3) := by decide +kernel
theorem dL_oneByOne_148 : decode cL_oneByOne 148 = .ok (.aload_n 0, 1) := by decide +kernel
theorem dL_oneByOne_149 : decode cL_oneByOne 149 = .ok (.bipush 48, 2) := by decide +kernel
theorem dL_oneByOne_151 : decode cL_oneByOne 151 = .ok (.iload 7, 2) := by decide +kernel
theorem dL_oneByOne_153 : decode cL_oneByOne 153 = .ok (.bipush 10, 2) := by decide +kernel
theorem dL_oneByOne_155 : decode cL_oneByOne 155 = .ok (.irem, 1) := by decide +kernel
theorem dL_oneByOne_156 : decode cL_oneByOne 156 = .ok (.iadd, 1) := by decide +kernel
theorem dL_oneByOne_157 : decode cL_oneByOne 157 = .ok (.invokevirtual 11, 3) := by decide +kernel
theorem dL_oneByOne_160 : decode cL_oneByOne 160 = .ok (.ifCond .le 27, 3) := by decide +kernel
theorem dL_oneByOne_163 : decode cL_oneByOne 163 = .ok (.aload_n 0, 1) := by decide +kernel
theorem dL_oneByOne_164 : decode cL_oneByOne 164 = .ok (.ldc2_w 150, 3) := by decide +kernel
theorem dL_oneByOne_167 : decode cL_oneByOne 167 = .ok (.bipush 9, 2) := by decide +kernel
theorem dL_oneByOne_169 : decode cL_oneByOne 169 = .ok (.invokestatic 23, 3) := by decide +kernel
theorem dL_oneByOne_172 : decode cL_oneByOne 172 = .ok (.ifCond .eq 15, 3) := by decide +kernel
theorem dL_oneByOne_175 : decode cL_oneByOne 175 = .ok (.aload_n 0, 1) := by decide +kernel
theorem dL_oneByOne_176 : decode cL_oneByOne 176 = .ok (.invokevirtual 115, 3) := by decide +kernel
theorem dL_oneByOne_179 : decode cL_oneByOne 179 = .ok (.iconst 1, 1) := by decide +kernel
theorem dL_oneByOne_180 : decode cL_oneByOne 180 = .ok (.if_icmp .ne 7, 3) := by decide +kernel
