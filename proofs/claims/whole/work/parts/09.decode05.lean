theorem dX11_patternFault_15 : decode cX11_patternFault 15 = .ok (.ireturn, 1) := by decide +kernel
theorem dX11_run_0 : decode cX11_run 0 = .ok (.aload_n 0, 1) := by decide +kernel
theorem dX11_run_1 : decode cX11_run 1 = .ok (.getfield 31, 3) := by decide +kernel
theorem dX11_run_4 : decode cX11_run 4 = .ok (.aload_n 0, 1) := by decide +kernel
theorem dX11_run_5 : decode cX11_run 5 = .ok (.getfield 9, 3) := by decide +kernel
theorem dX11_run_8 : decode cX11_run 8 = .ok (.aload_n 0, 1) := by decide +kernel
theorem dX11_run_9 : decode cX11_run 9 = .ok (.getfield 95, 3) := by decide +kernel
theorem dX11_run_12 : decode cX11_run 12 = .ok (.invokevirtual 104, 3) := by decide +kernel
theorem dX11_run_15 : decode cX11_run 15 = .ok (.iconst (-1), 1) := by decide +kernel
theorem dX11_run_16 : decode cX11_run 16 = .ok (.if_icmp .eq 13, 3) := by decide +kernel
theorem dX11_run_19 : decode cX11_run 19 = .ok (.new 99, 3) := by decide +kernel
theorem dX11_run_22 : decode cX11_run 22 = .ok (.dup, 1) := by decide +kernel
theorem dX11_run_23 : decode cX11_run 23 = .ok (.ldc 111, 2) := by decide +kernel
theorem dX11_run_25 : decode cX11_run 25 = .ok (.invokespecial 103, 3) := by decide +kernel
theorem dX11_run_28 : decode cX11_run 28 = .ok (.athrow, 1) := by decide +kernel
theorem dX11_run_29 : decode cX11_run 29 = .ok (.aload_n 0, 1) := by decide +kernel
theorem dX11_run_30 : decode cX11_run 30 = .ok (.dup, 1) := by decide +kernel
theorem dX11_run_31 : decode cX11_run 31 = .ok (.getfield 113, 3) := by decide +kernel
theorem dX11_run_34 : decode cX11_run 34 = .ok (.iconst 1, 1) := by decide +kernel
theorem dX11_run_35 : decode cX11_run 35 = .ok (.iadd, 1) := by decide +kernel
theorem dX11_run_36 : decode cX11_run 36 = .ok (.putfield 113, 3) := by decide +kernel
theorem dX11_run_39 : decode cX11_run 39 = .ok (.aload_n 0, 1) := by decide +kernel
theorem dX11_run_40 : decode cX11_run 40 = .ok (.getfield 75, 3) := by decide +kernel
theorem dX11_run_43 : decode cX11_run 43 = .ok (.aload_n 0, 1) := by decide +kernel
theorem dX11_run_44 : decode cX11_run 44 = .ok (.getfield 113, 3) := by decide +kernel
theorem dX11_run_47 : decode cX11_run 47 = .ok (.invokevirtual 116, 3) := by decide +kernel
theorem dX11_run_50 : decode cX11_run 50 = .ok (.istore_n 1, 1) := by decide +kernel
theorem dX11_run_51 : decode cX11_run 51 = .ok (.aload_n 0, 1) := by decide +kernel
theorem dX11_run_52 : decode cX11_run 52 = .ok (.aload_n 0, 1) := by decide +kernel
theorem dX11_run_53 : decode cX11_run 53 = .ok (.getfield 75, 3) := by decide +kernel
theorem dX11_run_56 : decode cX11_run 56 = .ok (.getfield 120, 3) := by decide +kernel
theorem dX11_run_59 : decode cX11_run 59 = .ok (.putfield 123, 3) := by decide +kernel
theorem dX11_run_62 : decode cX11_run 62 = .ok (.iload_n 1, 1) := by decide +kernel
theorem dX11_run_63 : decode cX11_run 63 = .ok (.ireturn, 1) := by decide +kernel
theorem dX11_keep_0 : decode cX11_keep 0 = .ok (.aload_n 0, 1) := by decide +kernel
theorem dX11_keep_1 : decode cX11_keep 1 = .ok (.iload_n 1, 1) := by decide +kernel
theorem dX11_keep_2 : decode cX11_keep 2 = .ok (.invokevirtual 126, 3) := by decide +kernel
theorem dX11_keep_5 : decode cX11_keep 5 = .ok (.ifCond .eq 13, 3) := by decide +kernel
theorem dX11_keep_8 : decode cX11_keep 8 = .ok (.new 130, 3) := by decide +kernel
theorem dX11_keep_11 : decode cX11_keep 11 = .ok (.dup, 1) := by decide +kernel
theorem dX11_keep_12 : decode cX11_keep 12 = .ok (.ldc 132, 2) := by decide +kernel
theorem dX11_keep_14 : decode cX11_keep 14 = .ok (.invokespecial 134, 3) := by decide +kernel
theorem dX11_keep_17 : decode cX11_keep 17 = .ok (.athrow, 1) := by decide +kernel
theorem dX11_keep_18 : decode cX11_keep 18 = .ok (.aload_n 0, 1) := by decide +kernel
theorem dX11_keep_19 : decode cX11_keep 19 = .ok (.getfield 31, 3) := by decide +kernel
theorem dX11_keep_22 : decode cX11_keep 22 = .ok (.aload_n 0, 1) := by decide +kernel
theorem dX11_keep_23 : decode cX11_keep 23 = .ok (.getfield 9, 3) := by decide +kernel
theorem dX11_keep_26 : decode cX11_keep 26 = .ok (.aload_n 0, 1) := by decide +kernel
theorem dX11_keep_27 : decode cX11_keep 27 = .ok (.getfield 95, 3) := by decide +kernel
theorem dX11_keep_30 : decode cX11_keep 30 = .ok (.invokevirtual 104, 3) := by decide +kernel
theorem dX11_keep_33 : decode cX11_keep 33 = .ok (.iconst (-1), 1) := by decide +kernel
theorem dX11_keep_34 : decode cX11_keep 34 = .ok (.if_icmp .eq 13, 3) := by decide +kernel
theorem dX11_keep_37 : decode cX11_keep 37 = .ok (.new 99, 3) := by decide +kernel
theorem dX11_keep_40 : decode cX11_keep 40 = .ok (.dup, 1) := by decide +kernel
theorem dX11_keep_41 : decode cX11_keep 41 = .ok (.ldc 111, 2) := by decide +kernel
theorem dX11_keep_43 : decode cX11_keep 43 = .ok (.invokespecial 103, 3) := by decide +kernel
theorem dX11_keep_46 : decode cX11_keep 46 = .ok (.athrow, 1) := by decide +kernel
theorem dX11_keep_47 : decode cX11_keep 47 = .ok (.aload_n 0, 1) := by decide +kernel
theorem dX11_keep_48 : decode cX11_keep 48 = .ok (.getfield 15, 3) := by decide +kernel
theorem dX11_keep_51 : decode cX11_keep 51 = .ok (.iload_n 1, 1) := by decide +kernel
theorem dX11_keep_52 : decode cX11_keep 52 = .ok (.aaload, 1) := by decide +kernel
theorem dX11_keep_53 : decode cX11_keep 53 = .ok (.astore_n 2, 1) := by decide +kernel
theorem dX11_keep_54 : decode cX11_keep 54 = .ok (.iconst 0, 1) := by decide +kernel
theorem dX11_keep_55 : decode cX11_keep 55 = .ok (.istore_n 3, 1) := by decide +kernel
theorem dX11_keep_56 : decode cX11_keep 56 = .ok (.iload_n 3, 1) := by decide +kernel
theorem dX11_keep_57 : decode cX11_keep 57 = .ok (.aload_n 0, 1) := by decide +kernel
theorem dX11_keep_58 : decode cX11_keep 58 = .ok (.getfield 95, 3) := by decide +kernel
theorem dX11_keep_61 : decode cX11_keep 61 = .ok (.if_icmp .ge 33, 3) := by decide +kernel
theorem dX11_keep_64 : decode cX11_keep 64 = .ok (.iload_n 3, 1) := by decide +kernel
theorem dX11_keep_65 : decode cX11_keep 65 = .ok (.aload_n 2, 1) := by decide +kernel
theorem dX11_keep_66 : decode cX11_keep 66 = .ok (.arraylength, 1) := by decide +kernel
theorem dX11_keep_67 : decode cX11_keep 67 = .ok (.if_icmp .ge 27, 3) := by decide +kernel
theorem dX11_keep_70 : decode cX11_keep 70 = .ok (.iload_n 3, 1) := by decide +kernel
theorem dX11_keep_71 : decode cX11_keep 71 = .ok (.aload_n 0, 1) := by decide +kernel
theorem dX11_keep_72 : decode cX11_keep 72 = .ok (.getfield 9, 3) := by decide +kernel
theorem dX11_keep_75 : decode cX11_keep 75 = .ok (.arraylength, 1) := by decide +kernel
theorem dX11_keep_76 : decode cX11_keep 76 = .ok (.if_icmp .ge 18, 3) := by decide +kernel
theorem dX11_keep_79 : decode cX11_keep 79 = .ok (.aload_n 2, 1) := by decide +kernel
theorem dX11_keep_80 : decode cX11_keep 80 = .ok (.iload_n 3, 1) := by decide +kernel
theorem dX11_keep_81 : decode cX11_keep 81 = .ok (.aload_n 0, 1) := by decide +kernel
theorem dX11_keep_82 : decode cX11_keep 82 = .ok (.getfield 9, 3) := by decide +kernel
theorem dX11_keep_85 : decode cX11_keep 85 = .ok (.iload_n 3, 1) := by decide +kernel
theorem dX11_keep_86 : decode cX11_keep 86 = .ok (.baload, 1) := by decide +kernel
theorem dX11_keep_87 : decode cX11_keep 87 = .ok (.bastore, 1) := by decide +kernel
theorem dX11_keep_88 : decode cX11_keep 88 = .ok (.iinc 3 1, 3) := by decide +kernel
theorem dX11_keep_91 : decode cX11_keep 91 = .ok (.goto (-35), 3) := by decide +kernel
theorem dX11_keep_94 : decode cX11_keep 94 = .ok (.aload_n 0, 1) := by decide +kernel
theorem dX11_keep_95 : decode cX11_keep 95 = .ok (.getfield 18, 3) := by decide +kernel
theorem dX11_keep_98 : decode cX11_keep 98 = .ok (.iload_n 1, 1) := by decide +kernel
theorem dX11_keep_99 : decode cX11_keep 99 = .ok (.aload_n 0, 1) := by decide +kernel
theorem dX11_keep_100 : decode cX11_keep 100 = .ok (.getfield 95, 3) := by decide +kernel
theorem dX11_keep_103 : decode cX11_keep 103 = .ok (.iastore, 1) := by decide +kernel
theorem dX11_keep_104 : decode cX11_keep 104 = .ok (.aload_n 0, 1) := by decide +kernel
theorem dX11_keep_105 : decode cX11_keep 105 = .ok (.getfield 95, 3) := by decide +kernel
theorem dX11_keep_108 : decode cX11_keep 108 = .ok (.ireturn, 1) := by decide +kernel
theorem dX11_play_0 : decode cX11_play 0 = .ok (.aload_n 0, 1) := by decide +kernel
theorem dX11_play_1 : decode cX11_play 1 = .ok (.iload_n 1, 1) := by decide +kernel
theorem dX11_play_2 : decode cX11_play 2 = .ok (.invokevirtual 126, 3) := by decide +kernel
theorem dX11_play_5 : decode cX11_play 5 = .ok (.ifCond .eq 13, 3) := by decide +kernel
theorem dX11_play_8 : decode cX11_play 8 = .ok (.new 130, 3) := by decide +kernel
theorem dX11_play_11 : decode cX11_play 11 = .ok (.dup, 1) := by decide +kernel
theorem dX11_play_12 : decode cX11_play 12 = .ok (.ldc 132, 2) := by decide +kernel
theorem dX11_play_14 : decode cX11_play 14 = .ok (.invokespecial 134, 3) := by decide +kernel
theorem dX11_play_17 : decode cX11_play 17 = .ok (.athrow, 1) := by decide +kernel
theorem dX11_play_18 : decode cX11_play 18 = .ok (.aload_n 0, 1) := by decide +kernel
theorem dX11_play_19 : decode cX11_play 19 = .ok (.getfield 18, 3) := by decide +kernel
theorem dX11_play_22 : decode cX11_play 22 = .ok (.iload_n 1, 1) := by decide +kernel
theorem dX11_play_23 : decode cX11_play 23 = .ok (.iaload, 1) := by decide +kernel
theorem dX11_play_24 : decode cX11_play 24 = .ok (.iconst (-1), 1) := by decide +kernel
theorem dX11_play_25 : decode cX11_play 25 = .ok (.if_icmp .ne 13, 3) := by decide +kernel
theorem dX11_play_28 : decode cX11_play 28 = .ok (.new 99, 3) := by decide +kernel
theorem dX11_play_31 : decode cX11_play 31 = .ok (.dup, 1) := by decide +kernel
theorem dX11_play_32 : decode cX11_play 32 = .ok (.ldc 135, 2) := by decide +kernel
theorem dX11_play_34 : decode cX11_play 34 = .ok (.invokespecial 103, 3) := by decide +kernel
theorem dX11_play_37 : decode cX11_play 37 = .ok (.athrow, 1) := by decide +kernel
theorem dX11_play_38 : decode cX11_play 38 = .ok (.aload_n 0, 1) := by decide +kernel
theorem dX11_play_39 : decode cX11_play 39 = .ok (.getfield 31, 3) := by decide +kernel
theorem dX11_play_42 : decode cX11_play 42 = .ok (.aload_n 0, 1) := by decide +kernel
theorem dX11_play_43 : decode cX11_play 43 = .ok (.getfield 15, 3) := by decide +kernel
theorem dX11_play_46 : decode cX11_play 46 = .ok (.iload_n 1, 1) := by decide +kernel
theorem dX11_play_47 : decode cX11_play 47 = .ok (.aaload, 1) := by decide +kernel
theorem dX11_play_48 : decode cX11_play 48 = .ok (.aload_n 0, 1) := by decide +kernel
theorem dX11_play_49 : decode cX11_play 49 = .ok (.getfield 18, 3) := by decide +kernel
theorem dX11_play_52 : decode cX11_play 52 = .ok (.iload_n 1, 1) := by decide +kernel
theorem dX11_play_53 : decode cX11_play 53 = .ok (.iaload, 1) := by decide +kernel
theorem dX11_play_54 : decode cX11_play 54 = .ok (.invokevirtual 104, 3) := by decide +kernel
theorem dX11_play_57 : decode cX11_play 57 = .ok (.pop, 1) := by decide +kernel
theorem dX11_play_58 : decode cX11_play 58 = .ok (.aload_n 0, 1) := by decide +kernel
theorem dX11_play_59 : decode cX11_play 59 = .ok (.dup, 1) := by decide +kernel
theorem dX11_play_60 : decode cX11_play 60 = .ok (.getfield 113, 3) := by decide +kernel
theorem dX11_play_63 : decode cX11_play 63 = .ok (.iconst 1, 1) := by decide +kernel
theorem dX11_play_64 : decode cX11_play 64 = .ok (.iadd, 1) := by decide +kernel
theorem dX11_play_65 : decode cX11_play 65 = .ok (.putfield 113, 3) := by decide +kernel
theorem dX11_play_68 : decode cX11_play 68 = .ok (.aload_n 0, 1) := by decide +kernel
theorem dX11_play_69 : decode cX11_play 69 = .ok (.getfield 75, 3) := by decide +kernel
theorem dX11_play_72 : decode cX11_play 72 = .ok (.aload_n 0, 1) := by decide +kernel
theorem dX11_play_73 : decode cX11_play 73 = .ok (.getfield 113, 3) := by decide +kernel
theorem dX11_play_76 : decode cX11_play 76 = .ok (.invokevirtual 116, 3) := by decide +kernel
theorem dX11_play_79 : decode cX11_play 79 = .ok (.istore_n 2, 1) := by decide +kernel
theorem dX11_play_80 : decode cX11_play 80 = .ok (.aload_n 0, 1) := by decide +kernel
theorem dX11_play_81 : decode cX11_play 81 = .ok (.aload_n 0, 1) := by decide +kernel
theorem dX11_play_82 : decode cX11_play 82 = .ok (.getfield 75, 3) := by decide +kernel
theorem dX11_play_85 : decode cX11_play 85 = .ok (.getfield 120, 3) := by decide +kernel
theorem dX11_play_88 : decode cX11_play 88 = .ok (.putfield 123, 3) := by decide +kernel
theorem dX11_play_91 : decode cX11_play 91 = .ok (.iload_n 2, 1) := by decide +kernel
theorem dX11_play_92 : decode cX11_play 92 = .ok (.ireturn, 1) := by decide +kernel
theorem dX11_stream_0 : decode cX11_stream 0 = .ok (.aload_n 0, 1) := by decide +kernel
theorem dX11_stream_1 : decode cX11_stream 1 = .ok (.iload_n 1, 1) := by decide +kernel
theorem dX11_stream_2 : decode cX11_stream 2 = .ok (.invokevirtual 126, 3) := by decide +kernel
theorem dX11_stream_5 : decode cX11_stream 5 = .ok (.ifCond .eq 13, 3) := by decide +kernel
theorem dX11_stream_8 : decode cX11_stream 8 = .ok (.new 130, 3) := by decide +kernel
theorem dX11_stream_11 : decode cX11_stream 11 = .ok (.dup, 1) := by decide +kernel
theorem dX11_stream_12 : decode cX11_stream 12 = .ok (.ldc 132, 2) := by decide +kernel
theorem dX11_stream_14 : decode cX11_stream 14 = .ok (.invokespecial 134, 3) := by decide +kernel
theorem dX11_stream_17 : decode cX11_stream 17 = .ok (.athrow, 1) := by decide +kernel
theorem dX11_stream_18 : decode cX11_stream 18 = .ok (.aload_n 0, 1) := by decide +kernel
theorem dX11_stream_19 : decode cX11_stream 19 = .ok (.getfield 18, 3) := by decide +kernel
theorem dX11_stream_22 : decode cX11_stream 22 = .ok (.iload_n 1, 1) := by decide +kernel
theorem dX11_stream_23 : decode cX11_stream 23 = .ok (.iaload, 1) := by decide +kernel
theorem dX11_stream_24 : decode cX11_stream 24 = .ok (.iconst (-1), 1) := by decide +kernel
theorem dX11_stream_25 : decode cX11_stream 25 = .ok (.if_icmp .ne 13, 3) := by decide +kernel
theorem dX11_stream_28 : decode cX11_stream 28 = .ok (.new 99, 3) := by decide +kernel
theorem dX11_stream_31 : decode cX11_stream 31 = .ok (.dup, 1) := by decide +kernel
theorem dX11_stream_32 : decode cX11_stream 32 = .ok (.ldc 135, 2) := by decide +kernel
theorem dX11_stream_34 : decode cX11_stream 34 = .ok (.invokespecial 103, 3) := by decide +kernel
theorem dX11_stream_37 : decode cX11_stream 37 = .ok (.athrow, 1) := by decide +kernel
theorem dX11_stream_38 : decode cX11_stream 38 = .ok (.aload_n 0, 1) := by decide +kernel
theorem dX11_stream_39 : decode cX11_stream 39 = .ok (.getfield 31, 3) := by decide +kernel
theorem dX11_stream_42 : decode cX11_stream 42 = .ok (.aload_n 0, 1) := by decide +kernel
theorem dX11_stream_43 : decode cX11_stream 43 = .ok (.getfield 15, 3) := by decide +kernel
theorem dX11_stream_46 : decode cX11_stream 46 = .ok (.iload_n 1, 1) := by decide +kernel
theorem dX11_stream_47 : decode cX11_stream 47 = .ok (.aaload, 1) := by decide +kernel
theorem dX11_stream_48 : decode cX11_stream 48 = .ok (.aload_n 0, 1) := by decide +kernel
theorem dX11_stream_49 : decode cX11_stream 49 = .ok (.getfield 18, 3) := by decide +kernel
theorem dX11_stream_52 : decode cX11_stream 52 = .ok (.iload_n 1, 1) := by decide +kernel
theorem dX11_stream_53 : decode cX11_stream 53 = .ok (.iaload, 1) := by decide +kernel
theorem dX11_stream_54 : decode cX11_stream 54 = .ok (.invokevirtual 104, 3) := by decide +kernel
theorem dX11_stream_57 : decode cX11_stream 57 = .ok (.pop, 1) := by decide +kernel
theorem dX11_stream_58 : decode cX11_stream 58 = .ok (.aload_n 0, 1) := by decide +kernel
theorem dX11_stream_59 : decode cX11_stream 59 = .ok (.dup, 1) := by decide +kernel
theorem dX11_stream_60 : decode cX11_stream 60 = .ok (.getfield 113, 3) := by decide +kernel
theorem dX11_stream_63 : decode cX11_stream 63 = .ok (.iconst 1, 1) := by decide +kernel
theorem dX11_stream_64 : decode cX11_stream 64 = .ok (.iadd, 1) := by decide +kernel
theorem dX11_stream_65 : decode cX11_stream 65 = .ok (.putfield 113, 3) := by decide +kernel
theorem dX11_stream_68 : decode cX11_stream 68 = .ok (.aload_n 0, 1) := by decide +kernel
theorem dX11_stream_69 : decode cX11_stream 69 = .ok (.getfield 52, 3) := by decide +kernel
theorem dX11_stream_72 : decode cX11_stream 72 = .ok (.aload_n 0, 1) := by decide +kernel
theorem dX11_stream_73 : decode cX11_stream 73 = .ok (.getfield 38, 3) := by decide +kernel
theorem dX11_stream_76 : decode cX11_stream 76 = .ok (.invokevirtual 137, 3) := by decide +kernel
theorem dX11_stream_79 : decode cX11_stream 79 = .ok (.aload_n 0, 1) := by decide +kernel
theorem dX11_stream_80 : decode cX11_stream 80 = .ok (.getfield 84, 3) := by decide +kernel
theorem dX11_stream_83 : decode cX11_stream 83 = .ok (.invokevirtual 141, 3) := by decide +kernel
theorem dX11_stream_86 : decode cX11_stream 86 = .ok (.istore_n 2, 1) := by decide +kernel
theorem dX11_stream_87 : decode cX11_stream 87 = .ok (.aload_n 0, 1) := by decide +kernel
theorem dX11_stream_88 : decode cX11_stream 88 = .ok (.aload_n 0, 1) := by decide +kernel
theorem dX11_stream_89 : decode cX11_stream 89 = .ok (.getfield 84, 3) := by decide +kernel
theorem dX11_stream_92 : decode cX11_stream 92 = .ok (.getfield 144, 3) := by decide +kernel
theorem dX11_stream_95 : decode cX11_stream 95 = .ok (.putfield 123, 3) := by decide +kernel
theorem dX11_stream_98 : decode cX11_stream 98 = .ok (.aload_n 0, 1) := by decide +kernel
theorem dX11_stream_99 : decode cX11_stream 99 = .ok (.getfield 123, 3) := by decide +kernel
theorem dX11_stream_102 : decode cX11_stream 102 = .ok (.ifCond .ne 14, 3) := by decide +kernel
theorem dX11_stream_105 : decode cX11_stream 105 = .ok (.aload_n 0, 1) := by decide +kernel
theorem dX11_stream_106 : decode cX11_stream 106 = .ok (.getfield 52, 3) := by decide +kernel
theorem dX11_stream_109 : decode cX11_stream 109 = .ok (.aload_n 0, 1) := by decide +kernel
theorem dX11_stream_110 : decode cX11_stream 110 = .ok (.getfield 113, 3) := by decide +kernel
theorem dX11_stream_113 : decode cX11_stream 113 = .ok (.invokevirtual 145, 3) := by decide +kernel
theorem dX11_stream_116 : decode cX11_stream 116 = .ok (.iload_n 2, 1) := by decide +kernel
theorem dX11_stream_117 : decode cX11_stream 117 = .ok (.ireturn, 1) := by decide +kernel
theorem dX11_reason_0 : decode cX11_reason 0 = .ok (.aload_n 0, 1) := by decide +kernel
theorem dX11_reason_1 : decode cX11_reason 1 = .ok (.getfield 123, 3) := by decide +kernel
theorem dX11_reason_4 : decode cX11_reason 4 = .ok (.ireturn, 1) := by decide +kernel
theorem dX11_scriptLength_0 : decode cX11_scriptLength 0 = .ok (.aload_n 0, 1) := by decide +kernel
theorem dX11_scriptLength_1 : decode cX11_scriptLength 1 = .ok (.iload_n 1, 1) := by decide +kernel
theorem dX11_scriptLength_2 : decode cX11_scriptLength 2 = .ok (.invokevirtual 126, 3) := by decide +kernel
theorem dX11_scriptLength_5 : decode cX11_scriptLength 5 = .ok (.ifCond .eq 13, 3) := by decide +kernel
theorem dX11_scriptLength_8 : decode cX11_scriptLength 8 = .ok (.new 130, 3) := by decide +kernel
theorem dX11_scriptLength_11 : decode cX11_scriptLength 11 = .ok (.dup, 1) := by decide +kernel
theorem dX11_scriptLength_12 : decode cX11_scriptLength 12 = .ok (.ldc 132, 2) := by decide +kernel
theorem dX11_scriptLength_14 : decode cX11_scriptLength 14 = .ok (.invokespecial 134, 3) := by decide +kernel
theorem dX11_scriptLength_17 : decode cX11_scriptLength 17 = .ok (.athrow, 1) := by decide +kernel
theorem dX11_scriptLength_18 : decode cX11_scriptLength 18 = .ok (.aload_n 0, 1) := by decide +kernel
theorem dX11_scriptLength_19 : decode cX11_scriptLength 19 = .ok (.getfield 18, 3) := by decide +kernel
theorem dX11_scriptLength_22 : decode cX11_scriptLength 22 = .ok (.iload_n 1, 1) := by decide +kernel
theorem dX11_scriptLength_23 : decode cX11_scriptLength 23 = .ok (.iaload, 1) := by decide +kernel
theorem dX11_scriptLength_24 : decode cX11_scriptLength 24 = .ok (.ireturn, 1) := by decide +kernel
theorem dX11_scriptAt_0 : decode cX11_scriptAt 0 = .ok (.aload_n 0, 1) := by decide +kernel
theorem dX11_scriptAt_1 : decode cX11_scriptAt 1 = .ok (.iload_n 1, 1) := by decide +kernel
theorem dX11_scriptAt_2 : decode cX11_scriptAt 2 = .ok (.invokevirtual 126, 3) := by decide +kernel
theorem dX11_scriptAt_5 : decode cX11_scriptAt 5 = .ok (.ifCond .eq 13, 3) := by decide +kernel
theorem dX11_scriptAt_8 : decode cX11_scriptAt 8 = .ok (.new 130, 3) := by decide +kernel
theorem dX11_scriptAt_11 : decode cX11_scriptAt 11 = .ok (.dup, 1) := by decide +kernel
theorem dX11_scriptAt_12 : decode cX11_scriptAt 12 = .ok (.ldc 132, 2) := by decide +kernel
theorem dX11_scriptAt_14 : decode cX11_scriptAt 14 = .ok (.invokespecial 134, 3) := by decide +kernel
theorem dX11_scriptAt_17 : decode cX11_scriptAt 17 = .ok (.athrow, 1) := by decide +kernel
theorem dX11_scriptAt_18 : decode cX11_scriptAt 18 = .ok (.iload_n 2, 1) := by decide +kernel
theorem dX11_scriptAt_19 : decode cX11_scriptAt 19 = .ok (.ifCond .lt 24, 3) := by decide +kernel
theorem dX11_scriptAt_22 : decode cX11_scriptAt 22 = .ok (.iload_n 2, 1) := by decide +kernel
theorem dX11_scriptAt_23 : decode cX11_scriptAt 23 = .ok (.aload_n 0, 1) := by decide +kernel
theorem dX11_scriptAt_24 : decode cX11_scriptAt 24 = .ok (.getfield 18, 3) := by decide +kernel
theorem dX11_scriptAt_27 : decode cX11_scriptAt 27 = .ok (.iload_n 1, 1) := by decide +kernel
theorem dX11_scriptAt_28 : decode cX11_scriptAt 28 = .ok (.iaload, 1) := by decide +kernel
theorem dX11_scriptAt_29 : decode cX11_scriptAt 29 = .ok (.if_icmp .ge 14, 3) := by decide +kernel
theorem dX11_scriptAt_32 : decode cX11_scriptAt 32 = .ok (.iload_n 2, 1) := by decide +kernel
theorem dX11_scriptAt_33 : decode cX11_scriptAt 33 = .ok (.aload_n 0, 1) := by decide +kernel
theorem dX11_scriptAt_34 : decode cX11_scriptAt 34 = .ok (.getfield 15, 3) := by decide +kernel
theorem dX11_scriptAt_37 : decode cX11_scriptAt 37 = .ok (.iload_n 1, 1) := by decide +kernel
theorem dX11_scriptAt_38 : decode cX11_scriptAt 38 = .ok (.aaload, 1) := by decide +kernel
theorem dX11_scriptAt_39 : decode cX11_scriptAt 39 = .ok (.arraylength, 1) := by decide +kernel
theorem dX11_scriptAt_40 : decode cX11_scriptAt 40 = .ok (.if_icmp .lt 13, 3) := by decide +kernel
theorem dX11_scriptAt_43 : decode cX11_scriptAt 43 = .ok (.new 130, 3) := by decide +kernel
theorem dX11_scriptAt_46 : decode cX11_scriptAt 46 = .ok (.dup, 1) := by decide +kernel
theorem dX11_scriptAt_47 : decode cX11_scriptAt 47 = .ok (.ldc 90, 2) := by decide +kernel
theorem dX11_scriptAt_49 : decode cX11_scriptAt 49 = .ok (.invokespecial 134, 3) := by decide +kernel
theorem dX11_scriptAt_52 : decode cX11_scriptAt 52 = .ok (.athrow, 1) := by decide +kernel
theorem dX11_scriptAt_53 : decode cX11_scriptAt 53 = .ok (.aload_n 0, 1) := by decide +kernel
theorem dX11_scriptAt_54 : decode cX11_scriptAt 54 = .ok (.getfield 15, 3) := by decide +kernel
theorem dX11_scriptAt_57 : decode cX11_scriptAt 57 = .ok (.iload_n 1, 1) := by decide +kernel
theorem dX11_scriptAt_58 : decode cX11_scriptAt 58 = .ok (.aaload, 1) := by decide +kernel
theorem dX11_scriptAt_59 : decode cX11_scriptAt 59 = .ok (.iload_n 2, 1) := by decide +kernel
theorem dX11_scriptAt_60 : decode cX11_scriptAt 60 = .ok (.baload, 1) := by decide +kernel
theorem dX11_scriptAt_61 : decode cX11_scriptAt 61 = .ok (.ireturn, 1) := by decide +kernel
theorem dX11_undo_0 : decode cX11_undo 0 = .ok (.aload_n 0, 1) := by decide +kernel
theorem dX11_undo_1 : decode cX11_undo 1 = .ok (.getfield 52, 3) := by decide +kernel
theorem dX11_undo_4 : decode cX11_undo 4 = .ok (.getfield 149, 3) := by decide +kernel
theorem dX11_undo_7 : decode cX11_undo 7 = .ok (.ifCond .ne 13, 3) := by decide +kernel
theorem dX11_undo_10 : decode cX11_undo 10 = .ok (.new 99, 3) := by decide +kernel
theorem dX11_undo_13 : decode cX11_undo 13 = .ok (.dup, 1) := by decide +kernel
theorem dX11_undo_14 : decode cX11_undo 14 = .ok (.ldc 152, 2) := by decide +kernel
theorem dX11_undo_16 : decode cX11_undo 16 = .ok (.invokespecial 103, 3) := by decide +kernel
theorem dX11_undo_19 : decode cX11_undo 19 = .ok (.athrow, 1) := by decide +kernel
theorem dX11_undo_20 : decode cX11_undo 20 = .ok (.aload_n 0, 1) := by decide +kernel
theorem dX11_undo_21 : decode cX11_undo 21 = .ok (.getfield 52, 3) := by decide +kernel
theorem dX11_undo_24 : decode cX11_undo 24 = .ok (.aload_n 0, 1) := by decide +kernel
theorem dX11_undo_25 : decode cX11_undo 25 = .ok (.getfield 38, 3) := by decide +kernel
theorem dX11_undo_28 : decode cX11_undo 28 = .ok (.invokevirtual 154, 3) := by decide +kernel
theorem dX11_undo_31 : decode cX11_undo 31 = .ok (.aload_n 0, 1) := by decide +kernel
theorem dX11_undo_32 : decode cX11_undo 32 = .ok (.getfield 52, 3) := by decide +kernel
theorem dX11_undo_35 : decode cX11_undo 35 = .ok (.getfield 149, 3) := by decide +kernel
theorem dX11_undo_38 : decode cX11_undo 38 = .ok (.ireturn, 1) := by decide +kernel
theorem dX11_undoRun_0 : decode cX11_undoRun 0 = .ok (.aload_n 0, 1) := by decide +kernel
theorem dX11_undoRun_1 : decode cX11_undoRun 1 = .ok (.getfield 52, 3) := by decide +kernel
theorem dX11_undoRun_4 : decode cX11_undoRun 4 = .ok (.getfield 149, 3) := by decide +kernel
theorem dX11_undoRun_7 : decode cX11_undoRun 7 = .ok (.ifCond .ne 13, 3) := by decide +kernel
theorem dX11_undoRun_10 : decode cX11_undoRun 10 = .ok (.new 99, 3) := by decide +kernel
theorem dX11_undoRun_13 : decode cX11_undoRun 13 = .ok (.dup, 1) := by decide +kernel
theorem dX11_undoRun_14 : decode cX11_undoRun 14 = .ok (.ldc 152, 2) := by decide +kernel
theorem dX11_undoRun_16 : decode cX11_undoRun 16 = .ok (.invokespecial 103, 3) := by decide +kernel
theorem dX11_undoRun_19 : decode cX11_undoRun 19 = .ok (.athrow, 1) := by decide +kernel
theorem dX11_undoRun_20 : decode cX11_undoRun 20 = .ok (.aload_n 0, 1) := by decide +kernel
theorem dX11_undoRun_21 : decode cX11_undoRun 21 = .ok (.getfield 52, 3) := by decide +kernel
theorem dX11_undoRun_24 : decode cX11_undoRun 24 = .ok (.invokevirtual 157, 3) := by decide +kernel
theorem dX11_undoRun_27 : decode cX11_undoRun 27 = .ok (.istore_n 1, 1) := by decide +kernel
theorem dX11_undoRun_28 : decode cX11_undoRun 28 = .ok (.iconst 0, 1) := by decide +kernel
theorem dX11_undoRun_29 : decode cX11_undoRun 29 = .ok (.istore_n 2, 1) := by decide +kernel
theorem dX11_undoRun_30 : decode cX11_undoRun 30 = .ok (.aload_n 0, 1) := by decide +kernel
theorem dX11_undoRun_31 : decode cX11_undoRun 31 = .ok (.getfield 52, 3) := by decide +kernel
theorem dX11_undoRun_34 : decode cX11_undoRun 34 = .ok (.getfield 149, 3) := by decide +kernel
theorem dX11_undoRun_37 : decode cX11_undoRun 37 = .ok (.istore_n 3, 1) := by decide +kernel
theorem dX11_undoRun_38 : decode cX11_undoRun 38 = .ok (.iload_n 3, 1) := by decide +kernel
theorem dX11_undoRun_39 : decode cX11_undoRun 39 = .ok (.ifCond .le 34, 3) := by decide +kernel
theorem dX11_undoRun_42 : decode cX11_undoRun 42 = .ok (.aload_n 0, 1) := by decide +kernel
theorem dX11_undoRun_43 : decode cX11_undoRun 43 = .ok (.getfield 52, 3) := by decide +kernel
theorem dX11_undoRun_46 : decode cX11_undoRun 46 = .ok (.invokevirtual 157, 3) := by decide +kernel
theorem dX11_undoRun_49 : decode cX11_undoRun 49 = .ok (.iload_n 1, 1) := by decide +kernel
theorem dX11_undoRun_50 : decode cX11_undoRun 50 = .ok (.if_icmp .ne 23, 3) := by decide +kernel
theorem dX11_undoRun_53 : decode cX11_undoRun 53 = .ok (.aload_n 0, 1) := by decide +kernel
theorem dX11_undoRun_54 : decode cX11_undoRun 54 = .ok (.getfield 52, 3) := by decide +kernel
theorem dX11_undoRun_57 : decode cX11_undoRun 57 = .ok (.aload_n 0, 1) := by decide +kernel
theorem dX11_undoRun_58 : decode cX11_undoRun 58 = .ok (.getfield 38, 3) := by decide +kernel
theorem dX11_undoRun_61 : decode cX11_undoRun 61 = .ok (.invokevirtual 154, 3) := by decide +kernel
theorem dX11_undoRun_64 : decode cX11_undoRun 64 = .ok (.iinc 2 1, 3) := by decide +kernel
theorem dX11_undoRun_67 : decode cX11_undoRun 67 = .ok (.iinc 3 (-1), 3) := by decide +kernel
theorem dX11_undoRun_70 : decode cX11_undoRun 70 = .ok (.goto (-32), 3) := by decide +kernel
theorem dX11_undoRun_73 : decode cX11_undoRun 73 = .ok (.iload_n 2, 1) := by decide +kernel
theorem dX11_undoRun_74 : decode cX11_undoRun 74 = .ok (.ireturn, 1) := by decide +kernel
theorem dX11_deeds_0 : decode cX11_deeds 0 = .ok (.aload_n 0, 1) := by decide +kernel
theorem dX11_deeds_1 : decode cX11_deeds 1 = .ok (.getfield 52, 3) := by decide +kernel
theorem dX11_deeds_4 : decode cX11_deeds 4 = .ok (.getfield 149, 3) := by decide +kernel
theorem dX11_deeds_7 : decode cX11_deeds 7 = .ok (.ireturn, 1) := by decide +kernel
theorem dX11_lines_0 : decode cX11_lines 0 = .ok (.aload_n 0, 1) := by decide +kernel
theorem dX11_lines_1 : decode cX11_lines 1 = .ok (.getfield 38, 3) := by decide +kernel
theorem dX11_lines_4 : decode cX11_lines 4 = .ok (.getfield 160, 3) := by decide +kernel
theorem dX11_lines_7 : decode cX11_lines 7 = .ok (.getfield 164, 3) := by decide +kernel
theorem dX11_lines_10 : decode cX11_lines 10 = .ok (.ireturn, 1) := by decide +kernel
theorem dX11_length_0 : decode cX11_length 0 = .ok (.aload_n 0, 1) := by decide +kernel
theorem dX11_length_1 : decode cX11_length 1 = .ok (.getfield 38, 3) := by decide +kernel
theorem dX11_length_4 : decode cX11_length 4 = .ok (.getfield 160, 3) := by decide +kernel
theorem dX11_length_7 : decode cX11_length 7 = .ok (.iload_n 1, 1) := by decide +kernel
theorem dX11_length_8 : decode cX11_length 8 = .ok (.invokevirtual 169, 3) := by decide +kernel
theorem dX11_length_11 : decode cX11_length 11 = .ok (.ifCond .ne 13, 3) := by decide +kernel
theorem dX11_length_14 : decode cX11_length 14 = .ok (.new 130, 3) := by decide +kernel
theorem dX11_length_17 : decode cX11_length 17 = .ok (.dup, 1) := by decide +kernel
theorem dX11_length_18 : decode cX11_length 18 = .ok (.ldc 172, 2) := by decide +kernel
theorem dX11_length_20 : decode cX11_length 20 = .ok (.invokespecial 134, 3) := by decide +kernel
theorem dX11_length_23 : decode cX11_length 23 = .ok (.athrow, 1) := by decide +kernel
theorem dX11_length_24 : decode cX11_length 24 = .ok (.aload_n 0, 1) := by decide +kernel
theorem dX11_length_25 : decode cX11_length 25 = .ok (.getfield 38, 3) := by decide +kernel
theorem dX11_length_28 : decode cX11_length 28 = .ok (.getfield 160, 3) := by decide +kernel
theorem dX11_length_31 : decode cX11_length 31 = .ok (.iload_n 1, 1) := by decide +kernel
theorem dX11_length_32 : decode cX11_length 32 = .ok (.invokevirtual 174, 3) := by decide +kernel
theorem dX11_length_35 : decode cX11_length 35 = .ok (.ireturn, 1) := by decide +kernel
theorem dX11_at_0 : decode cX11_at 0 = .ok (.aload_n 0, 1) := by decide +kernel
theorem dX11_at_1 : decode cX11_at 1 = .ok (.getfield 38, 3) := by decide +kernel
theorem dX11_at_4 : decode cX11_at 4 = .ok (.getfield 160, 3) := by decide +kernel
theorem dX11_at_7 : decode cX11_at 7 = .ok (.iload_n 1, 1) := by decide +kernel
theorem dX11_at_8 : decode cX11_at 8 = .ok (.iload_n 2, 1) := by decide +kernel
theorem dX11_at_9 : decode cX11_at 9 = .ok (.invokevirtual 177, 3) := by decide +kernel
theorem dX11_at_12 : decode cX11_at 12 = .ok (.istore_n 3, 1) := by decide +kernel
theorem dX11_at_13 : decode cX11_at 13 = .ok (.iload_n 3, 1) := by decide +kernel
theorem dX11_at_14 : decode cX11_at 14 = .ok (.iconst (-1), 1) := by decide +kernel
theorem dX11_at_15 : decode cX11_at 15 = .ok (.if_icmp .ne 13, 3) := by decide +kernel
theorem dX11_at_18 : decode cX11_at 18 = .ok (.new 130, 3) := by decide +kernel
theorem dX11_at_21 : decode cX11_at 21 = .ok (.dup, 1) := by decide +kernel
theorem dX11_at_22 : decode cX11_at 22 = .ok (.ldc 181, 2) := by decide +kernel
theorem dX11_at_24 : decode cX11_at 24 = .ok (.invokespecial 134, 3) := by decide +kernel
theorem dX11_at_27 : decode cX11_at 27 = .ok (.athrow, 1) := by decide +kernel
theorem dX11_at_28 : decode cX11_at 28 = .ok (.iload_n 3, 1) := by decide +kernel
theorem dX11_at_29 : decode cX11_at 29 = .ok (.ireturn, 1) := by decide +kernel
theorem dX11_id_0 : decode cX11_id 0 = .ok (.aload_n 0, 1) := by decide +kernel
theorem dX11_id_1 : decode cX11_id 1 = .ok (.getfield 38, 3) := by decide +kernel
theorem dX11_id_4 : decode cX11_id 4 = .ok (.getfield 160, 3) := by decide +kernel
theorem dX11_id_7 : decode cX11_id 7 = .ok (.iload_n 1, 1) := by decide +kernel
theorem dX11_id_8 : decode cX11_id 8 = .ok (.invokevirtual 169, 3) := by decide +kernel
theorem dX11_id_11 : decode cX11_id 11 = .ok (.ifCond .ne 13, 3) := by decide +kernel
theorem dX11_id_14 : decode cX11_id 14 = .ok (.new 130, 3) := by decide +kernel
theorem dX11_id_17 : decode cX11_id 17 = .ok (.dup, 1) := by decide +kernel
theorem dX11_id_18 : decode cX11_id 18 = .ok (.ldc 172, 2) := by decide +kernel
theorem dX11_id_20 : decode cX11_id 20 = .ok (.invokespecial 134, 3) := by decide +kernel
theorem dX11_id_23 : decode cX11_id 23 = .ok (.athrow, 1) := by decide +kernel
theorem dX11_id_24 : decode cX11_id 24 = .ok (.aload_n 0, 1) := by decide +kernel
theorem dX11_id_25 : decode cX11_id 25 = .ok (.getfield 38, 3) := by decide +kernel
theorem dX11_id_28 : decode cX11_id 28 = .ok (.iload_n 1, 1) := by decide +kernel
theorem dX11_id_29 : decode cX11_id 29 = .ok (.invokevirtual 183, 3) := by decide +kernel
theorem dX11_id_32 : decode cX11_id 32 = .ok (.ireturn, 1) := by decide +kernel
theorem dX11_lineOf_0 : decode cX11_lineOf 0 = .ok (.aload_n 0, 1) := by decide +kernel
theorem dX11_lineOf_1 : decode cX11_lineOf 1 = .ok (.getfield 38, 3) := by decide +kernel
theorem dX11_lineOf_4 : decode cX11_lineOf 4 = .ok (.iload_n 1, 1) := by decide +kernel
theorem dX11_lineOf_5 : decode cX11_lineOf 5 = .ok (.invokevirtual 186, 3) := by decide +kernel
theorem dX11_lineOf_8 : decode cX11_lineOf 8 = .ok (.ireturn, 1) := by decide +kernel
theorem dX11_present_0 : decode cX11_present 0 = .ok (.aload_n 0, 1) := by decide +kernel
theorem dX11_present_1 : decode cX11_present 1 = .ok (.getfield 38, 3) := by decide +kernel
theorem dX11_present_4 : decode cX11_present 4 = .ok (.getfield 189, 3) := by decide +kernel
theorem dX11_present_7 : decode cX11_present 7 = .ok (.ireturn, 1) := by decide +kernel
theorem dX11_mark_0 : decode cX11_mark 0 = .ok (.iload_n 1, 1) := by decide +kernel
theorem dX11_mark_1 : decode cX11_mark 1 = .ok (.ifCond .lt 8, 3) := by decide +kernel
theorem dX11_mark_4 : decode cX11_mark 4 = .ok (.iload_n 1, 1) := by decide +kernel
theorem dX11_mark_5 : decode cX11_mark 5 = .ok (.iconst 5, 1) := by decide +kernel
theorem dX11_mark_6 : decode cX11_mark 6 = .ok (.if_icmp .lt 13, 3) := by decide +kernel
theorem dX11_mark_9 : decode cX11_mark 9 = .ok (.new 130, 3) := by decide +kernel
theorem dX11_mark_12 : decode cX11_mark 12 = .ok (.dup, 1) := by decide +kernel
theorem dX11_mark_13 : decode cX11_mark 13 = .ok (.ldc 192, 2) := by decide +kernel
theorem dX11_mark_15 : decode cX11_mark 15 = .ok (.invokespecial 134, 3) := by decide +kernel
theorem dX11_mark_18 : decode cX11_mark 18 = .ok (.athrow, 1) := by decide +kernel
theorem dX11_mark_19 : decode cX11_mark 19 = .ok (.aload_n 0, 1) := by decide +kernel
theorem dX11_mark_20 : decode cX11_mark 20 = .ok (.getfield 38, 3) := by decide +kernel
theorem dX11_mark_23 : decode cX11_mark 23 = .ok (.iload_n 1, 1) := by decide +kernel
theorem dX11_mark_24 : decode cX11_mark 24 = .ok (.invokevirtual 194, 3) := by decide +kernel
theorem dX11_mark_27 : decode cX11_mark 27 = .ok (.ireturn, 1) := by decide +kernel
theorem dX11_sample_0 : decode cX11_sample 0 = .ok (.iload_n 1, 1) := by decide +kernel
theorem dX11_sample_1 : decode cX11_sample 1 = .ok (.ifCond .lt 20, 3) := by decide +kernel
theorem dX11_sample_4 : decode cX11_sample 4 = .ok (.iload_n 1, 1) := by decide +kernel
theorem dX11_sample_5 : decode cX11_sample 5 = .ok (.ldc 197, 2) := by decide +kernel
theorem dX11_sample_7 : decode cX11_sample 7 = .ok (.if_icmp .gt 14, 3) := by decide +kernel
theorem dX11_sample_10 : decode cX11_sample 10 = .ok (.iload_n 2, 1) := by decide +kernel
theorem dX11_sample_11 : decode cX11_sample 11 = .ok (.iconst 1, 1) := by decide +kernel
theorem dX11_sample_12 : decode cX11_sample 12 = .ok (.if_icmp .lt 9, 3) := by decide +kernel
theorem dX11_sample_15 : decode cX11_sample 15 = .ok (.iload_n 2, 1) := by decide +kernel
theorem dX11_sample_16 : decode cX11_sample 16 = .ok (.bipush 20, 2) := by decide +kernel
theorem dX11_sample_18 : decode cX11_sample 18 = .ok (.if_icmp .le 13, 3) := by decide +kernel
theorem dX11_sample_21 : decode cX11_sample 21 = .ok (.new 88, 3) := by decide +kernel
theorem dX11_sample_24 : decode cX11_sample 24 = .ok (.dup, 1) := by decide +kernel
theorem dX11_sample_25 : decode cX11_sample 25 = .ok (.ldc 198, 2) := by decide +kernel
theorem dX11_sample_27 : decode cX11_sample 27 = .ok (.invokespecial 92, 3) := by decide +kernel
theorem dX11_sample_30 : decode cX11_sample 30 = .ok (.athrow, 1) := by decide +kernel
theorem dX11_sample_31 : decode cX11_sample 31 = .ok (.aload_n 0, 1) := by decide +kernel
theorem dX11_sample_32 : decode cX11_sample 32 = .ok (.getfield 38, 3) := by decide +kernel
theorem dX11_sample_35 : decode cX11_sample 35 = .ok (.getfield 160, 3) := by decide +kernel
theorem dX11_sample_38 : decode cX11_sample 38 = .ok (.getfield 164, 3) := by decide +kernel
theorem dX11_sample_41 : decode cX11_sample 41 = .ok (.iload_n 2, 1) := by decide +kernel
theorem dX11_sample_42 : decode cX11_sample 42 = .ok (.iadd, 1) := by decide +kernel
theorem dX11_sample_43 : decode cX11_sample 43 = .ok (.bipush 40, 2) := by decide +kernel
theorem dX11_sample_45 : decode cX11_sample 45 = .ok (.if_icmp .le 13, 3) := by decide +kernel
theorem dX11_sample_48 : decode cX11_sample 48 = .ok (.new 99, 3) := by decide +kernel
theorem dX11_sample_51 : decode cX11_sample 51 = .ok (.dup, 1) := by decide +kernel
theorem dX11_sample_52 : decode cX11_sample 52 = .ok (.ldc 200, 2) := by decide +kernel
theorem dX11_sample_54 : decode cX11_sample 54 = .ok (.invokespecial 103, 3) := by decide +kernel
theorem dX11_sample_57 : decode cX11_sample 57 = .ok (.athrow, 1) := by decide +kernel
theorem dX11_sample_58 : decode cX11_sample 58 = .ok (.aload_n 0, 1) := by decide +kernel
theorem dX11_sample_59 : decode cX11_sample 59 = .ok (.dup, 1) := by decide +kernel
theorem dX11_sample_60 : decode cX11_sample 60 = .ok (.getfield 113, 3) := by decide +kernel
theorem dX11_sample_63 : decode cX11_sample 63 = .ok (.iconst 1, 1) := by decide +kernel
theorem dX11_sample_64 : decode cX11_sample 64 = .ok (.iadd, 1) := by decide +kernel
theorem dX11_sample_65 : decode cX11_sample 65 = .ok (.putfield 113, 3) := by decide +kernel
theorem dX11_sample_68 : decode cX11_sample 68 = .ok (.aload_n 0, 1) := by decide +kernel
theorem dX11_sample_69 : decode cX11_sample 69 = .ok (.getfield 52, 3) := by decide +kernel
theorem dX11_sample_72 : decode cX11_sample 72 = .ok (.aload_n 0, 1) := by decide +kernel
theorem dX11_sample_73 : decode cX11_sample 73 = .ok (.getfield 38, 3) := by decide +kernel
theorem dX11_sample_76 : decode cX11_sample 76 = .ok (.invokevirtual 137, 3) := by decide +kernel
theorem dX11_sample_79 : decode cX11_sample 79 = .ok (.aload_n 0, 1) := by decide +kernel
theorem dX11_sample_80 : decode cX11_sample 80 = .ok (.getfield 38, 3) := by decide +kernel
theorem dX11_sample_83 : decode cX11_sample 83 = .ok (.iload_n 1, 1) := by decide +kernel
theorem dX11_sample_84 : decode cX11_sample 84 = .ok (.iload_n 2, 1) := by decide +kernel
theorem dX11_sample_85 : decode cX11_sample 85 = .ok (.invokevirtual 202, 3) := by decide +kernel
theorem dX11_sample_88 : decode cX11_sample 88 = .ok (.aload_n 0, 1) := by decide +kernel
theorem dX11_sample_89 : decode cX11_sample 89 = .ok (.getfield 52, 3) := by decide +kernel
theorem dX11_sample_92 : decode cX11_sample 92 = .ok (.aload_n 0, 1) := by decide +kernel
theorem dX11_sample_93 : decode cX11_sample 93 = .ok (.getfield 113, 3) := by decide +kernel
theorem dX11_sample_96 : decode cX11_sample 96 = .ok (.invokevirtual 145, 3) := by decide +kernel
theorem dX11_sample_99 : decode cX11_sample 99 = .ok (.aload_n 0, 1) := by decide +kernel
theorem dX11_sample_100 : decode cX11_sample 100 = .ok (.getfield 38, 3) := by decide +kernel
theorem dX11_sample_103 : decode cX11_sample 103 = .ok (.getfield 160, 3) := by decide +kernel
theorem dX11_sample_106 : decode cX11_sample 106 = .ok (.getfield 164, 3) := by decide +kernel
theorem dX11_sample_109 : decode cX11_sample 109 = .ok (.ireturn, 1) := by decide +kernel
theorem dX11_held_0 : decode cX11_held 0 = .ok (.aload_n 0, 1) := by decide +kernel
theorem dX11_held_1 : decode cX11_held 1 = .ok (.getfield 45, 3) := by decide +kernel
theorem dX11_held_4 : decode cX11_held 4 = .ok (.getfield 206, 3) := by decide +kernel
theorem dX11_held_7 : decode cX11_held 7 = .ok (.getfield 164, 3) := by decide +kernel
theorem dX11_held_10 : decode cX11_held 10 = .ok (.ireturn, 1) := by decide +kernel
theorem dX11_heldLength_0 : decode cX11_heldLength 0 = .ok (.aload_n 0, 1) := by decide +kernel
theorem dX11_heldLength_1 : decode cX11_heldLength 1 = .ok (.getfield 45, 3) := by decide +kernel
theorem dX11_heldLength_4 : decode cX11_heldLength 4 = .ok (.getfield 206, 3) := by decide +kernel
theorem dX11_heldLength_7 : decode cX11_heldLength 7 = .ok (.iload_n 1, 1) := by decide +kernel
theorem dX11_heldLength_8 : decode cX11_heldLength 8 = .ok (.invokevirtual 169, 3) := by decide +kernel
theorem dX11_heldLength_11 : decode cX11_heldLength 11 = .ok (.ifCond .ne 13, 3) := by decide +kernel
theorem dX11_heldLength_14 : decode cX11_heldLength 14 = .ok (.new 130, 3) := by decide +kernel
theorem dX11_heldLength_17 : decode cX11_heldLength 17 = .ok (.dup, 1) := by decide +kernel
theorem dX11_heldLength_18 : decode cX11_heldLength 18 = .ok (.ldc 209, 2) := by decide +kernel
theorem dX11_heldLength_20 : decode cX11_heldLength 20 = .ok (.invokespecial 134, 3) := by decide +kernel
theorem dX11_heldLength_23 : decode cX11_heldLength 23 = .ok (.athrow, 1) := by decide +kernel
theorem dX11_heldLength_24 : decode cX11_heldLength 24 = .ok (.aload_n 0, 1) := by decide +kernel
theorem dX11_heldLength_25 : decode cX11_heldLength 25 = .ok (.getfield 45, 3) := by decide +kernel
theorem dX11_heldLength_28 : decode cX11_heldLength 28 = .ok (.getfield 206, 3) := by decide +kernel
theorem dX11_heldLength_31 : decode cX11_heldLength 31 = .ok (.iload_n 1, 1) := by decide +kernel
theorem dX11_heldLength_32 : decode cX11_heldLength 32 = .ok (.invokevirtual 174, 3) := by decide +kernel
theorem dX11_heldLength_35 : decode cX11_heldLength 35 = .ok (.ireturn, 1) := by decide +kernel
theorem dX11_heldAt_0 : decode cX11_heldAt 0 = .ok (.aload_n 0, 1) := by decide +kernel
theorem dX11_heldAt_1 : decode cX11_heldAt 1 = .ok (.getfield 45, 3) := by decide +kernel
theorem dX11_heldAt_4 : decode cX11_heldAt 4 = .ok (.getfield 206, 3) := by decide +kernel
theorem dX11_heldAt_7 : decode cX11_heldAt 7 = .ok (.iload_n 1, 1) := by decide +kernel
theorem dX11_heldAt_8 : decode cX11_heldAt 8 = .ok (.iload_n 2, 1) := by decide +kernel
theorem dX11_heldAt_9 : decode cX11_heldAt 9 = .ok (.invokevirtual 177, 3) := by decide +kernel
theorem dX11_heldAt_12 : decode cX11_heldAt 12 = .ok (.istore_n 3, 1) := by decide +kernel
theorem dX11_heldAt_13 : decode cX11_heldAt 13 = .ok (.iload_n 3, 1) := by decide +kernel
theorem dX11_heldAt_14 : decode cX11_heldAt 14 = .ok (.iconst (-1), 1) := by decide +kernel
theorem dX11_heldAt_15 : decode cX11_heldAt 15 = .ok (.if_icmp .ne 13, 3) := by decide +kernel
theorem dX11_heldAt_18 : decode cX11_heldAt 18 = .ok (.new 130, 3) := by decide +kernel
theorem dX11_heldAt_21 : decode cX11_heldAt 21 = .ok (.dup, 1) := by decide +kernel
theorem dX11_heldAt_22 : decode cX11_heldAt 22 = .ok (.ldc 211, 2) := by decide +kernel
theorem dX11_heldAt_24 : decode cX11_heldAt 24 = .ok (.invokespecial 134, 3) := by decide +kernel
theorem dX11_heldAt_27 : decode cX11_heldAt 27 = .ok (.athrow, 1) := by decide +kernel
theorem dX11_heldAt_28 : decode cX11_heldAt 28 = .ok (.iload_n 3, 1) := by decide +kernel
theorem dX11_heldAt_29 : decode cX11_heldAt 29 = .ok (.ireturn, 1) := by decide +kernel
theorem dX11_outs_0 : decode cX11_outs 0 = .ok (.aload_n 0, 1) := by decide +kernel
theorem dX11_outs_1 : decode cX11_outs 1 = .ok (.getfield 45, 3) := by decide +kernel
theorem dX11_outs_4 : decode cX11_outs 4 = .ok (.getfield 213, 3) := by decide +kernel
theorem dX11_outs_7 : decode cX11_outs 7 = .ok (.getfield 164, 3) := by decide +kernel
theorem dX11_outs_10 : decode cX11_outs 10 = .ok (.ireturn, 1) := by decide +kernel
theorem dX11_outLength_0 : decode cX11_outLength 0 = .ok (.aload_n 0, 1) := by decide +kernel
theorem dX11_outLength_1 : decode cX11_outLength 1 = .ok (.getfield 45, 3) := by decide +kernel
theorem dX11_outLength_4 : decode cX11_outLength 4 = .ok (.getfield 213, 3) := by decide +kernel
theorem dX11_outLength_7 : decode cX11_outLength 7 = .ok (.iload_n 1, 1) := by decide +kernel
theorem dX11_outLength_8 : decode cX11_outLength 8 = .ok (.invokevirtual 169, 3) := by decide +kernel
theorem dX11_outLength_11 : decode cX11_outLength 11 = .ok (.ifCond .ne 13, 3) := by decide +kernel
theorem dX11_outLength_14 : decode cX11_outLength 14 = .ok (.new 130, 3) := by decide +kernel
theorem dX11_outLength_17 : decode cX11_outLength 17 = .ok (.dup, 1) := by decide +kernel
theorem dX11_outLength_18 : decode cX11_outLength 18 = .ok (.ldc 216, 2) := by decide +kernel
theorem dX11_outLength_20 : decode cX11_outLength 20 = .ok (.invokespecial 134, 3) := by decide +kernel
theorem dX11_outLength_23 : decode cX11_outLength 23 = .ok (.athrow, 1) := by decide +kernel
theorem dX11_outLength_24 : decode cX11_outLength 24 = .ok (.aload_n 0, 1) := by decide +kernel
theorem dX11_outLength_25 : decode cX11_outLength 25 = .ok (.getfield 45, 3) := by decide +kernel
theorem dX11_outLength_28 : decode cX11_outLength 28 = .ok (.getfield 213, 3) := by decide +kernel
theorem dX11_outLength_31 : decode cX11_outLength 31 = .ok (.iload_n 1, 1) := by decide +kernel
theorem dX11_outLength_32 : decode cX11_outLength 32 = .ok (.invokevirtual 174, 3) := by decide +kernel
theorem dX11_outLength_35 : decode cX11_outLength 35 = .ok (.ireturn, 1) := by decide +kernel
theorem dX11_outAt_0 : decode cX11_outAt 0 = .ok (.aload_n 0, 1) := by decide +kernel
theorem dX11_outAt_1 : decode cX11_outAt 1 = .ok (.getfield 45, 3) := by decide +kernel
theorem dX11_outAt_4 : decode cX11_outAt 4 = .ok (.getfield 213, 3) := by decide +kernel
theorem dX11_outAt_7 : decode cX11_outAt 7 = .ok (.iload_n 1, 1) := by decide +kernel
theorem dX11_outAt_8 : decode cX11_outAt 8 = .ok (.iload_n 2, 1) := by decide +kernel
theorem dX11_outAt_9 : decode cX11_outAt 9 = .ok (.invokevirtual 177, 3) := by decide +kernel
theorem dX11_outAt_12 : decode cX11_outAt 12 = .ok (.istore_n 3, 1) := by decide +kernel
theorem dX11_outAt_13 : decode cX11_outAt 13 = .ok (.iload_n 3, 1) := by decide +kernel
theorem dX11_outAt_14 : decode cX11_outAt 14 = .ok (.iconst (-1), 1) := by decide +kernel
theorem dX11_outAt_15 : decode cX11_outAt 15 = .ok (.if_icmp .ne 13, 3) := by decide +kernel
theorem dX11_outAt_18 : decode cX11_outAt 18 = .ok (.new 130, 3) := by decide +kernel
theorem dX11_outAt_21 : decode cX11_outAt 21 = .ok (.dup, 1) := by decide +kernel
theorem dX11_outAt_22 : decode cX11_outAt 22 = .ok (.ldc 211, 2) := by decide +kernel
theorem dX11_outAt_24 : decode cX11_outAt 24 = .ok (.invokespecial 134, 3) := by decide +kernel
theorem dX11_outAt_27 : decode cX11_outAt 27 = .ok (.athrow, 1) := by decide +kernel
theorem dX11_outAt_28 : decode cX11_outAt 28 = .ok (.iload_n 3, 1) := by decide +kernel
theorem dX11_outAt_29 : decode cX11_outAt 29 = .ok (.ireturn, 1) := by decide +kernel
theorem dX11_clearOut_0 : decode cX11_clearOut 0 = .ok (.aload_n 0, 1) := by decide +kernel
theorem dX11_clearOut_1 : decode cX11_clearOut 1 = .ok (.getfield 45, 3) := by decide +kernel
theorem dX11_clearOut_4 : decode cX11_clearOut 4 = .ok (.getfield 213, 3) := by decide +kernel
theorem dX11_clearOut_7 : decode cX11_clearOut 7 = .ok (.getfield 164, 3) := by decide +kernel
theorem dX11_clearOut_10 : decode cX11_clearOut 10 = .ok (.istore_n 1, 1) := by decide +kernel
theorem dX11_clearOut_11 : decode cX11_clearOut 11 = .ok (.aload_n 0, 1) := by decide +kernel
theorem dX11_clearOut_12 : decode cX11_clearOut 12 = .ok (.getfield 45, 3) := by decide +kernel
theorem dX11_clearOut_15 : decode cX11_clearOut 15 = .ok (.getfield 213, 3) := by decide +kernel
theorem dX11_clearOut_18 : decode cX11_clearOut 18 = .ok (.iconst 0, 1) := by decide +kernel
theorem dX11_clearOut_19 : decode cX11_clearOut 19 = .ok (.invokevirtual 218, 3) := by decide +kernel
theorem dX11_clearOut_22 : decode cX11_clearOut 22 = .ok (.iload_n 1, 1) := by decide +kernel
theorem dX11_clearOut_23 : decode cX11_clearOut 23 = .ok (.ireturn, 1) := by decide +kernel
theorem dX11_fileRows_0 : decode cX11_fileRows 0 = .ok (.aload_n 0, 1) := by decide +kernel
theorem dX11_fileRows_1 : decode cX11_fileRows 1 = .ok (.getfield 45, 3) := by decide +kernel
theorem dX11_fileRows_4 : decode cX11_fileRows 4 = .ok (.iload_n 1, 1) := by decide +kernel
theorem dX11_fileRows_5 : decode cX11_fileRows 5 = .ok (.invokevirtual 221, 3) := by decide +kernel
theorem dX11_fileRows_8 : decode cX11_fileRows 8 = .ok (.astore_n 2, 1) := by decide +kernel
theorem dX11_fileRows_9 : decode cX11_fileRows 9 = .ok (.aload_n 2, 1) := by decide +kernel
theorem dX11_fileRows_10 : decode cX11_fileRows 10 = .ok (.ifnonnull 13, 3) := by decide +kernel
theorem dX11_fileRows_13 : decode cX11_fileRows 13 = .ok (.new 130, 3) := by decide +kernel
theorem dX11_fileRows_16 : decode cX11_fileRows 16 = .ok (.dup, 1) := by decide +kernel
theorem dX11_fileRows_17 : decode cX11_fileRows 17 = .ok (.ldc 225, 2) := by decide +kernel
theorem dX11_fileRows_19 : decode cX11_fileRows 19 = .ok (.invokespecial 134, 3) := by decide +kernel
theorem dX11_fileRows_22 : decode cX11_fileRows 22 = .ok (.athrow, 1) := by decide +kernel
theorem dX11_fileRows_23 : decode cX11_fileRows 23 = .ok (.aload_n 2, 1) := by decide +kernel
theorem dX11_fileRows_24 : decode cX11_fileRows 24 = .ok (.getfield 164, 3) := by decide +kernel
theorem dX11_fileRows_27 : decode cX11_fileRows 27 = .ok (.ireturn, 1) := by decide +kernel
theorem dX11_fileLength_0 : decode cX11_fileLength 0 = .ok (.aload_n 0, 1) := by decide +kernel
theorem dX11_fileLength_1 : decode cX11_fileLength 1 = .ok (.getfield 45, 3) := by decide +kernel
theorem dX11_fileLength_4 : decode cX11_fileLength 4 = .ok (.iload_n 1, 1) := by decide +kernel
theorem dX11_fileLength_5 : decode cX11_fileLength 5 = .ok (.invokevirtual 221, 3) := by decide +kernel
theorem dX11_fileLength_8 : decode cX11_fileLength 8 = .ok (.astore_n 3, 1) := by decide +kernel
theorem dX11_fileLength_9 : decode cX11_fileLength 9 = .ok (.aload_n 3, 1) := by decide +kernel
theorem dX11_fileLength_10 : decode cX11_fileLength 10 = .ok (.ifnull 11, 3) := by decide +kernel
theorem dX11_fileLength_13 : decode cX11_fileLength 13 = .ok (.aload_n 3, 1) := by decide +kernel
theorem dX11_fileLength_14 : decode cX11_fileLength 14 = .ok (.iload_n 2, 1) := by decide +kernel
theorem dX11_fileLength_15 : decode cX11_fileLength 15 = .ok (.invokevirtual 169, 3) := by decide +kernel
theorem dX11_fileLength_18 : decode cX11_fileLength 18 = .ok (.ifCond .ne 13, 3) := by decide +kernel
theorem dX11_fileLength_21 : decode cX11_fileLength 21 = .ok (.new 130, 3) := by decide +kernel
theorem dX11_fileLength_24 : decode cX11_fileLength 24 = .ok (.dup, 1) := by decide +kernel
theorem dX11_fileLength_25 : decode cX11_fileLength 25 = .ok (.ldc 227, 2) := by decide +kernel
theorem dX11_fileLength_27 : decode cX11_fileLength 27 = .ok (.invokespecial 134, 3) := by decide +kernel
theorem dX11_fileLength_30 : decode cX11_fileLength 30 = .ok (.athrow, 1) := by decide +kernel
theorem dX11_fileLength_31 : decode cX11_fileLength 31 = .ok (.aload_n 3, 1) := by decide +kernel
theorem dX11_fileLength_32 : decode cX11_fileLength 32 = .ok (.iload_n 2, 1) := by decide +kernel
theorem dX11_fileLength_33 : decode cX11_fileLength 33 = .ok (.invokevirtual 174, 3) := by decide +kernel
theorem dX11_fileLength_36 : decode cX11_fileLength 36 = .ok (.ireturn, 1) := by decide +kernel
theorem dX11_fileAt_0 : decode cX11_fileAt 0 = .ok (.aload_n 0, 1) := by decide +kernel
theorem dX11_fileAt_1 : decode cX11_fileAt 1 = .ok (.getfield 45, 3) := by decide +kernel
theorem dX11_fileAt_4 : decode cX11_fileAt 4 = .ok (.iload_n 1, 1) := by decide +kernel
theorem dX11_fileAt_5 : decode cX11_fileAt 5 = .ok (.invokevirtual 221, 3) := by decide +kernel
theorem dX11_fileAt_8 : decode cX11_fileAt 8 = .ok (.astore 4, 2) := by decide +kernel
theorem dX11_fileAt_10 : decode cX11_fileAt 10 = .ok (.aload 4, 2) := by decide +kernel
theorem dX11_fileAt_12 : decode cX11_fileAt 12 = .ok (.ifnull 14, 3) := by decide +kernel
theorem dX11_fileAt_15 : decode cX11_fileAt 15 = .ok (.aload 4, 2) := by decide +kernel
theorem dX11_fileAt_17 : decode cX11_fileAt 17 = .ok (.iload_n 2, 1) := by decide +kernel
theorem dX11_fileAt_18 : decode cX11_fileAt 18 = .ok (.iload_n 3, 1) := by decide +kernel
theorem dX11_fileAt_19 : decode cX11_fileAt 19 = .ok (.invokevirtual 177, 3) := by decide +kernel
theorem dX11_fileAt_22 : decode cX11_fileAt 22 = .ok (.iconst (-1), 1) := by decide +kernel
theorem dX11_fileAt_23 : decode cX11_fileAt 23 = .ok (.if_icmp .ne 13, 3) := by decide +kernel
theorem dX11_fileAt_26 : decode cX11_fileAt 26 = .ok (.new 130, 3) := by decide +kernel
theorem dX11_fileAt_29 : decode cX11_fileAt 29 = .ok (.dup, 1) := by decide +kernel
theorem dX11_fileAt_30 : decode cX11_fileAt 30 = .ok (.ldc 229, 2) := by decide +kernel
theorem dX11_fileAt_32 : decode cX11_fileAt 32 = .ok (.invokespecial 134, 3) := by decide +kernel
theorem dX11_fileAt_35 : decode cX11_fileAt 35 = .ok (.athrow, 1) := by decide +kernel
theorem dX11_fileAt_36 : decode cX11_fileAt 36 = .ok (.aload 4, 2) := by decide +kernel
theorem dX11_fileAt_38 : decode cX11_fileAt 38 = .ok (.iload_n 2, 1) := by decide +kernel
theorem dX11_fileAt_39 : decode cX11_fileAt 39 = .ok (.iload_n 3, 1) := by decide +kernel
theorem dX11_fileAt_40 : decode cX11_fileAt 40 = .ok (.invokevirtual 177, 3) := by decide +kernel
theorem dX11_fileAt_43 : decode cX11_fileAt 43 = .ok (.ireturn, 1) := by decide +kernel
theorem dX11_find_0 : decode cX11_find 0 = .ok (.aload_n 0, 1) := by decide +kernel
theorem dX11_find_1 : decode cX11_find 1 = .ok (.getfield 31, 3) := by decide +kernel
theorem dX11_find_4 : decode cX11_find 4 = .ok (.aload_n 0, 1) := by decide +kernel
theorem dX11_find_5 : decode cX11_find 5 = .ok (.getfield 9, 3) := by decide +kernel
theorem dX11_find_8 : decode cX11_find 8 = .ok (.aload_n 0, 1) := by decide +kernel
theorem dX11_find_9 : decode cX11_find 9 = .ok (.getfield 95, 3) := by decide +kernel
theorem dX11_find_12 : decode cX11_find 12 = .ok (.invokevirtual 108, 3) := by decide +kernel
theorem dX11_find_15 : decode cX11_find 15 = .ok (.iconst (-1), 1) := by decide +kernel
theorem dX11_find_16 : decode cX11_find 16 = .ok (.if_icmp .eq 13, 3) := by decide +kernel
theorem dX11_find_19 : decode cX11_find 19 = .ok (.new 99, 3) := by decide +kernel
theorem dX11_find_22 : decode cX11_find 22 = .ok (.dup, 1) := by decide +kernel
theorem dX11_find_23 : decode cX11_find 23 = .ok (.ldc 111, 2) := by decide +kernel
theorem dX11_find_25 : decode cX11_find 25 = .ok (.invokespecial 103, 3) := by decide +kernel
theorem dX11_find_28 : decode cX11_find 28 = .ok (.athrow, 1) := by decide +kernel
theorem dX11_find_29 : decode cX11_find 29 = .ok (.aload_n 0, 1) := by decide +kernel
theorem dX11_find_30 : decode cX11_find 30 = .ok (.getfield 61, 3) := by decide +kernel
theorem dX11_find_33 : decode cX11_find 33 = .ok (.aload_n 0, 1) := by decide +kernel
theorem dX11_find_34 : decode cX11_find 34 = .ok (.getfield 38, 3) := by decide +kernel
theorem dX11_find_37 : decode cX11_find 37 = .ok (.iconst 0, 1) := by decide +kernel
theorem dX11_find_38 : decode cX11_find 38 = .ok (.iload_n 1, 1) := by decide +kernel
theorem dX11_find_39 : decode cX11_find 39 = .ok (.invokevirtual 231, 3) := by decide +kernel
theorem dX11_find_42 : decode cX11_find 42 = .ok (.ireturn, 1) := by decide +kernel
theorem dX11_findStart_0 : decode cX11_findStart 0 = .ok (.aload_n 0, 1) := by decide +kernel
theorem dX11_findStart_1 : decode cX11_findStart 1 = .ok (.getfield 38, 3) := by decide +kernel
theorem dX11_findStart_4 : decode cX11_findStart 4 = .ok (.getfield 160, 3) := by decide +kernel
theorem dX11_findStart_7 : decode cX11_findStart 7 = .ok (.iload_n 1, 1) := by decide +kernel
theorem dX11_findStart_8 : decode cX11_findStart 8 = .ok (.invokevirtual 169, 3) := by decide +kernel
theorem dX11_findStart_11 : decode cX11_findStart 11 = .ok (.ifCond .ne 13, 3) := by decide +kernel
theorem dX11_findStart_14 : decode cX11_findStart 14 = .ok (.new 130, 3) := by decide +kernel
theorem dX11_findStart_17 : decode cX11_findStart 17 = .ok (.dup, 1) := by decide +kernel
theorem dX11_findStart_18 : decode cX11_findStart 18 = .ok (.ldc 172, 2) := by decide +kernel
theorem dX11_findStart_20 : decode cX11_findStart 20 = .ok (.invokespecial 134, 3) := by decide +kernel
theorem dX11_findStart_23 : decode cX11_findStart 23 = .ok (.athrow, 1) := by decide +kernel
theorem dX11_findStart_24 : decode cX11_findStart 24 = .ok (.aload_n 0, 1) := by decide +kernel
theorem dX11_findStart_25 : decode cX11_findStart 25 = .ok (.getfield 31, 3) := by decide +kernel
theorem dX11_findStart_28 : decode cX11_findStart 28 = .ok (.aload_n 0, 1) := by decide +kernel
theorem dX11_findStart_29 : decode cX11_findStart 29 = .ok (.getfield 9, 3) := by decide +kernel
theorem dX11_findStart_32 : decode cX11_findStart 32 = .ok (.aload_n 0, 1) := by decide +kernel
theorem dX11_findStart_33 : decode cX11_findStart 33 = .ok (.getfield 95, 3) := by decide +kernel
theorem dX11_findStart_36 : decode cX11_findStart 36 = .ok (.invokevirtual 108, 3) := by decide +kernel
theorem dX11_findStart_39 : decode cX11_findStart 39 = .ok (.iconst (-1), 1) := by decide +kernel
theorem dX11_findStart_40 : decode cX11_findStart 40 = .ok (.if_icmp .eq 13, 3) := by decide +kernel
theorem dX11_findStart_43 : decode cX11_findStart 43 = .ok (.new 99, 3) := by decide +kernel
theorem dX11_findStart_46 : decode cX11_findStart 46 = .ok (.dup, 1) := by decide +kernel
theorem dX11_findStart_47 : decode cX11_findStart 47 = .ok (.ldc 111, 2) := by decide +kernel
theorem dX11_findStart_49 : decode cX11_findStart 49 = .ok (.invokespecial 103, 3) := by decide +kernel
theorem dX11_findStart_52 : decode cX11_findStart 52 = .ok (.athrow, 1) := by decide +kernel
theorem dX11_findStart_53 : decode cX11_findStart 53 = .ok (.aload_n 0, 1) := by decide +kernel
theorem dX11_findStart_54 : decode cX11_findStart 54 = .ok (.getfield 61, 3) := by decide +kernel
theorem dX11_findStart_57 : decode cX11_findStart 57 = .ok (.aload_n 0, 1) := by decide +kernel
theorem dX11_findStart_58 : decode cX11_findStart 58 = .ok (.getfield 38, 3) := by decide +kernel
theorem dX11_findStart_61 : decode cX11_findStart 61 = .ok (.getfield 160, 3) := by decide +kernel
theorem dX11_findStart_64 : decode cX11_findStart 64 = .ok (.iload_n 1, 1) := by decide +kernel
theorem dX11_findStart_65 : decode cX11_findStart 65 = .ok (.iconst 0, 1) := by decide +kernel
theorem dX11_findStart_66 : decode cX11_findStart 66 = .ok (.invokevirtual 235, 3) := by decide +kernel
theorem dX11_findStart_69 : decode cX11_findStart 69 = .ok (.ifCond .eq 13, 3) := by decide +kernel
theorem dX11_findStart_72 : decode cX11_findStart 72 = .ok (.aload_n 0, 1) := by decide +kernel
theorem dX11_findStart_73 : decode cX11_findStart 73 = .ok (.getfield 61, 3) := by decide +kernel
theorem dX11_findStart_76 : decode cX11_findStart 76 = .ok (.getfield 239, 3) := by decide +kernel
theorem dX11_findStart_79 : decode cX11_findStart 79 = .ok (.goto 4, 3) := by decide +kernel
theorem dX11_findStart_82 : decode cX11_findStart 82 = .ok (.iconst (-1), 1) := by decide +kernel
theorem dX11_findStart_83 : decode cX11_findStart 83 = .ok (.ireturn, 1) := by decide +kernel
theorem dX11_findEnd_0 : decode cX11_findEnd 0 = .ok (.aload_n 0, 1) := by decide +kernel
theorem dX11_findEnd_1 : decode cX11_findEnd 1 = .ok (.getfield 38, 3) := by decide +kernel
theorem dX11_findEnd_4 : decode cX11_findEnd 4 = .ok (.getfield 160, 3) := by decide +kernel
theorem dX11_findEnd_7 : decode cX11_findEnd 7 = .ok (.iload_n 1, 1) := by decide +kernel
theorem dX11_findEnd_8 : decode cX11_findEnd 8 = .ok (.invokevirtual 169, 3) := by decide +kernel
theorem dX11_findEnd_11 : decode cX11_findEnd 11 = .ok (.ifCond .ne 13, 3) := by decide +kernel
theorem dX11_findEnd_14 : decode cX11_findEnd 14 = .ok (.new 130, 3) := by decide +kernel
theorem dX11_findEnd_17 : decode cX11_findEnd 17 = .ok (.dup, 1) := by decide +kernel
theorem dX11_findEnd_18 : decode cX11_findEnd 18 = .ok (.ldc 172, 2) := by decide +kernel
theorem dX11_findEnd_20 : decode cX11_findEnd 20 = .ok (.invokespecial 134, 3) := by decide +kernel
theorem dX11_findEnd_23 : decode cX11_findEnd 23 = .ok (.athrow, 1) := by decide +kernel
theorem dX11_findEnd_24 : decode cX11_findEnd 24 = .ok (.aload_n 0, 1) := by decide +kernel
theorem dX11_findEnd_25 : decode cX11_findEnd 25 = .ok (.getfield 31, 3) := by decide +kernel
theorem dX11_findEnd_28 : decode cX11_findEnd 28 = .ok (.aload_n 0, 1) := by decide +kernel
theorem dX11_findEnd_29 : decode cX11_findEnd 29 = .ok (.getfield 9, 3) := by decide +kernel
theorem dX11_findEnd_32 : decode cX11_findEnd 32 = .ok (.aload_n 0, 1) := by decide +kernel
theorem dX11_findEnd_33 : decode cX11_findEnd 33 = .ok (.getfield 95, 3) := by decide +kernel
theorem dX11_findEnd_36 : decode cX11_findEnd 36 = .ok (.invokevirtual 108, 3) := by decide +kernel
theorem dX11_findEnd_39 : decode cX11_findEnd 39 = .ok (.iconst (-1), 1) := by decide +kernel
theorem dX11_findEnd_40 : decode cX11_findEnd 40 = .ok (.if_icmp .eq 13, 3) := by decide +kernel
theorem dX11_findEnd_43 : decode cX11_findEnd 43 = .ok (.new 99, 3) := by decide +kernel
theorem dX11_findEnd_46 : decode cX11_findEnd 46 = .ok (.dup, 1) := by decide +kernel
theorem dX11_findEnd_47 : decode cX11_findEnd 47 = .ok (.ldc 111, 2) := by decide +kernel
theorem dX11_findEnd_49 : decode cX11_findEnd 49 = .ok (.invokespecial 103, 3) := by decide +kernel
theorem dX11_findEnd_52 : decode cX11_findEnd 52 = .ok (.athrow, 1) := by decide +kernel
theorem dX11_findEnd_53 : decode cX11_findEnd 53 = .ok (.aload_n 0, 1) := by decide +kernel
theorem dX11_findEnd_54 : decode cX11_findEnd 54 = .ok (.getfield 61, 3) := by decide +kernel
theorem dX11_findEnd_57 : decode cX11_findEnd 57 = .ok (.aload_n 0, 1) := by decide +kernel
theorem dX11_findEnd_58 : decode cX11_findEnd 58 = .ok (.getfield 38, 3) := by decide +kernel
theorem dX11_findEnd_61 : decode cX11_findEnd 61 = .ok (.getfield 160, 3) := by decide +kernel
theorem dX11_findEnd_64 : decode cX11_findEnd 64 = .ok (.iload_n 1, 1) := by decide +kernel
theorem dX11_findEnd_65 : decode cX11_findEnd 65 = .ok (.iconst 0, 1) := by decide +kernel
theorem dX11_findEnd_66 : decode cX11_findEnd 66 = .ok (.invokevirtual 235, 3) := by decide +kernel
theorem dX11_findEnd_69 : decode cX11_findEnd 69 = .ok (.ifCond .eq 13, 3) := by decide +kernel
theorem dX11_findEnd_72 : decode cX11_findEnd 72 = .ok (.aload_n 0, 1) := by decide +kernel
theorem dX11_findEnd_73 : decode cX11_findEnd 73 = .ok (.getfield 61, 3) := by decide +kernel
theorem dX11_findEnd_76 : decode cX11_findEnd 76 = .ok (.getfield 242, 3) := by decide +kernel
theorem dX11_findEnd_79 : decode cX11_findEnd 79 = .ok (.goto 4, 3) := by decide +kernel
theorem dX11_findEnd_82 : decode cX11_findEnd 82 = .ok (.iconst (-1), 1) := by decide +kernel
theorem dX11_findEnd_83 : decode cX11_findEnd 83 = .ok (.ireturn, 1) := by decide +kernel
theorem dX11_differ_0 : decode cX11_differ 0 = .ok (.aload_n 0, 1) := by decide +kernel
theorem dX11_differ_1 : decode cX11_differ 1 = .ok (.getfield 45, 3) := by decide +kernel
theorem dX11_differ_4 : decode cX11_differ 4 = .ok (.iload_n 1, 1) := by decide +kernel
theorem dX11_differ_5 : decode cX11_differ 5 = .ok (.invokevirtual 221, 3) := by decide +kernel
theorem dX11_differ_8 : decode cX11_differ 8 = .ok (.astore_n 2, 1) := by decide +kernel
theorem dX11_differ_9 : decode cX11_differ 9 = .ok (.aload_n 2, 1) := by decide +kernel
theorem dX11_differ_10 : decode cX11_differ 10 = .ok (.ifnonnull 13, 3) := by decide +kernel
theorem dX11_differ_13 : decode cX11_differ 13 = .ok (.new 130, 3) := by decide +kernel
theorem dX11_differ_16 : decode cX11_differ 16 = .ok (.dup, 1) := by decide +kernel
theorem dX11_differ_17 : decode cX11_differ 17 = .ok (.ldc 225, 2) := by decide +kernel
theorem dX11_differ_19 : decode cX11_differ 19 = .ok (.invokespecial 134, 3) := by decide +kernel
theorem dX11_differ_22 : decode cX11_differ 22 = .ok (.athrow, 1) := by decide +kernel
theorem dX11_differ_23 : decode cX11_differ 23 = .ok (.aload_n 0, 1) := by decide +kernel
theorem dX11_differ_24 : decode cX11_differ 24 = .ok (.getfield 38, 3) := by decide +kernel
theorem dX11_differ_27 : decode cX11_differ 27 = .ok (.getfield 160, 3) := by decide +kernel
theorem dX11_differ_30 : decode cX11_differ 30 = .ok (.getfield 164, 3) := by decide +kernel
theorem dX11_differ_33 : decode cX11_differ 33 = .ok (.aload_n 2, 1) := by decide +kernel
theorem dX11_differ_34 : decode cX11_differ 34 = .ok (.getfield 164, 3) := by decide +kernel
theorem dX11_differ_37 : decode cX11_differ 37 = .ok (.iadd, 1) := by decide +kernel
theorem dX11_differ_38 : decode cX11_differ 38 = .ok (.iconst 2, 1) := by decide +kernel
theorem dX11_differ_39 : decode cX11_differ 39 = .ok (.aload_n 0, 1) := by decide +kernel
theorem dX11_differ_40 : decode cX11_differ 40 = .ok (.aload_n 2, 1) := by decide +kernel
theorem dX11_differ_41 : decode cX11_differ 41 = .ok (.invokevirtual 245, 3) := by decide +kernel
theorem dX11_differ_44 : decode cX11_differ 44 = .ok (.imul, 1) := by decide +kernel
theorem dX11_differ_45 : decode cX11_differ 45 = .ok (.isub, 1) := by decide +kernel
theorem dX11_differ_46 : decode cX11_differ 46 = .ok (.ireturn, 1) := by decide +kernel
theorem dX11_pairOf_0 : decode cX11_pairOf 0 = .ok (.aload_n 0, 1) := by decide +kernel
theorem dX11_pairOf_1 : decode cX11_pairOf 1 = .ok (.getfield 45, 3) := by decide +kernel
theorem dX11_pairOf_4 : decode cX11_pairOf 4 = .ok (.iload_n 1, 1) := by decide +kernel
theorem dX11_pairOf_5 : decode cX11_pairOf 5 = .ok (.invokevirtual 221, 3) := by decide +kernel
theorem dX11_pairOf_8 : decode cX11_pairOf 8 = .ok (.astore_n 3, 1) := by decide +kernel
theorem dX11_pairOf_9 : decode cX11_pairOf 9 = .ok (.aload_n 3, 1) := by decide +kernel
theorem dX11_pairOf_10 : decode cX11_pairOf 10 = .ok (.ifnull 17, 3) := by decide +kernel
theorem dX11_pairOf_13 : decode cX11_pairOf 13 = .ok (.aload_n 0, 1) := by decide +kernel
theorem dX11_pairOf_14 : decode cX11_pairOf 14 = .ok (.getfield 38, 3) := by decide +kernel
theorem dX11_pairOf_17 : decode cX11_pairOf 17 = .ok (.getfield 160, 3) := by decide +kernel
theorem dX11_pairOf_20 : decode cX11_pairOf 20 = .ok (.iload_n 2, 1) := by decide +kernel
theorem dX11_pairOf_21 : decode cX11_pairOf 21 = .ok (.invokevirtual 169, 3) := by decide +kernel
theorem dX11_pairOf_24 : decode cX11_pairOf 24 = .ok (.ifCond .ne 13, 3) := by decide +kernel
theorem dX11_pairOf_27 : decode cX11_pairOf 27 = .ok (.new 130, 3) := by decide +kernel
theorem dX11_pairOf_30 : decode cX11_pairOf 30 = .ok (.dup, 1) := by decide +kernel
theorem dX11_pairOf_31 : decode cX11_pairOf 31 = .ok (.ldc 249, 2) := by decide +kernel
theorem dX11_pairOf_33 : decode cX11_pairOf 33 = .ok (.invokespecial 134, 3) := by decide +kernel
theorem dX11_pairOf_36 : decode cX11_pairOf 36 = .ok (.athrow, 1) := by decide +kernel
theorem dX11_pairOf_37 : decode cX11_pairOf 37 = .ok (.aload_n 0, 1) := by decide +kernel
theorem dX11_pairOf_38 : decode cX11_pairOf 38 = .ok (.aload_n 3, 1) := by decide +kernel
theorem dX11_pairOf_39 : decode cX11_pairOf 39 = .ok (.invokevirtual 245, 3) := by decide +kernel
theorem dX11_pairOf_42 : decode cX11_pairOf 42 = .ok (.pop, 1) := by decide +kernel
theorem dX11_pairOf_43 : decode cX11_pairOf 43 = .ok (.iload_n 2, 1) := by decide +kernel
theorem dX11_pairOf_44 : decode cX11_pairOf 44 = .ok (.iconst 1, 1) := by decide +kernel
theorem dX11_pairOf_45 : decode cX11_pairOf 45 = .ok (.if_icmp .lt 23, 3) := by decide +kernel
theorem dX11_pairOf_48 : decode cX11_pairOf 48 = .ok (.iload_n 2, 1) := by decide +kernel
theorem dX11_pairOf_49 : decode cX11_pairOf 49 = .ok (.aload_n 0, 1) := by decide +kernel
theorem dX11_pairOf_50 : decode cX11_pairOf 50 = .ok (.getfield 25, 3) := by decide +kernel
theorem dX11_pairOf_53 : decode cX11_pairOf 53 = .ok (.arraylength, 1) := by decide +kernel
theorem dX11_pairOf_54 : decode cX11_pairOf 54 = .ok (.if_icmp .gt 14, 3) := by decide +kernel
theorem dX11_pairOf_57 : decode cX11_pairOf 57 = .ok (.aload_n 0, 1) := by decide +kernel
theorem dX11_pairOf_58 : decode cX11_pairOf 58 = .ok (.getfield 25, 3) := by decide +kernel
theorem dX11_pairOf_61 : decode cX11_pairOf 61 = .ok (.iload_n 2, 1) := by decide +kernel
theorem dX11_pairOf_62 : decode cX11_pairOf 62 = .ok (.iconst 1, 1) := by decide +kernel
theorem dX11_pairOf_63 : decode cX11_pairOf 63 = .ok (.isub, 1) := by decide +kernel
theorem dX11_pairOf_64 : decode cX11_pairOf 64 = .ok (.iaload, 1) := by decide +kernel
theorem dX11_pairOf_65 : decode cX11_pairOf 65 = .ok (.goto 4, 3) := by decide +kernel
theorem dX11_pairOf_68 : decode cX11_pairOf 68 = .ok (.iconst (-1), 1) := by decide +kernel
theorem dX11_pairOf_69 : decode cX11_pairOf 69 = .ok (.ireturn, 1) := by decide +kernel
theorem dX11_isSound_0 : decode cX11_isSound 0 = .ok (.aload_n 0, 1) := by decide +kernel
theorem dX11_isSound_1 : decode cX11_isSound 1 = .ok (.getfield 38, 3) := by decide +kernel
theorem dX11_isSound_4 : decode cX11_isSound 4 = .ok (.invokevirtual 251, 3) := by decide +kernel
theorem dX11_isSound_7 : decode cX11_isSound 7 = .ok (.ifCond .eq 17, 3) := by decide +kernel
theorem dX11_isSound_10 : decode cX11_isSound 10 = .ok (.aload_n 0, 1) := by decide +kernel
theorem dX11_isSound_11 : decode cX11_isSound 11 = .ok (.getfield 45, 3) := by decide +kernel
theorem dX11_isSound_14 : decode cX11_isSound 14 = .ok (.invokevirtual 255, 3) := by decide +kernel
theorem dX11_isSound_17 : decode cX11_isSound 17 = .ok (.ifCond .eq 7, 3) := by decide +kernel
theorem dX11_isSound_20 : decode cX11_isSound 20 = .ok (.iconst 1, 1) := by decide +kernel
theorem dX11_isSound_21 : decode cX11_isSound 21 = .ok (.goto 4, 3) := by decide +kernel
theorem dX11_isSound_24 : decode cX11_isSound 24 = .ok (.iconst 0, 1) := by decide +kernel
theorem dX11_isSound_25 : decode cX11_isSound 25 = .ok (.ireturn, 1) := by decide +kernel
theorem dX11_isNoScript_0 : decode cX11_isNoScript 0 = .ok (.iload_n 1, 1) := by decide +kernel
theorem dX11_isNoScript_1 : decode cX11_isNoScript 1 = .ok (.ifCond .lt 8, 3) := by decide +kernel
theorem dX11_isNoScript_4 : decode cX11_isNoScript 4 = .ok (.iload_n 1, 1) := by decide +kernel
theorem dX11_isNoScript_5 : decode cX11_isNoScript 5 = .ok (.iconst 4, 1) := by decide +kernel
theorem dX11_isNoScript_6 : decode cX11_isNoScript 6 = .ok (.if_icmp .lt 7, 3) := by decide +kernel
theorem dX11_isNoScript_9 : decode cX11_isNoScript 9 = .ok (.iconst 1, 1) := by decide +kernel
theorem dX11_isNoScript_10 : decode cX11_isNoScript 10 = .ok (.goto 4, 3) := by decide +kernel
theorem dX11_isNoScript_13 : decode cX11_isNoScript 13 = .ok (.iconst 0, 1) := by decide +kernel
theorem dX11_isNoScript_14 : decode cX11_isNoScript 14 = .ok (.ireturn, 1) := by decide +kernel
theorem dX11_pairUp_0 : decode cX11_pairUp 0 = .ok (.aload_n 0, 1) := by decide +kernel
theorem dX11_pairUp_1 : decode cX11_pairUp 1 = .ok (.aload_n 1, 1) := by decide +kernel
theorem dX11_pairUp_2 : decode cX11_pairUp 2 = .ok (.invokevirtual 256, 3) := by decide +kernel
theorem dX11_pairUp_5 : decode cX11_pairUp 5 = .ok (.iconst 0, 1) := by decide +kernel
theorem dX11_pairUp_6 : decode cX11_pairUp 6 = .ok (.istore_n 2, 1) := by decide +kernel
theorem dX11_pairUp_7 : decode cX11_pairUp 7 = .ok (.iload_n 2, 1) := by decide +kernel
theorem dX11_pairUp_8 : decode cX11_pairUp 8 = .ok (.aload_n 0, 1) := by decide +kernel
theorem dX11_pairUp_9 : decode cX11_pairUp 9 = .ok (.getfield 25, 3) := by decide +kernel
theorem dX11_pairUp_12 : decode cX11_pairUp 12 = .ok (.arraylength, 1) := by decide +kernel
theorem dX11_pairUp_13 : decode cX11_pairUp 13 = .ok (.if_icmp .ge 16, 3) := by decide +kernel
theorem dX11_pairUp_16 : decode cX11_pairUp 16 = .ok (.aload_n 0, 1) := by decide +kernel
theorem dX11_pairUp_17 : decode cX11_pairUp 17 = .ok (.getfield 25, 3) := by decide +kernel
theorem dX11_pairUp_20 : decode cX11_pairUp 20 = .ok (.iload_n 2, 1) := by decide +kernel
theorem dX11_pairUp_21 : decode cX11_pairUp 21 = .ok (.iconst (-1), 1) := by decide +kernel
theorem dX11_pairUp_22 : decode cX11_pairUp 22 = .ok (.iastore, 1) := by decide +kernel
theorem dX11_pairUp_23 : decode cX11_pairUp 23 = .ok (.iinc 2 1, 3) := by decide +kernel
theorem dX11_pairUp_26 : decode cX11_pairUp 26 = .ok (.goto (-19), 3) := by decide +kernel
theorem dX11_pairUp_29 : decode cX11_pairUp 29 = .ok (.iconst 0, 1) := by decide +kernel
theorem dX11_pairUp_30 : decode cX11_pairUp 30 = .ok (.istore_n 2, 1) := by decide +kernel
theorem dX11_pairUp_31 : decode cX11_pairUp 31 = .ok (.iconst 1, 1) := by decide +kernel
theorem dX11_pairUp_32 : decode cX11_pairUp 32 = .ok (.istore_n 3, 1) := by decide +kernel
theorem dX11_pairUp_33 : decode cX11_pairUp 33 = .ok (.iconst 1, 1) := by decide +kernel
theorem dX11_pairUp_34 : decode cX11_pairUp 34 = .ok (.istore 4, 2) := by decide +kernel
theorem dX11_pairUp_36 : decode cX11_pairUp 36 = .ok (.iconst 0, 1) := by decide +kernel
theorem dX11_pairUp_37 : decode cX11_pairUp 37 = .ok (.istore 5, 2) := by decide +kernel
theorem dX11_pairUp_39 : decode cX11_pairUp 39 = .ok (.iload 5, 2) := by decide +kernel
theorem dX11_pairUp_41 : decode cX11_pairUp 41 = .ok (.bipush 80, 2) := by decide +kernel
theorem dX11_pairUp_43 : decode cX11_pairUp 43 = .ok (.if_icmp .ge 110, 3) := by decide +kernel
theorem dX11_pairUp_46 : decode cX11_pairUp 46 = .ok (.aload_n 0, 1) := by decide +kernel
theorem dX11_pairUp_47 : decode cX11_pairUp 47 = .ok (.getfield 38, 3) := by decide +kernel
theorem dX11_pairUp_50 : decode cX11_pairUp 50 = .ok (.getfield 160, 3) := by decide +kernel
theorem dX11_pairUp_53 : decode cX11_pairUp 53 = .ok (.iload_n 3, 1) := by decide +kernel
theorem dX11_pairUp_54 : decode cX11_pairUp 54 = .ok (.invokevirtual 169, 3) := by decide +kernel
theorem dX11_pairUp_57 : decode cX11_pairUp 57 = .ok (.ifCond .eq 96, 3) := by decide +kernel
theorem dX11_pairUp_60 : decode cX11_pairUp 60 = .ok (.aload_n 1, 1) := by decide +kernel
theorem dX11_pairUp_61 : decode cX11_pairUp 61 = .ok (.iload 4, 2) := by decide +kernel
theorem dX11_pairUp_63 : decode cX11_pairUp 63 = .ok (.invokevirtual 169, 3) := by decide +kernel
theorem dX11_pairUp_66 : decode cX11_pairUp 66 = .ok (.ifCond .eq 87, 3) := by decide +kernel
theorem dX11_pairUp_69 : decode cX11_pairUp 69 = .ok (.aload_n 0, 1) := by decide +kernel
theorem dX11_pairUp_70 : decode cX11_pairUp 70 = .ok (.getfield 38, 3) := by decide +kernel
theorem dX11_pairUp_73 : decode cX11_pairUp 73 = .ok (.getfield 160, 3) := by decide +kernel
theorem dX11_pairUp_76 : decode cX11_pairUp 76 = .ok (.iload_n 3, 1) := by decide +kernel
theorem dX11_pairUp_77 : decode cX11_pairUp 77 = .ok (.aload_n 1, 1) := by decide +kernel
theorem dX11_pairUp_78 : decode cX11_pairUp 78 = .ok (.iload 4, 2) := by decide +kernel
theorem dX11_pairUp_80 : decode cX11_pairUp 80 = .ok (.invokevirtual 260, 3) := by decide +kernel
theorem dX11_pairUp_83 : decode cX11_pairUp 83 = .ok (.ifCond .eq 34, 3) := by decide +kernel
theorem dX11_pairUp_86 : decode cX11_pairUp 86 = .ok (.iload_n 3, 1) := by decide +kernel
theorem dX11_pairUp_87 : decode cX11_pairUp 87 = .ok (.aload_n 0, 1) := by decide +kernel
theorem dX11_pairUp_88 : decode cX11_pairUp 88 = .ok (.getfield 25, 3) := by decide +kernel
theorem dX11_pairUp_91 : decode cX11_pairUp 91 = .ok (.arraylength, 1) := by decide +kernel
theorem dX11_pairUp_92 : decode cX11_pairUp 92 = .ok (.if_icmp .gt 13, 3) := by decide +kernel
theorem dX11_pairUp_95 : decode cX11_pairUp 95 = .ok (.aload_n 0, 1) := by decide +kernel
theorem dX11_pairUp_96 : decode cX11_pairUp 96 = .ok (.getfield 25, 3) := by decide +kernel
theorem dX11_pairUp_99 : decode cX11_pairUp 99 = .ok (.iload_n 3, 1) := by decide +kernel
theorem dX11_pairUp_100 : decode cX11_pairUp 100 = .ok (.iconst 1, 1) := by decide +kernel
theorem dX11_pairUp_101 : decode cX11_pairUp 101 = .ok (.isub, 1) := by decide +kernel
theorem dX11_pairUp_102 : decode cX11_pairUp 102 = .ok (.iload 4, 2) := by decide +kernel
theorem dX11_pairUp_104 : decode cX11_pairUp 104 = .ok (.iastore, 1) := by decide +kernel
theorem dX11_pairUp_105 : decode cX11_pairUp 105 = .ok (.iinc 2 1, 3) := by decide +kernel
theorem dX11_pairUp_108 : decode cX11_pairUp 108 = .ok (.iinc 3 1, 3) := by decide +kernel
theorem dX11_pairUp_111 : decode cX11_pairUp 111 = .ok (.iinc 4 1, 3) := by decide +kernel
theorem dX11_pairUp_114 : decode cX11_pairUp 114 = .ok (.goto 33, 3) := by decide +kernel
theorem dX11_pairUp_117 : decode cX11_pairUp 117 = .ok (.aload_n 0, 1) := by decide +kernel
theorem dX11_pairUp_118 : decode cX11_pairUp 118 = .ok (.iload_n 3, 1) := by decide +kernel
theorem dX11_pairUp_119 : decode cX11_pairUp 119 = .ok (.iconst 1, 1) := by decide +kernel
theorem dX11_pairUp_120 : decode cX11_pairUp 120 = .ok (.iadd, 1) := by decide +kernel
theorem dX11_pairUp_121 : decode cX11_pairUp 121 = .ok (.iload 4, 2) := by decide +kernel
theorem dX11_pairUp_123 : decode cX11_pairUp 123 = .ok (.invokevirtual 264, 3) := by decide +kernel
theorem dX11_pairUp_126 : decode cX11_pairUp 126 = .ok (.aload_n 0, 1) := by decide +kernel
theorem dX11_pairUp_127 : decode cX11_pairUp 127 = .ok (.iload_n 3, 1) := by decide +kernel
theorem dX11_pairUp_128 : decode cX11_pairUp 128 = .ok (.iload 4, 2) := by decide +kernel
theorem dX11_pairUp_130 : decode cX11_pairUp 130 = .ok (.iconst 1, 1) := by decide +kernel
theorem dX11_pairUp_131 : decode cX11_pairUp 131 = .ok (.iadd, 1) := by decide +kernel
theorem dX11_pairUp_132 : decode cX11_pairUp 132 = .ok (.invokevirtual 264, 3) := by decide +kernel
theorem dX11_pairUp_135 : decode cX11_pairUp 135 = .ok (.if_icmp .lt 9, 3) := by decide +kernel
theorem dX11_pairUp_138 : decode cX11_pairUp 138 = .ok (.iinc 3 1, 3) := by decide +kernel
theorem dX11_pairUp_141 : decode cX11_pairUp 141 = .ok (.goto 6, 3) := by decide +kernel
theorem dX11_pairUp_144 : decode cX11_pairUp 144 = .ok (.iinc 4 1, 3) := by decide +kernel
theorem dX11_pairUp_147 : decode cX11_pairUp 147 = .ok (.iinc 5 1, 3) := by decide +kernel
theorem dX11_pairUp_150 : decode cX11_pairUp 150 = .ok (.goto (-111), 3) := by decide +kernel
theorem dX11_pairUp_153 : decode cX11_pairUp 153 = .ok (.iload_n 2, 1) := by decide +kernel
theorem dX11_pairUp_154 : decode cX11_pairUp 154 = .ok (.ireturn, 1) := by decide +kernel
theorem dX11_measureCommon_0 : decode cX11_measureCommon 0 = .ok (.iconst 0, 1) := by decide +kernel
theorem dX11_measureCommon_1 : decode cX11_measureCommon 1 = .ok (.istore_n 2, 1) := by decide +kernel
theorem dX11_measureCommon_2 : decode cX11_measureCommon 2 = .ok (.iload_n 2, 1) := by decide +kernel
theorem dX11_measureCommon_3 : decode cX11_measureCommon 3 = .ok (.aload_n 0, 1) := by decide +kernel
theorem dX11_measureCommon_4 : decode cX11_measureCommon 4 = .ok (.getfield 22, 3) := by decide +kernel
theorem dX11_measureCommon_7 : decode cX11_measureCommon 7 = .ok (.arraylength, 1) := by decide +kernel
theorem dX11_measureCommon_8 : decode cX11_measureCommon 8 = .ok (.if_icmp .ge 16, 3) := by decide +kernel
theorem dX11_measureCommon_11 : decode cX11_measureCommon 11 = .ok (.aload_n 0, 1) := by decide +kernel
theorem dX11_measureCommon_12 : decode cX11_measureCommon 12 = .ok (.getfield 22, 3) := by decide +kernel
theorem dX11_measureCommon_15 : decode cX11_measureCommon 15 = .ok (.iload_n 2, 1) := by decide +kernel
theorem dX11_measureCommon_16 : decode cX11_measureCommon 16 = .ok (.iconst 0, 1) := by decide +kernel
theorem dX11_measureCommon_17 : decode cX11_measureCommon 17 = .ok (.iastore, 1) := by decide +kernel
theorem dX11_measureCommon_18 : decode cX11_measureCommon 18 = .ok (.iinc 2 1, 3) := by decide +kernel
theorem dX11_measureCommon_21 : decode cX11_measureCommon 21 = .ok (.goto (-19), 3) := by decide +kernel
theorem dX11_measureCommon_24 : decode cX11_measureCommon 24 = .ok (.aload_n 0, 1) := by decide +kernel
theorem dX11_measureCommon_25 : decode cX11_measureCommon 25 = .ok (.getfield 38, 3) := by decide +kernel
theorem dX11_measureCommon_28 : decode cX11_measureCommon 28 = .ok (.getfield 160, 3) := by decide +kernel
theorem dX11_measureCommon_31 : decode cX11_measureCommon 31 = .ok (.getfield 164, 3) := by decide +kernel
theorem dX11_measureCommon_34 : decode cX11_measureCommon 34 = .ok (.istore_n 2, 1) := by decide +kernel
theorem dX11_measureCommon_35 : decode cX11_measureCommon 35 = .ok (.iload_n 2, 1) := by decide +kernel
theorem dX11_measureCommon_36 : decode cX11_measureCommon 36 = .ok (.iconst 1, 1) := by decide +kernel
theorem dX11_measureCommon_37 : decode cX11_measureCommon 37 = .ok (.if_icmp .lt 113, 3) := by decide +kernel
theorem dX11_measureCommon_40 : decode cX11_measureCommon 40 = .ok (.aload_n 1, 1) := by decide +kernel
theorem dX11_measureCommon_41 : decode cX11_measureCommon 41 = .ok (.getfield 164, 3) := by decide +kernel
theorem dX11_measureCommon_44 : decode cX11_measureCommon 44 = .ok (.istore_n 3, 1) := by decide +kernel
theorem dX11_measureCommon_45 : decode cX11_measureCommon 45 = .ok (.iload_n 3, 1) := by decide +kernel
theorem dX11_measureCommon_46 : decode cX11_measureCommon 46 = .ok (.iconst 1, 1) := by decide +kernel
theorem dX11_measureCommon_47 : decode cX11_measureCommon 47 = .ok (.if_icmp .lt 97, 3) := by decide +kernel
theorem dX11_measureCommon_50 : decode cX11_measureCommon 50 = .ok (.aload_n 0, 1) := by decide +kernel
theorem dX11_measureCommon_51 : decode cX11_measureCommon 51 = .ok (.getfield 38, 3) := by decide +kernel
theorem dX11_measureCommon_54 : decode cX11_measureCommon 54 = .ok (.getfield 160, 3) := by decide +kernel
theorem dX11_measureCommon_57 : decode cX11_measureCommon 57 = .ok (.iload_n 2, 1) := by decide +kernel
theorem dX11_measureCommon_58 : decode cX11_measureCommon 58 = .ok (.aload_n 1, 1) := by decide +kernel
theorem dX11_measureCommon_59 : decode cX11_measureCommon 59 = .ok (.iload_n 3, 1) := by decide +kernel
theorem dX11_measureCommon_60 : decode cX11_measureCommon 60 = .ok (.invokevirtual 260, 3) := by decide +kernel
theorem dX11_measureCommon_63 : decode cX11_measureCommon 63 = .ok (.ifCond .eq 18, 3) := by decide +kernel
theorem dX11_measureCommon_66 : decode cX11_measureCommon 66 = .ok (.aload_n 0, 1) := by decide +kernel
theorem dX11_measureCommon_67 : decode cX11_measureCommon 67 = .ok (.iload_n 2, 1) := by decide +kernel
theorem dX11_measureCommon_68 : decode cX11_measureCommon 68 = .ok (.iconst 1, 1) := by decide +kernel
theorem dX11_measureCommon_69 : decode cX11_measureCommon 69 = .ok (.iadd, 1) := by decide +kernel
theorem dX11_measureCommon_70 : decode cX11_measureCommon 70 = .ok (.iload_n 3, 1) := by decide +kernel
theorem dX11_measureCommon_71 : decode cX11_measureCommon 71 = .ok (.iconst 1, 1) := by decide +kernel
theorem dX11_measureCommon_72 : decode cX11_measureCommon 72 = .ok (.iadd, 1) := by decide +kernel
theorem dX11_measureCommon_73 : decode cX11_measureCommon 73 = .ok (.invokevirtual 264, 3) := by decide +kernel
theorem dX11_measureCommon_76 : decode cX11_measureCommon 76 = .ok (.iconst 1, 1) := by decide +kernel
theorem dX11_measureCommon_77 : decode cX11_measureCommon 77 = .ok (.iadd, 1) := by decide +kernel
theorem dX11_measureCommon_78 : decode cX11_measureCommon 78 = .ok (.goto 22, 3) := by decide +kernel
theorem dX11_measureCommon_81 : decode cX11_measureCommon 81 = .ok (.aload_n 0, 1) := by decide +kernel
theorem dX11_measureCommon_82 : decode cX11_measureCommon 82 = .ok (.iload_n 2, 1) := by decide +kernel
theorem dX11_measureCommon_83 : decode cX11_measureCommon 83 = .ok (.iconst 1, 1) := by decide +kernel
theorem dX11_measureCommon_84 : decode cX11_measureCommon 84 = .ok (.iadd, 1) := by decide +kernel
theorem dX11_measureCommon_85 : decode cX11_measureCommon 85 = .ok (.iload_n 3, 1) := by decide +kernel
theorem dX11_measureCommon_86 : decode cX11_measureCommon 86 = .ok (.invokevirtual 264, 3) := by decide +kernel
theorem dX11_measureCommon_89 : decode cX11_measureCommon 89 = .ok (.aload_n 0, 1) := by decide +kernel
theorem dX11_measureCommon_90 : decode cX11_measureCommon 90 = .ok (.iload_n 2, 1) := by decide +kernel
theorem dX11_measureCommon_91 : decode cX11_measureCommon 91 = .ok (.iload_n 3, 1) := by decide +kernel
theorem dX11_measureCommon_92 : decode cX11_measureCommon 92 = .ok (.iconst 1, 1) := by decide +kernel
theorem dX11_measureCommon_93 : decode cX11_measureCommon 93 = .ok (.iadd, 1) := by decide +kernel
theorem dX11_measureCommon_94 : decode cX11_measureCommon 94 = .ok (.invokevirtual 264, 3) := by decide +kernel
theorem dX11_measureCommon_97 : decode cX11_measureCommon 97 = .ok (.invokestatic 267, 3) := by decide +kernel
theorem dX11_measureCommon_100 : decode cX11_measureCommon 100 = .ok (.istore 4, 2) := by decide +kernel
theorem dX11_measureCommon_102 : decode cX11_measureCommon 102 = .ok (.iload_n 2, 1) := by decide +kernel
theorem dX11_measureCommon_103 : decode cX11_measureCommon 103 = .ok (.iconst 1, 1) := by decide +kernel
theorem dX11_measureCommon_104 : decode cX11_measureCommon 104 = .ok (.isub, 1) := by decide +kernel
theorem dX11_measureCommon_105 : decode cX11_measureCommon 105 = .ok (.bipush 41, 2) := by decide +kernel
theorem dX11_measureCommon_107 : decode cX11_measureCommon 107 = .ok (.imul, 1) := by decide +kernel
theorem dX11_measureCommon_108 : decode cX11_measureCommon 108 = .ok (.iload_n 3, 1) := by decide +kernel
theorem dX11_measureCommon_109 : decode cX11_measureCommon 109 = .ok (.iadd, 1) := by decide +kernel
theorem dX11_measureCommon_110 : decode cX11_measureCommon 110 = .ok (.iconst 1, 1) := by decide +kernel
theorem dX11_measureCommon_111 : decode cX11_measureCommon 111 = .ok (.isub, 1) := by decide +kernel
theorem dX11_measureCommon_112 : decode cX11_measureCommon 112 = .ok (.istore 5, 2) := by decide +kernel
theorem dX11_measureCommon_114 : decode cX11_measureCommon 114 = .ok (.iload 5, 2) := by decide +kernel
theorem dX11_measureCommon_116 : decode cX11_measureCommon 116 = .ok (.ifCond .lt 22, 3) := by decide +kernel
theorem dX11_measureCommon_119 : decode cX11_measureCommon 119 = .ok (.iload 5, 2) := by decide +kernel
theorem dX11_measureCommon_121 : decode cX11_measureCommon 121 = .ok (.aload_n 0, 1) := by decide +kernel
theorem dX11_measureCommon_122 : decode cX11_measureCommon 122 = .ok (.getfield 22, 3) := by decide +kernel
theorem dX11_measureCommon_125 : decode cX11_measureCommon 125 = .ok (.arraylength, 1) := by decide +kernel
theorem dX11_measureCommon_126 : decode cX11_measureCommon 126 = .ok (.if_icmp .ge 12, 3) := by decide +kernel
theorem dX11_measureCommon_129 : decode cX11_measureCommon 129 = .ok (.aload_n 0, 1) := by decide +kernel
theorem dX11_measureCommon_130 : decode cX11_measureCommon 130 = .ok (.getfield 22, 3) := by decide +kernel
theorem dX11_measureCommon_133 : decode cX11_measureCommon 133 = .ok (.iload 5, 2) := by decide +kernel
theorem dX11_measureCommon_135 : decode cX11_measureCommon 135 = .ok (.iload 4, 2) := by decide +kernel
theorem dX11_measureCommon_137 : decode cX11_measureCommon 137 = .ok (.iastore, 1) := by decide +kernel
theorem dX11_measureCommon_138 : decode cX11_measureCommon 138 = .ok (.iinc 3 (-1), 3) := by decide +kernel
theorem dX11_measureCommon_141 : decode cX11_measureCommon 141 = .ok (.goto (-96), 3) := by decide +kernel
theorem dX11_measureCommon_144 : decode cX11_measureCommon 144 = .ok (.iinc 2 (-1), 3) := by decide +kernel
theorem dX11_measureCommon_147 : decode cX11_measureCommon 147 = .ok (.goto (-112), 3) := by decide +kernel
theorem dX11_measureCommon_150 : decode cX11_measureCommon 150 = .ok (.return_, 1) := by decide +kernel
theorem dX11_commonFrom_0 : decode cX11_commonFrom 0 = .ok (.iload_n 1, 1) := by decide +kernel
theorem dX11_commonFrom_1 : decode cX11_commonFrom 1 = .ok (.iconst 1, 1) := by decide +kernel
theorem dX11_commonFrom_2 : decode cX11_commonFrom 2 = .ok (.isub, 1) := by decide +kernel
theorem dX11_commonFrom_3 : decode cX11_commonFrom 3 = .ok (.bipush 41, 2) := by decide +kernel
theorem dX11_commonFrom_5 : decode cX11_commonFrom 5 = .ok (.imul, 1) := by decide +kernel
theorem dX11_commonFrom_6 : decode cX11_commonFrom 6 = .ok (.iload_n 2, 1) := by decide +kernel
theorem dX11_commonFrom_7 : decode cX11_commonFrom 7 = .ok (.iadd, 1) := by decide +kernel
theorem dX11_commonFrom_8 : decode cX11_commonFrom 8 = .ok (.iconst 1, 1) := by decide +kernel
theorem dX11_commonFrom_9 : decode cX11_commonFrom 9 = .ok (.isub, 1) := by decide +kernel
theorem dX11_commonFrom_10 : decode cX11_commonFrom 10 = .ok (.istore_n 3, 1) := by decide +kernel
theorem dX11_commonFrom_11 : decode cX11_commonFrom 11 = .ok (.iload_n 3, 1) := by decide +kernel
theorem dX11_commonFrom_12 : decode cX11_commonFrom 12 = .ok (.ifCond .lt 21, 3) := by decide +kernel
theorem dX11_commonFrom_15 : decode cX11_commonFrom 15 = .ok (.iload_n 3, 1) := by decide +kernel
theorem dX11_commonFrom_16 : decode cX11_commonFrom 16 = .ok (.aload_n 0, 1) := by decide +kernel
theorem dX11_commonFrom_17 : decode cX11_commonFrom 17 = .ok (.getfield 22, 3) := by decide +kernel
theorem dX11_commonFrom_20 : decode cX11_commonFrom 20 = .ok (.arraylength, 1) := by decide +kernel
theorem dX11_commonFrom_21 : decode cX11_commonFrom 21 = .ok (.if_icmp .ge 12, 3) := by decide +kernel
theorem dX11_commonFrom_24 : decode cX11_commonFrom 24 = .ok (.aload_n 0, 1) := by decide +kernel
theorem dX11_commonFrom_25 : decode cX11_commonFrom 25 = .ok (.getfield 22, 3) := by decide +kernel
theorem dX11_commonFrom_28 : decode cX11_commonFrom 28 = .ok (.iload_n 3, 1) := by decide +kernel
theorem dX11_commonFrom_29 : decode cX11_commonFrom 29 = .ok (.iaload, 1) := by decide +kernel
theorem dX11_commonFrom_30 : decode cX11_commonFrom 30 = .ok (.goto 4, 3) := by decide +kernel
theorem dX11_commonFrom_33 : decode cX11_commonFrom 33 = .ok (.iconst 0, 1) := by decide +kernel
theorem dX11_commonFrom_34 : decode cX11_commonFrom 34 = .ok (.ireturn, 1) := by decide +kernel
theorem dX11_bitOf_0 : decode cX11_bitOf 0 = .ok (.iload_n 0, 1) := by decide +kernel
theorem dX11_bitOf_1 : decode cX11_bitOf 1 = .ok (.bipush 97, 2) := by decide +kernel
theorem dX11_bitOf_3 : decode cX11_bitOf 3 = .ok (.if_icmp .lt 16, 3) := by decide +kernel
theorem dX11_bitOf_6 : decode cX11_bitOf 6 = .ok (.iload_n 0, 1) := by decide +kernel
theorem dX11_bitOf_7 : decode cX11_bitOf 7 = .ok (.bipush 122, 2) := by decide +kernel
theorem dX11_bitOf_9 : decode cX11_bitOf 9 = .ok (.if_icmp .gt 10, 3) := by decide +kernel
theorem dX11_bitOf_12 : decode cX11_bitOf 12 = .ok (.lconst 1, 1) := by decide +kernel
theorem dX11_bitOf_13 : decode cX11_bitOf 13 = .ok (.iload_n 0, 1) := by decide +kernel
theorem dX11_bitOf_14 : decode cX11_bitOf 14 = .ok (.bipush 97, 2) := by decide +kernel
theorem dX11_bitOf_16 : decode cX11_bitOf 16 = .ok (.isub, 1) := by decide +kernel
theorem dX11_bitOf_17 : decode cX11_bitOf 17 = .ok (.lshl, 1) := by decide +kernel
theorem dX11_bitOf_18 : decode cX11_bitOf 18 = .ok (.lreturn, 1) := by decide +kernel
theorem dX11_bitOf_19 : decode cX11_bitOf 19 = .ok (.iload_n 0, 1) := by decide +kernel
theorem dX11_bitOf_20 : decode cX11_bitOf 20 = .ok (.bipush 48, 2) := by decide +kernel
theorem dX11_bitOf_22 : decode cX11_bitOf 22 = .ok (.if_icmp .lt 19, 3) := by decide +kernel
theorem dX11_bitOf_25 : decode cX11_bitOf 25 = .ok (.iload_n 0, 1) := by decide +kernel
theorem dX11_bitOf_26 : decode cX11_bitOf 26 = .ok (.bipush 57, 2) := by decide +kernel
theorem dX11_bitOf_28 : decode cX11_bitOf 28 = .ok (.if_icmp .gt 13, 3) := by decide +kernel
theorem dX11_bitOf_31 : decode cX11_bitOf 31 = .ok (.lconst 1, 1) := by decide +kernel
theorem dX11_bitOf_32 : decode cX11_bitOf 32 = .ok (.iload_n 0, 1) := by decide +kernel
theorem dX11_bitOf_33 : decode cX11_bitOf 33 = .ok (.bipush 48, 2) := by decide +kernel
theorem dX11_bitOf_35 : decode cX11_bitOf 35 = .ok (.isub, 1) := by decide +kernel
theorem dX11_bitOf_36 : decode cX11_bitOf 36 = .ok (.bipush 26, 2) := by decide +kernel
theorem dX11_bitOf_38 : decode cX11_bitOf 38 = .ok (.iadd, 1) := by decide +kernel
theorem dX11_bitOf_39 : decode cX11_bitOf 39 = .ok (.lshl, 1) := by decide +kernel
theorem dX11_bitOf_40 : decode cX11_bitOf 40 = .ok (.lreturn, 1) := by decide +kernel
theorem dX11_bitOf_41 : decode cX11_bitOf 41 = .ok (.iload_n 0, 1) := by decide +kernel
theorem dX11_bitOf_42 : decode cX11_bitOf 42 = .ok (.bipush 32, 2) := by decide +kernel
theorem dX11_bitOf_44 : decode cX11_bitOf 44 = .ok (.if_icmp .ne 9, 3) := by decide +kernel
theorem dX11_bitOf_47 : decode cX11_bitOf 47 = .ok (.ldc2_w 272, 3) := by decide +kernel
theorem dX11_bitOf_50 : decode cX11_bitOf 50 = .ok (.goto 4, 3) := by decide +kernel
theorem dX11_bitOf_53 : decode cX11_bitOf 53 = .ok (.lconst 0, 1) := by decide +kernel
theorem dX11_bitOf_54 : decode cX11_bitOf 54 = .ok (.lreturn, 1) := by decide +kernel
theorem dX12_init_0 : decode cX12_init 0 = .ok (.aload_n 0, 1) := by decide +kernel
theorem dX12_init_1 : decode cX12_init 1 = .ok (.invokespecial 1, 3) := by decide +kernel
theorem dX12_init_4 : decode cX12_init 4 = .ok (.aload_n 0, 1) := by decide +kernel
theorem dX12_init_5 : decode cX12_init 5 = .ok (.bipush 60, 2) := by decide +kernel
theorem dX12_init_7 : decode cX12_init 7 = .ok (.newarray .int, 2) := by decide +kernel
theorem dX12_init_9 : decode cX12_init 9 = .ok (.putfield 7, 3) := by decide +kernel
theorem dX12_init_12 : decode cX12_init 12 = .ok (.aload_n 0, 1) := by decide +kernel
theorem dX12_init_13 : decode cX12_init 13 = .ok (.sipush 240, 3) := by decide +kernel
theorem dX12_init_16 : decode cX12_init 16 = .ok (.newarray .int, 2) := by decide +kernel
theorem dX12_init_18 : decode cX12_init 18 = .ok (.putfield 13, 3) := by decide +kernel
theorem dX12_init_21 : decode cX12_init 21 = .ok (.aload_n 0, 1) := by decide +kernel
theorem dX12_init_22 : decode cX12_init 22 = .ok (.iconst 4, 1) := by decide +kernel
theorem dX12_init_23 : decode cX12_init 23 = .ok (.newarray .int, 2) := by decide +kernel
theorem dX12_init_25 : decode cX12_init 25 = .ok (.putfield 16, 3) := by decide +kernel
theorem dX12_init_28 : decode cX12_init 28 = .ok (.aload_n 0, 1) := by decide +kernel
theorem dX12_init_29 : decode cX12_init 29 = .ok (.iconst 4, 1) := by decide +kernel
theorem dX12_init_30 : decode cX12_init 30 = .ok (.newarray .boolean, 2) := by decide +kernel
theorem dX12_init_32 : decode cX12_init 32 = .ok (.putfield 19, 3) := by decide +kernel
theorem dX12_init_35 : decode cX12_init 35 = .ok (.aload_n 0, 1) := by decide +kernel
theorem dX12_init_36 : decode cX12_init 36 = .ok (.sipush 26908, 3) := by decide +kernel
theorem dX12_init_39 : decode cX12_init 39 = .ok (.newarray .int, 2) := by decide +kernel
theorem dX12_init_41 : decode cX12_init 41 = .ok (.putfield 23, 3) := by decide +kernel
theorem dX12_init_44 : decode cX12_init 44 = .ok (.aload_n 0, 1) := by decide +kernel
theorem dX12_init_45 : decode cX12_init 45 = .ok (.bipush 41, 2) := by decide +kernel
theorem dX12_init_47 : decode cX12_init 47 = .ok (.newarray .int, 2) := by decide +kernel
theorem dX12_init_49 : decode cX12_init 49 = .ok (.putfield 26, 3) := by decide +kernel
theorem dX12_init_52 : decode cX12_init 52 = .ok (.aload_n 0, 1) := by decide +kernel
theorem dX12_init_53 : decode cX12_init 53 = .ok (.bipush 41, 2) := by decide +kernel
theorem dX12_init_55 : decode cX12_init 55 = .ok (.newarray .int, 2) := by decide +kernel
theorem dX12_init_57 : decode cX12_init 57 = .ok (.putfield 29, 3) := by decide +kernel
theorem dX12_init_60 : decode cX12_init 60 = .ok (.aload_n 0, 1) := by decide +kernel
theorem dX12_init_61 : decode cX12_init 61 = .ok (.bipush 41, 2) := by decide +kernel
theorem dX12_init_63 : decode cX12_init 63 = .ok (.newarray .int, 2) := by decide +kernel
theorem dX12_init_65 : decode cX12_init 65 = .ok (.putfield 32, 3) := by decide +kernel
theorem dX12_init_68 : decode cX12_init 68 = .ok (.aload_n 0, 1) := by decide +kernel
theorem dX12_init_69 : decode cX12_init 69 = .ok (.iconst 5, 1) := by decide +kernel
theorem dX12_init_70 : decode cX12_init 70 = .ok (.newarray .int, 2) := by decide +kernel
theorem dX12_init_72 : decode cX12_init 72 = .ok (.putfield 35, 3) := by decide +kernel
theorem dX12_init_75 : decode cX12_init 75 = .ok (.aload_n 0, 1) := by decide +kernel
theorem dX12_init_76 : decode cX12_init 76 = .ok (.iconst 4, 1) := by decide +kernel
theorem dX12_init_77 : decode cX12_init 77 = .ok (.newarray .int, 2) := by decide +kernel
theorem dX12_init_79 : decode cX12_init 79 = .ok (.putfield 38, 3) := by decide +kernel
theorem dX12_init_82 : decode cX12_init 82 = .ok (.aload_n 0, 1) := by decide +kernel
theorem dX12_init_83 : decode cX12_init 83 = .ok (.bipush 31, 2) := by decide +kernel
theorem dX12_init_85 : decode cX12_init 85 = .ok (.newarray .int, 2) := by decide +kernel
theorem dX12_init_87 : decode cX12_init 87 = .ok (.putfield 41, 3) := by decide +kernel
theorem dX12_init_90 : decode cX12_init 90 = .ok (.aload_n 0, 1) := by decide +kernel
theorem dX12_init_91 : decode cX12_init 91 = .ok (.bipush 60, 2) := by decide +kernel
theorem dX12_init_93 : decode cX12_init 93 = .ok (.newarray .int, 2) := by decide +kernel
theorem dX12_init_95 : decode cX12_init 95 = .ok (.putfield 44, 3) := by decide +kernel
theorem dX12_init_98 : decode cX12_init 98 = .ok (.aload_n 0, 1) := by decide +kernel
theorem dX12_init_99 : decode cX12_init 99 = .ok (.bipush 64, 2) := by decide +kernel
theorem dX12_init_101 : decode cX12_init 101 = .ok (.newarray .int, 2) := by decide +kernel
theorem dX12_init_103 : decode cX12_init 103 = .ok (.putfield 47, 3) := by decide +kernel
theorem dX12_init_106 : decode cX12_init 106 = .ok (.aload_n 0, 1) := by decide +kernel
theorem dX12_init_107 : decode cX12_init 107 = .ok (.bipush 64, 2) := by decide +kernel
theorem dX12_init_109 : decode cX12_init 109 = .ok (.newarray .int, 2) := by decide +kernel
theorem dX12_init_111 : decode cX12_init 111 = .ok (.putfield 50, 3) := by decide +kernel
theorem dX12_init_114 : decode cX12_init 114 = .ok (.aload_n 0, 1) := by decide +kernel
theorem dX12_init_115 : decode cX12_init 115 = .ok (.iconst 3, 1) := by decide +kernel
theorem dX12_init_116 : decode cX12_init 116 = .ok (.newarray .int, 2) := by decide +kernel
theorem dX12_init_118 : decode cX12_init 118 = .ok (.putfield 53, 3) := by decide +kernel
theorem dX12_init_121 : decode cX12_init 121 = .ok (.aload_n 0, 1) := by decide +kernel
theorem dX12_init_122 : decode cX12_init 122 = .ok (.iconst 3, 1) := by decide +kernel
theorem dX12_init_123 : decode cX12_init 123 = .ok (.newarray .int, 2) := by decide +kernel
theorem dX12_init_125 : decode cX12_init 125 = .ok (.putfield 56, 3) := by decide +kernel
theorem dX12_init_128 : decode cX12_init 128 = .ok (.aload_n 0, 1) := by decide +kernel
theorem dX12_init_129 : decode cX12_init 129 = .ok (.bipush 40, 2) := by decide +kernel
theorem dX12_init_131 : decode cX12_init 131 = .ok (.newarray .int, 2) := by decide +kernel
theorem dX12_init_133 : decode cX12_init 133 = .ok (.putfield 59, 3) := by decide +kernel
theorem dX12_init_136 : decode cX12_init 136 = .ok (.aload_n 0, 1) := by decide +kernel
theorem dX12_init_137 : decode cX12_init 137 = .ok (.bipush 41, 2) := by decide +kernel
theorem dX12_init_139 : decode cX12_init 139 = .ok (.newarray .int, 2) := by decide +kernel
theorem dX12_init_141 : decode cX12_init 141 = .ok (.putfield 62, 3) := by decide +kernel
theorem dX12_init_144 : decode cX12_init 144 = .ok (.aload_n 0, 1) := by decide +kernel
theorem dX12_init_145 : decode cX12_init 145 = .ok (.iconst 5, 1) := by decide +kernel
theorem dX12_init_146 : decode cX12_init 146 = .ok (.newarray .int, 2) := by decide +kernel
theorem dX12_init_148 : decode cX12_init 148 = .ok (.putfield 65, 3) := by decide +kernel
theorem dX12_init_151 : decode cX12_init 151 = .ok (.aload_n 0, 1) := by decide +kernel
theorem dX12_init_152 : decode cX12_init 152 = .ok (.iconst 4, 1) := by decide +kernel
theorem dX12_init_153 : decode cX12_init 153 = .ok (.newarray .int, 2) := by decide +kernel
theorem dX12_init_155 : decode cX12_init 155 = .ok (.putfield 68, 3) := by decide +kernel
theorem dX12_init_158 : decode cX12_init 158 = .ok (.aload_n 0, 1) := by decide +kernel
theorem dX12_init_159 : decode cX12_init 159 = .ok (.ldc 71, 2) := by decide +kernel
theorem dX12_init_161 : decode cX12_init 161 = .ok (.newarray .int, 2) := by decide +kernel
theorem dX12_init_163 : decode cX12_init 163 = .ok (.putfield 72, 3) := by decide +kernel
theorem dX12_init_166 : decode cX12_init 166 = .ok (.aload_n 0, 1) := by decide +kernel
theorem dX12_init_167 : decode cX12_init 167 = .ok (.sipush 1600, 3) := by decide +kernel
theorem dX12_init_170 : decode cX12_init 170 = .ok (.newarray .int, 2) := by decide +kernel
theorem dX12_init_172 : decode cX12_init 172 = .ok (.putfield 75, 3) := by decide +kernel
theorem dX12_init_175 : decode cX12_init 175 = .ok (.aload_n 0, 1) := by decide +kernel
theorem dX12_init_176 : decode cX12_init 176 = .ok (.sipush 200, 3) := by decide +kernel
theorem dX12_init_179 : decode cX12_init 179 = .ok (.newarray .int, 2) := by decide +kernel
theorem dX12_init_181 : decode cX12_init 181 = .ok (.putfield 78, 3) := by decide +kernel
theorem dX12_init_184 : decode cX12_init 184 = .ok (.aload_n 0, 1) := by decide +kernel
theorem dX12_init_185 : decode cX12_init 185 = .ok (.bipush 40, 2) := by decide +kernel
theorem dX12_init_187 : decode cX12_init 187 = .ok (.newarray .int, 2) := by decide +kernel
theorem dX12_init_189 : decode cX12_init 189 = .ok (.putfield 81, 3) := by decide +kernel
theorem dX12_init_192 : decode cX12_init 192 = .ok (.aload_n 0, 1) := by decide +kernel
theorem dX12_init_193 : decode cX12_init 193 = .ok (.bipush 40, 2) := by decide +kernel
theorem dX12_init_195 : decode cX12_init 195 = .ok (.newarray .int, 2) := by decide +kernel
theorem dX12_init_197 : decode cX12_init 197 = .ok (.putfield 84, 3) := by decide +kernel
theorem dX12_init_200 : decode cX12_init 200 = .ok (.aload_n 0, 1) := by decide +kernel
theorem dX12_init_201 : decode cX12_init 201 = .ok (.bipush 40, 2) := by decide +kernel
theorem dX12_init_203 : decode cX12_init 203 = .ok (.newarray .int, 2) := by decide +kernel
theorem dX12_init_205 : decode cX12_init 205 = .ok (.putfield 87, 3) := by decide +kernel
theorem dX12_init_208 : decode cX12_init 208 = .ok (.aload_n 0, 1) := by decide +kernel
theorem dX12_init_209 : decode cX12_init 209 = .ok (.bipush 60, 2) := by decide +kernel
theorem dX12_init_211 : decode cX12_init 211 = .ok (.newarray .boolean, 2) := by decide +kernel
theorem dX12_init_213 : decode cX12_init 213 = .ok (.putfield 90, 3) := by decide +kernel
theorem dX12_init_216 : decode cX12_init 216 = .ok (.aload_n 0, 1) := by decide +kernel
theorem dX12_init_217 : decode cX12_init 217 = .ok (.bipush 60, 2) := by decide +kernel
theorem dX12_init_219 : decode cX12_init 219 = .ok (.newarray .int, 2) := by decide +kernel
theorem dX12_init_221 : decode cX12_init 221 = .ok (.putfield 93, 3) := by decide +kernel
theorem dX12_init_224 : decode cX12_init 224 = .ok (.aload_n 0, 1) := by decide +kernel
theorem dX12_init_225 : decode cX12_init 225 = .ok (.bipush 60, 2) := by decide +kernel
theorem dX12_init_227 : decode cX12_init 227 = .ok (.newarray .boolean, 2) := by decide +kernel
theorem dX12_init_229 : decode cX12_init 229 = .ok (.putfield 96, 3) := by decide +kernel
theorem dX12_init_232 : decode cX12_init 232 = .ok (.aload_n 0, 1) := by decide +kernel
theorem dX12_init_233 : decode cX12_init 233 = .ok (.sipush 1681, 3) := by decide +kernel
theorem dX12_init_236 : decode cX12_init 236 = .ok (.newarray .int, 2) := by decide +kernel
theorem dX12_init_238 : decode cX12_init 238 = .ok (.putfield 99, 3) := by decide +kernel
theorem dX12_init_241 : decode cX12_init 241 = .ok (.aload_n 0, 1) := by decide +kernel
theorem dX12_init_242 : decode cX12_init 242 = .ok (.bipush 40, 2) := by decide +kernel
theorem dX12_init_244 : decode cX12_init 244 = .ok (.newarray .int, 2) := by decide +kernel
theorem dX12_init_246 : decode cX12_init 246 = .ok (.putfield 102, 3) := by decide +kernel
theorem dX12_init_249 : decode cX12_init 249 = .ok (.iconst 0, 1) := by decide +kernel
theorem dX12_init_250 : decode cX12_init 250 = .ok (.istore_n 1, 1) := by decide +kernel
theorem dX12_init_251 : decode cX12_init 251 = .ok (.iload_n 1, 1) := by decide +kernel
theorem dX12_init_252 : decode cX12_init 252 = .ok (.iconst 5, 1) := by decide +kernel
theorem dX12_init_253 : decode cX12_init 253 = .ok (.if_icmp .ge 16, 3) := by decide +kernel
theorem dX12_init_256 : decode cX12_init 256 = .ok (.aload_n 0, 1) := by decide +kernel
theorem dX12_init_257 : decode cX12_init 257 = .ok (.getfield 35, 3) := by decide +kernel
theorem dX12_init_260 : decode cX12_init 260 = .ok (.iload_n 1, 1) := by decide +kernel
theorem dX12_init_261 : decode cX12_init 261 = .ok (.iconst (-1), 1) := by decide +kernel
theorem dX12_init_262 : decode cX12_init 262 = .ok (.iastore, 1) := by decide +kernel
theorem dX12_init_263 : decode cX12_init 263 = .ok (.iinc 1 1, 3) := by decide +kernel
theorem dX12_init_266 : decode cX12_init 266 = .ok (.goto (-15), 3) := by decide +kernel
theorem dX12_init_269 : decode cX12_init 269 = .ok (.return_, 1) := by decide +kernel
theorem dX12_thrown_0 : decode cX12_thrown 0 = .ok (.aload_n 0, 1) := by decide +kernel
theorem dX12_thrown_1 : decode cX12_thrown 1 = .ok (.getfield 105, 3) := by decide +kernel
theorem dX12_thrown_4 : decode cX12_thrown 4 = .ok (.ireturn, 1) := by decide +kernel
theorem dX12_len_0 : decode cX12_len 0 = .ok (.aload_n 0, 1) := by decide +kernel
theorem dX12_len_1 : decode cX12_len 1 = .ok (.getfield 23, 3) := by decide +kernel
theorem dX12_len_4 : decode cX12_len 4 = .ok (.bipush 31, 2) := by decide +kernel
theorem dX12_len_6 : decode cX12_len 6 = .ok (.iload_n 1, 1) := by decide +kernel
theorem dX12_len_7 : decode cX12_len 7 = .ok (.imul, 1) := by decide +kernel
theorem dX12_len_8 : decode cX12_len 8 = .ok (.iaload, 1) := by decide +kernel
theorem dX12_len_9 : decode cX12_len 9 = .ok (.ireturn, 1) := by decide +kernel
theorem dX12_sign_0 : decode cX12_sign 0 = .ok (.aload_n 0, 1) := by decide +kernel
theorem dX12_sign_1 : decode cX12_sign 1 = .ok (.getfield 23, 3) := by decide +kernel
theorem dX12_sign_4 : decode cX12_sign 4 = .ok (.bipush 31, 2) := by decide +kernel
theorem dX12_sign_6 : decode cX12_sign 6 = .ok (.iload_n 1, 1) := by decide +kernel
theorem dX12_sign_7 : decode cX12_sign 7 = .ok (.imul, 1) := by decide +kernel
theorem dX12_sign_8 : decode cX12_sign 8 = .ok (.iconst 1, 1) := by decide +kernel
theorem dX12_sign_9 : decode cX12_sign 9 = .ok (.iadd, 1) := by decide +kernel
theorem dX12_sign_10 : decode cX12_sign 10 = .ok (.iload_n 2, 1) := by decide +kernel
theorem dX12_sign_11 : decode cX12_sign 11 = .ok (.iadd, 1) := by decide +kernel
theorem dX12_sign_12 : decode cX12_sign 12 = .ok (.iaload, 1) := by decide +kernel
theorem dX12_sign_13 : decode cX12_sign 13 = .ok (.ireturn, 1) := by decide +kernel
theorem dX12_copyRow_0 : decode cX12_copyRow 0 = .ok (.iconst 0, 1) := by decide +kernel
theorem dX12_copyRow_1 : decode cX12_copyRow 1 = .ok (.istore_n 3, 1) := by decide +kernel
theorem dX12_copyRow_2 : decode cX12_copyRow 2 = .ok (.iload_n 3, 1) := by decide +kernel
theorem dX12_copyRow_3 : decode cX12_copyRow 3 = .ok (.bipush 31, 2) := by decide +kernel
theorem dX12_copyRow_5 : decode cX12_copyRow 5 = .ok (.if_icmp .ge 31, 3) := by decide +kernel
theorem dX12_copyRow_8 : decode cX12_copyRow 8 = .ok (.aload_n 0, 1) := by decide +kernel
theorem dX12_copyRow_9 : decode cX12_copyRow 9 = .ok (.getfield 23, 3) := by decide +kernel
theorem dX12_copyRow_12 : decode cX12_copyRow 12 = .ok (.bipush 31, 2) := by decide +kernel
theorem dX12_copyRow_14 : decode cX12_copyRow 14 = .ok (.iload_n 2, 1) := by decide +kernel
theorem dX12_copyRow_15 : decode cX12_copyRow 15 = .ok (.imul, 1) := by decide +kernel
theorem dX12_copyRow_16 : decode cX12_copyRow 16 = .ok (.iload_n 3, 1) := by decide +kernel
theorem dX12_copyRow_17 : decode cX12_copyRow 17 = .ok (.iadd, 1) := by decide +kernel
theorem dX12_copyRow_18 : decode cX12_copyRow 18 = .ok (.aload_n 0, 1) := by decide +kernel
theorem dX12_copyRow_19 : decode cX12_copyRow 19 = .ok (.getfield 23, 3) := by decide +kernel
theorem dX12_copyRow_22 : decode cX12_copyRow 22 = .ok (.bipush 31, 2) := by decide +kernel
theorem dX12_copyRow_24 : decode cX12_copyRow 24 = .ok (.iload_n 1, 1) := by decide +kernel
theorem dX12_copyRow_25 : decode cX12_copyRow 25 = .ok (.imul, 1) := by decide +kernel
theorem dX12_copyRow_26 : decode cX12_copyRow 26 = .ok (.iload_n 3, 1) := by decide +kernel
theorem dX12_copyRow_27 : decode cX12_copyRow 27 = .ok (.iadd, 1) := by decide +kernel
theorem dX12_copyRow_28 : decode cX12_copyRow 28 = .ok (.iaload, 1) := by decide +kernel
theorem dX12_copyRow_29 : decode cX12_copyRow 29 = .ok (.iastore, 1) := by decide +kernel
theorem dX12_copyRow_30 : decode cX12_copyRow 30 = .ok (.iinc 3 1, 3) := by decide +kernel
theorem dX12_copyRow_33 : decode cX12_copyRow 33 = .ok (.goto (-31), 3) := by decide +kernel
theorem dX12_copyRow_36 : decode cX12_copyRow 36 = .ok (.return_, 1) := by decide +kernel
theorem dX12_areSame_0 : decode cX12_areSame 0 = .ok (.aload_n 0, 1) := by decide +kernel
theorem dX12_areSame_1 : decode cX12_areSame 1 = .ok (.iload_n 1, 1) := by decide +kernel
theorem dX12_areSame_2 : decode cX12_areSame 2 = .ok (.invokevirtual 109, 3) := by decide +kernel
theorem dX12_areSame_5 : decode cX12_areSame 5 = .ok (.aload_n 0, 1) := by decide +kernel
theorem dX12_areSame_6 : decode cX12_areSame 6 = .ok (.iload_n 2, 1) := by decide +kernel
theorem dX12_areSame_7 : decode cX12_areSame 7 = .ok (.invokevirtual 109, 3) := by decide +kernel
theorem dX12_areSame_10 : decode cX12_areSame 10 = .ok (.if_icmp .ne 7, 3) := by decide +kernel
theorem dX12_areSame_13 : decode cX12_areSame 13 = .ok (.iconst 1, 1) := by decide +kernel
theorem dX12_areSame_14 : decode cX12_areSame 14 = .ok (.goto 4, 3) := by decide +kernel
theorem dX12_areSame_17 : decode cX12_areSame 17 = .ok (.iconst 0, 1) := by decide +kernel
theorem dX12_areSame_18 : decode cX12_areSame 18 = .ok (.istore_n 3, 1) := by decide +kernel
theorem dX12_areSame_19 : decode cX12_areSame 19 = .ok (.iconst 0, 1) := by decide +kernel
theorem dX12_areSame_20 : decode cX12_areSame 20 = .ok (.istore 4, 2) := by decide +kernel
theorem dX12_areSame_22 : decode cX12_areSame 22 = .ok (.iload 4, 2) := by decide +kernel
theorem dX12_areSame_24 : decode cX12_areSame 24 = .ok (.aload_n 0, 1) := by decide +kernel
theorem dX12_areSame_25 : decode cX12_areSame 25 = .ok (.iload_n 1, 1) := by decide +kernel
theorem dX12_areSame_26 : decode cX12_areSame 26 = .ok (.invokevirtual 109, 3) := by decide +kernel
theorem dX12_areSame_29 : decode cX12_areSame 29 = .ok (.if_icmp .ge 36, 3) := by decide +kernel
theorem dX12_areSame_32 : decode cX12_areSame 32 = .ok (.iload_n 3, 1) := by decide +kernel
theorem dX12_areSame_33 : decode cX12_areSame 33 = .ok (.ifCond .eq 32, 3) := by decide +kernel
theorem dX12_areSame_36 : decode cX12_areSame 36 = .ok (.aload_n 0, 1) := by decide +kernel
theorem dX12_areSame_37 : decode cX12_areSame 37 = .ok (.iload_n 1, 1) := by decide +kernel
theorem dX12_areSame_38 : decode cX12_areSame 38 = .ok (.iload 4, 2) := by decide +kernel
theorem dX12_areSame_40 : decode cX12_areSame 40 = .ok (.invokevirtual 113, 3) := by decide +kernel
theorem dX12_areSame_43 : decode cX12_areSame 43 = .ok (.aload_n 0, 1) := by decide +kernel
theorem dX12_areSame_44 : decode cX12_areSame 44 = .ok (.iload_n 2, 1) := by decide +kernel
theorem dX12_areSame_45 : decode cX12_areSame 45 = .ok (.iload 4, 2) := by decide +kernel
theorem dX12_areSame_47 : decode cX12_areSame 47 = .ok (.invokevirtual 113, 3) := by decide +kernel
theorem dX12_areSame_50 : decode cX12_areSame 50 = .ok (.if_icmp .ne 7, 3) := by decide +kernel
theorem dX12_areSame_53 : decode cX12_areSame 53 = .ok (.iconst 1, 1) := by decide +kernel
theorem dX12_areSame_54 : decode cX12_areSame 54 = .ok (.goto 4, 3) := by decide +kernel
theorem dX12_areSame_57 : decode cX12_areSame 57 = .ok (.iconst 0, 1) := by decide +kernel
theorem dX12_areSame_58 : decode cX12_areSame 58 = .ok (.istore_n 3, 1) := by decide +kernel
theorem dX12_areSame_59 : decode cX12_areSame 59 = .ok (.iinc 4 1, 3) := by decide +kernel
theorem dX12_areSame_62 : decode cX12_areSame 62 = .ok (.goto (-40), 3) := by decide +kernel
theorem dX12_areSame_65 : decode cX12_areSame 65 = .ok (.iload_n 3, 1) := by decide +kernel
theorem dX12_areSame_66 : decode cX12_areSame 66 = .ok (.ireturn, 1) := by decide +kernel
theorem dX12_cutTo_0 : decode cX12_cutTo 0 = .ok (.aload_n 0, 1) := by decide +kernel
theorem dX12_cutTo_1 : decode cX12_cutTo 1 = .ok (.getfield 23, 3) := by decide +kernel
theorem dX12_cutTo_4 : decode cX12_cutTo 4 = .ok (.bipush 31, 2) := by decide +kernel
theorem dX12_cutTo_6 : decode cX12_cutTo 6 = .ok (.iload_n 1, 1) := by decide +kernel
theorem dX12_cutTo_7 : decode cX12_cutTo 7 = .ok (.imul, 1) := by decide +kernel
theorem dX12_cutTo_8 : decode cX12_cutTo 8 = .ok (.iload_n 2, 1) := by decide +kernel
theorem dX12_cutTo_9 : decode cX12_cutTo 9 = .ok (.iastore, 1) := by decide +kernel
theorem dX12_cutTo_10 : decode cX12_cutTo 10 = .ok (.return_, 1) := by decide +kernel
theorem dX12_makes_0 : decode cX12_makes 0 = .ok (.aload_n 0, 1) := by decide +kernel
theorem dX12_makes_1 : decode cX12_makes 1 = .ok (.getfield 117, 3) := by decide +kernel
theorem dX12_makes_4 : decode cX12_makes 4 = .ok (.bipush 30, 2) := by decide +kernel
theorem dX12_makes_6 : decode cX12_makes 6 = .ok (.if_icmp .ge 13, 3) := by decide +kernel
theorem dX12_makes_9 : decode cX12_makes 9 = .ok (.aload_n 0, 1) := by decide +kernel
theorem dX12_makes_10 : decode cX12_makes 10 = .ok (.getfield 41, 3) := by decide +kernel
theorem dX12_makes_13 : decode cX12_makes 13 = .ok (.aload_n 0, 1) := by decide +kernel
theorem dX12_makes_14 : decode cX12_makes 14 = .ok (.getfield 117, 3) := by decide +kernel
theorem dX12_makes_17 : decode cX12_makes 17 = .ok (.iload_n 1, 1) := by decide +kernel
theorem dX12_makes_18 : decode cX12_makes 18 = .ok (.iastore, 1) := by decide +kernel
theorem dX12_makes_19 : decode cX12_makes 19 = .ok (.aload_n 0, 1) := by decide +kernel
theorem dX12_makes_20 : decode cX12_makes 20 = .ok (.dup, 1) := by decide +kernel
theorem dX12_makes_21 : decode cX12_makes 21 = .ok (.getfield 117, 3) := by decide +kernel
theorem dX12_makes_24 : decode cX12_makes 24 = .ok (.iconst 1, 1) := by decide +kernel
theorem dX12_makes_25 : decode cX12_makes 25 = .ok (.iadd, 1) := by decide +kernel
theorem dX12_makes_26 : decode cX12_makes 26 = .ok (.putfield 117, 3) := by decide +kernel
theorem dX12_makes_29 : decode cX12_makes 29 = .ok (.return_, 1) := by decide +kernel
theorem dX12_makesRow_0 : decode cX12_makesRow 0 = .ok (.iload_n 2, 1) := by decide +kernel
theorem dX12_makesRow_1 : decode cX12_makesRow 1 = .ok (.istore 4, 2) := by decide +kernel
theorem dX12_makesRow_3 : decode cX12_makesRow 3 = .ok (.iload 4, 2) := by decide +kernel
theorem dX12_makesRow_5 : decode cX12_makesRow 5 = .ok (.iload_n 3, 1) := by decide +kernel
theorem dX12_makesRow_6 : decode cX12_makesRow 6 = .ok (.if_icmp .ge 20, 3) := by decide +kernel
theorem dX12_makesRow_9 : decode cX12_makesRow 9 = .ok (.aload_n 0, 1) := by decide +kernel
theorem dX12_makesRow_10 : decode cX12_makesRow 10 = .ok (.aload_n 0, 1) := by decide +kernel
theorem dX12_makesRow_11 : decode cX12_makesRow 11 = .ok (.iload_n 1, 1) := by decide +kernel
theorem dX12_makesRow_12 : decode cX12_makesRow 12 = .ok (.iload 4, 2) := by decide +kernel
theorem dX12_makesRow_14 : decode cX12_makesRow 14 = .ok (.invokevirtual 113, 3) := by decide +kernel
theorem dX12_makesRow_17 : decode cX12_makesRow 17 = .ok (.invokevirtual 120, 3) := by decide +kernel
theorem dX12_makesRow_20 : decode cX12_makesRow 20 = .ok (.iinc 4 1, 3) := by decide +kernel
theorem dX12_makesRow_23 : decode cX12_makesRow 23 = .ok (.goto (-20), 3) := by decide +kernel
theorem dX12_makesRow_26 : decode cX12_makesRow 26 = .ok (.return_, 1) := by decide +kernel
theorem dX12_makesNumber_0 : decode cX12_makesNumber 0 = .ok (.iload_n 1, 1) := by decide +kernel
theorem dX12_makesNumber_1 : decode cX12_makesNumber 1 = .ok (.bipush 99, 2) := by decide +kernel
theorem dX12_makesNumber_3 : decode cX12_makesNumber 3 = .ok (.if_icmp .le 14, 3) := by decide +kernel
theorem dX12_makesNumber_6 : decode cX12_makesNumber 6 = .ok (.aload_n 0, 1) := by decide +kernel
theorem dX12_makesNumber_7 : decode cX12_makesNumber 7 = .ok (.bipush 48, 2) := by decide +kernel
theorem dX12_makesNumber_9 : decode cX12_makesNumber 9 = .ok (.iload_n 1, 1) := by decide +kernel
theorem dX12_makesNumber_10 : decode cX12_makesNumber 10 = .ok (.bipush 100, 2) := by decide +kernel
theorem dX12_makesNumber_12 : decode cX12_makesNumber 12 = .ok (.idiv, 1) := by decide +kernel
theorem dX12_makesNumber_13 : decode cX12_makesNumber 13 = .ok (.iadd, 1) := by decide +kernel
theorem dX12_makesNumber_14 : decode cX12_makesNumber 14 = .ok (.invokevirtual 120, 3) := by decide +kernel
theorem dX12_makesNumber_17 : decode cX12_makesNumber 17 = .ok (.iload_n 1, 1) := by decide +kernel
theorem dX12_makesNumber_18 : decode cX12_makesNumber 18 = .ok (.bipush 9, 2) := by decide +kernel
theorem dX12_makesNumber_20 : decode cX12_makesNumber 20 = .ok (.if_icmp .le 17, 3) := by decide +kernel
theorem dX12_makesNumber_23 : decode cX12_makesNumber 23 = .ok (.aload_n 0, 1) := by decide +kernel
theorem dX12_makesNumber_24 : decode cX12_makesNumber 24 = .ok (.bipush 48, 2) := by decide +kernel
theorem dX12_makesNumber_26 : decode cX12_makesNumber 26 = .ok (.iload_n 1, 1) := by decide +kernel
theorem dX12_makesNumber_27 : decode cX12_makesNumber 27 = .ok (.bipush 10, 2) := by decide +kernel
theorem dX12_makesNumber_29 : decode cX12_makesNumber 29 = .ok (.idiv, 1) := by decide +kernel
theorem dX12_makesNumber_30 : decode cX12_makesNumber 30 = .ok (.bipush 10, 2) := by decide +kernel
theorem dX12_makesNumber_32 : decode cX12_makesNumber 32 = .ok (.irem, 1) := by decide +kernel
theorem dX12_makesNumber_33 : decode cX12_makesNumber 33 = .ok (.iadd, 1) := by decide +kernel
theorem dX12_makesNumber_34 : decode cX12_makesNumber 34 = .ok (.invokevirtual 120, 3) := by decide +kernel
theorem dX12_makesNumber_37 : decode cX12_makesNumber 37 = .ok (.aload_n 0, 1) := by decide +kernel
theorem dX12_makesNumber_38 : decode cX12_makesNumber 38 = .ok (.bipush 48, 2) := by decide +kernel
