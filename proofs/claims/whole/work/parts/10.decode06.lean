theorem dX12_makesNumber_40 : decode cX12_makesNumber 40 = .ok (.iload_n 1, 1) := by decide +kernel
theorem dX12_makesNumber_41 : decode cX12_makesNumber 41 = .ok (.bipush 10, 2) := by decide +kernel
theorem dX12_makesNumber_43 : decode cX12_makesNumber 43 = .ok (.irem, 1) := by decide +kernel
theorem dX12_makesNumber_44 : decode cX12_makesNumber 44 = .ok (.iadd, 1) := by decide +kernel
theorem dX12_makesNumber_45 : decode cX12_makesNumber 45 = .ok (.invokevirtual 120, 3) := by decide +kernel
theorem dX12_makesNumber_48 : decode cX12_makesNumber 48 = .ok (.return_, 1) := by decide +kernel
theorem dX12_lays_0 : decode cX12_lays 0 = .ok (.aload_n 0, 1) := by decide +kernel
theorem dX12_lays_1 : decode cX12_lays 1 = .ok (.getfield 117, 3) := by decide +kernel
theorem dX12_lays_4 : decode cX12_lays 4 = .ok (.bipush 30, 2) := by decide +kernel
theorem dX12_lays_6 : decode cX12_lays 6 = .ok (.if_icmp .le 5, 3) := by decide +kernel
theorem dX12_lays_9 : decode cX12_lays 9 = .ok (.iconst 0, 1) := by decide +kernel
theorem dX12_lays_10 : decode cX12_lays 10 = .ok (.ireturn, 1) := by decide +kernel
theorem dX12_lays_11 : decode cX12_lays 11 = .ok (.aload_n 0, 1) := by decide +kernel
theorem dX12_lays_12 : decode cX12_lays 12 = .ok (.getfield 23, 3) := by decide +kernel
theorem dX12_lays_15 : decode cX12_lays 15 = .ok (.bipush 31, 2) := by decide +kernel
theorem dX12_lays_17 : decode cX12_lays 17 = .ok (.iload_n 1, 1) := by decide +kernel
theorem dX12_lays_18 : decode cX12_lays 18 = .ok (.imul, 1) := by decide +kernel
theorem dX12_lays_19 : decode cX12_lays 19 = .ok (.aload_n 0, 1) := by decide +kernel
theorem dX12_lays_20 : decode cX12_lays 20 = .ok (.getfield 117, 3) := by decide +kernel
theorem dX12_lays_23 : decode cX12_lays 23 = .ok (.iastore, 1) := by decide +kernel
theorem dX12_lays_24 : decode cX12_lays 24 = .ok (.iconst 0, 1) := by decide +kernel
theorem dX12_lays_25 : decode cX12_lays 25 = .ok (.istore_n 2, 1) := by decide +kernel
theorem dX12_lays_26 : decode cX12_lays 26 = .ok (.iload_n 2, 1) := by decide +kernel
theorem dX12_lays_27 : decode cX12_lays 27 = .ok (.aload_n 0, 1) := by decide +kernel
theorem dX12_lays_28 : decode cX12_lays 28 = .ok (.getfield 117, 3) := by decide +kernel
theorem dX12_lays_31 : decode cX12_lays 31 = .ok (.if_icmp .ge 28, 3) := by decide +kernel
theorem dX12_lays_34 : decode cX12_lays 34 = .ok (.aload_n 0, 1) := by decide +kernel
theorem dX12_lays_35 : decode cX12_lays 35 = .ok (.getfield 23, 3) := by decide +kernel
theorem dX12_lays_38 : decode cX12_lays 38 = .ok (.bipush 31, 2) := by decide +kernel
theorem dX12_lays_40 : decode cX12_lays 40 = .ok (.iload_n 1, 1) := by decide +kernel
theorem dX12_lays_41 : decode cX12_lays 41 = .ok (.imul, 1) := by decide +kernel
theorem dX12_lays_42 : decode cX12_lays 42 = .ok (.iconst 1, 1) := by decide +kernel
theorem dX12_lays_43 : decode cX12_lays 43 = .ok (.iadd, 1) := by decide +kernel
theorem dX12_lays_44 : decode cX12_lays 44 = .ok (.iload_n 2, 1) := by decide +kernel
theorem dX12_lays_45 : decode cX12_lays 45 = .ok (.iadd, 1) := by decide +kernel
theorem dX12_lays_46 : decode cX12_lays 46 = .ok (.aload_n 0, 1) := by decide +kernel
theorem dX12_lays_47 : decode cX12_lays 47 = .ok (.getfield 41, 3) := by decide +kernel
theorem dX12_lays_50 : decode cX12_lays 50 = .ok (.iload_n 2, 1) := by decide +kernel
theorem dX12_lays_51 : decode cX12_lays 51 = .ok (.iaload, 1) := by decide +kernel
theorem dX12_lays_52 : decode cX12_lays 52 = .ok (.iastore, 1) := by decide +kernel
theorem dX12_lays_53 : decode cX12_lays 53 = .ok (.iinc 2 1, 3) := by decide +kernel
theorem dX12_lays_56 : decode cX12_lays 56 = .ok (.goto (-30), 3) := by decide +kernel
theorem dX12_lays_59 : decode cX12_lays 59 = .ok (.iconst 1, 1) := by decide +kernel
theorem dX12_lays_60 : decode cX12_lays 60 = .ok (.ireturn, 1) := by decide +kernel
theorem dX12_textRow_0 : decode cX12_textRow 0 = .ok (.iconst 0, 1) := by decide +kernel
theorem dX12_textRow_1 : decode cX12_textRow 1 = .ok (.iload_n 0, 1) := by decide +kernel
theorem dX12_textRow_2 : decode cX12_textRow 2 = .ok (.iadd, 1) := by decide +kernel
theorem dX12_textRow_3 : decode cX12_textRow 3 = .ok (.iconst 1, 1) := by decide +kernel
theorem dX12_textRow_4 : decode cX12_textRow 4 = .ok (.isub, 1) := by decide +kernel
theorem dX12_textRow_5 : decode cX12_textRow 5 = .ok (.ireturn, 1) := by decide +kernel
theorem dX12_open_0 : decode cX12_open 0 = .ok (.aload_n 0, 1) := by decide +kernel
theorem dX12_open_1 : decode cX12_open 1 = .ok (.getfield 124, 3) := by decide +kernel
theorem dX12_open_4 : decode cX12_open 4 = .ok (.istore_n 2, 1) := by decide +kernel
theorem dX12_open_5 : decode cX12_open 5 = .ok (.iload_n 2, 1) := by decide +kernel
theorem dX12_open_6 : decode cX12_open 6 = .ok (.iload_n 1, 1) := by decide +kernel
theorem dX12_open_7 : decode cX12_open 7 = .ok (.if_icmp .le 35, 3) := by decide +kernel
theorem dX12_open_10 : decode cX12_open 10 = .ok (.aload_n 0, 1) := by decide +kernel
theorem dX12_open_11 : decode cX12_open 11 = .ok (.iconst 0, 1) := by decide +kernel
theorem dX12_open_12 : decode cX12_open 12 = .ok (.iload_n 2, 1) := by decide +kernel
theorem dX12_open_13 : decode cX12_open 13 = .ok (.iadd, 1) := by decide +kernel
theorem dX12_open_14 : decode cX12_open 14 = .ok (.iconst 1, 1) := by decide +kernel
theorem dX12_open_15 : decode cX12_open 15 = .ok (.isub, 1) := by decide +kernel
theorem dX12_open_16 : decode cX12_open 16 = .ok (.iconst 0, 1) := by decide +kernel
theorem dX12_open_17 : decode cX12_open 17 = .ok (.iload_n 2, 1) := by decide +kernel
theorem dX12_open_18 : decode cX12_open 18 = .ok (.iadd, 1) := by decide +kernel
theorem dX12_open_19 : decode cX12_open 19 = .ok (.invokevirtual 127, 3) := by decide +kernel
theorem dX12_open_22 : decode cX12_open 22 = .ok (.aload_n 0, 1) := by decide +kernel
theorem dX12_open_23 : decode cX12_open 23 = .ok (.getfield 26, 3) := by decide +kernel
theorem dX12_open_26 : decode cX12_open 26 = .ok (.iload_n 2, 1) := by decide +kernel
theorem dX12_open_27 : decode cX12_open 27 = .ok (.aload_n 0, 1) := by decide +kernel
theorem dX12_open_28 : decode cX12_open 28 = .ok (.getfield 26, 3) := by decide +kernel
theorem dX12_open_31 : decode cX12_open 31 = .ok (.iload_n 2, 1) := by decide +kernel
theorem dX12_open_32 : decode cX12_open 32 = .ok (.iconst 1, 1) := by decide +kernel
theorem dX12_open_33 : decode cX12_open 33 = .ok (.isub, 1) := by decide +kernel
theorem dX12_open_34 : decode cX12_open 34 = .ok (.iaload, 1) := by decide +kernel
theorem dX12_open_35 : decode cX12_open 35 = .ok (.iastore, 1) := by decide +kernel
theorem dX12_open_36 : decode cX12_open 36 = .ok (.iinc 2 (-1), 3) := by decide +kernel
theorem dX12_open_39 : decode cX12_open 39 = .ok (.goto (-34), 3) := by decide +kernel
theorem dX12_open_42 : decode cX12_open 42 = .ok (.aload_n 0, 1) := by decide +kernel
theorem dX12_open_43 : decode cX12_open 43 = .ok (.dup, 1) := by decide +kernel
theorem dX12_open_44 : decode cX12_open 44 = .ok (.getfield 124, 3) := by decide +kernel
theorem dX12_open_47 : decode cX12_open 47 = .ok (.iconst 1, 1) := by decide +kernel
theorem dX12_open_48 : decode cX12_open 48 = .ok (.iadd, 1) := by decide +kernel
theorem dX12_open_49 : decode cX12_open 49 = .ok (.putfield 124, 3) := by decide +kernel
theorem dX12_open_52 : decode cX12_open 52 = .ok (.return_, 1) := by decide +kernel
theorem dX12_close_0 : decode cX12_close 0 = .ok (.iload_n 1, 1) := by decide +kernel
theorem dX12_close_1 : decode cX12_close 1 = .ok (.istore_n 2, 1) := by decide +kernel
theorem dX12_close_2 : decode cX12_close 2 = .ok (.iload_n 2, 1) := by decide +kernel
theorem dX12_close_3 : decode cX12_close 3 = .ok (.aload_n 0, 1) := by decide +kernel
theorem dX12_close_4 : decode cX12_close 4 = .ok (.getfield 124, 3) := by decide +kernel
theorem dX12_close_7 : decode cX12_close 7 = .ok (.if_icmp .ge 35, 3) := by decide +kernel
theorem dX12_close_10 : decode cX12_close 10 = .ok (.aload_n 0, 1) := by decide +kernel
theorem dX12_close_11 : decode cX12_close 11 = .ok (.iconst 0, 1) := by decide +kernel
theorem dX12_close_12 : decode cX12_close 12 = .ok (.iload_n 2, 1) := by decide +kernel
theorem dX12_close_13 : decode cX12_close 13 = .ok (.iadd, 1) := by decide +kernel
theorem dX12_close_14 : decode cX12_close 14 = .ok (.iconst 0, 1) := by decide +kernel
theorem dX12_close_15 : decode cX12_close 15 = .ok (.iload_n 2, 1) := by decide +kernel
theorem dX12_close_16 : decode cX12_close 16 = .ok (.iadd, 1) := by decide +kernel
theorem dX12_close_17 : decode cX12_close 17 = .ok (.iconst 1, 1) := by decide +kernel
theorem dX12_close_18 : decode cX12_close 18 = .ok (.isub, 1) := by decide +kernel
theorem dX12_close_19 : decode cX12_close 19 = .ok (.invokevirtual 127, 3) := by decide +kernel
theorem dX12_close_22 : decode cX12_close 22 = .ok (.aload_n 0, 1) := by decide +kernel
theorem dX12_close_23 : decode cX12_close 23 = .ok (.getfield 26, 3) := by decide +kernel
theorem dX12_close_26 : decode cX12_close 26 = .ok (.iload_n 2, 1) := by decide +kernel
theorem dX12_close_27 : decode cX12_close 27 = .ok (.iconst 1, 1) := by decide +kernel
theorem dX12_close_28 : decode cX12_close 28 = .ok (.isub, 1) := by decide +kernel
theorem dX12_close_29 : decode cX12_close 29 = .ok (.aload_n 0, 1) := by decide +kernel
theorem dX12_close_30 : decode cX12_close 30 = .ok (.getfield 26, 3) := by decide +kernel
theorem dX12_close_33 : decode cX12_close 33 = .ok (.iload_n 2, 1) := by decide +kernel
theorem dX12_close_34 : decode cX12_close 34 = .ok (.iaload, 1) := by decide +kernel
theorem dX12_close_35 : decode cX12_close 35 = .ok (.iastore, 1) := by decide +kernel
theorem dX12_close_36 : decode cX12_close 36 = .ok (.iinc 2 1, 3) := by decide +kernel
theorem dX12_close_39 : decode cX12_close 39 = .ok (.goto (-37), 3) := by decide +kernel
theorem dX12_close_42 : decode cX12_close 42 = .ok (.aload_n 0, 1) := by decide +kernel
theorem dX12_close_43 : decode cX12_close 43 = .ok (.dup, 1) := by decide +kernel
theorem dX12_close_44 : decode cX12_close 44 = .ok (.getfield 124, 3) := by decide +kernel
theorem dX12_close_47 : decode cX12_close 47 = .ok (.iconst 1, 1) := by decide +kernel
theorem dX12_close_48 : decode cX12_close 48 = .ok (.isub, 1) := by decide +kernel
theorem dX12_close_49 : decode cX12_close 49 = .ok (.putfield 124, 3) := by decide +kernel
theorem dX12_close_52 : decode cX12_close 52 = .ok (.return_, 1) := by decide +kernel
theorem dX12_bring_0 : decode cX12_bring 0 = .ok (.aload_n 0, 1) := by decide +kernel
theorem dX12_bring_1 : decode cX12_bring 1 = .ok (.iload_n 2, 1) := by decide +kernel
theorem dX12_bring_2 : decode cX12_bring 2 = .ok (.invokevirtual 131, 3) := by decide +kernel
theorem dX12_bring_5 : decode cX12_bring 5 = .ok (.aload_n 0, 1) := by decide +kernel
theorem dX12_bring_6 : decode cX12_bring 6 = .ok (.iload_n 1, 1) := by decide +kernel
theorem dX12_bring_7 : decode cX12_bring 7 = .ok (.iconst 0, 1) := by decide +kernel
theorem dX12_bring_8 : decode cX12_bring 8 = .ok (.iload_n 2, 1) := by decide +kernel
theorem dX12_bring_9 : decode cX12_bring 9 = .ok (.iadd, 1) := by decide +kernel
theorem dX12_bring_10 : decode cX12_bring 10 = .ok (.invokevirtual 127, 3) := by decide +kernel
theorem dX12_bring_13 : decode cX12_bring 13 = .ok (.aload_n 0, 1) := by decide +kernel
theorem dX12_bring_14 : decode cX12_bring 14 = .ok (.getfield 26, 3) := by decide +kernel
theorem dX12_bring_17 : decode cX12_bring 17 = .ok (.iload_n 2, 1) := by decide +kernel
theorem dX12_bring_18 : decode cX12_bring 18 = .ok (.aload_n 0, 1) := by decide +kernel
theorem dX12_bring_19 : decode cX12_bring 19 = .ok (.getfield 134, 3) := by decide +kernel
theorem dX12_bring_22 : decode cX12_bring 22 = .ok (.iastore, 1) := by decide +kernel
theorem dX12_bring_23 : decode cX12_bring 23 = .ok (.aload_n 0, 1) := by decide +kernel
theorem dX12_bring_24 : decode cX12_bring 24 = .ok (.dup, 1) := by decide +kernel
theorem dX12_bring_25 : decode cX12_bring 25 = .ok (.getfield 134, 3) := by decide +kernel
theorem dX12_bring_28 : decode cX12_bring 28 = .ok (.iconst 1, 1) := by decide +kernel
theorem dX12_bring_29 : decode cX12_bring 29 = .ok (.iadd, 1) := by decide +kernel
theorem dX12_bring_30 : decode cX12_bring 30 = .ok (.putfield 134, 3) := by decide +kernel
theorem dX12_bring_33 : decode cX12_bring 33 = .ok (.return_, 1) := by decide +kernel
theorem dX12_unmark_0 : decode cX12_unmark 0 = .ok (.iconst 0, 1) := by decide +kernel
theorem dX12_unmark_1 : decode cX12_unmark 1 = .ok (.istore_n 2, 1) := by decide +kernel
theorem dX12_unmark_2 : decode cX12_unmark 2 = .ok (.iload_n 2, 1) := by decide +kernel
theorem dX12_unmark_3 : decode cX12_unmark 3 = .ok (.iconst 5, 1) := by decide +kernel
theorem dX12_unmark_4 : decode cX12_unmark 4 = .ok (.if_icmp .ge 35, 3) := by decide +kernel
theorem dX12_unmark_7 : decode cX12_unmark 7 = .ok (.aload_n 0, 1) := by decide +kernel
theorem dX12_unmark_8 : decode cX12_unmark 8 = .ok (.getfield 35, 3) := by decide +kernel
theorem dX12_unmark_11 : decode cX12_unmark 11 = .ok (.iload_n 2, 1) := by decide +kernel
theorem dX12_unmark_12 : decode cX12_unmark 12 = .ok (.aload_n 0, 1) := by decide +kernel
theorem dX12_unmark_13 : decode cX12_unmark 13 = .ok (.getfield 35, 3) := by decide +kernel
theorem dX12_unmark_16 : decode cX12_unmark 16 = .ok (.iload_n 2, 1) := by decide +kernel
theorem dX12_unmark_17 : decode cX12_unmark 17 = .ok (.iaload, 1) := by decide +kernel
theorem dX12_unmark_18 : decode cX12_unmark 18 = .ok (.iload_n 1, 1) := by decide +kernel
theorem dX12_unmark_19 : decode cX12_unmark 19 = .ok (.if_icmp .ne 7, 3) := by decide +kernel
theorem dX12_unmark_22 : decode cX12_unmark 22 = .ok (.iconst (-1), 1) := by decide +kernel
theorem dX12_unmark_23 : decode cX12_unmark 23 = .ok (.goto 9, 3) := by decide +kernel
theorem dX12_unmark_26 : decode cX12_unmark 26 = .ok (.aload_n 0, 1) := by decide +kernel
theorem dX12_unmark_27 : decode cX12_unmark 27 = .ok (.getfield 35, 3) := by decide +kernel
theorem dX12_unmark_30 : decode cX12_unmark 30 = .ok (.iload_n 2, 1) := by decide +kernel
theorem dX12_unmark_31 : decode cX12_unmark 31 = .ok (.iaload, 1) := by decide +kernel
theorem dX12_unmark_32 : decode cX12_unmark 32 = .ok (.iastore, 1) := by decide +kernel
theorem dX12_unmark_33 : decode cX12_unmark 33 = .ok (.iinc 2 1, 3) := by decide +kernel
theorem dX12_unmark_36 : decode cX12_unmark 36 = .ok (.goto (-34), 3) := by decide +kernel
theorem dX12_unmark_39 : decode cX12_unmark 39 = .ok (.return_, 1) := by decide +kernel
theorem dX12_goes_0 : decode cX12_goes 0 = .ok (.aload_n 0, 1) := by decide +kernel
theorem dX12_goes_1 : decode cX12_goes 1 = .ok (.aload_n 0, 1) := by decide +kernel
theorem dX12_goes_2 : decode cX12_goes 2 = .ok (.getfield 26, 3) := by decide +kernel
theorem dX12_goes_5 : decode cX12_goes 5 = .ok (.iload_n 1, 1) := by decide +kernel
theorem dX12_goes_6 : decode cX12_goes 6 = .ok (.iconst 1, 1) := by decide +kernel
theorem dX12_goes_7 : decode cX12_goes 7 = .ok (.isub, 1) := by decide +kernel
theorem dX12_goes_8 : decode cX12_goes 8 = .ok (.iaload, 1) := by decide +kernel
theorem dX12_goes_9 : decode cX12_goes 9 = .ok (.invokevirtual 137, 3) := by decide +kernel
theorem dX12_goes_12 : decode cX12_goes 12 = .ok (.aload_n 0, 1) := by decide +kernel
theorem dX12_goes_13 : decode cX12_goes 13 = .ok (.iload_n 1, 1) := by decide +kernel
theorem dX12_goes_14 : decode cX12_goes 14 = .ok (.invokevirtual 140, 3) := by decide +kernel
theorem dX12_goes_17 : decode cX12_goes 17 = .ok (.return_, 1) := by decide +kernel
theorem dX12_lineWith_0 : decode cX12_lineWith 0 = .ok (.iconst 0, 1) := by decide +kernel
theorem dX12_lineWith_1 : decode cX12_lineWith 1 = .ok (.istore_n 2, 1) := by decide +kernel
theorem dX12_lineWith_2 : decode cX12_lineWith 2 = .ok (.iload_n 2, 1) := by decide +kernel
theorem dX12_lineWith_3 : decode cX12_lineWith 3 = .ok (.aload_n 0, 1) := by decide +kernel
theorem dX12_lineWith_4 : decode cX12_lineWith 4 = .ok (.getfield 124, 3) := by decide +kernel
theorem dX12_lineWith_7 : decode cX12_lineWith 7 = .ok (.if_icmp .ge 23, 3) := by decide +kernel
theorem dX12_lineWith_10 : decode cX12_lineWith 10 = .ok (.aload_n 0, 1) := by decide +kernel
theorem dX12_lineWith_11 : decode cX12_lineWith 11 = .ok (.getfield 26, 3) := by decide +kernel
theorem dX12_lineWith_14 : decode cX12_lineWith 14 = .ok (.iload_n 2, 1) := by decide +kernel
theorem dX12_lineWith_15 : decode cX12_lineWith 15 = .ok (.iaload, 1) := by decide +kernel
theorem dX12_lineWith_16 : decode cX12_lineWith 16 = .ok (.iload_n 1, 1) := by decide +kernel
theorem dX12_lineWith_17 : decode cX12_lineWith 17 = .ok (.if_icmp .ne 7, 3) := by decide +kernel
theorem dX12_lineWith_20 : decode cX12_lineWith 20 = .ok (.iload_n 2, 1) := by decide +kernel
theorem dX12_lineWith_21 : decode cX12_lineWith 21 = .ok (.iconst 1, 1) := by decide +kernel
theorem dX12_lineWith_22 : decode cX12_lineWith 22 = .ok (.iadd, 1) := by decide +kernel
theorem dX12_lineWith_23 : decode cX12_lineWith 23 = .ok (.ireturn, 1) := by decide +kernel
theorem dX12_lineWith_24 : decode cX12_lineWith 24 = .ok (.iinc 2 1, 3) := by decide +kernel
theorem dX12_lineWith_27 : decode cX12_lineWith 27 = .ok (.goto (-25), 3) := by decide +kernel
theorem dX12_lineWith_30 : decode cX12_lineWith 30 = .ok (.iconst 0, 1) := by decide +kernel
theorem dX12_lineWith_31 : decode cX12_lineWith 31 = .ok (.ireturn, 1) := by decide +kernel
theorem dX12_loadTape_0 : decode cX12_loadTape 0 = .ok (.aload_n 0, 1) := by decide +kernel
theorem dX12_loadTape_1 : decode cX12_loadTape 1 = .ok (.aload_n 0, 1) := by decide +kernel
theorem dX12_loadTape_2 : decode cX12_loadTape 2 = .ok (.getfield 143, 3) := by decide +kernel
theorem dX12_loadTape_5 : decode cX12_loadTape 5 = .ok (.putfield 146, 3) := by decide +kernel
theorem dX12_loadTape_8 : decode cX12_loadTape 8 = .ok (.iconst 0, 1) := by decide +kernel
theorem dX12_loadTape_9 : decode cX12_loadTape 9 = .ok (.istore_n 1, 1) := by decide +kernel
theorem dX12_loadTape_10 : decode cX12_loadTape 10 = .ok (.iload_n 1, 1) := by decide +kernel
theorem dX12_loadTape_11 : decode cX12_loadTape 11 = .ok (.aload_n 0, 1) := by decide +kernel
theorem dX12_loadTape_12 : decode cX12_loadTape 12 = .ok (.getfield 143, 3) := by decide +kernel
theorem dX12_loadTape_15 : decode cX12_loadTape 15 = .ok (.if_icmp .ge 21, 3) := by decide +kernel
theorem dX12_loadTape_18 : decode cX12_loadTape 18 = .ok (.aload_n 0, 1) := by decide +kernel
theorem dX12_loadTape_19 : decode cX12_loadTape 19 = .ok (.getfield 44, 3) := by decide +kernel
theorem dX12_loadTape_22 : decode cX12_loadTape 22 = .ok (.iload_n 1, 1) := by decide +kernel
theorem dX12_loadTape_23 : decode cX12_loadTape 23 = .ok (.aload_n 0, 1) := by decide +kernel
theorem dX12_loadTape_24 : decode cX12_loadTape 24 = .ok (.getfield 7, 3) := by decide +kernel
theorem dX12_loadTape_27 : decode cX12_loadTape 27 = .ok (.iload_n 1, 1) := by decide +kernel
theorem dX12_loadTape_28 : decode cX12_loadTape 28 = .ok (.iaload, 1) := by decide +kernel
theorem dX12_loadTape_29 : decode cX12_loadTape 29 = .ok (.iastore, 1) := by decide +kernel
theorem dX12_loadTape_30 : decode cX12_loadTape 30 = .ok (.iinc 1 1, 3) := by decide +kernel
theorem dX12_loadTape_33 : decode cX12_loadTape 33 = .ok (.goto (-23), 3) := by decide +kernel
theorem dX12_loadTape_36 : decode cX12_loadTape 36 = .ok (.return_, 1) := by decide +kernel
theorem dX12_loadScript_0 : decode cX12_loadScript 0 = .ok (.aload_n 0, 1) := by decide +kernel
theorem dX12_loadScript_1 : decode cX12_loadScript 1 = .ok (.aload_n 0, 1) := by decide +kernel
theorem dX12_loadScript_2 : decode cX12_loadScript 2 = .ok (.getfield 16, 3) := by decide +kernel
theorem dX12_loadScript_5 : decode cX12_loadScript 5 = .ok (.iload_n 1, 1) := by decide +kernel
theorem dX12_loadScript_6 : decode cX12_loadScript 6 = .ok (.iaload, 1) := by decide +kernel
theorem dX12_loadScript_7 : decode cX12_loadScript 7 = .ok (.putfield 146, 3) := by decide +kernel
theorem dX12_loadScript_10 : decode cX12_loadScript 10 = .ok (.iconst 0, 1) := by decide +kernel
theorem dX12_loadScript_11 : decode cX12_loadScript 11 = .ok (.istore_n 2, 1) := by decide +kernel
theorem dX12_loadScript_12 : decode cX12_loadScript 12 = .ok (.iload_n 2, 1) := by decide +kernel
theorem dX12_loadScript_13 : decode cX12_loadScript 13 = .ok (.aload_n 0, 1) := by decide +kernel
theorem dX12_loadScript_14 : decode cX12_loadScript 14 = .ok (.getfield 146, 3) := by decide +kernel
theorem dX12_loadScript_17 : decode cX12_loadScript 17 = .ok (.if_icmp .ge 26, 3) := by decide +kernel
theorem dX12_loadScript_20 : decode cX12_loadScript 20 = .ok (.aload_n 0, 1) := by decide +kernel
theorem dX12_loadScript_21 : decode cX12_loadScript 21 = .ok (.getfield 44, 3) := by decide +kernel
theorem dX12_loadScript_24 : decode cX12_loadScript 24 = .ok (.iload_n 2, 1) := by decide +kernel
theorem dX12_loadScript_25 : decode cX12_loadScript 25 = .ok (.aload_n 0, 1) := by decide +kernel
theorem dX12_loadScript_26 : decode cX12_loadScript 26 = .ok (.getfield 13, 3) := by decide +kernel
theorem dX12_loadScript_29 : decode cX12_loadScript 29 = .ok (.bipush 60, 2) := by decide +kernel
theorem dX12_loadScript_31 : decode cX12_loadScript 31 = .ok (.iload_n 1, 1) := by decide +kernel
theorem dX12_loadScript_32 : decode cX12_loadScript 32 = .ok (.imul, 1) := by decide +kernel
theorem dX12_loadScript_33 : decode cX12_loadScript 33 = .ok (.iload_n 2, 1) := by decide +kernel
theorem dX12_loadScript_34 : decode cX12_loadScript 34 = .ok (.iadd, 1) := by decide +kernel
theorem dX12_loadScript_35 : decode cX12_loadScript 35 = .ok (.iaload, 1) := by decide +kernel
theorem dX12_loadScript_36 : decode cX12_loadScript 36 = .ok (.iastore, 1) := by decide +kernel
theorem dX12_loadScript_37 : decode cX12_loadScript 37 = .ok (.iinc 2 1, 3) := by decide +kernel
theorem dX12_loadScript_40 : decode cX12_loadScript 40 = .ok (.goto (-28), 3) := by decide +kernel
theorem dX12_loadScript_43 : decode cX12_loadScript 43 = .ok (.return_, 1) := by decide +kernel
theorem dX12_c_0 : decode cX12_c 0 = .ok (.aload_n 0, 1) := by decide +kernel
theorem dX12_c_1 : decode cX12_c 1 = .ok (.getfield 149, 3) := by decide +kernel
theorem dX12_c_4 : decode cX12_c 4 = .ok (.aload_n 0, 1) := by decide +kernel
theorem dX12_c_5 : decode cX12_c 5 = .ok (.getfield 146, 3) := by decide +kernel
theorem dX12_c_8 : decode cX12_c 8 = .ok (.if_icmp .ge 15, 3) := by decide +kernel
theorem dX12_c_11 : decode cX12_c 11 = .ok (.aload_n 0, 1) := by decide +kernel
theorem dX12_c_12 : decode cX12_c 12 = .ok (.getfield 44, 3) := by decide +kernel
theorem dX12_c_15 : decode cX12_c 15 = .ok (.aload_n 0, 1) := by decide +kernel
theorem dX12_c_16 : decode cX12_c 16 = .ok (.getfield 149, 3) := by decide +kernel
theorem dX12_c_19 : decode cX12_c 19 = .ok (.iaload, 1) := by decide +kernel
theorem dX12_c_20 : decode cX12_c 20 = .ok (.goto 4, 3) := by decide +kernel
theorem dX12_c_23 : decode cX12_c 23 = .ok (.iconst 0, 1) := by decide +kernel
theorem dX12_c_24 : decode cX12_c 24 = .ok (.ireturn, 1) := by decide +kernel
theorem dX12_isChar_0 : decode cX12_isChar 0 = .ok (.iload_n 0, 1) := by decide +kernel
theorem dX12_isChar_1 : decode cX12_isChar 1 = .ok (.bipush 97, 2) := by decide +kernel
theorem dX12_isChar_3 : decode cX12_isChar 3 = .ok (.if_icmp .lt 9, 3) := by decide +kernel
theorem dX12_isChar_6 : decode cX12_isChar 6 = .ok (.iload_n 0, 1) := by decide +kernel
theorem dX12_isChar_7 : decode cX12_isChar 7 = .ok (.bipush 122, 2) := by decide +kernel
theorem dX12_isChar_9 : decode cX12_isChar 9 = .ok (.if_icmp .le 16, 3) := by decide +kernel
theorem dX12_isChar_12 : decode cX12_isChar 12 = .ok (.iload_n 0, 1) := by decide +kernel
theorem dX12_isChar_13 : decode cX12_isChar 13 = .ok (.invokestatic 152, 3) := by decide +kernel
theorem dX12_isChar_16 : decode cX12_isChar 16 = .ok (.ifCond .ne 9, 3) := by decide +kernel
theorem dX12_isChar_19 : decode cX12_isChar 19 = .ok (.iload_n 0, 1) := by decide +kernel
theorem dX12_isChar_20 : decode cX12_isChar 20 = .ok (.bipush 32, 2) := by decide +kernel
theorem dX12_isChar_22 : decode cX12_isChar 22 = .ok (.if_icmp .ne 7, 3) := by decide +kernel
theorem dX12_isChar_25 : decode cX12_isChar 25 = .ok (.iconst 1, 1) := by decide +kernel
theorem dX12_isChar_26 : decode cX12_isChar 26 = .ok (.goto 4, 3) := by decide +kernel
theorem dX12_isChar_29 : decode cX12_isChar 29 = .ok (.iconst 0, 1) := by decide +kernel
theorem dX12_isChar_30 : decode cX12_isChar 30 = .ok (.ireturn, 1) := by decide +kernel
theorem dX12_isDigit_0 : decode cX12_isDigit 0 = .ok (.iload_n 0, 1) := by decide +kernel
theorem dX12_isDigit_1 : decode cX12_isDigit 1 = .ok (.bipush 48, 2) := by decide +kernel
theorem dX12_isDigit_3 : decode cX12_isDigit 3 = .ok (.if_icmp .lt 13, 3) := by decide +kernel
theorem dX12_isDigit_6 : decode cX12_isDigit 6 = .ok (.iload_n 0, 1) := by decide +kernel
theorem dX12_isDigit_7 : decode cX12_isDigit 7 = .ok (.bipush 57, 2) := by decide +kernel
theorem dX12_isDigit_9 : decode cX12_isDigit 9 = .ok (.if_icmp .gt 7, 3) := by decide +kernel
theorem dX12_isDigit_12 : decode cX12_isDigit 12 = .ok (.iconst 1, 1) := by decide +kernel
theorem dX12_isDigit_13 : decode cX12_isDigit 13 = .ok (.goto 4, 3) := by decide +kernel
theorem dX12_isDigit_16 : decode cX12_isDigit 16 = .ok (.iconst 0, 1) := by decide +kernel
theorem dX12_isDigit_17 : decode cX12_isDigit 17 = .ok (.ireturn, 1) := by decide +kernel
theorem dX12_isMark_0 : decode cX12_isMark 0 = .ok (.iload_n 0, 1) := by decide +kernel
theorem dX12_isMark_1 : decode cX12_isMark 1 = .ok (.bipush 97, 2) := by decide +kernel
theorem dX12_isMark_3 : decode cX12_isMark 3 = .ok (.if_icmp .lt 13, 3) := by decide +kernel
theorem dX12_isMark_6 : decode cX12_isMark 6 = .ok (.iload_n 0, 1) := by decide +kernel
theorem dX12_isMark_7 : decode cX12_isMark 7 = .ok (.bipush 101, 2) := by decide +kernel
theorem dX12_isMark_9 : decode cX12_isMark 9 = .ok (.if_icmp .gt 7, 3) := by decide +kernel
theorem dX12_isMark_12 : decode cX12_isMark 12 = .ok (.iconst 1, 1) := by decide +kernel
theorem dX12_isMark_13 : decode cX12_isMark 13 = .ok (.goto 4, 3) := by decide +kernel
theorem dX12_isMark_16 : decode cX12_isMark 16 = .ok (.iconst 0, 1) := by decide +kernel
theorem dX12_isMark_17 : decode cX12_isMark 17 = .ok (.ireturn, 1) := by decide +kernel
theorem dX12_isLabel_0 : decode cX12_isLabel 0 = .ok (.iload_n 0, 1) := by decide +kernel
theorem dX12_isLabel_1 : decode cX12_isLabel 1 = .ok (.bipush 65, 2) := by decide +kernel
theorem dX12_isLabel_3 : decode cX12_isLabel 3 = .ok (.if_icmp .lt 13, 3) := by decide +kernel
theorem dX12_isLabel_6 : decode cX12_isLabel 6 = .ok (.iload_n 0, 1) := by decide +kernel
theorem dX12_isLabel_7 : decode cX12_isLabel 7 = .ok (.bipush 90, 2) := by decide +kernel
theorem dX12_isLabel_9 : decode cX12_isLabel 9 = .ok (.if_icmp .gt 7, 3) := by decide +kernel
theorem dX12_isLabel_12 : decode cX12_isLabel 12 = .ok (.iconst 1, 1) := by decide +kernel
theorem dX12_isLabel_13 : decode cX12_isLabel 13 = .ok (.goto 4, 3) := by decide +kernel
theorem dX12_isLabel_16 : decode cX12_isLabel 16 = .ok (.iconst 0, 1) := by decide +kernel
theorem dX12_isLabel_17 : decode cX12_isLabel 17 = .ok (.ireturn, 1) := by decide +kernel
theorem dX12_fail_0 : decode cX12_fail 0 = .ok (.aload_n 0, 1) := by decide +kernel
theorem dX12_fail_1 : decode cX12_fail 1 = .ok (.aload_n 0, 1) := by decide +kernel
theorem dX12_fail_2 : decode cX12_fail 2 = .ok (.getfield 156, 3) := by decide +kernel
theorem dX12_fail_5 : decode cX12_fail 5 = .ok (.ifCond .ge 10, 3) := by decide +kernel
theorem dX12_fail_8 : decode cX12_fail 8 = .ok (.aload_n 0, 1) := by decide +kernel
theorem dX12_fail_9 : decode cX12_fail 9 = .ok (.getfield 149, 3) := by decide +kernel
theorem dX12_fail_12 : decode cX12_fail 12 = .ok (.goto 7, 3) := by decide +kernel
theorem dX12_fail_15 : decode cX12_fail 15 = .ok (.aload_n 0, 1) := by decide +kernel
theorem dX12_fail_16 : decode cX12_fail 16 = .ok (.getfield 156, 3) := by decide +kernel
theorem dX12_fail_19 : decode cX12_fail 19 = .ok (.putfield 156, 3) := by decide +kernel
theorem dX12_fail_22 : decode cX12_fail 22 = .ok (.return_, 1) := by decide +kernel
theorem dX12_takeIf_0 : decode cX12_takeIf 0 = .ok (.aload_n 0, 1) := by decide +kernel
theorem dX12_takeIf_1 : decode cX12_takeIf 1 = .ok (.getfield 156, 3) := by decide +kernel
theorem dX12_takeIf_4 : decode cX12_takeIf 4 = .ok (.ifCond .ge 20, 3) := by decide +kernel
theorem dX12_takeIf_7 : decode cX12_takeIf 7 = .ok (.iload_n 1, 1) := by decide +kernel
theorem dX12_takeIf_8 : decode cX12_takeIf 8 = .ok (.ifCond .eq 16, 3) := by decide +kernel
theorem dX12_takeIf_11 : decode cX12_takeIf 11 = .ok (.aload_n 0, 1) := by decide +kernel
theorem dX12_takeIf_12 : decode cX12_takeIf 12 = .ok (.dup, 1) := by decide +kernel
theorem dX12_takeIf_13 : decode cX12_takeIf 13 = .ok (.getfield 149, 3) := by decide +kernel
theorem dX12_takeIf_16 : decode cX12_takeIf 16 = .ok (.iconst 1, 1) := by decide +kernel
theorem dX12_takeIf_17 : decode cX12_takeIf 17 = .ok (.iadd, 1) := by decide +kernel
theorem dX12_takeIf_18 : decode cX12_takeIf 18 = .ok (.putfield 149, 3) := by decide +kernel
theorem dX12_takeIf_21 : decode cX12_takeIf 21 = .ok (.goto 7, 3) := by decide +kernel
theorem dX12_takeIf_24 : decode cX12_takeIf 24 = .ok (.aload_n 0, 1) := by decide +kernel
theorem dX12_takeIf_25 : decode cX12_takeIf 25 = .ok (.invokevirtual 159, 3) := by decide +kernel
theorem dX12_takeIf_28 : decode cX12_takeIf 28 = .ok (.return_, 1) := by decide +kernel
theorem dX12_take_0 : decode cX12_take 0 = .ok (.aload_n 0, 1) := by decide +kernel
theorem dX12_take_1 : decode cX12_take 1 = .ok (.aload_n 0, 1) := by decide +kernel
theorem dX12_take_2 : decode cX12_take 2 = .ok (.invokevirtual 162, 3) := by decide +kernel
theorem dX12_take_5 : decode cX12_take 5 = .ok (.iload_n 1, 1) := by decide +kernel
theorem dX12_take_6 : decode cX12_take 6 = .ok (.if_icmp .ne 7, 3) := by decide +kernel
theorem dX12_take_9 : decode cX12_take 9 = .ok (.iconst 1, 1) := by decide +kernel
theorem dX12_take_10 : decode cX12_take 10 = .ok (.goto 4, 3) := by decide +kernel
theorem dX12_take_13 : decode cX12_take 13 = .ok (.iconst 0, 1) := by decide +kernel
theorem dX12_take_14 : decode cX12_take 14 = .ok (.invokevirtual 166, 3) := by decide +kernel
theorem dX12_take_17 : decode cX12_take 17 = .ok (.return_, 1) := by decide +kernel
theorem dX12_number_0 : decode cX12_number 0 = .ok (.aload_n 0, 1) := by decide +kernel
theorem dX12_number_1 : decode cX12_number 1 = .ok (.aload_n 0, 1) := by decide +kernel
theorem dX12_number_2 : decode cX12_number 2 = .ok (.invokevirtual 162, 3) := by decide +kernel
theorem dX12_number_5 : decode cX12_number 5 = .ok (.invokestatic 152, 3) := by decide +kernel
theorem dX12_number_8 : decode cX12_number 8 = .ok (.invokevirtual 166, 3) := by decide +kernel
theorem dX12_number_11 : decode cX12_number 11 = .ok (.aload_n 0, 1) := by decide +kernel
theorem dX12_number_12 : decode cX12_number 12 = .ok (.getfield 156, 3) := by decide +kernel
theorem dX12_number_15 : decode cX12_number 15 = .ok (.ifCond .ge 23, 3) := by decide +kernel
theorem dX12_number_18 : decode cX12_number 18 = .ok (.aload_n 0, 1) := by decide +kernel
theorem dX12_number_19 : decode cX12_number 19 = .ok (.invokevirtual 162, 3) := by decide +kernel
theorem dX12_number_22 : decode cX12_number 22 = .ok (.invokestatic 152, 3) := by decide +kernel
theorem dX12_number_25 : decode cX12_number 25 = .ok (.ifCond .eq 13, 3) := by decide +kernel
theorem dX12_number_28 : decode cX12_number 28 = .ok (.aload_n 0, 1) := by decide +kernel
theorem dX12_number_29 : decode cX12_number 29 = .ok (.dup, 1) := by decide +kernel
theorem dX12_number_30 : decode cX12_number 30 = .ok (.getfield 149, 3) := by decide +kernel
theorem dX12_number_33 : decode cX12_number 33 = .ok (.iconst 1, 1) := by decide +kernel
theorem dX12_number_34 : decode cX12_number 34 = .ok (.iadd, 1) := by decide +kernel
theorem dX12_number_35 : decode cX12_number 35 = .ok (.putfield 149, 3) := by decide +kernel
theorem dX12_number_38 : decode cX12_number 38 = .ok (.return_, 1) := by decide +kernel
theorem dX12_plain_0 : decode cX12_plain 0 = .ok (.aload_n 0, 1) := by decide +kernel
theorem dX12_plain_1 : decode cX12_plain 1 = .ok (.invokevirtual 162, 3) := by decide +kernel
theorem dX12_plain_4 : decode cX12_plain 4 = .ok (.bipush 42, 2) := by decide +kernel
theorem dX12_plain_6 : decode cX12_plain 6 = .ok (.if_icmp .ne 33, 3) := by decide +kernel
theorem dX12_plain_9 : decode cX12_plain 9 = .ok (.aload_n 0, 1) := by decide +kernel
theorem dX12_plain_10 : decode cX12_plain 10 = .ok (.aload_n 0, 1) := by decide +kernel
theorem dX12_plain_11 : decode cX12_plain 11 = .ok (.getfield 170, 3) := by decide +kernel
theorem dX12_plain_14 : decode cX12_plain 14 = .ok (.iconst 2, 1) := by decide +kernel
theorem dX12_plain_15 : decode cX12_plain 15 = .ok (.if_icmp .ge 7, 3) := by decide +kernel
theorem dX12_plain_18 : decode cX12_plain 18 = .ok (.iconst 1, 1) := by decide +kernel
theorem dX12_plain_19 : decode cX12_plain 19 = .ok (.goto 4, 3) := by decide +kernel
theorem dX12_plain_22 : decode cX12_plain 22 = .ok (.iconst 0, 1) := by decide +kernel
theorem dX12_plain_23 : decode cX12_plain 23 = .ok (.invokevirtual 166, 3) := by decide +kernel
theorem dX12_plain_26 : decode cX12_plain 26 = .ok (.aload_n 0, 1) := by decide +kernel
theorem dX12_plain_27 : decode cX12_plain 27 = .ok (.dup, 1) := by decide +kernel
theorem dX12_plain_28 : decode cX12_plain 28 = .ok (.getfield 170, 3) := by decide +kernel
theorem dX12_plain_31 : decode cX12_plain 31 = .ok (.iconst 1, 1) := by decide +kernel
theorem dX12_plain_32 : decode cX12_plain 32 = .ok (.iadd, 1) := by decide +kernel
theorem dX12_plain_33 : decode cX12_plain 33 = .ok (.putfield 170, 3) := by decide +kernel
theorem dX12_plain_36 : decode cX12_plain 36 = .ok (.goto 119, 3) := by decide +kernel
theorem dX12_plain_39 : decode cX12_plain 39 = .ok (.aload_n 0, 1) := by decide +kernel
theorem dX12_plain_40 : decode cX12_plain 40 = .ok (.invokevirtual 162, 3) := by decide +kernel
theorem dX12_plain_43 : decode cX12_plain 43 = .ok (.bipush 91, 2) := by decide +kernel
theorem dX12_plain_45 : decode cX12_plain 45 = .ok (.if_icmp .ne 82, 3) := by decide +kernel
theorem dX12_plain_48 : decode cX12_plain 48 = .ok (.aload_n 0, 1) := by decide +kernel
theorem dX12_plain_49 : decode cX12_plain 49 = .ok (.dup, 1) := by decide +kernel
theorem dX12_plain_50 : decode cX12_plain 50 = .ok (.getfield 149, 3) := by decide +kernel
theorem dX12_plain_53 : decode cX12_plain 53 = .ok (.iconst 1, 1) := by decide +kernel
theorem dX12_plain_54 : decode cX12_plain 54 = .ok (.iadd, 1) := by decide +kernel
theorem dX12_plain_55 : decode cX12_plain 55 = .ok (.putfield 149, 3) := by decide +kernel
theorem dX12_plain_58 : decode cX12_plain 58 = .ok (.aload_n 0, 1) := by decide +kernel
theorem dX12_plain_59 : decode cX12_plain 59 = .ok (.invokevirtual 162, 3) := by decide +kernel
theorem dX12_plain_62 : decode cX12_plain 62 = .ok (.bipush 94, 2) := by decide +kernel
theorem dX12_plain_64 : decode cX12_plain 64 = .ok (.if_icmp .ne 13, 3) := by decide +kernel
theorem dX12_plain_67 : decode cX12_plain 67 = .ok (.aload_n 0, 1) := by decide +kernel
theorem dX12_plain_68 : decode cX12_plain 68 = .ok (.dup, 1) := by decide +kernel
theorem dX12_plain_69 : decode cX12_plain 69 = .ok (.getfield 149, 3) := by decide +kernel
theorem dX12_plain_72 : decode cX12_plain 72 = .ok (.iconst 1, 1) := by decide +kernel
theorem dX12_plain_73 : decode cX12_plain 73 = .ok (.iadd, 1) := by decide +kernel
theorem dX12_plain_74 : decode cX12_plain 74 = .ok (.putfield 149, 3) := by decide +kernel
theorem dX12_plain_77 : decode cX12_plain 77 = .ok (.aload_n 0, 1) := by decide +kernel
theorem dX12_plain_78 : decode cX12_plain 78 = .ok (.aload_n 0, 1) := by decide +kernel
theorem dX12_plain_79 : decode cX12_plain 79 = .ok (.invokevirtual 162, 3) := by decide +kernel
theorem dX12_plain_82 : decode cX12_plain 82 = .ok (.invokestatic 173, 3) := by decide +kernel
theorem dX12_plain_85 : decode cX12_plain 85 = .ok (.invokevirtual 166, 3) := by decide +kernel
theorem dX12_plain_88 : decode cX12_plain 88 = .ok (.aload_n 0, 1) := by decide +kernel
theorem dX12_plain_89 : decode cX12_plain 89 = .ok (.getfield 156, 3) := by decide +kernel
theorem dX12_plain_92 : decode cX12_plain 92 = .ok (.ifCond .ge 26, 3) := by decide +kernel
theorem dX12_plain_95 : decode cX12_plain 95 = .ok (.aload_n 0, 1) := by decide +kernel
theorem dX12_plain_96 : decode cX12_plain 96 = .ok (.invokevirtual 162, 3) := by decide +kernel
theorem dX12_plain_99 : decode cX12_plain 99 = .ok (.invokestatic 173, 3) := by decide +kernel
theorem dX12_plain_102 : decode cX12_plain 102 = .ok (.ifCond .eq 16, 3) := by decide +kernel
theorem dX12_plain_105 : decode cX12_plain 105 = .ok (.aload_n 0, 1) := by decide +kernel
theorem dX12_plain_106 : decode cX12_plain 106 = .ok (.dup, 1) := by decide +kernel
theorem dX12_plain_107 : decode cX12_plain 107 = .ok (.getfield 149, 3) := by decide +kernel
theorem dX12_plain_110 : decode cX12_plain 110 = .ok (.iconst 1, 1) := by decide +kernel
theorem dX12_plain_111 : decode cX12_plain 111 = .ok (.iadd, 1) := by decide +kernel
theorem dX12_plain_112 : decode cX12_plain 112 = .ok (.putfield 149, 3) := by decide +kernel
theorem dX12_plain_115 : decode cX12_plain 115 = .ok (.goto (-27), 3) := by decide +kernel
theorem dX12_plain_118 : decode cX12_plain 118 = .ok (.aload_n 0, 1) := by decide +kernel
theorem dX12_plain_119 : decode cX12_plain 119 = .ok (.bipush 93, 2) := by decide +kernel
theorem dX12_plain_121 : decode cX12_plain 121 = .ok (.invokevirtual 176, 3) := by decide +kernel
theorem dX12_plain_124 : decode cX12_plain 124 = .ok (.goto 31, 3) := by decide +kernel
theorem dX12_plain_127 : decode cX12_plain 127 = .ok (.aload_n 0, 1) := by decide +kernel
theorem dX12_plain_128 : decode cX12_plain 128 = .ok (.aload_n 0, 1) := by decide +kernel
theorem dX12_plain_129 : decode cX12_plain 129 = .ok (.invokevirtual 162, 3) := by decide +kernel
theorem dX12_plain_132 : decode cX12_plain 132 = .ok (.invokestatic 173, 3) := by decide +kernel
theorem dX12_plain_135 : decode cX12_plain 135 = .ok (.ifCond .ne 12, 3) := by decide +kernel
theorem dX12_plain_138 : decode cX12_plain 138 = .ok (.aload_n 0, 1) := by decide +kernel
theorem dX12_plain_139 : decode cX12_plain 139 = .ok (.invokevirtual 162, 3) := by decide +kernel
theorem dX12_plain_142 : decode cX12_plain 142 = .ok (.bipush 46, 2) := by decide +kernel
theorem dX12_plain_144 : decode cX12_plain 144 = .ok (.if_icmp .ne 7, 3) := by decide +kernel
theorem dX12_plain_147 : decode cX12_plain 147 = .ok (.iconst 1, 1) := by decide +kernel
theorem dX12_plain_148 : decode cX12_plain 148 = .ok (.goto 4, 3) := by decide +kernel
theorem dX12_plain_151 : decode cX12_plain 151 = .ok (.iconst 0, 1) := by decide +kernel
theorem dX12_plain_152 : decode cX12_plain 152 = .ok (.invokevirtual 166, 3) := by decide +kernel
theorem dX12_plain_155 : decode cX12_plain 155 = .ok (.return_, 1) := by decide +kernel
theorem dX12_group_0 : decode cX12_group 0 = .ok (.aload_n 0, 1) := by decide +kernel
theorem dX12_group_1 : decode cX12_group 1 = .ok (.aload_n 0, 1) := by decide +kernel
theorem dX12_group_2 : decode cX12_group 2 = .ok (.getfield 179, 3) := by decide +kernel
theorem dX12_group_5 : decode cX12_group 5 = .ok (.iconst 2, 1) := by decide +kernel
theorem dX12_group_6 : decode cX12_group 6 = .ok (.if_icmp .ge 7, 3) := by decide +kernel
theorem dX12_group_9 : decode cX12_group 9 = .ok (.iconst 1, 1) := by decide +kernel
theorem dX12_group_10 : decode cX12_group 10 = .ok (.goto 4, 3) := by decide +kernel
theorem dX12_group_13 : decode cX12_group 13 = .ok (.iconst 0, 1) := by decide +kernel
theorem dX12_group_14 : decode cX12_group 14 = .ok (.invokevirtual 166, 3) := by decide +kernel
theorem dX12_group_17 : decode cX12_group 17 = .ok (.iconst 0, 1) := by decide +kernel
theorem dX12_group_18 : decode cX12_group 18 = .ok (.istore_n 1, 1) := by decide +kernel
theorem dX12_group_19 : decode cX12_group 19 = .ok (.aload_n 0, 1) := by decide +kernel
theorem dX12_group_20 : decode cX12_group 20 = .ok (.getfield 156, 3) := by decide +kernel
theorem dX12_group_23 : decode cX12_group 23 = .ok (.ifCond .ge 35, 3) := by decide +kernel
theorem dX12_group_26 : decode cX12_group 26 = .ok (.aload_n 0, 1) := by decide +kernel
theorem dX12_group_27 : decode cX12_group 27 = .ok (.invokevirtual 162, 3) := by decide +kernel
theorem dX12_group_30 : decode cX12_group 30 = .ok (.bipush 41, 2) := by decide +kernel
theorem dX12_group_32 : decode cX12_group 32 = .ok (.if_icmp .eq 26, 3) := by decide +kernel
theorem dX12_group_35 : decode cX12_group 35 = .ok (.iload_n 1, 1) := by decide +kernel
theorem dX12_group_36 : decode cX12_group 36 = .ok (.bipush 12, 2) := by decide +kernel
theorem dX12_group_38 : decode cX12_group 38 = .ok (.if_icmp .ne 10, 3) := by decide +kernel
theorem dX12_group_41 : decode cX12_group 41 = .ok (.aload_n 0, 1) := by decide +kernel
theorem dX12_group_42 : decode cX12_group 42 = .ok (.invokevirtual 159, 3) := by decide +kernel
theorem dX12_group_45 : decode cX12_group 45 = .ok (.goto (-26), 3) := by decide +kernel
theorem dX12_group_48 : decode cX12_group 48 = .ok (.aload_n 0, 1) := by decide +kernel
theorem dX12_group_49 : decode cX12_group 49 = .ok (.invokevirtual 182, 3) := by decide +kernel
theorem dX12_group_52 : decode cX12_group 52 = .ok (.iinc 1 1, 3) := by decide +kernel
theorem dX12_group_55 : decode cX12_group 55 = .ok (.goto (-36), 3) := by decide +kernel
theorem dX12_group_58 : decode cX12_group 58 = .ok (.aload_n 0, 1) := by decide +kernel
theorem dX12_group_59 : decode cX12_group 59 = .ok (.bipush 41, 2) := by decide +kernel
theorem dX12_group_61 : decode cX12_group 61 = .ok (.invokevirtual 176, 3) := by decide +kernel
theorem dX12_group_64 : decode cX12_group 64 = .ok (.aload_n 0, 1) := by decide +kernel
theorem dX12_group_65 : decode cX12_group 65 = .ok (.dup, 1) := by decide +kernel
theorem dX12_group_66 : decode cX12_group 66 = .ok (.getfield 179, 3) := by decide +kernel
theorem dX12_group_69 : decode cX12_group 69 = .ok (.iconst 1, 1) := by decide +kernel
theorem dX12_group_70 : decode cX12_group 70 = .ok (.iadd, 1) := by decide +kernel
theorem dX12_group_71 : decode cX12_group 71 = .ok (.putfield 179, 3) := by decide +kernel
theorem dX12_group_74 : decode cX12_group 74 = .ok (.return_, 1) := by decide +kernel
theorem dX12_item_0 : decode cX12_item 0 = .ok (.aload_n 0, 1) := by decide +kernel
theorem dX12_item_1 : decode cX12_item 1 = .ok (.invokevirtual 162, 3) := by decide +kernel
theorem dX12_item_4 : decode cX12_item 4 = .ok (.bipush 40, 2) := by decide +kernel
theorem dX12_item_6 : decode cX12_item 6 = .ok (.if_icmp .ne 10, 3) := by decide +kernel
theorem dX12_item_9 : decode cX12_item 9 = .ok (.aload_n 0, 1) := by decide +kernel
theorem dX12_item_10 : decode cX12_item 10 = .ok (.invokevirtual 185, 3) := by decide +kernel
theorem dX12_item_13 : decode cX12_item 13 = .ok (.goto 67, 3) := by decide +kernel
theorem dX12_item_16 : decode cX12_item 16 = .ok (.aload_n 0, 1) := by decide +kernel
theorem dX12_item_17 : decode cX12_item 17 = .ok (.invokevirtual 162, 3) := by decide +kernel
theorem dX12_item_20 : decode cX12_item 20 = .ok (.bipush 92, 2) := by decide +kernel
theorem dX12_item_22 : decode cX12_item 22 = .ok (.if_icmp .ne 54, 3) := by decide +kernel
theorem dX12_item_25 : decode cX12_item 25 = .ok (.aload_n 0, 1) := by decide +kernel
theorem dX12_item_26 : decode cX12_item 26 = .ok (.aload_n 0, 1) := by decide +kernel
theorem dX12_item_27 : decode cX12_item 27 = .ok (.getfield 179, 3) := by decide +kernel
theorem dX12_item_30 : decode cX12_item 30 = .ok (.ifCond .le 7, 3) := by decide +kernel
theorem dX12_item_33 : decode cX12_item 33 = .ok (.iconst 1, 1) := by decide +kernel
theorem dX12_item_34 : decode cX12_item 34 = .ok (.goto 4, 3) := by decide +kernel
theorem dX12_item_37 : decode cX12_item 37 = .ok (.iconst 0, 1) := by decide +kernel
theorem dX12_item_38 : decode cX12_item 38 = .ok (.invokevirtual 166, 3) := by decide +kernel
theorem dX12_item_41 : decode cX12_item 41 = .ok (.aload_n 0, 1) := by decide +kernel
theorem dX12_item_42 : decode cX12_item 42 = .ok (.aload_n 0, 1) := by decide +kernel
theorem dX12_item_43 : decode cX12_item 43 = .ok (.invokevirtual 162, 3) := by decide +kernel
theorem dX12_item_46 : decode cX12_item 46 = .ok (.bipush 49, 2) := by decide +kernel
theorem dX12_item_48 : decode cX12_item 48 = .ok (.if_icmp .lt 21, 3) := by decide +kernel
theorem dX12_item_51 : decode cX12_item 51 = .ok (.aload_n 0, 1) := by decide +kernel
theorem dX12_item_52 : decode cX12_item 52 = .ok (.invokevirtual 162, 3) := by decide +kernel
theorem dX12_item_55 : decode cX12_item 55 = .ok (.bipush 48, 2) := by decide +kernel
theorem dX12_item_57 : decode cX12_item 57 = .ok (.aload_n 0, 1) := by decide +kernel
theorem dX12_item_58 : decode cX12_item 58 = .ok (.getfield 179, 3) := by decide +kernel
theorem dX12_item_61 : decode cX12_item 61 = .ok (.iadd, 1) := by decide +kernel
theorem dX12_item_62 : decode cX12_item 62 = .ok (.if_icmp .gt 7, 3) := by decide +kernel
theorem dX12_item_65 : decode cX12_item 65 = .ok (.iconst 1, 1) := by decide +kernel
theorem dX12_item_66 : decode cX12_item 66 = .ok (.goto 4, 3) := by decide +kernel
theorem dX12_item_69 : decode cX12_item 69 = .ok (.iconst 0, 1) := by decide +kernel
theorem dX12_item_70 : decode cX12_item 70 = .ok (.invokevirtual 166, 3) := by decide +kernel
theorem dX12_item_73 : decode cX12_item 73 = .ok (.goto 7, 3) := by decide +kernel
theorem dX12_item_76 : decode cX12_item 76 = .ok (.aload_n 0, 1) := by decide +kernel
theorem dX12_item_77 : decode cX12_item 77 = .ok (.invokevirtual 182, 3) := by decide +kernel
theorem dX12_item_80 : decode cX12_item 80 = .ok (.return_, 1) := by decide +kernel
theorem dX12_pattern_0 : decode cX12_pattern 0 = .ok (.aload_n 0, 1) := by decide +kernel
theorem dX12_pattern_1 : decode cX12_pattern 1 = .ok (.iconst 0, 1) := by decide +kernel
theorem dX12_pattern_2 : decode cX12_pattern 2 = .ok (.putfield 179, 3) := by decide +kernel
theorem dX12_pattern_5 : decode cX12_pattern 5 = .ok (.aload_n 0, 1) := by decide +kernel
theorem dX12_pattern_6 : decode cX12_pattern 6 = .ok (.iconst 0, 1) := by decide +kernel
theorem dX12_pattern_7 : decode cX12_pattern 7 = .ok (.putfield 170, 3) := by decide +kernel
theorem dX12_pattern_10 : decode cX12_pattern 10 = .ok (.iconst 0, 1) := by decide +kernel
theorem dX12_pattern_11 : decode cX12_pattern 11 = .ok (.istore_n 2, 1) := by decide +kernel
theorem dX12_pattern_12 : decode cX12_pattern 12 = .ok (.iconst 0, 1) := by decide +kernel
theorem dX12_pattern_13 : decode cX12_pattern 13 = .ok (.istore_n 3, 1) := by decide +kernel
theorem dX12_pattern_14 : decode cX12_pattern 14 = .ok (.aload_n 0, 1) := by decide +kernel
theorem dX12_pattern_15 : decode cX12_pattern 15 = .ok (.getfield 156, 3) := by decide +kernel
theorem dX12_pattern_18 : decode cX12_pattern 18 = .ok (.ifCond .ge 7, 3) := by decide +kernel
theorem dX12_pattern_21 : decode cX12_pattern 21 = .ok (.iconst 1, 1) := by decide +kernel
theorem dX12_pattern_22 : decode cX12_pattern 22 = .ok (.goto 4, 3) := by decide +kernel
theorem dX12_pattern_25 : decode cX12_pattern 25 = .ok (.iconst 0, 1) := by decide +kernel
theorem dX12_pattern_26 : decode cX12_pattern 26 = .ok (.istore 4, 2) := by decide +kernel
theorem dX12_pattern_28 : decode cX12_pattern 28 = .ok (.iload 4, 2) := by decide +kernel
theorem dX12_pattern_30 : decode cX12_pattern 30 = .ok (.ifCond .eq 24, 3) := by decide +kernel
theorem dX12_pattern_33 : decode cX12_pattern 33 = .ok (.aload_n 0, 1) := by decide +kernel
theorem dX12_pattern_34 : decode cX12_pattern 34 = .ok (.invokevirtual 162, 3) := by decide +kernel
theorem dX12_pattern_37 : decode cX12_pattern 37 = .ok (.bipush 94, 2) := by decide +kernel
theorem dX12_pattern_39 : decode cX12_pattern 39 = .ok (.if_icmp .ne 15, 3) := by decide +kernel
theorem dX12_pattern_42 : decode cX12_pattern 42 = .ok (.aload_n 0, 1) := by decide +kernel
theorem dX12_pattern_43 : decode cX12_pattern 43 = .ok (.dup, 1) := by decide +kernel
theorem dX12_pattern_44 : decode cX12_pattern 44 = .ok (.getfield 149, 3) := by decide +kernel
theorem dX12_pattern_47 : decode cX12_pattern 47 = .ok (.iconst 1, 1) := by decide +kernel
theorem dX12_pattern_48 : decode cX12_pattern 48 = .ok (.iadd, 1) := by decide +kernel
theorem dX12_pattern_49 : decode cX12_pattern 49 = .ok (.putfield 149, 3) := by decide +kernel
theorem dX12_pattern_52 : decode cX12_pattern 52 = .ok (.iconst 1, 1) := by decide +kernel
theorem dX12_pattern_53 : decode cX12_pattern 53 = .ok (.istore_n 3, 1) := by decide +kernel
theorem dX12_pattern_54 : decode cX12_pattern 54 = .ok (.iload 4, 2) := by decide +kernel
theorem dX12_pattern_56 : decode cX12_pattern 56 = .ok (.ifCond .eq 87, 3) := by decide +kernel
theorem dX12_pattern_59 : decode cX12_pattern 59 = .ok (.aload_n 0, 1) := by decide +kernel
theorem dX12_pattern_60 : decode cX12_pattern 60 = .ok (.getfield 156, 3) := by decide +kernel
theorem dX12_pattern_63 : decode cX12_pattern 63 = .ok (.ifCond .ge 80, 3) := by decide +kernel
theorem dX12_pattern_66 : decode cX12_pattern 66 = .ok (.aload_n 0, 1) := by decide +kernel
theorem dX12_pattern_67 : decode cX12_pattern 67 = .ok (.invokevirtual 162, 3) := by decide +kernel
theorem dX12_pattern_70 : decode cX12_pattern 70 = .ok (.bipush 36, 2) := by decide +kernel
theorem dX12_pattern_72 : decode cX12_pattern 72 = .ok (.if_icmp .ne 21, 3) := by decide +kernel
theorem dX12_pattern_75 : decode cX12_pattern 75 = .ok (.aload_n 0, 1) := by decide +kernel
theorem dX12_pattern_76 : decode cX12_pattern 76 = .ok (.dup, 1) := by decide +kernel
theorem dX12_pattern_77 : decode cX12_pattern 77 = .ok (.getfield 149, 3) := by decide +kernel
theorem dX12_pattern_80 : decode cX12_pattern 80 = .ok (.iconst 1, 1) := by decide +kernel
theorem dX12_pattern_81 : decode cX12_pattern 81 = .ok (.iadd, 1) := by decide +kernel
theorem dX12_pattern_82 : decode cX12_pattern 82 = .ok (.putfield 149, 3) := by decide +kernel
theorem dX12_pattern_85 : decode cX12_pattern 85 = .ok (.iconst 1, 1) := by decide +kernel
theorem dX12_pattern_86 : decode cX12_pattern 86 = .ok (.istore_n 3, 1) := by decide +kernel
theorem dX12_pattern_87 : decode cX12_pattern 87 = .ok (.iconst 0, 1) := by decide +kernel
theorem dX12_pattern_88 : decode cX12_pattern 88 = .ok (.istore 4, 2) := by decide +kernel
theorem dX12_pattern_90 : decode cX12_pattern 90 = .ok (.goto (-36), 3) := by decide +kernel
theorem dX12_pattern_93 : decode cX12_pattern 93 = .ok (.aload_n 0, 1) := by decide +kernel
theorem dX12_pattern_94 : decode cX12_pattern 94 = .ok (.invokevirtual 162, 3) := by decide +kernel
theorem dX12_pattern_97 : decode cX12_pattern 97 = .ok (.iload_n 1, 1) := by decide +kernel
theorem dX12_pattern_98 : decode cX12_pattern 98 = .ok (.if_icmp .eq 14, 3) := by decide +kernel
theorem dX12_pattern_101 : decode cX12_pattern 101 = .ok (.aload_n 0, 1) := by decide +kernel
theorem dX12_pattern_102 : decode cX12_pattern 102 = .ok (.getfield 149, 3) := by decide +kernel
theorem dX12_pattern_105 : decode cX12_pattern 105 = .ok (.aload_n 0, 1) := by decide +kernel
theorem dX12_pattern_106 : decode cX12_pattern 106 = .ok (.getfield 146, 3) := by decide +kernel
theorem dX12_pattern_109 : decode cX12_pattern 109 = .ok (.if_icmp .ne 9, 3) := by decide +kernel
theorem dX12_pattern_112 : decode cX12_pattern 112 = .ok (.iconst 0, 1) := by decide +kernel
theorem dX12_pattern_113 : decode cX12_pattern 113 = .ok (.istore 4, 2) := by decide +kernel
theorem dX12_pattern_115 : decode cX12_pattern 115 = .ok (.goto (-61), 3) := by decide +kernel
theorem dX12_pattern_118 : decode cX12_pattern 118 = .ok (.iload_n 2, 1) := by decide +kernel
theorem dX12_pattern_119 : decode cX12_pattern 119 = .ok (.bipush 12, 2) := by decide +kernel
theorem dX12_pattern_121 : decode cX12_pattern 121 = .ok (.if_icmp .ne 10, 3) := by decide +kernel
theorem dX12_pattern_124 : decode cX12_pattern 124 = .ok (.aload_n 0, 1) := by decide +kernel
theorem dX12_pattern_125 : decode cX12_pattern 125 = .ok (.invokevirtual 159, 3) := by decide +kernel
theorem dX12_pattern_128 : decode cX12_pattern 128 = .ok (.goto (-74), 3) := by decide +kernel
theorem dX12_pattern_131 : decode cX12_pattern 131 = .ok (.aload_n 0, 1) := by decide +kernel
theorem dX12_pattern_132 : decode cX12_pattern 132 = .ok (.invokevirtual 188, 3) := by decide +kernel
theorem dX12_pattern_135 : decode cX12_pattern 135 = .ok (.iinc 2 1, 3) := by decide +kernel
theorem dX12_pattern_138 : decode cX12_pattern 138 = .ok (.iconst 1, 1) := by decide +kernel
theorem dX12_pattern_139 : decode cX12_pattern 139 = .ok (.istore_n 3, 1) := by decide +kernel
theorem dX12_pattern_140 : decode cX12_pattern 140 = .ok (.goto (-86), 3) := by decide +kernel
theorem dX12_pattern_143 : decode cX12_pattern 143 = .ok (.iload_n 3, 1) := by decide +kernel
theorem dX12_pattern_144 : decode cX12_pattern 144 = .ok (.ifCond .ne 7, 3) := by decide +kernel
theorem dX12_pattern_147 : decode cX12_pattern 147 = .ok (.aload_n 0, 1) := by decide +kernel
theorem dX12_pattern_148 : decode cX12_pattern 148 = .ok (.invokevirtual 159, 3) := by decide +kernel
theorem dX12_pattern_151 : decode cX12_pattern 151 = .ok (.return_, 1) := by decide +kernel
theorem dX12_beginsSpot_0 : decode cX12_beginsSpot 0 = .ok (.iload_n 0, 1) := by decide +kernel
theorem dX12_beginsSpot_1 : decode cX12_beginsSpot 1 = .ok (.invokestatic 152, 3) := by decide +kernel
theorem dX12_beginsSpot_4 : decode cX12_beginsSpot 4 = .ok (.ifCond .ne 33, 3) := by decide +kernel
theorem dX12_beginsSpot_7 : decode cX12_beginsSpot 7 = .ok (.iload_n 0, 1) := by decide +kernel
theorem dX12_beginsSpot_8 : decode cX12_beginsSpot 8 = .ok (.bipush 46, 2) := by decide +kernel
theorem dX12_beginsSpot_10 : decode cX12_beginsSpot 10 = .ok (.if_icmp .eq 27, 3) := by decide +kernel
theorem dX12_beginsSpot_13 : decode cX12_beginsSpot 13 = .ok (.iload_n 0, 1) := by decide +kernel
theorem dX12_beginsSpot_14 : decode cX12_beginsSpot 14 = .ok (.bipush 36, 2) := by decide +kernel
theorem dX12_beginsSpot_16 : decode cX12_beginsSpot 16 = .ok (.if_icmp .eq 21, 3) := by decide +kernel
theorem dX12_beginsSpot_19 : decode cX12_beginsSpot 19 = .ok (.iload_n 0, 1) := by decide +kernel
theorem dX12_beginsSpot_20 : decode cX12_beginsSpot 20 = .ok (.bipush 39, 2) := by decide +kernel
theorem dX12_beginsSpot_22 : decode cX12_beginsSpot 22 = .ok (.if_icmp .eq 15, 3) := by decide +kernel
theorem dX12_beginsSpot_25 : decode cX12_beginsSpot 25 = .ok (.iload_n 0, 1) := by decide +kernel
theorem dX12_beginsSpot_26 : decode cX12_beginsSpot 26 = .ok (.bipush 47, 2) := by decide +kernel
theorem dX12_beginsSpot_28 : decode cX12_beginsSpot 28 = .ok (.if_icmp .eq 9, 3) := by decide +kernel
theorem dX12_beginsSpot_31 : decode cX12_beginsSpot 31 = .ok (.iload_n 0, 1) := by decide +kernel
theorem dX12_beginsSpot_32 : decode cX12_beginsSpot 32 = .ok (.bipush 63, 2) := by decide +kernel
theorem dX12_beginsSpot_34 : decode cX12_beginsSpot 34 = .ok (.if_icmp .ne 7, 3) := by decide +kernel
theorem dX12_beginsSpot_37 : decode cX12_beginsSpot 37 = .ok (.iconst 1, 1) := by decide +kernel
theorem dX12_beginsSpot_38 : decode cX12_beginsSpot 38 = .ok (.goto 4, 3) := by decide +kernel
theorem dX12_beginsSpot_41 : decode cX12_beginsSpot 41 = .ok (.iconst 0, 1) := by decide +kernel
theorem dX12_beginsSpot_42 : decode cX12_beginsSpot 42 = .ok (.ireturn, 1) := by decide +kernel
theorem dX12_spot_0 : decode cX12_spot 0 = .ok (.aload_n 0, 1) := by decide +kernel
theorem dX12_spot_1 : decode cX12_spot 1 = .ok (.invokevirtual 162, 3) := by decide +kernel
theorem dX12_spot_4 : decode cX12_spot 4 = .ok (.istore_n 1, 1) := by decide +kernel
theorem dX12_spot_5 : decode cX12_spot 5 = .ok (.iload_n 1, 1) := by decide +kernel
theorem dX12_spot_6 : decode cX12_spot 6 = .ok (.invokestatic 152, 3) := by decide +kernel
theorem dX12_spot_9 : decode cX12_spot 9 = .ok (.ifCond .eq 10, 3) := by decide +kernel
theorem dX12_spot_12 : decode cX12_spot 12 = .ok (.aload_n 0, 1) := by decide +kernel
theorem dX12_spot_13 : decode cX12_spot 13 = .ok (.invokevirtual 191, 3) := by decide +kernel
theorem dX12_spot_16 : decode cX12_spot 16 = .ok (.goto 89, 3) := by decide +kernel
theorem dX12_spot_19 : decode cX12_spot 19 = .ok (.iload_n 1, 1) := by decide +kernel
theorem dX12_spot_20 : decode cX12_spot 20 = .ok (.bipush 39, 2) := by decide +kernel
theorem dX12_spot_22 : decode cX12_spot 22 = .ok (.if_icmp .ne 27, 3) := by decide +kernel
theorem dX12_spot_25 : decode cX12_spot 25 = .ok (.aload_n 0, 1) := by decide +kernel
theorem dX12_spot_26 : decode cX12_spot 26 = .ok (.dup, 1) := by decide +kernel
theorem dX12_spot_27 : decode cX12_spot 27 = .ok (.getfield 149, 3) := by decide +kernel
theorem dX12_spot_30 : decode cX12_spot 30 = .ok (.iconst 1, 1) := by decide +kernel
theorem dX12_spot_31 : decode cX12_spot 31 = .ok (.iadd, 1) := by decide +kernel
theorem dX12_spot_32 : decode cX12_spot 32 = .ok (.putfield 149, 3) := by decide +kernel
theorem dX12_spot_35 : decode cX12_spot 35 = .ok (.aload_n 0, 1) := by decide +kernel
theorem dX12_spot_36 : decode cX12_spot 36 = .ok (.aload_n 0, 1) := by decide +kernel
theorem dX12_spot_37 : decode cX12_spot 37 = .ok (.invokevirtual 162, 3) := by decide +kernel
theorem dX12_spot_40 : decode cX12_spot 40 = .ok (.invokestatic 194, 3) := by decide +kernel
theorem dX12_spot_43 : decode cX12_spot 43 = .ok (.invokevirtual 166, 3) := by decide +kernel
theorem dX12_spot_46 : decode cX12_spot 46 = .ok (.goto 59, 3) := by decide +kernel
theorem dX12_spot_49 : decode cX12_spot 49 = .ok (.iload_n 1, 1) := by decide +kernel
theorem dX12_spot_50 : decode cX12_spot 50 = .ok (.bipush 47, 2) := by decide +kernel
theorem dX12_spot_52 : decode cX12_spot 52 = .ok (.if_icmp .eq 9, 3) := by decide +kernel
theorem dX12_spot_55 : decode cX12_spot 55 = .ok (.iload_n 1, 1) := by decide +kernel
theorem dX12_spot_56 : decode cX12_spot 56 = .ok (.bipush 63, 2) := by decide +kernel
theorem dX12_spot_58 : decode cX12_spot 58 = .ok (.if_icmp .ne 26, 3) := by decide +kernel
theorem dX12_spot_61 : decode cX12_spot 61 = .ok (.aload_n 0, 1) := by decide +kernel
theorem dX12_spot_62 : decode cX12_spot 62 = .ok (.dup, 1) := by decide +kernel
theorem dX12_spot_63 : decode cX12_spot 63 = .ok (.getfield 149, 3) := by decide +kernel
theorem dX12_spot_66 : decode cX12_spot 66 = .ok (.iconst 1, 1) := by decide +kernel
theorem dX12_spot_67 : decode cX12_spot 67 = .ok (.iadd, 1) := by decide +kernel
theorem dX12_spot_68 : decode cX12_spot 68 = .ok (.putfield 149, 3) := by decide +kernel
theorem dX12_spot_71 : decode cX12_spot 71 = .ok (.aload_n 0, 1) := by decide +kernel
theorem dX12_spot_72 : decode cX12_spot 72 = .ok (.iload_n 1, 1) := by decide +kernel
theorem dX12_spot_73 : decode cX12_spot 73 = .ok (.invokevirtual 197, 3) := by decide +kernel
theorem dX12_spot_76 : decode cX12_spot 76 = .ok (.aload_n 0, 1) := by decide +kernel
theorem dX12_spot_77 : decode cX12_spot 77 = .ok (.iload_n 1, 1) := by decide +kernel
theorem dX12_spot_78 : decode cX12_spot 78 = .ok (.invokevirtual 176, 3) := by decide +kernel
theorem dX12_spot_81 : decode cX12_spot 81 = .ok (.goto 24, 3) := by decide +kernel
theorem dX12_spot_84 : decode cX12_spot 84 = .ok (.aload_n 0, 1) := by decide +kernel
theorem dX12_spot_85 : decode cX12_spot 85 = .ok (.iload_n 1, 1) := by decide +kernel
theorem dX12_spot_86 : decode cX12_spot 86 = .ok (.bipush 46, 2) := by decide +kernel
theorem dX12_spot_88 : decode cX12_spot 88 = .ok (.if_icmp .eq 9, 3) := by decide +kernel
theorem dX12_spot_91 : decode cX12_spot 91 = .ok (.iload_n 1, 1) := by decide +kernel
theorem dX12_spot_92 : decode cX12_spot 92 = .ok (.bipush 36, 2) := by decide +kernel
theorem dX12_spot_94 : decode cX12_spot 94 = .ok (.if_icmp .ne 7, 3) := by decide +kernel
theorem dX12_spot_97 : decode cX12_spot 97 = .ok (.iconst 1, 1) := by decide +kernel
theorem dX12_spot_98 : decode cX12_spot 98 = .ok (.goto 4, 3) := by decide +kernel
theorem dX12_spot_101 : decode cX12_spot 101 = .ok (.iconst 0, 1) := by decide +kernel
theorem dX12_spot_102 : decode cX12_spot 102 = .ok (.invokevirtual 166, 3) := by decide +kernel
theorem dX12_spot_105 : decode cX12_spot 105 = .ok (.return_, 1) := by decide +kernel
theorem dX12_address_0 : decode cX12_address 0 = .ok (.aload_n 0, 1) := by decide +kernel
theorem dX12_address_1 : decode cX12_address 1 = .ok (.invokevirtual 200, 3) := by decide +kernel
theorem dX12_address_4 : decode cX12_address 4 = .ok (.aload_n 0, 1) := by decide +kernel
theorem dX12_address_5 : decode cX12_address 5 = .ok (.getfield 156, 3) := by decide +kernel
theorem dX12_address_8 : decode cX12_address 8 = .ok (.ifCond .ge 38, 3) := by decide +kernel
theorem dX12_address_11 : decode cX12_address 11 = .ok (.aload_n 0, 1) := by decide +kernel
theorem dX12_address_12 : decode cX12_address 12 = .ok (.invokevirtual 162, 3) := by decide +kernel
theorem dX12_address_15 : decode cX12_address 15 = .ok (.bipush 43, 2) := by decide +kernel
theorem dX12_address_17 : decode cX12_address 17 = .ok (.if_icmp .eq 12, 3) := by decide +kernel
theorem dX12_address_20 : decode cX12_address 20 = .ok (.aload_n 0, 1) := by decide +kernel
theorem dX12_address_21 : decode cX12_address 21 = .ok (.invokevirtual 162, 3) := by decide +kernel
theorem dX12_address_24 : decode cX12_address 24 = .ok (.bipush 45, 2) := by decide +kernel
theorem dX12_address_26 : decode cX12_address 26 = .ok (.if_icmp .ne 20, 3) := by decide +kernel
theorem dX12_address_29 : decode cX12_address 29 = .ok (.aload_n 0, 1) := by decide +kernel
theorem dX12_address_30 : decode cX12_address 30 = .ok (.dup, 1) := by decide +kernel
theorem dX12_address_31 : decode cX12_address 31 = .ok (.getfield 149, 3) := by decide +kernel
theorem dX12_address_34 : decode cX12_address 34 = .ok (.iconst 1, 1) := by decide +kernel
theorem dX12_address_35 : decode cX12_address 35 = .ok (.iadd, 1) := by decide +kernel
theorem dX12_address_36 : decode cX12_address 36 = .ok (.putfield 149, 3) := by decide +kernel
theorem dX12_address_39 : decode cX12_address 39 = .ok (.aload_n 0, 1) := by decide +kernel
theorem dX12_address_40 : decode cX12_address 40 = .ok (.invokevirtual 191, 3) := by decide +kernel
theorem dX12_address_43 : decode cX12_address 43 = .ok (.goto (-39), 3) := by decide +kernel
theorem dX12_address_46 : decode cX12_address 46 = .ok (.return_, 1) := by decide +kernel
theorem dX12_where_0 : decode cX12_where 0 = .ok (.aload_n 0, 1) := by decide +kernel
theorem dX12_where_1 : decode cX12_where 1 = .ok (.iconst 0, 1) := by decide +kernel
theorem dX12_where_2 : decode cX12_where 2 = .ok (.putfield 203, 3) := by decide +kernel
theorem dX12_where_5 : decode cX12_where 5 = .ok (.aload_n 0, 1) := by decide +kernel
theorem dX12_where_6 : decode cX12_where 6 = .ok (.invokevirtual 162, 3) := by decide +kernel
theorem dX12_where_9 : decode cX12_where 9 = .ok (.bipush 37, 2) := by decide +kernel
theorem dX12_where_11 : decode cX12_where 11 = .ok (.if_icmp .ne 21, 3) := by decide +kernel
theorem dX12_where_14 : decode cX12_where 14 = .ok (.aload_n 0, 1) := by decide +kernel
theorem dX12_where_15 : decode cX12_where 15 = .ok (.dup, 1) := by decide +kernel
theorem dX12_where_16 : decode cX12_where 16 = .ok (.getfield 149, 3) := by decide +kernel
theorem dX12_where_19 : decode cX12_where 19 = .ok (.iconst 1, 1) := by decide +kernel
theorem dX12_where_20 : decode cX12_where 20 = .ok (.iadd, 1) := by decide +kernel
theorem dX12_where_21 : decode cX12_where 21 = .ok (.putfield 149, 3) := by decide +kernel
theorem dX12_where_24 : decode cX12_where 24 = .ok (.aload_n 0, 1) := by decide +kernel
theorem dX12_where_25 : decode cX12_where 25 = .ok (.iconst 1, 1) := by decide +kernel
theorem dX12_where_26 : decode cX12_where 26 = .ok (.putfield 203, 3) := by decide +kernel
theorem dX12_where_29 : decode cX12_where 29 = .ok (.goto 73, 3) := by decide +kernel
theorem dX12_where_32 : decode cX12_where 32 = .ok (.aload_n 0, 1) := by decide +kernel
theorem dX12_where_33 : decode cX12_where 33 = .ok (.invokevirtual 162, 3) := by decide +kernel
theorem dX12_where_36 : decode cX12_where 36 = .ok (.invokestatic 206, 3) := by decide +kernel
theorem dX12_where_39 : decode cX12_where 39 = .ok (.ifCond .eq 63, 3) := by decide +kernel
theorem dX12_where_42 : decode cX12_where 42 = .ok (.aload_n 0, 1) := by decide +kernel
theorem dX12_where_43 : decode cX12_where 43 = .ok (.aload_n 0, 1) := by decide +kernel
theorem dX12_where_44 : decode cX12_where 44 = .ok (.getfield 149, 3) := by decide +kernel
theorem dX12_where_47 : decode cX12_where 47 = .ok (.putfield 209, 3) := by decide +kernel
theorem dX12_where_50 : decode cX12_where 50 = .ok (.aload_n 0, 1) := by decide +kernel
theorem dX12_where_51 : decode cX12_where 51 = .ok (.invokevirtual 212, 3) := by decide +kernel
theorem dX12_where_54 : decode cX12_where 54 = .ok (.aload_n 0, 1) := by decide +kernel
theorem dX12_where_55 : decode cX12_where 55 = .ok (.iconst 2, 1) := by decide +kernel
theorem dX12_where_56 : decode cX12_where 56 = .ok (.putfield 203, 3) := by decide +kernel
theorem dX12_where_59 : decode cX12_where 59 = .ok (.aload_n 0, 1) := by decide +kernel
theorem dX12_where_60 : decode cX12_where 60 = .ok (.getfield 156, 3) := by decide +kernel
theorem dX12_where_63 : decode cX12_where 63 = .ok (.ifCond .ge 39, 3) := by decide +kernel
theorem dX12_where_66 : decode cX12_where 66 = .ok (.aload_n 0, 1) := by decide +kernel
theorem dX12_where_67 : decode cX12_where 67 = .ok (.invokevirtual 162, 3) := by decide +kernel
theorem dX12_where_70 : decode cX12_where 70 = .ok (.bipush 44, 2) := by decide +kernel
theorem dX12_where_72 : decode cX12_where 72 = .ok (.if_icmp .ne 30, 3) := by decide +kernel
theorem dX12_where_75 : decode cX12_where 75 = .ok (.aload_n 0, 1) := by decide +kernel
theorem dX12_where_76 : decode cX12_where 76 = .ok (.dup, 1) := by decide +kernel
theorem dX12_where_77 : decode cX12_where 77 = .ok (.getfield 149, 3) := by decide +kernel
theorem dX12_where_80 : decode cX12_where 80 = .ok (.iconst 1, 1) := by decide +kernel
theorem dX12_where_81 : decode cX12_where 81 = .ok (.iadd, 1) := by decide +kernel
theorem dX12_where_82 : decode cX12_where 82 = .ok (.putfield 149, 3) := by decide +kernel
theorem dX12_where_85 : decode cX12_where 85 = .ok (.aload_n 0, 1) := by decide +kernel
theorem dX12_where_86 : decode cX12_where 86 = .ok (.aload_n 0, 1) := by decide +kernel
theorem dX12_where_87 : decode cX12_where 87 = .ok (.getfield 149, 3) := by decide +kernel
theorem dX12_where_90 : decode cX12_where 90 = .ok (.putfield 215, 3) := by decide +kernel
theorem dX12_where_93 : decode cX12_where 93 = .ok (.aload_n 0, 1) := by decide +kernel
theorem dX12_where_94 : decode cX12_where 94 = .ok (.invokevirtual 212, 3) := by decide +kernel
theorem dX12_where_97 : decode cX12_where 97 = .ok (.aload_n 0, 1) := by decide +kernel
theorem dX12_where_98 : decode cX12_where 98 = .ok (.iconst 3, 1) := by decide +kernel
theorem dX12_where_99 : decode cX12_where 99 = .ok (.putfield 203, 3) := by decide +kernel
theorem dX12_where_102 : decode cX12_where 102 = .ok (.aload_n 0, 1) := by decide +kernel
theorem dX12_where_103 : decode cX12_where 103 = .ok (.aload_n 0, 1) := by decide +kernel
theorem dX12_where_104 : decode cX12_where 104 = .ok (.getfield 149, 3) := by decide +kernel
theorem dX12_where_107 : decode cX12_where 107 = .ok (.putfield 218, 3) := by decide +kernel
theorem dX12_where_110 : decode cX12_where 110 = .ok (.return_, 1) := by decide +kernel
theorem dX12_rows_0 : decode cX12_rows 0 = .ok (.iconst 1, 1) := by decide +kernel
theorem dX12_rows_1 : decode cX12_rows 1 = .ok (.istore_n 1, 1) := by decide +kernel
theorem dX12_rows_2 : decode cX12_rows 2 = .ok (.iload_n 1, 1) := by decide +kernel
theorem dX12_rows_3 : decode cX12_rows 3 = .ok (.ifCond .eq 98, 3) := by decide +kernel
theorem dX12_rows_6 : decode cX12_rows 6 = .ok (.aload_n 0, 1) := by decide +kernel
theorem dX12_rows_7 : decode cX12_rows 7 = .ok (.getfield 156, 3) := by decide +kernel
theorem dX12_rows_10 : decode cX12_rows 10 = .ok (.ifCond .ge 91, 3) := by decide +kernel
theorem dX12_rows_13 : decode cX12_rows 13 = .ok (.aload_n 0, 1) := by decide +kernel
theorem dX12_rows_14 : decode cX12_rows 14 = .ok (.getfield 149, 3) := by decide +kernel
theorem dX12_rows_17 : decode cX12_rows 17 = .ok (.istore_n 2, 1) := by decide +kernel
theorem dX12_rows_18 : decode cX12_rows 18 = .ok (.aload_n 0, 1) := by decide +kernel
theorem dX12_rows_19 : decode cX12_rows 19 = .ok (.invokevirtual 162, 3) := by decide +kernel
theorem dX12_rows_22 : decode cX12_rows 22 = .ok (.invokestatic 173, 3) := by decide +kernel
theorem dX12_rows_25 : decode cX12_rows 25 = .ok (.ifCond .eq 33, 3) := by decide +kernel
theorem dX12_rows_28 : decode cX12_rows 28 = .ok (.aload_n 0, 1) := by decide +kernel
theorem dX12_rows_29 : decode cX12_rows 29 = .ok (.getfield 156, 3) := by decide +kernel
theorem dX12_rows_32 : decode cX12_rows 32 = .ok (.ifCond .ge 26, 3) := by decide +kernel
theorem dX12_rows_35 : decode cX12_rows 35 = .ok (.aload_n 0, 1) := by decide +kernel
theorem dX12_rows_36 : decode cX12_rows 36 = .ok (.aload_n 0, 1) := by decide +kernel
theorem dX12_rows_37 : decode cX12_rows 37 = .ok (.getfield 149, 3) := by decide +kernel
theorem dX12_rows_40 : decode cX12_rows 40 = .ok (.iload_n 2, 1) := by decide +kernel
theorem dX12_rows_41 : decode cX12_rows 41 = .ok (.isub, 1) := by decide +kernel
theorem dX12_rows_42 : decode cX12_rows 42 = .ok (.bipush 30, 2) := by decide +kernel
theorem dX12_rows_44 : decode cX12_rows 44 = .ok (.if_icmp .ge 7, 3) := by decide +kernel
theorem dX12_rows_47 : decode cX12_rows 47 = .ok (.iconst 1, 1) := by decide +kernel
theorem dX12_rows_48 : decode cX12_rows 48 = .ok (.goto 4, 3) := by decide +kernel
theorem dX12_rows_51 : decode cX12_rows 51 = .ok (.iconst 0, 1) := by decide +kernel
theorem dX12_rows_52 : decode cX12_rows 52 = .ok (.invokevirtual 166, 3) := by decide +kernel
theorem dX12_rows_55 : decode cX12_rows 55 = .ok (.goto (-37), 3) := by decide +kernel
theorem dX12_rows_58 : decode cX12_rows 58 = .ok (.aload_n 0, 1) := by decide +kernel
theorem dX12_rows_59 : decode cX12_rows 59 = .ok (.getfield 156, 3) := by decide +kernel
theorem dX12_rows_62 : decode cX12_rows 62 = .ok (.ifCond .ge 16, 3) := by decide +kernel
theorem dX12_rows_65 : decode cX12_rows 65 = .ok (.aload_n 0, 1) := by decide +kernel
theorem dX12_rows_66 : decode cX12_rows 66 = .ok (.invokevirtual 162, 3) := by decide +kernel
theorem dX12_rows_69 : decode cX12_rows 69 = .ok (.bipush 124, 2) := by decide +kernel
theorem dX12_rows_71 : decode cX12_rows 71 = .ok (.if_icmp .ne 7, 3) := by decide +kernel
theorem dX12_rows_74 : decode cX12_rows 74 = .ok (.iconst 1, 1) := by decide +kernel
theorem dX12_rows_75 : decode cX12_rows 75 = .ok (.goto 4, 3) := by decide +kernel
theorem dX12_rows_78 : decode cX12_rows 78 = .ok (.iconst 0, 1) := by decide +kernel
theorem dX12_rows_79 : decode cX12_rows 79 = .ok (.istore_n 1, 1) := by decide +kernel
theorem dX12_rows_80 : decode cX12_rows 80 = .ok (.aload_n 0, 1) := by decide +kernel
theorem dX12_rows_81 : decode cX12_rows 81 = .ok (.dup, 1) := by decide +kernel
theorem dX12_rows_82 : decode cX12_rows 82 = .ok (.getfield 149, 3) := by decide +kernel
theorem dX12_rows_85 : decode cX12_rows 85 = .ok (.iload_n 1, 1) := by decide +kernel
theorem dX12_rows_86 : decode cX12_rows 86 = .ok (.ifCond .eq 7, 3) := by decide +kernel
theorem dX12_rows_89 : decode cX12_rows 89 = .ok (.iconst 1, 1) := by decide +kernel
theorem dX12_rows_90 : decode cX12_rows 90 = .ok (.goto 4, 3) := by decide +kernel
theorem dX12_rows_93 : decode cX12_rows 93 = .ok (.iconst 0, 1) := by decide +kernel
theorem dX12_rows_94 : decode cX12_rows 94 = .ok (.iadd, 1) := by decide +kernel
theorem dX12_rows_95 : decode cX12_rows 95 = .ok (.putfield 149, 3) := by decide +kernel
theorem dX12_rows_98 : decode cX12_rows 98 = .ok (.goto (-96), 3) := by decide +kernel
theorem dX12_rows_101 : decode cX12_rows 101 = .ok (.return_, 1) := by decide +kernel
theorem dX12_replacing_0 : decode cX12_replacing 0 = .ok (.aload_n 0, 1) := by decide +kernel
theorem dX12_replacing_1 : decode cX12_replacing 1 = .ok (.bipush 47, 2) := by decide +kernel
theorem dX12_replacing_3 : decode cX12_replacing 3 = .ok (.invokevirtual 176, 3) := by decide +kernel
theorem dX12_replacing_6 : decode cX12_replacing 6 = .ok (.aload_n 0, 1) := by decide +kernel
theorem dX12_replacing_7 : decode cX12_replacing 7 = .ok (.bipush 47, 2) := by decide +kernel
theorem dX12_replacing_9 : decode cX12_replacing 9 = .ok (.invokevirtual 197, 3) := by decide +kernel
theorem dX12_replacing_12 : decode cX12_replacing 12 = .ok (.aload_n 0, 1) := by decide +kernel
theorem dX12_replacing_13 : decode cX12_replacing 13 = .ok (.bipush 47, 2) := by decide +kernel
theorem dX12_replacing_15 : decode cX12_replacing 15 = .ok (.invokevirtual 176, 3) := by decide +kernel
theorem dX12_replacing_18 : decode cX12_replacing 18 = .ok (.aload_n 0, 1) := by decide +kernel
theorem dX12_replacing_19 : decode cX12_replacing 19 = .ok (.getfield 156, 3) := by decide +kernel
theorem dX12_replacing_22 : decode cX12_replacing 22 = .ok (.ifCond .ge 104, 3) := by decide +kernel
theorem dX12_replacing_25 : decode cX12_replacing 25 = .ok (.aload_n 0, 1) := by decide +kernel
theorem dX12_replacing_26 : decode cX12_replacing 26 = .ok (.invokevirtual 162, 3) := by decide +kernel
theorem dX12_replacing_29 : decode cX12_replacing 29 = .ok (.invokestatic 173, 3) := by decide +kernel
theorem dX12_replacing_32 : decode cX12_replacing 32 = .ok (.ifCond .ne 21, 3) := by decide +kernel
theorem dX12_replacing_35 : decode cX12_replacing 35 = .ok (.aload_n 0, 1) := by decide +kernel
theorem dX12_replacing_36 : decode cX12_replacing 36 = .ok (.invokevirtual 162, 3) := by decide +kernel
theorem dX12_replacing_39 : decode cX12_replacing 39 = .ok (.bipush 38, 2) := by decide +kernel
theorem dX12_replacing_41 : decode cX12_replacing 41 = .ok (.if_icmp .eq 12, 3) := by decide +kernel
theorem dX12_replacing_44 : decode cX12_replacing 44 = .ok (.aload_n 0, 1) := by decide +kernel
theorem dX12_replacing_45 : decode cX12_replacing 45 = .ok (.invokevirtual 162, 3) := by decide +kernel
theorem dX12_replacing_48 : decode cX12_replacing 48 = .ok (.bipush 92, 2) := by decide +kernel
theorem dX12_replacing_50 : decode cX12_replacing 50 = .ok (.if_icmp .ne 76, 3) := by decide +kernel
theorem dX12_replacing_53 : decode cX12_replacing 53 = .ok (.aload_n 0, 1) := by decide +kernel
theorem dX12_replacing_54 : decode cX12_replacing 54 = .ok (.invokevirtual 162, 3) := by decide +kernel
theorem dX12_replacing_57 : decode cX12_replacing 57 = .ok (.bipush 92, 2) := by decide +kernel
theorem dX12_replacing_59 : decode cX12_replacing 59 = .ok (.if_icmp .ne 54, 3) := by decide +kernel
theorem dX12_replacing_62 : decode cX12_replacing 62 = .ok (.aload_n 0, 1) := by decide +kernel
theorem dX12_replacing_63 : decode cX12_replacing 63 = .ok (.aload_n 0, 1) := by decide +kernel
theorem dX12_replacing_64 : decode cX12_replacing 64 = .ok (.getfield 179, 3) := by decide +kernel
theorem dX12_replacing_67 : decode cX12_replacing 67 = .ok (.ifCond .le 7, 3) := by decide +kernel
theorem dX12_replacing_70 : decode cX12_replacing 70 = .ok (.iconst 1, 1) := by decide +kernel
theorem dX12_replacing_71 : decode cX12_replacing 71 = .ok (.goto 4, 3) := by decide +kernel
theorem dX12_replacing_74 : decode cX12_replacing 74 = .ok (.iconst 0, 1) := by decide +kernel
theorem dX12_replacing_75 : decode cX12_replacing 75 = .ok (.invokevirtual 166, 3) := by decide +kernel
theorem dX12_replacing_78 : decode cX12_replacing 78 = .ok (.aload_n 0, 1) := by decide +kernel
theorem dX12_replacing_79 : decode cX12_replacing 79 = .ok (.aload_n 0, 1) := by decide +kernel
theorem dX12_replacing_80 : decode cX12_replacing 80 = .ok (.invokevirtual 162, 3) := by decide +kernel
theorem dX12_replacing_83 : decode cX12_replacing 83 = .ok (.bipush 49, 2) := by decide +kernel
theorem dX12_replacing_85 : decode cX12_replacing 85 = .ok (.if_icmp .lt 21, 3) := by decide +kernel
theorem dX12_replacing_88 : decode cX12_replacing 88 = .ok (.aload_n 0, 1) := by decide +kernel
theorem dX12_replacing_89 : decode cX12_replacing 89 = .ok (.invokevirtual 162, 3) := by decide +kernel
theorem dX12_replacing_92 : decode cX12_replacing 92 = .ok (.bipush 48, 2) := by decide +kernel
theorem dX12_replacing_94 : decode cX12_replacing 94 = .ok (.aload_n 0, 1) := by decide +kernel
theorem dX12_replacing_95 : decode cX12_replacing 95 = .ok (.getfield 179, 3) := by decide +kernel
theorem dX12_replacing_98 : decode cX12_replacing 98 = .ok (.iadd, 1) := by decide +kernel
theorem dX12_replacing_99 : decode cX12_replacing 99 = .ok (.if_icmp .gt 7, 3) := by decide +kernel
theorem dX12_replacing_102 : decode cX12_replacing 102 = .ok (.iconst 1, 1) := by decide +kernel
theorem dX12_replacing_103 : decode cX12_replacing 103 = .ok (.goto 4, 3) := by decide +kernel
theorem dX12_replacing_106 : decode cX12_replacing 106 = .ok (.iconst 0, 1) := by decide +kernel
theorem dX12_replacing_107 : decode cX12_replacing 107 = .ok (.invokevirtual 166, 3) := by decide +kernel
theorem dX12_replacing_110 : decode cX12_replacing 110 = .ok (.goto (-92), 3) := by decide +kernel
theorem dX12_replacing_113 : decode cX12_replacing 113 = .ok (.aload_n 0, 1) := by decide +kernel
theorem dX12_replacing_114 : decode cX12_replacing 114 = .ok (.dup, 1) := by decide +kernel
theorem dX12_replacing_115 : decode cX12_replacing 115 = .ok (.getfield 149, 3) := by decide +kernel
theorem dX12_replacing_118 : decode cX12_replacing 118 = .ok (.iconst 1, 1) := by decide +kernel
theorem dX12_replacing_119 : decode cX12_replacing 119 = .ok (.iadd, 1) := by decide +kernel
theorem dX12_replacing_120 : decode cX12_replacing 120 = .ok (.putfield 149, 3) := by decide +kernel
theorem dX12_replacing_123 : decode cX12_replacing 123 = .ok (.goto (-105), 3) := by decide +kernel
theorem dX12_replacing_126 : decode cX12_replacing 126 = .ok (.aload_n 0, 1) := by decide +kernel
theorem dX12_replacing_127 : decode cX12_replacing 127 = .ok (.bipush 47, 2) := by decide +kernel
theorem dX12_replacing_129 : decode cX12_replacing 129 = .ok (.invokevirtual 176, 3) := by decide +kernel
theorem dX12_replacing_132 : decode cX12_replacing 132 = .ok (.aload_n 0, 1) := by decide +kernel
theorem dX12_replacing_133 : decode cX12_replacing 133 = .ok (.getfield 156, 3) := by decide +kernel
theorem dX12_replacing_136 : decode cX12_replacing 136 = .ok (.ifCond .ge 40, 3) := by decide +kernel
theorem dX12_replacing_139 : decode cX12_replacing 139 = .ok (.aload_n 0, 1) := by decide +kernel
theorem dX12_replacing_140 : decode cX12_replacing 140 = .ok (.invokevirtual 162, 3) := by decide +kernel
theorem dX12_replacing_143 : decode cX12_replacing 143 = .ok (.bipush 103, 2) := by decide +kernel
theorem dX12_replacing_145 : decode cX12_replacing 145 = .ok (.if_icmp .eq 21, 3) := by decide +kernel
theorem dX12_replacing_148 : decode cX12_replacing 148 = .ok (.aload_n 0, 1) := by decide +kernel
theorem dX12_replacing_149 : decode cX12_replacing 149 = .ok (.invokevirtual 162, 3) := by decide +kernel
theorem dX12_replacing_152 : decode cX12_replacing 152 = .ok (.bipush 49, 2) := by decide +kernel
theorem dX12_replacing_154 : decode cX12_replacing 154 = .ok (.if_icmp .lt 22, 3) := by decide +kernel
theorem dX12_replacing_157 : decode cX12_replacing 157 = .ok (.aload_n 0, 1) := by decide +kernel
theorem dX12_replacing_158 : decode cX12_replacing 158 = .ok (.invokevirtual 162, 3) := by decide +kernel
theorem dX12_replacing_161 : decode cX12_replacing 161 = .ok (.bipush 57, 2) := by decide +kernel
theorem dX12_replacing_163 : decode cX12_replacing 163 = .ok (.if_icmp .gt 13, 3) := by decide +kernel
theorem dX12_replacing_166 : decode cX12_replacing 166 = .ok (.aload_n 0, 1) := by decide +kernel
theorem dX12_replacing_167 : decode cX12_replacing 167 = .ok (.dup, 1) := by decide +kernel
theorem dX12_replacing_168 : decode cX12_replacing 168 = .ok (.getfield 149, 3) := by decide +kernel
theorem dX12_replacing_171 : decode cX12_replacing 171 = .ok (.iconst 1, 1) := by decide +kernel
theorem dX12_replacing_172 : decode cX12_replacing 172 = .ok (.iadd, 1) := by decide +kernel
theorem dX12_replacing_173 : decode cX12_replacing 173 = .ok (.putfield 149, 3) := by decide +kernel
theorem dX12_replacing_176 : decode cX12_replacing 176 = .ok (.return_, 1) := by decide +kernel
theorem dX12_turning_0 : decode cX12_turning 0 = .ok (.aload_n 0, 1) := by decide +kernel
theorem dX12_turning_1 : decode cX12_turning 1 = .ok (.bipush 47, 2) := by decide +kernel
theorem dX12_turning_3 : decode cX12_turning 3 = .ok (.invokevirtual 176, 3) := by decide +kernel
theorem dX12_turning_6 : decode cX12_turning 6 = .ok (.aload_n 0, 1) := by decide +kernel
theorem dX12_turning_7 : decode cX12_turning 7 = .ok (.getfield 149, 3) := by decide +kernel
theorem dX12_turning_10 : decode cX12_turning 10 = .ok (.istore_n 1, 1) := by decide +kernel
theorem dX12_turning_11 : decode cX12_turning 11 = .ok (.aload_n 0, 1) := by decide +kernel
theorem dX12_turning_12 : decode cX12_turning 12 = .ok (.aload_n 0, 1) := by decide +kernel
theorem dX12_turning_13 : decode cX12_turning 13 = .ok (.invokevirtual 162, 3) := by decide +kernel
theorem dX12_turning_16 : decode cX12_turning 16 = .ok (.invokestatic 173, 3) := by decide +kernel
theorem dX12_turning_19 : decode cX12_turning 19 = .ok (.invokevirtual 166, 3) := by decide +kernel
theorem dX12_turning_22 : decode cX12_turning 22 = .ok (.aload_n 0, 1) := by decide +kernel
theorem dX12_turning_23 : decode cX12_turning 23 = .ok (.getfield 156, 3) := by decide +kernel
theorem dX12_turning_26 : decode cX12_turning 26 = .ok (.ifCond .ge 26, 3) := by decide +kernel
theorem dX12_turning_29 : decode cX12_turning 29 = .ok (.aload_n 0, 1) := by decide +kernel
theorem dX12_turning_30 : decode cX12_turning 30 = .ok (.invokevirtual 162, 3) := by decide +kernel
theorem dX12_turning_33 : decode cX12_turning 33 = .ok (.invokestatic 173, 3) := by decide +kernel
theorem dX12_turning_36 : decode cX12_turning 36 = .ok (.ifCond .eq 16, 3) := by decide +kernel
theorem dX12_turning_39 : decode cX12_turning 39 = .ok (.aload_n 0, 1) := by decide +kernel
theorem dX12_turning_40 : decode cX12_turning 40 = .ok (.dup, 1) := by decide +kernel
theorem dX12_turning_41 : decode cX12_turning 41 = .ok (.getfield 149, 3) := by decide +kernel
theorem dX12_turning_44 : decode cX12_turning 44 = .ok (.iconst 1, 1) := by decide +kernel
theorem dX12_turning_45 : decode cX12_turning 45 = .ok (.iadd, 1) := by decide +kernel
theorem dX12_turning_46 : decode cX12_turning 46 = .ok (.putfield 149, 3) := by decide +kernel
theorem dX12_turning_49 : decode cX12_turning 49 = .ok (.goto (-27), 3) := by decide +kernel
theorem dX12_turning_52 : decode cX12_turning 52 = .ok (.aload_n 0, 1) := by decide +kernel
theorem dX12_turning_53 : decode cX12_turning 53 = .ok (.getfield 149, 3) := by decide +kernel
theorem dX12_turning_56 : decode cX12_turning 56 = .ok (.iload_n 1, 1) := by decide +kernel
theorem dX12_turning_57 : decode cX12_turning 57 = .ok (.isub, 1) := by decide +kernel
theorem dX12_turning_58 : decode cX12_turning 58 = .ok (.istore_n 2, 1) := by decide +kernel
theorem dX12_turning_59 : decode cX12_turning 59 = .ok (.aload_n 0, 1) := by decide +kernel
theorem dX12_turning_60 : decode cX12_turning 60 = .ok (.bipush 47, 2) := by decide +kernel
theorem dX12_turning_62 : decode cX12_turning 62 = .ok (.invokevirtual 176, 3) := by decide +kernel
theorem dX12_turning_65 : decode cX12_turning 65 = .ok (.iconst 0, 1) := by decide +kernel
theorem dX12_turning_66 : decode cX12_turning 66 = .ok (.istore_n 3, 1) := by decide +kernel
theorem dX12_turning_67 : decode cX12_turning 67 = .ok (.iload_n 3, 1) := by decide +kernel
theorem dX12_turning_68 : decode cX12_turning 68 = .ok (.iload_n 2, 1) := by decide +kernel
theorem dX12_turning_69 : decode cX12_turning 69 = .ok (.if_icmp .ge 27, 3) := by decide +kernel
theorem dX12_turning_72 : decode cX12_turning 72 = .ok (.aload_n 0, 1) := by decide +kernel
theorem dX12_turning_73 : decode cX12_turning 73 = .ok (.getfield 156, 3) := by decide +kernel
theorem dX12_turning_76 : decode cX12_turning 76 = .ok (.ifCond .ge 20, 3) := by decide +kernel
theorem dX12_turning_79 : decode cX12_turning 79 = .ok (.aload_n 0, 1) := by decide +kernel
theorem dX12_turning_80 : decode cX12_turning 80 = .ok (.aload_n 0, 1) := by decide +kernel
theorem dX12_turning_81 : decode cX12_turning 81 = .ok (.invokevirtual 162, 3) := by decide +kernel
theorem dX12_turning_84 : decode cX12_turning 84 = .ok (.invokestatic 173, 3) := by decide +kernel
theorem dX12_turning_87 : decode cX12_turning 87 = .ok (.invokevirtual 166, 3) := by decide +kernel
theorem dX12_turning_90 : decode cX12_turning 90 = .ok (.iinc 3 1, 3) := by decide +kernel
theorem dX12_turning_93 : decode cX12_turning 93 = .ok (.goto (-26), 3) := by decide +kernel
theorem dX12_turning_96 : decode cX12_turning 96 = .ok (.aload_n 0, 1) := by decide +kernel
theorem dX12_turning_97 : decode cX12_turning 97 = .ok (.bipush 47, 2) := by decide +kernel
theorem dX12_turning_99 : decode cX12_turning 99 = .ok (.invokevirtual 176, 3) := by decide +kernel
theorem dX12_turning_102 : decode cX12_turning 102 = .ok (.return_, 1) := by decide +kernel
theorem dX12_plainAct_0 : decode cX12_plainAct 0 = .ok (.aload_n 0, 1) := by decide +kernel
theorem dX12_plainAct_1 : decode cX12_plainAct 1 = .ok (.invokevirtual 162, 3) := by decide +kernel
theorem dX12_plainAct_4 : decode cX12_plainAct 4 = .ok (.istore_n 3, 1) := by decide +kernel
theorem dX12_plainAct_5 : decode cX12_plainAct 5 = .ok (.iload_n 3, 1) := by decide +kernel
theorem dX12_plainAct_6 : decode cX12_plainAct 6 = .ok (.bipush 58, 2) := by decide +kernel
theorem dX12_plainAct_8 : decode cX12_plainAct 8 = .ok (.if_icmp .eq 27, 3) := by decide +kernel
theorem dX12_plainAct_11 : decode cX12_plainAct 11 = .ok (.iload_n 3, 1) := by decide +kernel
theorem dX12_plainAct_12 : decode cX12_plainAct 12 = .ok (.bipush 98, 2) := by decide +kernel
theorem dX12_plainAct_14 : decode cX12_plainAct 14 = .ok (.if_icmp .eq 21, 3) := by decide +kernel
theorem dX12_plainAct_17 : decode cX12_plainAct 17 = .ok (.iload_n 3, 1) := by decide +kernel
theorem dX12_plainAct_18 : decode cX12_plainAct 18 = .ok (.bipush 84, 2) := by decide +kernel
theorem dX12_plainAct_20 : decode cX12_plainAct 20 = .ok (.if_icmp .eq 15, 3) := by decide +kernel
theorem dX12_plainAct_23 : decode cX12_plainAct 23 = .ok (.iload_n 3, 1) := by decide +kernel
theorem dX12_plainAct_24 : decode cX12_plainAct 24 = .ok (.bipush 113, 2) := by decide +kernel
theorem dX12_plainAct_26 : decode cX12_plainAct 26 = .ok (.if_icmp .eq 9, 3) := by decide +kernel
theorem dX12_plainAct_29 : decode cX12_plainAct 29 = .ok (.iload_n 3, 1) := by decide +kernel
theorem dX12_plainAct_30 : decode cX12_plainAct 30 = .ok (.bipush 78, 2) := by decide +kernel
theorem dX12_plainAct_32 : decode cX12_plainAct 32 = .ok (.if_icmp .ne 7, 3) := by decide +kernel
theorem dX12_plainAct_35 : decode cX12_plainAct 35 = .ok (.iconst 1, 1) := by decide +kernel
theorem dX12_plainAct_36 : decode cX12_plainAct 36 = .ok (.goto 4, 3) := by decide +kernel
theorem dX12_plainAct_39 : decode cX12_plainAct 39 = .ok (.iconst 0, 1) := by decide +kernel
theorem dX12_plainAct_40 : decode cX12_plainAct 40 = .ok (.istore 4, 2) := by decide +kernel
theorem dX12_plainAct_42 : decode cX12_plainAct 42 = .ok (.iload 4, 2) := by decide +kernel
theorem dX12_plainAct_44 : decode cX12_plainAct 44 = .ok (.ifCond .eq 7, 3) := by decide +kernel
theorem dX12_plainAct_47 : decode cX12_plainAct 47 = .ok (.iload_n 1, 1) := by decide +kernel
theorem dX12_plainAct_48 : decode cX12_plainAct 48 = .ok (.ifCond .ne 24, 3) := by decide +kernel
theorem dX12_plainAct_51 : decode cX12_plainAct 51 = .ok (.iload_n 3, 1) := by decide +kernel
theorem dX12_plainAct_52 : decode cX12_plainAct 52 = .ok (.bipush 58, 2) := by decide +kernel
theorem dX12_plainAct_54 : decode cX12_plainAct 54 = .ok (.if_icmp .ne 7, 3) := by decide +kernel
theorem dX12_plainAct_57 : decode cX12_plainAct 57 = .ok (.iload_n 2, 1) := by decide +kernel
theorem dX12_plainAct_58 : decode cX12_plainAct 58 = .ok (.ifCond .ne 14, 3) := by decide +kernel
theorem dX12_plainAct_61 : decode cX12_plainAct 61 = .ok (.aload_n 0, 1) := by decide +kernel
theorem dX12_plainAct_62 : decode cX12_plainAct 62 = .ok (.getfield 149, 3) := by decide +kernel
theorem dX12_plainAct_65 : decode cX12_plainAct 65 = .ok (.aload_n 0, 1) := by decide +kernel
theorem dX12_plainAct_66 : decode cX12_plainAct 66 = .ok (.getfield 146, 3) := by decide +kernel
theorem dX12_plainAct_69 : decode cX12_plainAct 69 = .ok (.if_icmp .ne 8, 3) := by decide +kernel
theorem dX12_plainAct_72 : decode cX12_plainAct 72 = .ok (.aload_n 0, 1) := by decide +kernel
theorem dX12_plainAct_73 : decode cX12_plainAct 73 = .ok (.invokevirtual 159, 3) := by decide +kernel
theorem dX12_plainAct_76 : decode cX12_plainAct 76 = .ok (.return_, 1) := by decide +kernel
theorem dX12_plainAct_77 : decode cX12_plainAct 77 = .ok (.aload_n 0, 1) := by decide +kernel
theorem dX12_plainAct_78 : decode cX12_plainAct 78 = .ok (.dup, 1) := by decide +kernel
theorem dX12_plainAct_79 : decode cX12_plainAct 79 = .ok (.getfield 149, 3) := by decide +kernel
theorem dX12_plainAct_82 : decode cX12_plainAct 82 = .ok (.iconst 1, 1) := by decide +kernel
theorem dX12_plainAct_83 : decode cX12_plainAct 83 = .ok (.iadd, 1) := by decide +kernel
theorem dX12_plainAct_84 : decode cX12_plainAct 84 = .ok (.putfield 149, 3) := by decide +kernel
theorem dX12_plainAct_87 : decode cX12_plainAct 87 = .ok (.iload_n 3, 1) := by decide +kernel
theorem dX12_plainAct_88 : decode cX12_plainAct 88 = .ok (.bipush 97, 2) := by decide +kernel
theorem dX12_plainAct_90 : decode cX12_plainAct 90 = .ok (.if_icmp .eq 15, 3) := by decide +kernel
theorem dX12_plainAct_93 : decode cX12_plainAct 93 = .ok (.iload_n 3, 1) := by decide +kernel
theorem dX12_plainAct_94 : decode cX12_plainAct 94 = .ok (.bipush 105, 2) := by decide +kernel
theorem dX12_plainAct_96 : decode cX12_plainAct 96 = .ok (.if_icmp .eq 9, 3) := by decide +kernel
theorem dX12_plainAct_99 : decode cX12_plainAct 99 = .ok (.iload_n 3, 1) := by decide +kernel
theorem dX12_plainAct_100 : decode cX12_plainAct 100 = .ok (.bipush 99, 2) := by decide +kernel
theorem dX12_plainAct_102 : decode cX12_plainAct 102 = .ok (.if_icmp .ne 10, 3) := by decide +kernel
theorem dX12_plainAct_105 : decode cX12_plainAct 105 = .ok (.aload_n 0, 1) := by decide +kernel
theorem dX12_plainAct_106 : decode cX12_plainAct 106 = .ok (.invokevirtual 221, 3) := by decide +kernel
theorem dX12_plainAct_109 : decode cX12_plainAct 109 = .ok (.goto 227, 3) := by decide +kernel
theorem dX12_plainAct_112 : decode cX12_plainAct 112 = .ok (.iload_n 3, 1) := by decide +kernel
theorem dX12_plainAct_113 : decode cX12_plainAct 113 = .ok (.bipush 118, 2) := by decide +kernel
theorem dX12_plainAct_115 : decode cX12_plainAct 115 = .ok (.if_icmp .eq 27, 3) := by decide +kernel
theorem dX12_plainAct_118 : decode cX12_plainAct 118 = .ok (.iload_n 3, 1) := by decide +kernel
theorem dX12_plainAct_119 : decode cX12_plainAct 119 = .ok (.bipush 62, 2) := by decide +kernel
theorem dX12_plainAct_121 : decode cX12_plainAct 121 = .ok (.if_icmp .eq 21, 3) := by decide +kernel
theorem dX12_plainAct_124 : decode cX12_plainAct 124 = .ok (.iload_n 3, 1) := by decide +kernel
theorem dX12_plainAct_125 : decode cX12_plainAct 125 = .ok (.bipush 60, 2) := by decide +kernel
theorem dX12_plainAct_127 : decode cX12_plainAct 127 = .ok (.if_icmp .eq 15, 3) := by decide +kernel
theorem dX12_plainAct_130 : decode cX12_plainAct 130 = .ok (.iload_n 3, 1) := by decide +kernel
theorem dX12_plainAct_131 : decode cX12_plainAct 131 = .ok (.bipush 111, 2) := by decide +kernel
theorem dX12_plainAct_133 : decode cX12_plainAct 133 = .ok (.if_icmp .eq 9, 3) := by decide +kernel
theorem dX12_plainAct_136 : decode cX12_plainAct 136 = .ok (.iload_n 3, 1) := by decide +kernel
theorem dX12_plainAct_137 : decode cX12_plainAct 137 = .ok (.bipush 79, 2) := by decide +kernel
theorem dX12_plainAct_139 : decode cX12_plainAct 139 = .ok (.if_icmp .ne 10, 3) := by decide +kernel
theorem dX12_plainAct_142 : decode cX12_plainAct 142 = .ok (.aload_n 0, 1) := by decide +kernel
theorem dX12_plainAct_143 : decode cX12_plainAct 143 = .ok (.invokevirtual 191, 3) := by decide +kernel
theorem dX12_plainAct_146 : decode cX12_plainAct 146 = .ok (.goto 190, 3) := by decide +kernel
theorem dX12_plainAct_149 : decode cX12_plainAct 149 = .ok (.iload_n 3, 1) := by decide +kernel
theorem dX12_plainAct_150 : decode cX12_plainAct 150 = .ok (.bipush 109, 2) := by decide +kernel
theorem dX12_plainAct_152 : decode cX12_plainAct 152 = .ok (.if_icmp .eq 9, 3) := by decide +kernel
theorem dX12_plainAct_155 : decode cX12_plainAct 155 = .ok (.iload_n 3, 1) := by decide +kernel
theorem dX12_plainAct_156 : decode cX12_plainAct 156 = .ok (.bipush 116, 2) := by decide +kernel
theorem dX12_plainAct_158 : decode cX12_plainAct 158 = .ok (.if_icmp .ne 10, 3) := by decide +kernel
theorem dX12_plainAct_161 : decode cX12_plainAct 161 = .ok (.aload_n 0, 1) := by decide +kernel
theorem dX12_plainAct_162 : decode cX12_plainAct 162 = .ok (.invokevirtual 212, 3) := by decide +kernel
theorem dX12_plainAct_165 : decode cX12_plainAct 165 = .ok (.goto 171, 3) := by decide +kernel
theorem dX12_plainAct_168 : decode cX12_plainAct 168 = .ok (.iload_n 3, 1) := by decide +kernel
theorem dX12_plainAct_169 : decode cX12_plainAct 169 = .ok (.bipush 107, 2) := by decide +kernel
theorem dX12_plainAct_171 : decode cX12_plainAct 171 = .ok (.if_icmp .ne 17, 3) := by decide +kernel
theorem dX12_plainAct_174 : decode cX12_plainAct 174 = .ok (.aload_n 0, 1) := by decide +kernel
theorem dX12_plainAct_175 : decode cX12_plainAct 175 = .ok (.aload_n 0, 1) := by decide +kernel
theorem dX12_plainAct_176 : decode cX12_plainAct 176 = .ok (.invokevirtual 162, 3) := by decide +kernel
theorem dX12_plainAct_179 : decode cX12_plainAct 179 = .ok (.invokestatic 194, 3) := by decide +kernel
theorem dX12_plainAct_182 : decode cX12_plainAct 182 = .ok (.invokevirtual 166, 3) := by decide +kernel
theorem dX12_plainAct_185 : decode cX12_plainAct 185 = .ok (.goto 151, 3) := by decide +kernel
theorem dX12_plainAct_188 : decode cX12_plainAct 188 = .ok (.iload_n 3, 1) := by decide +kernel
theorem dX12_plainAct_189 : decode cX12_plainAct 189 = .ok (.bipush 114, 2) := by decide +kernel
theorem dX12_plainAct_191 : decode cX12_plainAct 191 = .ok (.if_icmp .eq 9, 3) := by decide +kernel
theorem dX12_plainAct_194 : decode cX12_plainAct 194 = .ok (.iload_n 3, 1) := by decide +kernel
theorem dX12_plainAct_195 : decode cX12_plainAct 195 = .ok (.bipush 119, 2) := by decide +kernel
theorem dX12_plainAct_197 : decode cX12_plainAct 197 = .ok (.if_icmp .ne 33, 3) := by decide +kernel
theorem dX12_plainAct_200 : decode cX12_plainAct 200 = .ok (.aload_n 0, 1) := by decide +kernel
theorem dX12_plainAct_201 : decode cX12_plainAct 201 = .ok (.aload_n 0, 1) := by decide +kernel
theorem dX12_plainAct_202 : decode cX12_plainAct 202 = .ok (.invokevirtual 162, 3) := by decide +kernel
theorem dX12_plainAct_205 : decode cX12_plainAct 205 = .ok (.bipush 48, 2) := by decide +kernel
theorem dX12_plainAct_207 : decode cX12_plainAct 207 = .ok (.if_icmp .lt 16, 3) := by decide +kernel
theorem dX12_plainAct_210 : decode cX12_plainAct 210 = .ok (.aload_n 0, 1) := by decide +kernel
theorem dX12_plainAct_211 : decode cX12_plainAct 211 = .ok (.invokevirtual 162, 3) := by decide +kernel
theorem dX12_plainAct_214 : decode cX12_plainAct 214 = .ok (.bipush 51, 2) := by decide +kernel
theorem dX12_plainAct_216 : decode cX12_plainAct 216 = .ok (.if_icmp .gt 7, 3) := by decide +kernel
theorem dX12_plainAct_219 : decode cX12_plainAct 219 = .ok (.iconst 1, 1) := by decide +kernel
theorem dX12_plainAct_220 : decode cX12_plainAct 220 = .ok (.goto 4, 3) := by decide +kernel
theorem dX12_plainAct_223 : decode cX12_plainAct 223 = .ok (.iconst 0, 1) := by decide +kernel
theorem dX12_plainAct_224 : decode cX12_plainAct 224 = .ok (.invokevirtual 166, 3) := by decide +kernel
theorem dX12_plainAct_227 : decode cX12_plainAct 227 = .ok (.goto 109, 3) := by decide +kernel
theorem dX12_plainAct_230 : decode cX12_plainAct 230 = .ok (.iload_n 3, 1) := by decide +kernel
theorem dX12_plainAct_231 : decode cX12_plainAct 231 = .ok (.bipush 58, 2) := by decide +kernel
theorem dX12_plainAct_233 : decode cX12_plainAct 233 = .ok (.if_icmp .ne 17, 3) := by decide +kernel
theorem dX12_plainAct_236 : decode cX12_plainAct 236 = .ok (.aload_n 0, 1) := by decide +kernel
theorem dX12_plainAct_237 : decode cX12_plainAct 237 = .ok (.aload_n 0, 1) := by decide +kernel
theorem dX12_plainAct_238 : decode cX12_plainAct 238 = .ok (.invokevirtual 162, 3) := by decide +kernel
theorem dX12_plainAct_241 : decode cX12_plainAct 241 = .ok (.invokestatic 224, 3) := by decide +kernel
theorem dX12_plainAct_244 : decode cX12_plainAct 244 = .ok (.invokevirtual 166, 3) := by decide +kernel
theorem dX12_plainAct_247 : decode cX12_plainAct 247 = .ok (.goto 89, 3) := by decide +kernel
theorem dX12_plainAct_250 : decode cX12_plainAct 250 = .ok (.iload_n 3, 1) := by decide +kernel
theorem dX12_plainAct_251 : decode cX12_plainAct 251 = .ok (.bipush 98, 2) := by decide +kernel
theorem dX12_plainAct_253 : decode cX12_plainAct 253 = .ok (.if_icmp .eq 9, 3) := by decide +kernel
theorem dX12_plainAct_256 : decode cX12_plainAct 256 = .ok (.iload_n 3, 1) := by decide +kernel
theorem dX12_plainAct_257 : decode cX12_plainAct 257 = .ok (.bipush 84, 2) := by decide +kernel
theorem dX12_plainAct_259 : decode cX12_plainAct 259 = .ok (.if_icmp .ne 30, 3) := by decide +kernel
theorem dX12_plainAct_262 : decode cX12_plainAct 262 = .ok (.aload_n 0, 1) := by decide +kernel
theorem dX12_plainAct_263 : decode cX12_plainAct 263 = .ok (.dup, 1) := by decide +kernel
theorem dX12_plainAct_264 : decode cX12_plainAct 264 = .ok (.getfield 149, 3) := by decide +kernel
theorem dX12_plainAct_267 : decode cX12_plainAct 267 = .ok (.aload_n 0, 1) := by decide +kernel
theorem dX12_plainAct_268 : decode cX12_plainAct 268 = .ok (.invokevirtual 162, 3) := by decide +kernel
theorem dX12_plainAct_271 : decode cX12_plainAct 271 = .ok (.invokestatic 224, 3) := by decide +kernel
theorem dX12_plainAct_274 : decode cX12_plainAct 274 = .ok (.ifCond .eq 7, 3) := by decide +kernel
theorem dX12_plainAct_277 : decode cX12_plainAct 277 = .ok (.iconst 1, 1) := by decide +kernel
theorem dX12_plainAct_278 : decode cX12_plainAct 278 = .ok (.goto 4, 3) := by decide +kernel
theorem dX12_plainAct_281 : decode cX12_plainAct 281 = .ok (.iconst 0, 1) := by decide +kernel
theorem dX12_plainAct_282 : decode cX12_plainAct 282 = .ok (.iadd, 1) := by decide +kernel
theorem dX12_plainAct_283 : decode cX12_plainAct 283 = .ok (.putfield 149, 3) := by decide +kernel
theorem dX12_plainAct_286 : decode cX12_plainAct 286 = .ok (.goto 50, 3) := by decide +kernel
theorem dX12_plainAct_289 : decode cX12_plainAct 289 = .ok (.iload_n 3, 1) := by decide +kernel
theorem dX12_plainAct_290 : decode cX12_plainAct 290 = .ok (.bipush 115, 2) := by decide +kernel
theorem dX12_plainAct_292 : decode cX12_plainAct 292 = .ok (.if_icmp .ne 10, 3) := by decide +kernel
theorem dX12_plainAct_295 : decode cX12_plainAct 295 = .ok (.aload_n 0, 1) := by decide +kernel
theorem dX12_plainAct_296 : decode cX12_plainAct 296 = .ok (.invokevirtual 227, 3) := by decide +kernel
theorem dX12_plainAct_299 : decode cX12_plainAct 299 = .ok (.goto 37, 3) := by decide +kernel
theorem dX12_plainAct_302 : decode cX12_plainAct 302 = .ok (.iload_n 3, 1) := by decide +kernel
theorem dX12_plainAct_303 : decode cX12_plainAct 303 = .ok (.bipush 122, 2) := by decide +kernel
theorem dX12_plainAct_305 : decode cX12_plainAct 305 = .ok (.if_icmp .ne 10, 3) := by decide +kernel
theorem dX12_plainAct_308 : decode cX12_plainAct 308 = .ok (.aload_n 0, 1) := by decide +kernel
theorem dX12_plainAct_309 : decode cX12_plainAct 309 = .ok (.invokevirtual 230, 3) := by decide +kernel
theorem dX12_plainAct_312 : decode cX12_plainAct 312 = .ok (.goto 24, 3) := by decide +kernel
theorem dX12_plainAct_315 : decode cX12_plainAct 315 = .ok (.iload_n 3, 1) := by decide +kernel
theorem dX12_plainAct_316 : decode cX12_plainAct 316 = .ok (.invokestatic 233, 3) := by decide +kernel
theorem dX12_plainAct_319 : decode cX12_plainAct 319 = .ok (.ifCond .ne 17, 3) := by decide +kernel
theorem dX12_plainAct_322 : decode cX12_plainAct 322 = .ok (.aload_n 0, 1) := by decide +kernel
theorem dX12_plainAct_323 : decode cX12_plainAct 323 = .ok (.dup, 1) := by decide +kernel
theorem dX12_plainAct_324 : decode cX12_plainAct 324 = .ok (.getfield 149, 3) := by decide +kernel
theorem dX12_plainAct_327 : decode cX12_plainAct 327 = .ok (.iconst 1, 1) := by decide +kernel
theorem dX12_plainAct_328 : decode cX12_plainAct 328 = .ok (.isub, 1) := by decide +kernel
theorem dX12_plainAct_329 : decode cX12_plainAct 329 = .ok (.putfield 149, 3) := by decide +kernel
theorem dX12_plainAct_332 : decode cX12_plainAct 332 = .ok (.aload_n 0, 1) := by decide +kernel
theorem dX12_plainAct_333 : decode cX12_plainAct 333 = .ok (.invokevirtual 159, 3) := by decide +kernel
theorem dX12_plainAct_336 : decode cX12_plainAct 336 = .ok (.return_, 1) := by decide +kernel
theorem dX12_isBare_0 : decode cX12_isBare 0 = .ok (.iload_n 0, 1) := by decide +kernel
theorem dX12_isBare_1 : decode cX12_isBare 1 = .ok (.bipush 100, 2) := by decide +kernel
theorem dX12_isBare_3 : decode cX12_isBare 3 = .ok (.if_icmp .eq 39, 3) := by decide +kernel
theorem dX12_isBare_6 : decode cX12_isBare 6 = .ok (.iload_n 0, 1) := by decide +kernel
theorem dX12_isBare_7 : decode cX12_isBare 7 = .ok (.bipush 106, 2) := by decide +kernel
theorem dX12_isBare_9 : decode cX12_isBare 9 = .ok (.if_icmp .eq 33, 3) := by decide +kernel
theorem dX12_isBare_12 : decode cX12_isBare 12 = .ok (.iload_n 0, 1) := by decide +kernel
theorem dX12_isBare_13 : decode cX12_isBare 13 = .ok (.bipush 108, 2) := by decide +kernel
theorem dX12_isBare_15 : decode cX12_isBare 15 = .ok (.if_icmp .eq 27, 3) := by decide +kernel
theorem dX12_isBare_18 : decode cX12_isBare 18 = .ok (.iload_n 0, 1) := by decide +kernel
theorem dX12_isBare_19 : decode cX12_isBare 19 = .ok (.bipush 112, 2) := by decide +kernel
theorem dX12_isBare_21 : decode cX12_isBare 21 = .ok (.if_icmp .eq 21, 3) := by decide +kernel
theorem dX12_isBare_24 : decode cX12_isBare 24 = .ok (.iload_n 0, 1) := by decide +kernel
theorem dX12_isBare_25 : decode cX12_isBare 25 = .ok (.bipush 61, 2) := by decide +kernel
theorem dX12_isBare_27 : decode cX12_isBare 27 = .ok (.if_icmp .eq 15, 3) := by decide +kernel
theorem dX12_isBare_30 : decode cX12_isBare 30 = .ok (.iload_n 0, 1) := by decide +kernel
theorem dX12_isBare_31 : decode cX12_isBare 31 = .ok (.bipush 110, 2) := by decide +kernel
theorem dX12_isBare_33 : decode cX12_isBare 33 = .ok (.if_icmp .eq 9, 3) := by decide +kernel
theorem dX12_isBare_36 : decode cX12_isBare 36 = .ok (.iload_n 0, 1) := by decide +kernel
theorem dX12_isBare_37 : decode cX12_isBare 37 = .ok (.bipush 104, 2) := by decide +kernel
theorem dX12_isBare_39 : decode cX12_isBare 39 = .ok (.if_icmp .ne 7, 3) := by decide +kernel
theorem dX12_isBare_42 : decode cX12_isBare 42 = .ok (.iconst 1, 1) := by decide +kernel
theorem dX12_isBare_43 : decode cX12_isBare 43 = .ok (.goto 4, 3) := by decide +kernel
theorem dX12_isBare_46 : decode cX12_isBare 46 = .ok (.iconst 0, 1) := by decide +kernel
theorem dX12_isBare_47 : decode cX12_isBare 47 = .ok (.istore_n 1, 1) := by decide +kernel
theorem dX12_isBare_48 : decode cX12_isBare 48 = .ok (.iload_n 1, 1) := by decide +kernel
theorem dX12_isBare_49 : decode cX12_isBare 49 = .ok (.ifCond .ne 33, 3) := by decide +kernel
theorem dX12_isBare_52 : decode cX12_isBare 52 = .ok (.iload_n 0, 1) := by decide +kernel
theorem dX12_isBare_53 : decode cX12_isBare 53 = .ok (.bipush 72, 2) := by decide +kernel
theorem dX12_isBare_55 : decode cX12_isBare 55 = .ok (.if_icmp .eq 27, 3) := by decide +kernel
theorem dX12_isBare_58 : decode cX12_isBare 58 = .ok (.iload_n 0, 1) := by decide +kernel
theorem dX12_isBare_59 : decode cX12_isBare 59 = .ok (.bipush 117, 2) := by decide +kernel
theorem dX12_isBare_61 : decode cX12_isBare 61 = .ok (.if_icmp .eq 21, 3) := by decide +kernel
theorem dX12_isBare_64 : decode cX12_isBare 64 = .ok (.iload_n 0, 1) := by decide +kernel
theorem dX12_isBare_65 : decode cX12_isBare 65 = .ok (.bipush 101, 2) := by decide +kernel
theorem dX12_isBare_67 : decode cX12_isBare 67 = .ok (.if_icmp .eq 15, 3) := by decide +kernel
theorem dX12_isBare_70 : decode cX12_isBare 70 = .ok (.iload_n 0, 1) := by decide +kernel
theorem dX12_isBare_71 : decode cX12_isBare 71 = .ok (.bipush 113, 2) := by decide +kernel
theorem dX12_isBare_73 : decode cX12_isBare 73 = .ok (.if_icmp .eq 9, 3) := by decide +kernel
theorem dX12_isBare_76 : decode cX12_isBare 76 = .ok (.iload_n 0, 1) := by decide +kernel
theorem dX12_isBare_77 : decode cX12_isBare 77 = .ok (.bipush 78, 2) := by decide +kernel
theorem dX12_isBare_79 : decode cX12_isBare 79 = .ok (.if_icmp .ne 7, 3) := by decide +kernel
theorem dX12_isBare_82 : decode cX12_isBare 82 = .ok (.iconst 1, 1) := by decide +kernel
theorem dX12_isBare_83 : decode cX12_isBare 83 = .ok (.goto 4, 3) := by decide +kernel
theorem dX12_isBare_86 : decode cX12_isBare 86 = .ok (.iconst 0, 1) := by decide +kernel
theorem dX12_isBare_87 : decode cX12_isBare 87 = .ok (.ireturn, 1) := by decide +kernel
theorem dX12_innerOrder_0 : decode cX12_innerOrder 0 = .ok (.aload_n 0, 1) := by decide +kernel
theorem dX12_innerOrder_1 : decode cX12_innerOrder 1 = .ok (.invokevirtual 236, 3) := by decide +kernel
theorem dX12_innerOrder_4 : decode cX12_innerOrder 4 = .ok (.aload_n 0, 1) := by decide +kernel
theorem dX12_innerOrder_5 : decode cX12_innerOrder 5 = .ok (.getfield 156, 3) := by decide +kernel
theorem dX12_innerOrder_8 : decode cX12_innerOrder 8 = .ok (.ifCond .ge 20, 3) := by decide +kernel
theorem dX12_innerOrder_11 : decode cX12_innerOrder 11 = .ok (.aload_n 0, 1) := by decide +kernel
theorem dX12_innerOrder_12 : decode cX12_innerOrder 12 = .ok (.iconst 1, 1) := by decide +kernel
theorem dX12_innerOrder_13 : decode cX12_innerOrder 13 = .ok (.aload_n 0, 1) := by decide +kernel
theorem dX12_innerOrder_14 : decode cX12_innerOrder 14 = .ok (.getfield 203, 3) := by decide +kernel
theorem dX12_innerOrder_17 : decode cX12_innerOrder 17 = .ok (.ifCond .le 7, 3) := by decide +kernel
theorem dX12_innerOrder_20 : decode cX12_innerOrder 20 = .ok (.iconst 1, 1) := by decide +kernel
theorem dX12_innerOrder_21 : decode cX12_innerOrder 21 = .ok (.goto 4, 3) := by decide +kernel
theorem dX12_innerOrder_24 : decode cX12_innerOrder 24 = .ok (.iconst 0, 1) := by decide +kernel
theorem dX12_innerOrder_25 : decode cX12_innerOrder 25 = .ok (.invokevirtual 239, 3) := by decide +kernel
theorem dX12_innerOrder_28 : decode cX12_innerOrder 28 = .ok (.return_, 1) := by decide +kernel
theorem dX12_block_0 : decode cX12_block 0 = .ok (.aload_n 0, 1) := by decide +kernel
theorem dX12_block_1 : decode cX12_block 1 = .ok (.bipush 123, 2) := by decide +kernel
theorem dX12_block_3 : decode cX12_block 3 = .ok (.invokevirtual 176, 3) := by decide +kernel
theorem dX12_block_6 : decode cX12_block 6 = .ok (.aload_n 0, 1) := by decide +kernel
theorem dX12_block_7 : decode cX12_block 7 = .ok (.invokevirtual 243, 3) := by decide +kernel
theorem dX12_block_10 : decode cX12_block 10 = .ok (.aload_n 0, 1) := by decide +kernel
theorem dX12_block_11 : decode cX12_block 11 = .ok (.getfield 156, 3) := by decide +kernel
theorem dX12_block_14 : decode cX12_block 14 = .ok (.ifCond .ge 29, 3) := by decide +kernel
theorem dX12_block_17 : decode cX12_block 17 = .ok (.aload_n 0, 1) := by decide +kernel
theorem dX12_block_18 : decode cX12_block 18 = .ok (.invokevirtual 162, 3) := by decide +kernel
theorem dX12_block_21 : decode cX12_block 21 = .ok (.bipush 59, 2) := by decide +kernel
theorem dX12_block_23 : decode cX12_block 23 = .ok (.if_icmp .ne 20, 3) := by decide +kernel
theorem dX12_block_26 : decode cX12_block 26 = .ok (.aload_n 0, 1) := by decide +kernel
theorem dX12_block_27 : decode cX12_block 27 = .ok (.dup, 1) := by decide +kernel
theorem dX12_block_28 : decode cX12_block 28 = .ok (.getfield 149, 3) := by decide +kernel
theorem dX12_block_31 : decode cX12_block 31 = .ok (.iconst 1, 1) := by decide +kernel
theorem dX12_block_32 : decode cX12_block 32 = .ok (.iadd, 1) := by decide +kernel
theorem dX12_block_33 : decode cX12_block 33 = .ok (.putfield 149, 3) := by decide +kernel
theorem dX12_block_36 : decode cX12_block 36 = .ok (.aload_n 0, 1) := by decide +kernel
theorem dX12_block_37 : decode cX12_block 37 = .ok (.invokevirtual 243, 3) := by decide +kernel
theorem dX12_block_40 : decode cX12_block 40 = .ok (.goto (-30), 3) := by decide +kernel
theorem dX12_block_43 : decode cX12_block 43 = .ok (.aload_n 0, 1) := by decide +kernel
theorem dX12_block_44 : decode cX12_block 44 = .ok (.bipush 125, 2) := by decide +kernel
theorem dX12_block_46 : decode cX12_block 46 = .ok (.invokevirtual 176, 3) := by decide +kernel
theorem dX12_block_49 : decode cX12_block 49 = .ok (.return_, 1) := by decide +kernel
theorem dX12_order_0 : decode cX12_order 0 = .ok (.aload_n 0, 1) := by decide +kernel
theorem dX12_order_1 : decode cX12_order 1 = .ok (.invokevirtual 236, 3) := by decide +kernel
theorem dX12_order_4 : decode cX12_order 4 = .ok (.aload_n 0, 1) := by decide +kernel
theorem dX12_order_5 : decode cX12_order 5 = .ok (.getfield 203, 3) := by decide +kernel
theorem dX12_order_8 : decode cX12_order 8 = .ok (.istore_n 1, 1) := by decide +kernel
theorem dX12_order_9 : decode cX12_order 9 = .ok (.aload_n 0, 1) := by decide +kernel
theorem dX12_order_10 : decode cX12_order 10 = .ok (.getfield 218, 3) := by decide +kernel
theorem dX12_order_13 : decode cX12_order 13 = .ok (.istore_n 2, 1) := by decide +kernel
theorem dX12_order_14 : decode cX12_order 14 = .ok (.aload_n 0, 1) := by decide +kernel
theorem dX12_order_15 : decode cX12_order 15 = .ok (.getfield 156, 3) := by decide +kernel
theorem dX12_order_18 : decode cX12_order 18 = .ok (.ifCond .ge 19, 3) := by decide +kernel
theorem dX12_order_21 : decode cX12_order 21 = .ok (.aload_n 0, 1) := by decide +kernel
theorem dX12_order_22 : decode cX12_order 22 = .ok (.invokevirtual 162, 3) := by decide +kernel
theorem dX12_order_25 : decode cX12_order 25 = .ok (.bipush 123, 2) := by decide +kernel
theorem dX12_order_27 : decode cX12_order 27 = .ok (.if_icmp .ne 10, 3) := by decide +kernel
theorem dX12_order_30 : decode cX12_order 30 = .ok (.aload_n 0, 1) := by decide +kernel
theorem dX12_order_31 : decode cX12_order 31 = .ok (.invokevirtual 246, 3) := by decide +kernel
theorem dX12_order_34 : decode cX12_order 34 = .ok (.goto 114, 3) := by decide +kernel
theorem dX12_order_37 : decode cX12_order 37 = .ok (.aload_n 0, 1) := by decide +kernel
theorem dX12_order_38 : decode cX12_order 38 = .ok (.getfield 156, 3) := by decide +kernel
theorem dX12_order_41 : decode cX12_order 41 = .ok (.ifCond .ge 86, 3) := by decide +kernel
theorem dX12_order_44 : decode cX12_order 44 = .ok (.aload_n 0, 1) := by decide +kernel
theorem dX12_order_45 : decode cX12_order 45 = .ok (.invokevirtual 162, 3) := by decide +kernel
theorem dX12_order_48 : decode cX12_order 48 = .ok (.bipush 103, 2) := by decide +kernel
theorem dX12_order_50 : decode cX12_order 50 = .ok (.if_icmp .eq 12, 3) := by decide +kernel
theorem dX12_order_53 : decode cX12_order 53 = .ok (.aload_n 0, 1) := by decide +kernel
theorem dX12_order_54 : decode cX12_order 54 = .ok (.invokevirtual 162, 3) := by decide +kernel
theorem dX12_order_57 : decode cX12_order 57 = .ok (.bipush 71, 2) := by decide +kernel
theorem dX12_order_59 : decode cX12_order 59 = .ok (.if_icmp .ne 68, 3) := by decide +kernel
theorem dX12_order_62 : decode cX12_order 62 = .ok (.aload_n 0, 1) := by decide +kernel
theorem dX12_order_63 : decode cX12_order 63 = .ok (.dup, 1) := by decide +kernel
theorem dX12_order_64 : decode cX12_order 64 = .ok (.getfield 149, 3) := by decide +kernel
theorem dX12_order_67 : decode cX12_order 67 = .ok (.iconst 1, 1) := by decide +kernel
theorem dX12_order_68 : decode cX12_order 68 = .ok (.iadd, 1) := by decide +kernel
theorem dX12_order_69 : decode cX12_order 69 = .ok (.putfield 149, 3) := by decide +kernel
theorem dX12_order_72 : decode cX12_order 72 = .ok (.aload_n 0, 1) := by decide +kernel
theorem dX12_order_73 : decode cX12_order 73 = .ok (.bipush 47, 2) := by decide +kernel
theorem dX12_order_75 : decode cX12_order 75 = .ok (.invokevirtual 176, 3) := by decide +kernel
theorem dX12_order_78 : decode cX12_order 78 = .ok (.aload_n 0, 1) := by decide +kernel
theorem dX12_order_79 : decode cX12_order 79 = .ok (.bipush 47, 2) := by decide +kernel
theorem dX12_order_81 : decode cX12_order 81 = .ok (.invokevirtual 197, 3) := by decide +kernel
theorem dX12_order_84 : decode cX12_order 84 = .ok (.aload_n 0, 1) := by decide +kernel
theorem dX12_order_85 : decode cX12_order 85 = .ok (.bipush 47, 2) := by decide +kernel
theorem dX12_order_87 : decode cX12_order 87 = .ok (.invokevirtual 176, 3) := by decide +kernel
theorem dX12_order_90 : decode cX12_order 90 = .ok (.aload_n 0, 1) := by decide +kernel
theorem dX12_order_91 : decode cX12_order 91 = .ok (.getfield 156, 3) := by decide +kernel
theorem dX12_order_94 : decode cX12_order 94 = .ok (.ifCond .ge 19, 3) := by decide +kernel
theorem dX12_order_97 : decode cX12_order 97 = .ok (.aload_n 0, 1) := by decide +kernel
theorem dX12_order_98 : decode cX12_order 98 = .ok (.invokevirtual 162, 3) := by decide +kernel
theorem dX12_order_101 : decode cX12_order 101 = .ok (.bipush 123, 2) := by decide +kernel
theorem dX12_order_103 : decode cX12_order 103 = .ok (.if_icmp .ne 10, 3) := by decide +kernel
theorem dX12_order_106 : decode cX12_order 106 = .ok (.aload_n 0, 1) := by decide +kernel
theorem dX12_order_107 : decode cX12_order 107 = .ok (.invokevirtual 246, 3) := by decide +kernel
theorem dX12_order_110 : decode cX12_order 110 = .ok (.goto 38, 3) := by decide +kernel
theorem dX12_order_113 : decode cX12_order 113 = .ok (.aload_n 0, 1) := by decide +kernel
theorem dX12_order_114 : decode cX12_order 114 = .ok (.getfield 156, 3) := by decide +kernel
theorem dX12_order_117 : decode cX12_order 117 = .ok (.ifCond .ge 31, 3) := by decide +kernel
theorem dX12_order_120 : decode cX12_order 120 = .ok (.aload_n 0, 1) := by decide +kernel
theorem dX12_order_121 : decode cX12_order 121 = .ok (.invokevirtual 243, 3) := by decide +kernel
theorem dX12_order_124 : decode cX12_order 124 = .ok (.goto 24, 3) := by decide +kernel
theorem dX12_order_127 : decode cX12_order 127 = .ok (.aload_n 0, 1) := by decide +kernel
theorem dX12_order_128 : decode cX12_order 128 = .ok (.getfield 156, 3) := by decide +kernel
theorem dX12_order_131 : decode cX12_order 131 = .ok (.ifCond .ge 17, 3) := by decide +kernel
theorem dX12_order_134 : decode cX12_order 134 = .ok (.aload_n 0, 1) := by decide +kernel
theorem dX12_order_135 : decode cX12_order 135 = .ok (.iconst 0, 1) := by decide +kernel
theorem dX12_order_136 : decode cX12_order 136 = .ok (.iload_n 1, 1) := by decide +kernel
theorem dX12_order_137 : decode cX12_order 137 = .ok (.ifCond .le 7, 3) := by decide +kernel
theorem dX12_order_140 : decode cX12_order 140 = .ok (.iconst 1, 1) := by decide +kernel
theorem dX12_order_141 : decode cX12_order 141 = .ok (.goto 4, 3) := by decide +kernel
theorem dX12_order_144 : decode cX12_order 144 = .ok (.iconst 0, 1) := by decide +kernel
theorem dX12_order_145 : decode cX12_order 145 = .ok (.invokevirtual 239, 3) := by decide +kernel
theorem dX12_order_148 : decode cX12_order 148 = .ok (.aload_n 0, 1) := by decide +kernel
theorem dX12_order_149 : decode cX12_order 149 = .ok (.iload_n 1, 1) := by decide +kernel
theorem dX12_order_150 : decode cX12_order 150 = .ok (.putfield 203, 3) := by decide +kernel
theorem dX12_order_153 : decode cX12_order 153 = .ok (.aload_n 0, 1) := by decide +kernel
theorem dX12_order_154 : decode cX12_order 154 = .ok (.iload_n 2, 1) := by decide +kernel
theorem dX12_order_155 : decode cX12_order 155 = .ok (.putfield 218, 3) := by decide +kernel
theorem dX12_order_158 : decode cX12_order 158 = .ok (.return_, 1) := by decide +kernel
theorem dX12_ordersFault_0 : decode cX12_ordersFault 0 = .ok (.aload_n 0, 1) := by decide +kernel
theorem dX12_ordersFault_1 : decode cX12_ordersFault 1 = .ok (.iconst 0, 1) := by decide +kernel
theorem dX12_ordersFault_2 : decode cX12_ordersFault 2 = .ok (.putfield 149, 3) := by decide +kernel
theorem dX12_ordersFault_5 : decode cX12_ordersFault 5 = .ok (.aload_n 0, 1) := by decide +kernel
theorem dX12_ordersFault_6 : decode cX12_ordersFault 6 = .ok (.iconst (-1), 1) := by decide +kernel
theorem dX12_ordersFault_7 : decode cX12_ordersFault 7 = .ok (.putfield 156, 3) := by decide +kernel
theorem dX12_ordersFault_10 : decode cX12_ordersFault 10 = .ok (.aload_n 0, 1) := by decide +kernel
theorem dX12_ordersFault_11 : decode cX12_ordersFault 11 = .ok (.invokevirtual 249, 3) := by decide +kernel
theorem dX12_ordersFault_14 : decode cX12_ordersFault 14 = .ok (.aload_n 0, 1) := by decide +kernel
theorem dX12_ordersFault_15 : decode cX12_ordersFault 15 = .ok (.getfield 156, 3) := by decide +kernel
theorem dX12_ordersFault_18 : decode cX12_ordersFault 18 = .ok (.ifCond .ge 29, 3) := by decide +kernel
theorem dX12_ordersFault_21 : decode cX12_ordersFault 21 = .ok (.aload_n 0, 1) := by decide +kernel
theorem dX12_ordersFault_22 : decode cX12_ordersFault 22 = .ok (.invokevirtual 162, 3) := by decide +kernel
theorem dX12_ordersFault_25 : decode cX12_ordersFault 25 = .ok (.bipush 59, 2) := by decide +kernel
theorem dX12_ordersFault_27 : decode cX12_ordersFault 27 = .ok (.if_icmp .ne 20, 3) := by decide +kernel
theorem dX12_ordersFault_30 : decode cX12_ordersFault 30 = .ok (.aload_n 0, 1) := by decide +kernel
theorem dX12_ordersFault_31 : decode cX12_ordersFault 31 = .ok (.dup, 1) := by decide +kernel
theorem dX12_ordersFault_32 : decode cX12_ordersFault 32 = .ok (.getfield 149, 3) := by decide +kernel
theorem dX12_ordersFault_35 : decode cX12_ordersFault 35 = .ok (.iconst 1, 1) := by decide +kernel
theorem dX12_ordersFault_36 : decode cX12_ordersFault 36 = .ok (.iadd, 1) := by decide +kernel
theorem dX12_ordersFault_37 : decode cX12_ordersFault 37 = .ok (.putfield 149, 3) := by decide +kernel
theorem dX12_ordersFault_40 : decode cX12_ordersFault 40 = .ok (.aload_n 0, 1) := by decide +kernel
theorem dX12_ordersFault_41 : decode cX12_ordersFault 41 = .ok (.invokevirtual 249, 3) := by decide +kernel
theorem dX12_ordersFault_44 : decode cX12_ordersFault 44 = .ok (.goto (-30), 3) := by decide +kernel
theorem dX12_ordersFault_47 : decode cX12_ordersFault 47 = .ok (.aload_n 0, 1) := by decide +kernel
theorem dX12_ordersFault_48 : decode cX12_ordersFault 48 = .ok (.getfield 156, 3) := by decide +kernel
theorem dX12_ordersFault_51 : decode cX12_ordersFault 51 = .ok (.ifCond .ge 18, 3) := by decide +kernel
theorem dX12_ordersFault_54 : decode cX12_ordersFault 54 = .ok (.aload_n 0, 1) := by decide +kernel
theorem dX12_ordersFault_55 : decode cX12_ordersFault 55 = .ok (.getfield 149, 3) := by decide +kernel
theorem dX12_ordersFault_58 : decode cX12_ordersFault 58 = .ok (.aload_n 0, 1) := by decide +kernel
theorem dX12_ordersFault_59 : decode cX12_ordersFault 59 = .ok (.getfield 146, 3) := by decide +kernel
