theorem dX12_whereHolds_60 : decode cX12_whereHolds 60 = .ok (.bastore, 1) := by decide +kernel
theorem dX12_whereHolds_61 : decode cX12_whereHolds 61 = .ok (.aload_n 0, 1) := by decide +kernel
theorem dX12_whereHolds_62 : decode cX12_whereHolds 62 = .ok (.getfield 96, 3) := by decide +kernel
theorem dX12_whereHolds_65 : decode cX12_whereHolds 65 = .ok (.iload_n 1, 1) := by decide +kernel
theorem dX12_whereHolds_66 : decode cX12_whereHolds 66 = .ok (.baload, 1) := by decide +kernel
theorem dX12_whereHolds_67 : decode cX12_whereHolds 67 = .ok (.ireturn, 1) := by decide +kernel
theorem dX12_changeWork_0 : decode cX12_changeWork 0 = .ok (.iload_n 2, 1) := by decide +kernel
theorem dX12_changeWork_1 : decode cX12_changeWork 1 = .ok (.ifCond .eq 11, 3) := by decide +kernel
theorem dX12_changeWork_4 : decode cX12_changeWork 4 = .ok (.aload_n 0, 1) := by decide +kernel
theorem dX12_changeWork_5 : decode cX12_changeWork 5 = .ok (.iload_n 1, 1) := by decide +kernel
theorem dX12_changeWork_6 : decode cX12_changeWork 6 = .ok (.invokevirtual 335, 3) := by decide +kernel
theorem dX12_changeWork_9 : decode cX12_changeWork 9 = .ok (.goto 4, 3) := by decide +kernel
theorem dX12_changeWork_12 : decode cX12_changeWork 12 = .ok (.iconst 0, 1) := by decide +kernel
theorem dX12_changeWork_13 : decode cX12_changeWork 13 = .ok (.istore_n 3, 1) := by decide +kernel
theorem dX12_changeWork_14 : decode cX12_changeWork 14 = .ok (.iload_n 1, 1) := by decide +kernel
theorem dX12_changeWork_15 : decode cX12_changeWork 15 = .ok (.istore 4, 2) := by decide +kernel
theorem dX12_changeWork_17 : decode cX12_changeWork 17 = .ok (.aload_n 0, 1) := by decide +kernel
theorem dX12_changeWork_18 : decode cX12_changeWork 18 = .ok (.iconst 0, 1) := by decide +kernel
theorem dX12_changeWork_19 : decode cX12_changeWork 19 = .ok (.putfield 557, 3) := by decide +kernel
theorem dX12_changeWork_22 : decode cX12_changeWork 22 = .ok (.aload_n 0, 1) := by decide +kernel
theorem dX12_changeWork_23 : decode cX12_changeWork 23 = .ok (.iload 4, 2) := by decide +kernel
theorem dX12_changeWork_25 : decode cX12_changeWork 25 = .ok (.iload_n 3, 1) := by decide +kernel
theorem dX12_changeWork_26 : decode cX12_changeWork 26 = .ok (.invokevirtual 581, 3) := by decide +kernel
theorem dX12_changeWork_29 : decode cX12_changeWork 29 = .ok (.ireturn, 1) := by decide +kernel
theorem dX12_putTold_0 : decode cX12_putTold 0 = .ok (.iload_n 1, 1) := by decide +kernel
theorem dX12_putTold_1 : decode cX12_putTold 1 = .ok (.istore_n 3, 1) := by decide +kernel
theorem dX12_putTold_2 : decode cX12_putTold 2 = .ok (.iconst 0, 1) := by decide +kernel
theorem dX12_putTold_3 : decode cX12_putTold 3 = .ok (.istore 4, 2) := by decide +kernel
theorem dX12_putTold_5 : decode cX12_putTold 5 = .ok (.iconst 0, 1) := by decide +kernel
theorem dX12_putTold_6 : decode cX12_putTold 6 = .ok (.istore 5, 2) := by decide +kernel
theorem dX12_putTold_8 : decode cX12_putTold 8 = .ok (.iload 5, 2) := by decide +kernel
theorem dX12_putTold_10 : decode cX12_putTold 10 = .ok (.iload_n 2, 1) := by decide +kernel
theorem dX12_putTold_11 : decode cX12_putTold 11 = .ok (.if_icmp .ge 39, 3) := by decide +kernel
theorem dX12_putTold_14 : decode cX12_putTold 14 = .ok (.iload 4, 2) := by decide +kernel
theorem dX12_putTold_16 : decode cX12_putTold 16 = .ok (.ifCond .ne 34, 3) := by decide +kernel
theorem dX12_putTold_19 : decode cX12_putTold 19 = .ok (.aload_n 0, 1) := by decide +kernel
theorem dX12_putTold_20 : decode cX12_putTold 20 = .ok (.iload_n 3, 1) := by decide +kernel
theorem dX12_putTold_21 : decode cX12_putTold 21 = .ok (.invokevirtual 326, 3) := by decide +kernel
theorem dX12_putTold_24 : decode cX12_putTold 24 = .ok (.iconst 1, 1) := by decide +kernel
theorem dX12_putTold_25 : decode cX12_putTold 25 = .ok (.iadd, 1) := by decide +kernel
theorem dX12_putTold_26 : decode cX12_putTold 26 = .ok (.istore_n 3, 1) := by decide +kernel
theorem dX12_putTold_27 : decode cX12_putTold 27 = .ok (.aload_n 0, 1) := by decide +kernel
theorem dX12_putTold_28 : decode cX12_putTold 28 = .ok (.sipush 431, 3) := by decide +kernel
theorem dX12_putTold_31 : decode cX12_putTold 31 = .ok (.invokevirtual 329, 3) := by decide +kernel
theorem dX12_putTold_34 : decode cX12_putTold 34 = .ok (.pop, 1) := by decide +kernel
theorem dX12_putTold_35 : decode cX12_putTold 35 = .ok (.aload_n 0, 1) := by decide +kernel
theorem dX12_putTold_36 : decode cX12_putTold 36 = .ok (.sipush 431, 3) := by decide +kernel
theorem dX12_putTold_39 : decode cX12_putTold 39 = .ok (.invokevirtual 560, 3) := by decide +kernel
theorem dX12_putTold_42 : decode cX12_putTold 42 = .ok (.istore 4, 2) := by decide +kernel
theorem dX12_putTold_44 : decode cX12_putTold 44 = .ok (.iinc 5 1, 3) := by decide +kernel
theorem dX12_putTold_47 : decode cX12_putTold 47 = .ok (.goto (-39), 3) := by decide +kernel
theorem dX12_putTold_50 : decode cX12_putTold 50 = .ok (.iload 4, 2) := by decide +kernel
theorem dX12_putTold_52 : decode cX12_putTold 52 = .ok (.ireturn, 1) := by decide +kernel
theorem dX12_dueTold_0 : decode cX12_dueTold 0 = .ok (.aload_n 0, 1) := by decide +kernel
theorem dX12_dueTold_1 : decode cX12_dueTold 1 = .ok (.iload_n 1, 1) := by decide +kernel
theorem dX12_dueTold_2 : decode cX12_dueTold 2 = .ok (.invokevirtual 335, 3) := by decide +kernel
theorem dX12_dueTold_5 : decode cX12_dueTold 5 = .ok (.istore_n 2, 1) := by decide +kernel
theorem dX12_dueTold_6 : decode cX12_dueTold 6 = .ok (.iload_n 1, 1) := by decide +kernel
theorem dX12_dueTold_7 : decode cX12_dueTold 7 = .ok (.istore_n 3, 1) := by decide +kernel
theorem dX12_dueTold_8 : decode cX12_dueTold 8 = .ok (.iconst 0, 1) := by decide +kernel
theorem dX12_dueTold_9 : decode cX12_dueTold 9 = .ok (.istore 4, 2) := by decide +kernel
theorem dX12_dueTold_11 : decode cX12_dueTold 11 = .ok (.iload 4, 2) := by decide +kernel
theorem dX12_dueTold_13 : decode cX12_dueTold 13 = .ok (.iload_n 2, 1) := by decide +kernel
theorem dX12_dueTold_14 : decode cX12_dueTold 14 = .ok (.if_icmp .ge 32, 3) := by decide +kernel
theorem dX12_dueTold_17 : decode cX12_dueTold 17 = .ok (.aload_n 0, 1) := by decide +kernel
theorem dX12_dueTold_18 : decode cX12_dueTold 18 = .ok (.iload_n 3, 1) := by decide +kernel
theorem dX12_dueTold_19 : decode cX12_dueTold 19 = .ok (.invokevirtual 326, 3) := by decide +kernel
theorem dX12_dueTold_22 : decode cX12_dueTold 22 = .ok (.iconst 1, 1) := by decide +kernel
theorem dX12_dueTold_23 : decode cX12_dueTold 23 = .ok (.iadd, 1) := by decide +kernel
theorem dX12_dueTold_24 : decode cX12_dueTold 24 = .ok (.istore_n 3, 1) := by decide +kernel
theorem dX12_dueTold_25 : decode cX12_dueTold 25 = .ok (.aload_n 0, 1) := by decide +kernel
theorem dX12_dueTold_26 : decode cX12_dueTold 26 = .ok (.sipush 431, 3) := by decide +kernel
theorem dX12_dueTold_29 : decode cX12_dueTold 29 = .ok (.invokevirtual 329, 3) := by decide +kernel
theorem dX12_dueTold_32 : decode cX12_dueTold 32 = .ok (.pop, 1) := by decide +kernel
theorem dX12_dueTold_33 : decode cX12_dueTold 33 = .ok (.aload_n 0, 1) := by decide +kernel
theorem dX12_dueTold_34 : decode cX12_dueTold 34 = .ok (.sipush 431, 3) := by decide +kernel
theorem dX12_dueTold_37 : decode cX12_dueTold 37 = .ok (.invokevirtual 584, 3) := by decide +kernel
theorem dX12_dueTold_40 : decode cX12_dueTold 40 = .ok (.iinc 4 1, 3) := by decide +kernel
theorem dX12_dueTold_43 : decode cX12_dueTold 43 = .ok (.goto (-32), 3) := by decide +kernel
theorem dX12_dueTold_46 : decode cX12_dueTold 46 = .ok (.iconst 0, 1) := by decide +kernel
theorem dX12_dueTold_47 : decode cX12_dueTold 47 = .ok (.ireturn, 1) := by decide +kernel
theorem dX12_joinNext_0 : decode cX12_joinNext 0 = .ok (.aload_n 0, 1) := by decide +kernel
theorem dX12_joinNext_1 : decode cX12_joinNext 1 = .ok (.getfield 545, 3) := by decide +kernel
theorem dX12_joinNext_4 : decode cX12_joinNext 4 = .ok (.aload_n 0, 1) := by decide +kernel
theorem dX12_joinNext_5 : decode cX12_joinNext 5 = .ok (.getfield 563, 3) := by decide +kernel
theorem dX12_joinNext_8 : decode cX12_joinNext 8 = .ok (.if_icmp .ne 5, 3) := by decide +kernel
theorem dX12_joinNext_11 : decode cX12_joinNext 11 = .ok (.iconst 0, 1) := by decide +kernel
theorem dX12_joinNext_12 : decode cX12_joinNext 12 = .ok (.ireturn, 1) := by decide +kernel
theorem dX12_joinNext_13 : decode cX12_joinNext 13 = .ok (.aload_n 0, 1) := by decide +kernel
theorem dX12_joinNext_14 : decode cX12_joinNext 14 = .ok (.iconst 0, 1) := by decide +kernel
theorem dX12_joinNext_15 : decode cX12_joinNext 15 = .ok (.putfield 117, 3) := by decide +kernel
theorem dX12_joinNext_18 : decode cX12_joinNext 18 = .ok (.aload_n 0, 1) := by decide +kernel
theorem dX12_joinNext_19 : decode cX12_joinNext 19 = .ok (.sipush 429, 3) := by decide +kernel
theorem dX12_joinNext_22 : decode cX12_joinNext 22 = .ok (.iconst 0, 1) := by decide +kernel
theorem dX12_joinNext_23 : decode cX12_joinNext 23 = .ok (.aload_n 0, 1) := by decide +kernel
theorem dX12_joinNext_24 : decode cX12_joinNext 24 = .ok (.sipush 429, 3) := by decide +kernel
theorem dX12_joinNext_27 : decode cX12_joinNext 27 = .ok (.invokevirtual 109, 3) := by decide +kernel
theorem dX12_joinNext_30 : decode cX12_joinNext 30 = .ok (.invokevirtual 348, 3) := by decide +kernel
theorem dX12_joinNext_33 : decode cX12_joinNext 33 = .ok (.aload_n 0, 1) := by decide +kernel
theorem dX12_joinNext_34 : decode cX12_joinNext 34 = .ok (.iconst 0, 1) := by decide +kernel
theorem dX12_joinNext_35 : decode cX12_joinNext 35 = .ok (.aload_n 0, 1) := by decide +kernel
theorem dX12_joinNext_36 : decode cX12_joinNext 36 = .ok (.getfield 545, 3) := by decide +kernel
theorem dX12_joinNext_39 : decode cX12_joinNext 39 = .ok (.iadd, 1) := by decide +kernel
theorem dX12_joinNext_40 : decode cX12_joinNext 40 = .ok (.iconst 0, 1) := by decide +kernel
theorem dX12_joinNext_41 : decode cX12_joinNext 41 = .ok (.aload_n 0, 1) := by decide +kernel
theorem dX12_joinNext_42 : decode cX12_joinNext 42 = .ok (.iconst 0, 1) := by decide +kernel
theorem dX12_joinNext_43 : decode cX12_joinNext 43 = .ok (.aload_n 0, 1) := by decide +kernel
theorem dX12_joinNext_44 : decode cX12_joinNext 44 = .ok (.getfield 545, 3) := by decide +kernel
theorem dX12_joinNext_47 : decode cX12_joinNext 47 = .ok (.iadd, 1) := by decide +kernel
theorem dX12_joinNext_48 : decode cX12_joinNext 48 = .ok (.invokevirtual 109, 3) := by decide +kernel
theorem dX12_joinNext_51 : decode cX12_joinNext 51 = .ok (.invokevirtual 348, 3) := by decide +kernel
theorem dX12_joinNext_54 : decode cX12_joinNext 54 = .ok (.aload_n 0, 1) := by decide +kernel
theorem dX12_joinNext_55 : decode cX12_joinNext 55 = .ok (.sipush 429, 3) := by decide +kernel
theorem dX12_joinNext_58 : decode cX12_joinNext 58 = .ok (.invokevirtual 329, 3) := by decide +kernel
theorem dX12_joinNext_61 : decode cX12_joinNext 61 = .ok (.ifCond .ne 5, 3) := by decide +kernel
theorem dX12_joinNext_64 : decode cX12_joinNext 64 = .ok (.iconst 4, 1) := by decide +kernel
theorem dX12_joinNext_65 : decode cX12_joinNext 65 = .ok (.ireturn, 1) := by decide +kernel
theorem dX12_joinNext_66 : decode cX12_joinNext 66 = .ok (.aload_n 0, 1) := by decide +kernel
theorem dX12_joinNext_67 : decode cX12_joinNext 67 = .ok (.aload_n 0, 1) := by decide +kernel
theorem dX12_joinNext_68 : decode cX12_joinNext 68 = .ok (.getfield 26, 3) := by decide +kernel
theorem dX12_joinNext_71 : decode cX12_joinNext 71 = .ok (.aload_n 0, 1) := by decide +kernel
theorem dX12_joinNext_72 : decode cX12_joinNext 72 = .ok (.getfield 545, 3) := by decide +kernel
theorem dX12_joinNext_75 : decode cX12_joinNext 75 = .ok (.iaload, 1) := by decide +kernel
theorem dX12_joinNext_76 : decode cX12_joinNext 76 = .ok (.invokevirtual 137, 3) := by decide +kernel
theorem dX12_joinNext_79 : decode cX12_joinNext 79 = .ok (.aload_n 0, 1) := by decide +kernel
theorem dX12_joinNext_80 : decode cX12_joinNext 80 = .ok (.dup, 1) := by decide +kernel
theorem dX12_joinNext_81 : decode cX12_joinNext 81 = .ok (.getfield 545, 3) := by decide +kernel
theorem dX12_joinNext_84 : decode cX12_joinNext 84 = .ok (.iconst 1, 1) := by decide +kernel
theorem dX12_joinNext_85 : decode cX12_joinNext 85 = .ok (.iadd, 1) := by decide +kernel
theorem dX12_joinNext_86 : decode cX12_joinNext 86 = .ok (.putfield 545, 3) := by decide +kernel
theorem dX12_joinNext_89 : decode cX12_joinNext 89 = .ok (.aload_n 0, 1) := by decide +kernel
theorem dX12_joinNext_90 : decode cX12_joinNext 90 = .ok (.aload_n 0, 1) := by decide +kernel
theorem dX12_joinNext_91 : decode cX12_joinNext 91 = .ok (.getfield 545, 3) := by decide +kernel
theorem dX12_joinNext_94 : decode cX12_joinNext 94 = .ok (.putfield 551, 3) := by decide +kernel
theorem dX12_joinNext_97 : decode cX12_joinNext 97 = .ok (.iconst 0, 1) := by decide +kernel
theorem dX12_joinNext_98 : decode cX12_joinNext 98 = .ok (.ireturn, 1) := by decide +kernel
theorem dX12_partWork_0 : decode cX12_partWork 0 = .ok (.aload_n 0, 1) := by decide +kernel
theorem dX12_partWork_1 : decode cX12_partWork 1 = .ok (.sipush 429, 3) := by decide +kernel
theorem dX12_partWork_4 : decode cX12_partWork 4 = .ok (.invokevirtual 109, 3) := by decide +kernel
theorem dX12_partWork_7 : decode cX12_partWork 7 = .ok (.iload_n 1, 1) := by decide +kernel
theorem dX12_partWork_8 : decode cX12_partWork 8 = .ok (.if_icmp .le 46, 3) := by decide +kernel
theorem dX12_partWork_11 : decode cX12_partWork 11 = .ok (.aload_n 0, 1) := by decide +kernel
theorem dX12_partWork_12 : decode cX12_partWork 12 = .ok (.iconst 0, 1) := by decide +kernel
theorem dX12_partWork_13 : decode cX12_partWork 13 = .ok (.putfield 117, 3) := by decide +kernel
theorem dX12_partWork_16 : decode cX12_partWork 16 = .ok (.aload_n 0, 1) := by decide +kernel
theorem dX12_partWork_17 : decode cX12_partWork 17 = .ok (.sipush 429, 3) := by decide +kernel
theorem dX12_partWork_20 : decode cX12_partWork 20 = .ok (.iload_n 1, 1) := by decide +kernel
theorem dX12_partWork_21 : decode cX12_partWork 21 = .ok (.aload_n 0, 1) := by decide +kernel
theorem dX12_partWork_22 : decode cX12_partWork 22 = .ok (.sipush 429, 3) := by decide +kernel
theorem dX12_partWork_25 : decode cX12_partWork 25 = .ok (.invokevirtual 109, 3) := by decide +kernel
theorem dX12_partWork_28 : decode cX12_partWork 28 = .ok (.invokevirtual 348, 3) := by decide +kernel
theorem dX12_partWork_31 : decode cX12_partWork 31 = .ok (.aload_n 0, 1) := by decide +kernel
theorem dX12_partWork_32 : decode cX12_partWork 32 = .ok (.sipush 431, 3) := by decide +kernel
theorem dX12_partWork_35 : decode cX12_partWork 35 = .ok (.invokevirtual 329, 3) := by decide +kernel
theorem dX12_partWork_38 : decode cX12_partWork 38 = .ok (.pop, 1) := by decide +kernel
theorem dX12_partWork_39 : decode cX12_partWork 39 = .ok (.aload_n 0, 1) := by decide +kernel
theorem dX12_partWork_40 : decode cX12_partWork 40 = .ok (.sipush 431, 3) := by decide +kernel
theorem dX12_partWork_43 : decode cX12_partWork 43 = .ok (.invokevirtual 584, 3) := by decide +kernel
theorem dX12_partWork_46 : decode cX12_partWork 46 = .ok (.aload_n 0, 1) := by decide +kernel
theorem dX12_partWork_47 : decode cX12_partWork 47 = .ok (.sipush 429, 3) := by decide +kernel
theorem dX12_partWork_50 : decode cX12_partWork 50 = .ok (.iload_n 1, 1) := by decide +kernel
theorem dX12_partWork_51 : decode cX12_partWork 51 = .ok (.invokevirtual 351, 3) := by decide +kernel
theorem dX12_partWork_54 : decode cX12_partWork 54 = .ok (.iconst 0, 1) := by decide +kernel
theorem dX12_partWork_55 : decode cX12_partWork 55 = .ok (.ireturn, 1) := by decide +kernel
theorem dX12_tellWork_0 : decode cX12_tellWork 0 = .ok (.aload_n 0, 1) := by decide +kernel
theorem dX12_tellWork_1 : decode cX12_tellWork 1 = .ok (.iconst 0, 1) := by decide +kernel
theorem dX12_tellWork_2 : decode cX12_tellWork 2 = .ok (.putfield 117, 3) := by decide +kernel
theorem dX12_tellWork_5 : decode cX12_tellWork 5 = .ok (.iload_n 1, 1) := by decide +kernel
theorem dX12_tellWork_6 : decode cX12_tellWork 6 = .ok (.ifCond .eq 11, 3) := by decide +kernel
theorem dX12_tellWork_9 : decode cX12_tellWork 9 = .ok (.aload_n 0, 1) := by decide +kernel
theorem dX12_tellWork_10 : decode cX12_tellWork 10 = .ok (.aload_n 0, 1) := by decide +kernel
theorem dX12_tellWork_11 : decode cX12_tellWork 11 = .ok (.getfield 551, 3) := by decide +kernel
theorem dX12_tellWork_14 : decode cX12_tellWork 14 = .ok (.invokevirtual 360, 3) := by decide +kernel
theorem dX12_tellWork_17 : decode cX12_tellWork 17 = .ok (.iload_n 1, 1) := by decide +kernel
theorem dX12_tellWork_18 : decode cX12_tellWork 18 = .ok (.ifCond .eq 13, 3) := by decide +kernel
theorem dX12_tellWork_21 : decode cX12_tellWork 21 = .ok (.iload_n 2, 1) := by decide +kernel
theorem dX12_tellWork_22 : decode cX12_tellWork 22 = .ok (.ifCond .eq 9, 3) := by decide +kernel
theorem dX12_tellWork_25 : decode cX12_tellWork 25 = .ok (.aload_n 0, 1) := by decide +kernel
theorem dX12_tellWork_26 : decode cX12_tellWork 26 = .ok (.bipush 32, 2) := by decide +kernel
theorem dX12_tellWork_28 : decode cX12_tellWork 28 = .ok (.invokevirtual 120, 3) := by decide +kernel
theorem dX12_tellWork_31 : decode cX12_tellWork 31 = .ok (.iload_n 2, 1) := by decide +kernel
theorem dX12_tellWork_32 : decode cX12_tellWork 32 = .ok (.ifCond .eq 18, 3) := by decide +kernel
theorem dX12_tellWork_35 : decode cX12_tellWork 35 = .ok (.aload_n 0, 1) := by decide +kernel
theorem dX12_tellWork_36 : decode cX12_tellWork 36 = .ok (.sipush 429, 3) := by decide +kernel
theorem dX12_tellWork_39 : decode cX12_tellWork 39 = .ok (.iconst 0, 1) := by decide +kernel
theorem dX12_tellWork_40 : decode cX12_tellWork 40 = .ok (.aload_n 0, 1) := by decide +kernel
theorem dX12_tellWork_41 : decode cX12_tellWork 41 = .ok (.sipush 429, 3) := by decide +kernel
theorem dX12_tellWork_44 : decode cX12_tellWork 44 = .ok (.invokevirtual 109, 3) := by decide +kernel
theorem dX12_tellWork_47 : decode cX12_tellWork 47 = .ok (.invokevirtual 348, 3) := by decide +kernel
theorem dX12_tellWork_50 : decode cX12_tellWork 50 = .ok (.aload_n 0, 1) := by decide +kernel
theorem dX12_tellWork_51 : decode cX12_tellWork 51 = .ok (.invokevirtual 363, 3) := by decide +kernel
theorem dX12_tellWork_54 : decode cX12_tellWork 54 = .ok (.ireturn, 1) := by decide +kernel
theorem dX12_holdWork_0 : decode cX12_holdWork 0 = .ok (.iload_n 1, 1) := by decide +kernel
theorem dX12_holdWork_1 : decode cX12_holdWork 1 = .ok (.bipush 40, 2) := by decide +kernel
theorem dX12_holdWork_3 : decode cX12_holdWork 3 = .ok (.if_icmp .ne 5, 3) := by decide +kernel
theorem dX12_holdWork_6 : decode cX12_holdWork 6 = .ok (.iconst 4, 1) := by decide +kernel
theorem dX12_holdWork_7 : decode cX12_holdWork 7 = .ok (.ireturn, 1) := by decide +kernel
theorem dX12_holdWork_8 : decode cX12_holdWork 8 = .ok (.aload_n 0, 1) := by decide +kernel
theorem dX12_holdWork_9 : decode cX12_holdWork 9 = .ok (.sipush 429, 3) := by decide +kernel
theorem dX12_holdWork_12 : decode cX12_holdWork 12 = .ok (.bipush 82, 2) := by decide +kernel
theorem dX12_holdWork_14 : decode cX12_holdWork 14 = .ok (.iload_n 1, 1) := by decide +kernel
theorem dX12_holdWork_15 : decode cX12_holdWork 15 = .ok (.iadd, 1) := by decide +kernel
theorem dX12_holdWork_16 : decode cX12_holdWork 16 = .ok (.invokevirtual 127, 3) := by decide +kernel
theorem dX12_holdWork_19 : decode cX12_holdWork 19 = .ok (.aload_n 0, 1) := by decide +kernel
theorem dX12_holdWork_20 : decode cX12_holdWork 20 = .ok (.iload_n 1, 1) := by decide +kernel
theorem dX12_holdWork_21 : decode cX12_holdWork 21 = .ok (.iconst 1, 1) := by decide +kernel
theorem dX12_holdWork_22 : decode cX12_holdWork 22 = .ok (.iadd, 1) := by decide +kernel
theorem dX12_holdWork_23 : decode cX12_holdWork 23 = .ok (.putfield 366, 3) := by decide +kernel
theorem dX12_holdWork_26 : decode cX12_holdWork 26 = .ok (.iconst 0, 1) := by decide +kernel
theorem dX12_holdWork_27 : decode cX12_holdWork 27 = .ok (.ireturn, 1) := by decide +kernel
theorem dX12_exchangeWork_0 : decode cX12_exchangeWork 0 = .ok (.aload_n 0, 1) := by decide +kernel
theorem dX12_exchangeWork_1 : decode cX12_exchangeWork 1 = .ok (.getfield 366, 3) := by decide +kernel
theorem dX12_exchangeWork_4 : decode cX12_exchangeWork 4 = .ok (.iconst 1, 1) := by decide +kernel
theorem dX12_exchangeWork_5 : decode cX12_exchangeWork 5 = .ok (.if_icmp .eq 5, 3) := by decide +kernel
theorem dX12_exchangeWork_8 : decode cX12_exchangeWork 8 = .ok (.iconst 5, 1) := by decide +kernel
theorem dX12_exchangeWork_9 : decode cX12_exchangeWork 9 = .ok (.ireturn, 1) := by decide +kernel
theorem dX12_exchangeWork_10 : decode cX12_exchangeWork 10 = .ok (.aload_n 0, 1) := by decide +kernel
theorem dX12_exchangeWork_11 : decode cX12_exchangeWork 11 = .ok (.sipush 429, 3) := by decide +kernel
theorem dX12_exchangeWork_14 : decode cX12_exchangeWork 14 = .ok (.sipush 431, 3) := by decide +kernel
theorem dX12_exchangeWork_17 : decode cX12_exchangeWork 17 = .ok (.invokevirtual 127, 3) := by decide +kernel
theorem dX12_exchangeWork_20 : decode cX12_exchangeWork 20 = .ok (.aload_n 0, 1) := by decide +kernel
theorem dX12_exchangeWork_21 : decode cX12_exchangeWork 21 = .ok (.bipush 82, 2) := by decide +kernel
theorem dX12_exchangeWork_23 : decode cX12_exchangeWork 23 = .ok (.sipush 429, 3) := by decide +kernel
theorem dX12_exchangeWork_26 : decode cX12_exchangeWork 26 = .ok (.invokevirtual 127, 3) := by decide +kernel
theorem dX12_exchangeWork_29 : decode cX12_exchangeWork 29 = .ok (.aload_n 0, 1) := by decide +kernel
theorem dX12_exchangeWork_30 : decode cX12_exchangeWork 30 = .ok (.sipush 431, 3) := by decide +kernel
theorem dX12_exchangeWork_33 : decode cX12_exchangeWork 33 = .ok (.bipush 82, 2) := by decide +kernel
theorem dX12_exchangeWork_35 : decode cX12_exchangeWork 35 = .ok (.invokevirtual 127, 3) := by decide +kernel
theorem dX12_exchangeWork_38 : decode cX12_exchangeWork 38 = .ok (.iconst 0, 1) := by decide +kernel
theorem dX12_exchangeWork_39 : decode cX12_exchangeWork 39 = .ok (.ireturn, 1) := by decide +kernel
theorem dX12_dueRows_0 : decode cX12_dueRows 0 = .ok (.iconst 0, 1) := by decide +kernel
theorem dX12_dueRows_1 : decode cX12_dueRows 1 = .ok (.istore_n 3, 1) := by decide +kernel
theorem dX12_dueRows_2 : decode cX12_dueRows 2 = .ok (.iload_n 3, 1) := by decide +kernel
theorem dX12_dueRows_3 : decode cX12_dueRows 3 = .ok (.iload_n 2, 1) := by decide +kernel
theorem dX12_dueRows_4 : decode cX12_dueRows 4 = .ok (.if_icmp .ge 16, 3) := by decide +kernel
theorem dX12_dueRows_7 : decode cX12_dueRows 7 = .ok (.aload_n 0, 1) := by decide +kernel
theorem dX12_dueRows_8 : decode cX12_dueRows 8 = .ok (.iload_n 1, 1) := by decide +kernel
theorem dX12_dueRows_9 : decode cX12_dueRows 9 = .ok (.iload_n 3, 1) := by decide +kernel
theorem dX12_dueRows_10 : decode cX12_dueRows 10 = .ok (.iadd, 1) := by decide +kernel
theorem dX12_dueRows_11 : decode cX12_dueRows 11 = .ok (.invokevirtual 584, 3) := by decide +kernel
theorem dX12_dueRows_14 : decode cX12_dueRows 14 = .ok (.iinc 3 1, 3) := by decide +kernel
theorem dX12_dueRows_17 : decode cX12_dueRows 17 = .ok (.goto (-15), 3) := by decide +kernel
theorem dX12_dueRows_20 : decode cX12_dueRows 20 = .ok (.iconst 0, 1) := by decide +kernel
theorem dX12_dueRows_21 : decode cX12_dueRows 21 = .ok (.ireturn, 1) := by decide +kernel
theorem dX12_writeWork_0 : decode cX12_writeWork 0 = .ok (.aload_n 0, 1) := by decide +kernel
theorem dX12_writeWork_1 : decode cX12_writeWork 1 = .ok (.getfield 38, 3) := by decide +kernel
theorem dX12_writeWork_4 : decode cX12_writeWork 4 = .ok (.iload_n 1, 1) := by decide +kernel
theorem dX12_writeWork_5 : decode cX12_writeWork 5 = .ok (.iaload, 1) := by decide +kernel
theorem dX12_writeWork_6 : decode cX12_writeWork 6 = .ok (.bipush 40, 2) := by decide +kernel
theorem dX12_writeWork_8 : decode cX12_writeWork 8 = .ok (.if_icmp .ne 5, 3) := by decide +kernel
theorem dX12_writeWork_11 : decode cX12_writeWork 11 = .ok (.iconst 4, 1) := by decide +kernel
theorem dX12_writeWork_12 : decode cX12_writeWork 12 = .ok (.ireturn, 1) := by decide +kernel
theorem dX12_writeWork_13 : decode cX12_writeWork 13 = .ok (.aload_n 0, 1) := by decide +kernel
theorem dX12_writeWork_14 : decode cX12_writeWork 14 = .ok (.sipush 429, 3) := by decide +kernel
theorem dX12_writeWork_17 : decode cX12_writeWork 17 = .ok (.iload_n 1, 1) := by decide +kernel
theorem dX12_writeWork_18 : decode cX12_writeWork 18 = .ok (.aload_n 0, 1) := by decide +kernel
theorem dX12_writeWork_19 : decode cX12_writeWork 19 = .ok (.getfield 38, 3) := by decide +kernel
theorem dX12_writeWork_22 : decode cX12_writeWork 22 = .ok (.iload_n 1, 1) := by decide +kernel
theorem dX12_writeWork_23 : decode cX12_writeWork 23 = .ok (.iaload, 1) := by decide +kernel
theorem dX12_writeWork_24 : decode cX12_writeWork 24 = .ok (.invokestatic 394, 3) := by decide +kernel
theorem dX12_writeWork_27 : decode cX12_writeWork 27 = .ok (.invokevirtual 127, 3) := by decide +kernel
theorem dX12_writeWork_30 : decode cX12_writeWork 30 = .ok (.aload_n 0, 1) := by decide +kernel
theorem dX12_writeWork_31 : decode cX12_writeWork 31 = .ok (.getfield 38, 3) := by decide +kernel
theorem dX12_writeWork_34 : decode cX12_writeWork 34 = .ok (.iload_n 1, 1) := by decide +kernel
theorem dX12_writeWork_35 : decode cX12_writeWork 35 = .ok (.dup2, 1) := by decide +kernel
theorem dX12_writeWork_36 : decode cX12_writeWork 36 = .ok (.iaload, 1) := by decide +kernel
theorem dX12_writeWork_37 : decode cX12_writeWork 37 = .ok (.iconst 1, 1) := by decide +kernel
theorem dX12_writeWork_38 : decode cX12_writeWork 38 = .ok (.iadd, 1) := by decide +kernel
theorem dX12_writeWork_39 : decode cX12_writeWork 39 = .ok (.iastore, 1) := by decide +kernel
theorem dX12_writeWork_40 : decode cX12_writeWork 40 = .ok (.iconst 0, 1) := by decide +kernel
theorem dX12_writeWork_41 : decode cX12_writeWork 41 = .ok (.ireturn, 1) := by decide +kernel
theorem dX12_workAct_0 : decode cX12_workAct 0 = .ok (.aload_n 0, 1) := by decide +kernel
theorem dX12_workAct_1 : decode cX12_workAct 1 = .ok (.getfield 44, 3) := by decide +kernel
theorem dX12_workAct_4 : decode cX12_workAct 4 = .ok (.iload_n 2, 1) := by decide +kernel
theorem dX12_workAct_5 : decode cX12_workAct 5 = .ok (.iaload, 1) := by decide +kernel
theorem dX12_workAct_6 : decode cX12_workAct 6 = .ok (.istore_n 3, 1) := by decide +kernel
theorem dX12_workAct_7 : decode cX12_workAct 7 = .ok (.iload_n 3, 1) := by decide +kernel
theorem dX12_workAct_8 : decode cX12_workAct 8 = .ok (.bipush 97, 2) := by decide +kernel
theorem dX12_workAct_10 : decode cX12_workAct 10 = .ok (.if_icmp .ne 11, 3) := by decide +kernel
theorem dX12_workAct_13 : decode cX12_workAct 13 = .ok (.aload_n 0, 1) := by decide +kernel
theorem dX12_workAct_14 : decode cX12_workAct 14 = .ok (.iload_n 2, 1) := by decide +kernel
theorem dX12_workAct_15 : decode cX12_workAct 15 = .ok (.iconst 1, 1) := by decide +kernel
theorem dX12_workAct_16 : decode cX12_workAct 16 = .ok (.iadd, 1) := by decide +kernel
theorem dX12_workAct_17 : decode cX12_workAct 17 = .ok (.invokevirtual 587, 3) := by decide +kernel
theorem dX12_workAct_20 : decode cX12_workAct 20 = .ok (.ireturn, 1) := by decide +kernel
theorem dX12_workAct_21 : decode cX12_workAct 21 = .ok (.iload_n 3, 1) := by decide +kernel
theorem dX12_workAct_22 : decode cX12_workAct 22 = .ok (.bipush 105, 2) := by decide +kernel
theorem dX12_workAct_24 : decode cX12_workAct 24 = .ok (.if_icmp .ne 18, 3) := by decide +kernel
theorem dX12_workAct_27 : decode cX12_workAct 27 = .ok (.aload_n 0, 1) := by decide +kernel
theorem dX12_workAct_28 : decode cX12_workAct 28 = .ok (.iload_n 2, 1) := by decide +kernel
theorem dX12_workAct_29 : decode cX12_workAct 29 = .ok (.iconst 1, 1) := by decide +kernel
theorem dX12_workAct_30 : decode cX12_workAct 30 = .ok (.iadd, 1) := by decide +kernel
theorem dX12_workAct_31 : decode cX12_workAct 31 = .ok (.aload_n 0, 1) := by decide +kernel
theorem dX12_workAct_32 : decode cX12_workAct 32 = .ok (.iload_n 2, 1) := by decide +kernel
theorem dX12_workAct_33 : decode cX12_workAct 33 = .ok (.iconst 1, 1) := by decide +kernel
theorem dX12_workAct_34 : decode cX12_workAct 34 = .ok (.iadd, 1) := by decide +kernel
theorem dX12_workAct_35 : decode cX12_workAct 35 = .ok (.invokevirtual 335, 3) := by decide +kernel
theorem dX12_workAct_38 : decode cX12_workAct 38 = .ok (.invokevirtual 581, 3) := by decide +kernel
theorem dX12_workAct_41 : decode cX12_workAct 41 = .ok (.ireturn, 1) := by decide +kernel
theorem dX12_workAct_42 : decode cX12_workAct 42 = .ok (.iload_n 3, 1) := by decide +kernel
theorem dX12_workAct_43 : decode cX12_workAct 43 = .ok (.bipush 99, 2) := by decide +kernel
theorem dX12_workAct_45 : decode cX12_workAct 45 = .ok (.if_icmp .ne 33, 3) := by decide +kernel
theorem dX12_workAct_48 : decode cX12_workAct 48 = .ok (.aload_n 0, 1) := by decide +kernel
theorem dX12_workAct_49 : decode cX12_workAct 49 = .ok (.iload_n 2, 1) := by decide +kernel
theorem dX12_workAct_50 : decode cX12_workAct 50 = .ok (.iconst 1, 1) := by decide +kernel
theorem dX12_workAct_51 : decode cX12_workAct 51 = .ok (.iadd, 1) := by decide +kernel
theorem dX12_workAct_52 : decode cX12_workAct 52 = .ok (.aload_n 0, 1) := by decide +kernel
theorem dX12_workAct_53 : decode cX12_workAct 53 = .ok (.getfield 203, 3) := by decide +kernel
theorem dX12_workAct_56 : decode cX12_workAct 56 = .ok (.iconst 3, 1) := by decide +kernel
theorem dX12_workAct_57 : decode cX12_workAct 57 = .ok (.if_icmp .ne 12, 3) := by decide +kernel
theorem dX12_workAct_60 : decode cX12_workAct 60 = .ok (.aload_n 0, 1) := by decide +kernel
theorem dX12_workAct_61 : decode cX12_workAct 61 = .ok (.getfield 90, 3) := by decide +kernel
theorem dX12_workAct_64 : decode cX12_workAct 64 = .ok (.iload_n 1, 1) := by decide +kernel
theorem dX12_workAct_65 : decode cX12_workAct 65 = .ok (.baload, 1) := by decide +kernel
theorem dX12_workAct_66 : decode cX12_workAct 66 = .ok (.ifCond .ne 7, 3) := by decide +kernel
theorem dX12_workAct_69 : decode cX12_workAct 69 = .ok (.iconst 1, 1) := by decide +kernel
theorem dX12_workAct_70 : decode cX12_workAct 70 = .ok (.goto 4, 3) := by decide +kernel
theorem dX12_workAct_73 : decode cX12_workAct 73 = .ok (.iconst 0, 1) := by decide +kernel
theorem dX12_workAct_74 : decode cX12_workAct 74 = .ok (.invokevirtual 590, 3) := by decide +kernel
theorem dX12_workAct_77 : decode cX12_workAct 77 = .ok (.ireturn, 1) := by decide +kernel
theorem dX12_workAct_78 : decode cX12_workAct 78 = .ok (.iload_n 3, 1) := by decide +kernel
theorem dX12_workAct_79 : decode cX12_workAct 79 = .ok (.bipush 100, 2) := by decide +kernel
theorem dX12_workAct_81 : decode cX12_workAct 81 = .ok (.if_icmp .ne 10, 3) := by decide +kernel
theorem dX12_workAct_84 : decode cX12_workAct 84 = .ok (.aload_n 0, 1) := by decide +kernel
theorem dX12_workAct_85 : decode cX12_workAct 85 = .ok (.iconst 0, 1) := by decide +kernel
theorem dX12_workAct_86 : decode cX12_workAct 86 = .ok (.putfield 557, 3) := by decide +kernel
theorem dX12_workAct_89 : decode cX12_workAct 89 = .ok (.iconst 0, 1) := by decide +kernel
theorem dX12_workAct_90 : decode cX12_workAct 90 = .ok (.ireturn, 1) := by decide +kernel
theorem dX12_workAct_91 : decode cX12_workAct 91 = .ok (.iload_n 3, 1) := by decide +kernel
theorem dX12_workAct_92 : decode cX12_workAct 92 = .ok (.bipush 106, 2) := by decide +kernel
theorem dX12_workAct_94 : decode cX12_workAct 94 = .ok (.if_icmp .ne 8, 3) := by decide +kernel
theorem dX12_workAct_97 : decode cX12_workAct 97 = .ok (.aload_n 0, 1) := by decide +kernel
theorem dX12_workAct_98 : decode cX12_workAct 98 = .ok (.invokevirtual 593, 3) := by decide +kernel
theorem dX12_workAct_101 : decode cX12_workAct 101 = .ok (.ireturn, 1) := by decide +kernel
theorem dX12_workAct_102 : decode cX12_workAct 102 = .ok (.iload_n 3, 1) := by decide +kernel
theorem dX12_workAct_103 : decode cX12_workAct 103 = .ok (.bipush 118, 2) := by decide +kernel
theorem dX12_workAct_105 : decode cX12_workAct 105 = .ok (.if_icmp .ne 15, 3) := by decide +kernel
theorem dX12_workAct_108 : decode cX12_workAct 108 = .ok (.aload_n 0, 1) := by decide +kernel
theorem dX12_workAct_109 : decode cX12_workAct 109 = .ok (.aload_n 0, 1) := by decide +kernel
theorem dX12_workAct_110 : decode cX12_workAct 110 = .ok (.iload_n 2, 1) := by decide +kernel
theorem dX12_workAct_111 : decode cX12_workAct 111 = .ok (.iconst 1, 1) := by decide +kernel
theorem dX12_workAct_112 : decode cX12_workAct 112 = .ok (.iadd, 1) := by decide +kernel
theorem dX12_workAct_113 : decode cX12_workAct 113 = .ok (.invokevirtual 301, 3) := by decide +kernel
theorem dX12_workAct_116 : decode cX12_workAct 116 = .ok (.invokevirtual 596, 3) := by decide +kernel
theorem dX12_workAct_119 : decode cX12_workAct 119 = .ok (.ireturn, 1) := by decide +kernel
theorem dX12_workAct_120 : decode cX12_workAct 120 = .ok (.iload_n 3, 1) := by decide +kernel
theorem dX12_workAct_121 : decode cX12_workAct 121 = .ok (.bipush 112, 2) := by decide +kernel
theorem dX12_workAct_123 : decode cX12_workAct 123 = .ok (.if_icmp .eq 15, 3) := by decide +kernel
theorem dX12_workAct_126 : decode cX12_workAct 126 = .ok (.iload_n 3, 1) := by decide +kernel
theorem dX12_workAct_127 : decode cX12_workAct 127 = .ok (.bipush 110, 2) := by decide +kernel
theorem dX12_workAct_129 : decode cX12_workAct 129 = .ok (.if_icmp .eq 9, 3) := by decide +kernel
theorem dX12_workAct_132 : decode cX12_workAct 132 = .ok (.iload_n 3, 1) := by decide +kernel
theorem dX12_workAct_133 : decode cX12_workAct 133 = .ok (.bipush 61, 2) := by decide +kernel
theorem dX12_workAct_135 : decode cX12_workAct 135 = .ok (.if_icmp .ne 30, 3) := by decide +kernel
theorem dX12_workAct_138 : decode cX12_workAct 138 = .ok (.aload_n 0, 1) := by decide +kernel
theorem dX12_workAct_139 : decode cX12_workAct 139 = .ok (.iload_n 3, 1) := by decide +kernel
theorem dX12_workAct_140 : decode cX12_workAct 140 = .ok (.bipush 112, 2) := by decide +kernel
theorem dX12_workAct_142 : decode cX12_workAct 142 = .ok (.if_icmp .eq 7, 3) := by decide +kernel
theorem dX12_workAct_145 : decode cX12_workAct 145 = .ok (.iconst 1, 1) := by decide +kernel
theorem dX12_workAct_146 : decode cX12_workAct 146 = .ok (.goto 4, 3) := by decide +kernel
theorem dX12_workAct_149 : decode cX12_workAct 149 = .ok (.iconst 0, 1) := by decide +kernel
theorem dX12_workAct_150 : decode cX12_workAct 150 = .ok (.iload_n 3, 1) := by decide +kernel
theorem dX12_workAct_151 : decode cX12_workAct 151 = .ok (.bipush 61, 2) := by decide +kernel
theorem dX12_workAct_153 : decode cX12_workAct 153 = .ok (.if_icmp .eq 7, 3) := by decide +kernel
theorem dX12_workAct_156 : decode cX12_workAct 156 = .ok (.iconst 1, 1) := by decide +kernel
theorem dX12_workAct_157 : decode cX12_workAct 157 = .ok (.goto 4, 3) := by decide +kernel
theorem dX12_workAct_160 : decode cX12_workAct 160 = .ok (.iconst 0, 1) := by decide +kernel
theorem dX12_workAct_161 : decode cX12_workAct 161 = .ok (.invokevirtual 599, 3) := by decide +kernel
theorem dX12_workAct_164 : decode cX12_workAct 164 = .ok (.ireturn, 1) := by decide +kernel
theorem dX12_workAct_165 : decode cX12_workAct 165 = .ok (.iload_n 3, 1) := by decide +kernel
theorem dX12_workAct_166 : decode cX12_workAct 166 = .ok (.bipush 104, 2) := by decide +kernel
theorem dX12_workAct_168 : decode cX12_workAct 168 = .ok (.if_icmp .eq 9, 3) := by decide +kernel
theorem dX12_workAct_171 : decode cX12_workAct 171 = .ok (.iload_n 3, 1) := by decide +kernel
theorem dX12_workAct_172 : decode cX12_workAct 172 = .ok (.bipush 72, 2) := by decide +kernel
theorem dX12_workAct_174 : decode cX12_workAct 174 = .ok (.if_icmp .ne 22, 3) := by decide +kernel
theorem dX12_workAct_177 : decode cX12_workAct 177 = .ok (.aload_n 0, 1) := by decide +kernel
theorem dX12_workAct_178 : decode cX12_workAct 178 = .ok (.iload_n 3, 1) := by decide +kernel
theorem dX12_workAct_179 : decode cX12_workAct 179 = .ok (.bipush 104, 2) := by decide +kernel
theorem dX12_workAct_181 : decode cX12_workAct 181 = .ok (.if_icmp .ne 7, 3) := by decide +kernel
theorem dX12_workAct_184 : decode cX12_workAct 184 = .ok (.iconst 0, 1) := by decide +kernel
theorem dX12_workAct_185 : decode cX12_workAct 185 = .ok (.goto 7, 3) := by decide +kernel
theorem dX12_workAct_188 : decode cX12_workAct 188 = .ok (.aload_n 0, 1) := by decide +kernel
theorem dX12_workAct_189 : decode cX12_workAct 189 = .ok (.getfield 366, 3) := by decide +kernel
theorem dX12_workAct_192 : decode cX12_workAct 192 = .ok (.invokevirtual 603, 3) := by decide +kernel
theorem dX12_workAct_195 : decode cX12_workAct 195 = .ok (.ireturn, 1) := by decide +kernel
theorem dX12_workAct_196 : decode cX12_workAct 196 = .ok (.iload_n 3, 1) := by decide +kernel
theorem dX12_workAct_197 : decode cX12_workAct 197 = .ok (.bipush 117, 2) := by decide +kernel
theorem dX12_workAct_199 : decode cX12_workAct 199 = .ok (.if_icmp .ne 25, 3) := by decide +kernel
theorem dX12_workAct_202 : decode cX12_workAct 202 = .ok (.aload_n 0, 1) := by decide +kernel
theorem dX12_workAct_203 : decode cX12_workAct 203 = .ok (.getfield 366, 3) := by decide +kernel
theorem dX12_workAct_206 : decode cX12_workAct 206 = .ok (.ifCond .ne 7, 3) := by decide +kernel
theorem dX12_workAct_209 : decode cX12_workAct 209 = .ok (.iconst 5, 1) := by decide +kernel
theorem dX12_workAct_210 : decode cX12_workAct 210 = .ok (.goto 13, 3) := by decide +kernel
theorem dX12_workAct_213 : decode cX12_workAct 213 = .ok (.aload_n 0, 1) := by decide +kernel
theorem dX12_workAct_214 : decode cX12_workAct 214 = .ok (.bipush 82, 2) := by decide +kernel
theorem dX12_workAct_216 : decode cX12_workAct 216 = .ok (.aload_n 0, 1) := by decide +kernel
theorem dX12_workAct_217 : decode cX12_workAct 217 = .ok (.getfield 366, 3) := by decide +kernel
theorem dX12_workAct_220 : decode cX12_workAct 220 = .ok (.invokevirtual 606, 3) := by decide +kernel
theorem dX12_workAct_223 : decode cX12_workAct 223 = .ok (.ireturn, 1) := by decide +kernel
theorem dX12_workAct_224 : decode cX12_workAct 224 = .ok (.iload_n 3, 1) := by decide +kernel
theorem dX12_workAct_225 : decode cX12_workAct 225 = .ok (.bipush 101, 2) := by decide +kernel
theorem dX12_workAct_227 : decode cX12_workAct 227 = .ok (.if_icmp .ne 8, 3) := by decide +kernel
theorem dX12_workAct_230 : decode cX12_workAct 230 = .ok (.aload_n 0, 1) := by decide +kernel
theorem dX12_workAct_231 : decode cX12_workAct 231 = .ok (.invokevirtual 609, 3) := by decide +kernel
theorem dX12_workAct_234 : decode cX12_workAct 234 = .ok (.ireturn, 1) := by decide +kernel
theorem dX12_workAct_235 : decode cX12_workAct 235 = .ok (.aload_n 0, 1) := by decide +kernel
theorem dX12_workAct_236 : decode cX12_workAct 236 = .ok (.iload_n 2, 1) := by decide +kernel
theorem dX12_workAct_237 : decode cX12_workAct 237 = .ok (.invokevirtual 612, 3) := by decide +kernel
theorem dX12_workAct_240 : decode cX12_workAct 240 = .ok (.ireturn, 1) := by decide +kernel
theorem dX12_otherWorkAct_0 : decode cX12_otherWorkAct 0 = .ok (.aload_n 0, 1) := by decide +kernel
theorem dX12_otherWorkAct_1 : decode cX12_otherWorkAct 1 = .ok (.getfield 44, 3) := by decide +kernel
theorem dX12_otherWorkAct_4 : decode cX12_otherWorkAct 4 = .ok (.iload_n 1, 1) := by decide +kernel
theorem dX12_otherWorkAct_5 : decode cX12_otherWorkAct 5 = .ok (.iaload, 1) := by decide +kernel
theorem dX12_otherWorkAct_6 : decode cX12_otherWorkAct 6 = .ok (.istore_n 2, 1) := by decide +kernel
theorem dX12_otherWorkAct_7 : decode cX12_otherWorkAct 7 = .ok (.iload_n 2, 1) := by decide +kernel
theorem dX12_otherWorkAct_8 : decode cX12_otherWorkAct 8 = .ok (.bipush 62, 2) := by decide +kernel
theorem dX12_otherWorkAct_10 : decode cX12_otherWorkAct 10 = .ok (.if_icmp .ne 26, 3) := by decide +kernel
theorem dX12_otherWorkAct_13 : decode cX12_otherWorkAct 13 = .ok (.aload_n 0, 1) := by decide +kernel
theorem dX12_otherWorkAct_14 : decode cX12_otherWorkAct 14 = .ok (.sipush 429, 3) := by decide +kernel
theorem dX12_otherWorkAct_17 : decode cX12_otherWorkAct 17 = .ok (.aload_n 0, 1) := by decide +kernel
theorem dX12_otherWorkAct_18 : decode cX12_otherWorkAct 18 = .ok (.iload_n 1, 1) := by decide +kernel
theorem dX12_otherWorkAct_19 : decode cX12_otherWorkAct 19 = .ok (.iconst 1, 1) := by decide +kernel
theorem dX12_otherWorkAct_20 : decode cX12_otherWorkAct 20 = .ok (.iadd, 1) := by decide +kernel
theorem dX12_otherWorkAct_21 : decode cX12_otherWorkAct 21 = .ok (.invokevirtual 301, 3) := by decide +kernel
theorem dX12_otherWorkAct_24 : decode cX12_otherWorkAct 24 = .ok (.invokevirtual 372, 3) := by decide +kernel
theorem dX12_otherWorkAct_27 : decode cX12_otherWorkAct 27 = .ok (.ifCond .eq 7, 3) := by decide +kernel
theorem dX12_otherWorkAct_30 : decode cX12_otherWorkAct 30 = .ok (.iconst 0, 1) := by decide +kernel
theorem dX12_otherWorkAct_31 : decode cX12_otherWorkAct 31 = .ok (.goto 4, 3) := by decide +kernel
theorem dX12_otherWorkAct_34 : decode cX12_otherWorkAct 34 = .ok (.iconst 4, 1) := by decide +kernel
theorem dX12_otherWorkAct_35 : decode cX12_otherWorkAct 35 = .ok (.ireturn, 1) := by decide +kernel
theorem dX12_otherWorkAct_36 : decode cX12_otherWorkAct 36 = .ok (.iload_n 2, 1) := by decide +kernel
theorem dX12_otherWorkAct_37 : decode cX12_otherWorkAct 37 = .ok (.bipush 60, 2) := by decide +kernel
theorem dX12_otherWorkAct_39 : decode cX12_otherWorkAct 39 = .ok (.if_icmp .ne 19, 3) := by decide +kernel
theorem dX12_otherWorkAct_42 : decode cX12_otherWorkAct 42 = .ok (.aload_n 0, 1) := by decide +kernel
theorem dX12_otherWorkAct_43 : decode cX12_otherWorkAct 43 = .ok (.sipush 429, 3) := by decide +kernel
theorem dX12_otherWorkAct_46 : decode cX12_otherWorkAct 46 = .ok (.aload_n 0, 1) := by decide +kernel
theorem dX12_otherWorkAct_47 : decode cX12_otherWorkAct 47 = .ok (.iload_n 1, 1) := by decide +kernel
theorem dX12_otherWorkAct_48 : decode cX12_otherWorkAct 48 = .ok (.iconst 1, 1) := by decide +kernel
theorem dX12_otherWorkAct_49 : decode cX12_otherWorkAct 49 = .ok (.iadd, 1) := by decide +kernel
theorem dX12_otherWorkAct_50 : decode cX12_otherWorkAct 50 = .ok (.invokevirtual 301, 3) := by decide +kernel
theorem dX12_otherWorkAct_53 : decode cX12_otherWorkAct 53 = .ok (.invokevirtual 369, 3) := by decide +kernel
theorem dX12_otherWorkAct_56 : decode cX12_otherWorkAct 56 = .ok (.iconst 0, 1) := by decide +kernel
theorem dX12_otherWorkAct_57 : decode cX12_otherWorkAct 57 = .ok (.ireturn, 1) := by decide +kernel
theorem dX12_otherWorkAct_58 : decode cX12_otherWorkAct 58 = .ok (.iload_n 2, 1) := by decide +kernel
theorem dX12_otherWorkAct_59 : decode cX12_otherWorkAct 59 = .ok (.bipush 115, 2) := by decide +kernel
theorem dX12_otherWorkAct_61 : decode cX12_otherWorkAct 61 = .ok (.if_icmp .ne 20, 3) := by decide +kernel
theorem dX12_otherWorkAct_64 : decode cX12_otherWorkAct 64 = .ok (.aload_n 0, 1) := by decide +kernel
theorem dX12_otherWorkAct_65 : decode cX12_otherWorkAct 65 = .ok (.sipush 429, 3) := by decide +kernel
theorem dX12_otherWorkAct_68 : decode cX12_otherWorkAct 68 = .ok (.iload_n 1, 1) := by decide +kernel
theorem dX12_otherWorkAct_69 : decode cX12_otherWorkAct 69 = .ok (.invokevirtual 388, 3) := by decide +kernel
theorem dX12_otherWorkAct_72 : decode cX12_otherWorkAct 72 = .ok (.ifCond .eq 7, 3) := by decide +kernel
theorem dX12_otherWorkAct_75 : decode cX12_otherWorkAct 75 = .ok (.iconst 0, 1) := by decide +kernel
theorem dX12_otherWorkAct_76 : decode cX12_otherWorkAct 76 = .ok (.goto 4, 3) := by decide +kernel
theorem dX12_otherWorkAct_79 : decode cX12_otherWorkAct 79 = .ok (.iconst 4, 1) := by decide +kernel
theorem dX12_otherWorkAct_80 : decode cX12_otherWorkAct 80 = .ok (.ireturn, 1) := by decide +kernel
theorem dX12_otherWorkAct_81 : decode cX12_otherWorkAct 81 = .ok (.iload_n 2, 1) := by decide +kernel
theorem dX12_otherWorkAct_82 : decode cX12_otherWorkAct 82 = .ok (.bipush 122, 2) := by decide +kernel
theorem dX12_otherWorkAct_84 : decode cX12_otherWorkAct 84 = .ok (.if_icmp .ne 13, 3) := by decide +kernel
theorem dX12_otherWorkAct_87 : decode cX12_otherWorkAct 87 = .ok (.aload_n 0, 1) := by decide +kernel
theorem dX12_otherWorkAct_88 : decode cX12_otherWorkAct 88 = .ok (.sipush 429, 3) := by decide +kernel
theorem dX12_otherWorkAct_91 : decode cX12_otherWorkAct 91 = .ok (.iload_n 1, 1) := by decide +kernel
theorem dX12_otherWorkAct_92 : decode cX12_otherWorkAct 92 = .ok (.invokevirtual 391, 3) := by decide +kernel
theorem dX12_otherWorkAct_95 : decode cX12_otherWorkAct 95 = .ok (.iconst 0, 1) := by decide +kernel
theorem dX12_otherWorkAct_96 : decode cX12_otherWorkAct 96 = .ok (.ireturn, 1) := by decide +kernel
theorem dX12_otherWorkAct_97 : decode cX12_otherWorkAct 97 = .ok (.iload_n 2, 1) := by decide +kernel
theorem dX12_otherWorkAct_98 : decode cX12_otherWorkAct 98 = .ok (.bipush 114, 2) := by decide +kernel
theorem dX12_otherWorkAct_100 : decode cX12_otherWorkAct 100 = .ok (.if_icmp .ne 39, 3) := by decide +kernel
theorem dX12_otherWorkAct_103 : decode cX12_otherWorkAct 103 = .ok (.aload_n 0, 1) := by decide +kernel
theorem dX12_otherWorkAct_104 : decode cX12_otherWorkAct 104 = .ok (.aload_n 0, 1) := by decide +kernel
theorem dX12_otherWorkAct_105 : decode cX12_otherWorkAct 105 = .ok (.getfield 44, 3) := by decide +kernel
theorem dX12_otherWorkAct_108 : decode cX12_otherWorkAct 108 = .ok (.iload_n 1, 1) := by decide +kernel
theorem dX12_otherWorkAct_109 : decode cX12_otherWorkAct 109 = .ok (.iconst 1, 1) := by decide +kernel
theorem dX12_otherWorkAct_110 : decode cX12_otherWorkAct 110 = .ok (.iadd, 1) := by decide +kernel
theorem dX12_otherWorkAct_111 : decode cX12_otherWorkAct 111 = .ok (.iaload, 1) := by decide +kernel
theorem dX12_otherWorkAct_112 : decode cX12_otherWorkAct 112 = .ok (.bipush 48, 2) := by decide +kernel
theorem dX12_otherWorkAct_114 : decode cX12_otherWorkAct 114 = .ok (.isub, 1) := by decide +kernel
theorem dX12_otherWorkAct_115 : decode cX12_otherWorkAct 115 = .ok (.iconst 0, 1) := by decide +kernel
theorem dX12_otherWorkAct_116 : decode cX12_otherWorkAct 116 = .ok (.invokestatic 394, 3) := by decide +kernel
theorem dX12_otherWorkAct_119 : decode cX12_otherWorkAct 119 = .ok (.aload_n 0, 1) := by decide +kernel
theorem dX12_otherWorkAct_120 : decode cX12_otherWorkAct 120 = .ok (.getfield 38, 3) := by decide +kernel
theorem dX12_otherWorkAct_123 : decode cX12_otherWorkAct 123 = .ok (.aload_n 0, 1) := by decide +kernel
theorem dX12_otherWorkAct_124 : decode cX12_otherWorkAct 124 = .ok (.getfield 44, 3) := by decide +kernel
theorem dX12_otherWorkAct_127 : decode cX12_otherWorkAct 127 = .ok (.iload_n 1, 1) := by decide +kernel
theorem dX12_otherWorkAct_128 : decode cX12_otherWorkAct 128 = .ok (.iconst 1, 1) := by decide +kernel
theorem dX12_otherWorkAct_129 : decode cX12_otherWorkAct 129 = .ok (.iadd, 1) := by decide +kernel
theorem dX12_otherWorkAct_130 : decode cX12_otherWorkAct 130 = .ok (.iaload, 1) := by decide +kernel
theorem dX12_otherWorkAct_131 : decode cX12_otherWorkAct 131 = .ok (.bipush 48, 2) := by decide +kernel
theorem dX12_otherWorkAct_133 : decode cX12_otherWorkAct 133 = .ok (.isub, 1) := by decide +kernel
theorem dX12_otherWorkAct_134 : decode cX12_otherWorkAct 134 = .ok (.iaload, 1) := by decide +kernel
theorem dX12_otherWorkAct_135 : decode cX12_otherWorkAct 135 = .ok (.invokevirtual 606, 3) := by decide +kernel
theorem dX12_otherWorkAct_138 : decode cX12_otherWorkAct 138 = .ok (.ireturn, 1) := by decide +kernel
theorem dX12_otherWorkAct_139 : decode cX12_otherWorkAct 139 = .ok (.iload_n 2, 1) := by decide +kernel
theorem dX12_otherWorkAct_140 : decode cX12_otherWorkAct 140 = .ok (.bipush 119, 2) := by decide +kernel
theorem dX12_otherWorkAct_142 : decode cX12_otherWorkAct 142 = .ok (.if_icmp .ne 19, 3) := by decide +kernel
theorem dX12_otherWorkAct_145 : decode cX12_otherWorkAct 145 = .ok (.aload_n 0, 1) := by decide +kernel
theorem dX12_otherWorkAct_146 : decode cX12_otherWorkAct 146 = .ok (.aload_n 0, 1) := by decide +kernel
theorem dX12_otherWorkAct_147 : decode cX12_otherWorkAct 147 = .ok (.getfield 44, 3) := by decide +kernel
theorem dX12_otherWorkAct_150 : decode cX12_otherWorkAct 150 = .ok (.iload_n 1, 1) := by decide +kernel
theorem dX12_otherWorkAct_151 : decode cX12_otherWorkAct 151 = .ok (.iconst 1, 1) := by decide +kernel
theorem dX12_otherWorkAct_152 : decode cX12_otherWorkAct 152 = .ok (.iadd, 1) := by decide +kernel
theorem dX12_otherWorkAct_153 : decode cX12_otherWorkAct 153 = .ok (.iaload, 1) := by decide +kernel
theorem dX12_otherWorkAct_154 : decode cX12_otherWorkAct 154 = .ok (.bipush 48, 2) := by decide +kernel
theorem dX12_otherWorkAct_156 : decode cX12_otherWorkAct 156 = .ok (.isub, 1) := by decide +kernel
theorem dX12_otherWorkAct_157 : decode cX12_otherWorkAct 157 = .ok (.invokevirtual 615, 3) := by decide +kernel
theorem dX12_otherWorkAct_160 : decode cX12_otherWorkAct 160 = .ok (.ireturn, 1) := by decide +kernel
theorem dX12_otherWorkAct_161 : decode cX12_otherWorkAct 161 = .ok (.iload_n 2, 1) := by decide +kernel
theorem dX12_otherWorkAct_162 : decode cX12_otherWorkAct 162 = .ok (.bipush 107, 2) := by decide +kernel
theorem dX12_otherWorkAct_164 : decode cX12_otherWorkAct 164 = .ok (.if_icmp .ne 23, 3) := by decide +kernel
theorem dX12_otherWorkAct_167 : decode cX12_otherWorkAct 167 = .ok (.aload_n 0, 1) := by decide +kernel
theorem dX12_otherWorkAct_168 : decode cX12_otherWorkAct 168 = .ok (.getfield 35, 3) := by decide +kernel
theorem dX12_otherWorkAct_171 : decode cX12_otherWorkAct 171 = .ok (.aload_n 0, 1) := by decide +kernel
theorem dX12_otherWorkAct_172 : decode cX12_otherWorkAct 172 = .ok (.getfield 44, 3) := by decide +kernel
theorem dX12_otherWorkAct_175 : decode cX12_otherWorkAct 175 = .ok (.iload_n 1, 1) := by decide +kernel
theorem dX12_otherWorkAct_176 : decode cX12_otherWorkAct 176 = .ok (.iconst 1, 1) := by decide +kernel
theorem dX12_otherWorkAct_177 : decode cX12_otherWorkAct 177 = .ok (.iadd, 1) := by decide +kernel
theorem dX12_otherWorkAct_178 : decode cX12_otherWorkAct 178 = .ok (.iaload, 1) := by decide +kernel
theorem dX12_otherWorkAct_179 : decode cX12_otherWorkAct 179 = .ok (.bipush 97, 2) := by decide +kernel
theorem dX12_otherWorkAct_181 : decode cX12_otherWorkAct 181 = .ok (.isub, 1) := by decide +kernel
theorem dX12_otherWorkAct_182 : decode cX12_otherWorkAct 182 = .ok (.aload_n 0, 1) := by decide +kernel
theorem dX12_otherWorkAct_183 : decode cX12_otherWorkAct 183 = .ok (.getfield 548, 3) := by decide +kernel
theorem dX12_otherWorkAct_186 : decode cX12_otherWorkAct 186 = .ok (.iastore, 1) := by decide +kernel
theorem dX12_otherWorkAct_187 : decode cX12_otherWorkAct 187 = .ok (.iconst 0, 1) := by decide +kernel
theorem dX12_otherWorkAct_188 : decode cX12_otherWorkAct 188 = .ok (.ireturn, 1) := by decide +kernel
theorem dX12_comesTo_0 : decode cX12_comesTo 0 = .ok (.aload_n 0, 1) := by decide +kernel
theorem dX12_comesTo_1 : decode cX12_comesTo 1 = .ok (.getfield 618, 3) := by decide +kernel
theorem dX12_comesTo_4 : decode cX12_comesTo 4 = .ok (.sipush 400, 3) := by decide +kernel
theorem dX12_comesTo_7 : decode cX12_comesTo 7 = .ok (.if_icmp .ne 6, 3) := by decide +kernel
theorem dX12_comesTo_10 : decode cX12_comesTo 10 = .ok (.bipush 7, 2) := by decide +kernel
theorem dX12_comesTo_12 : decode cX12_comesTo 12 = .ok (.ireturn, 1) := by decide +kernel
theorem dX12_comesTo_13 : decode cX12_comesTo 13 = .ok (.aload_n 0, 1) := by decide +kernel
theorem dX12_comesTo_14 : decode cX12_comesTo 14 = .ok (.dup, 1) := by decide +kernel
theorem dX12_comesTo_15 : decode cX12_comesTo 15 = .ok (.getfield 618, 3) := by decide +kernel
theorem dX12_comesTo_18 : decode cX12_comesTo 18 = .ok (.iconst 1, 1) := by decide +kernel
theorem dX12_comesTo_19 : decode cX12_comesTo 19 = .ok (.iadd, 1) := by decide +kernel
theorem dX12_comesTo_20 : decode cX12_comesTo 20 = .ok (.putfield 618, 3) := by decide +kernel
theorem dX12_comesTo_23 : decode cX12_comesTo 23 = .ok (.aload_n 0, 1) := by decide +kernel
theorem dX12_comesTo_24 : decode cX12_comesTo 24 = .ok (.iload_n 1, 1) := by decide +kernel
theorem dX12_comesTo_25 : decode cX12_comesTo 25 = .ok (.invokevirtual 458, 3) := by decide +kernel
theorem dX12_comesTo_28 : decode cX12_comesTo 28 = .ok (.aload_n 0, 1) := by decide +kernel
theorem dX12_comesTo_29 : decode cX12_comesTo 29 = .ok (.invokevirtual 621, 3) := by decide +kernel
theorem dX12_comesTo_32 : decode cX12_comesTo 32 = .ok (.ifCond .eq 8, 3) := by decide +kernel
theorem dX12_comesTo_35 : decode cX12_comesTo 35 = .ok (.bipush 8, 2) := by decide +kernel
theorem dX12_comesTo_37 : decode cX12_comesTo 37 = .ok (.goto 4, 3) := by decide +kernel
theorem dX12_comesTo_40 : decode cX12_comesTo 40 = .ok (.iconst 0, 1) := by decide +kernel
theorem dX12_comesTo_41 : decode cX12_comesTo 41 = .ok (.ireturn, 1) := by decide +kernel
theorem dX12_workInner_0 : decode cX12_workInner 0 = .ok (.aload_n 0, 1) := by decide +kernel
theorem dX12_workInner_1 : decode cX12_workInner 1 = .ok (.iload_n 1, 1) := by decide +kernel
theorem dX12_workInner_2 : decode cX12_workInner 2 = .ok (.invokevirtual 625, 3) := by decide +kernel
theorem dX12_workInner_5 : decode cX12_workInner 5 = .ok (.istore_n 2, 1) := by decide +kernel
theorem dX12_workInner_6 : decode cX12_workInner 6 = .ok (.iload_n 2, 1) := by decide +kernel
theorem dX12_workInner_7 : decode cX12_workInner 7 = .ok (.ifCond .le 5, 3) := by decide +kernel
theorem dX12_workInner_10 : decode cX12_workInner 10 = .ok (.iload_n 2, 1) := by decide +kernel
theorem dX12_workInner_11 : decode cX12_workInner 11 = .ok (.ireturn, 1) := by decide +kernel
theorem dX12_workInner_12 : decode cX12_workInner 12 = .ok (.aload_n 0, 1) := by decide +kernel
theorem dX12_workInner_13 : decode cX12_workInner 13 = .ok (.getfield 218, 3) := by decide +kernel
theorem dX12_workInner_16 : decode cX12_workInner 16 = .ok (.istore_n 3, 1) := by decide +kernel
theorem dX12_workInner_17 : decode cX12_workInner 17 = .ok (.aload_n 0, 1) := by decide +kernel
theorem dX12_workInner_18 : decode cX12_workInner 18 = .ok (.iload_n 1, 1) := by decide +kernel
theorem dX12_workInner_19 : decode cX12_workInner 19 = .ok (.invokevirtual 628, 3) := by decide +kernel
theorem dX12_workInner_22 : decode cX12_workInner 22 = .ok (.ifCond .eq 12, 3) := by decide +kernel
theorem dX12_workInner_25 : decode cX12_workInner 25 = .ok (.aload_n 0, 1) := by decide +kernel
theorem dX12_workInner_26 : decode cX12_workInner 26 = .ok (.iload_n 1, 1) := by decide +kernel
theorem dX12_workInner_27 : decode cX12_workInner 27 = .ok (.iload_n 3, 1) := by decide +kernel
theorem dX12_workInner_28 : decode cX12_workInner 28 = .ok (.invokevirtual 631, 3) := by decide +kernel
theorem dX12_workInner_31 : decode cX12_workInner 31 = .ok (.goto 4, 3) := by decide +kernel
theorem dX12_workInner_34 : decode cX12_workInner 34 = .ok (.iconst 0, 1) := by decide +kernel
theorem dX12_workInner_35 : decode cX12_workInner 35 = .ok (.ireturn, 1) := by decide +kernel
theorem dX12_workParts_0 : decode cX12_workParts 0 = .ok (.aload_n 0, 1) := by decide +kernel
theorem dX12_workParts_1 : decode cX12_workParts 1 = .ok (.getfield 44, 3) := by decide +kernel
theorem dX12_workParts_4 : decode cX12_workParts 4 = .ok (.iload_n 1, 1) := by decide +kernel
theorem dX12_workParts_5 : decode cX12_workParts 5 = .ok (.iaload, 1) := by decide +kernel
theorem dX12_workParts_6 : decode cX12_workParts 6 = .ok (.bipush 123, 2) := by decide +kernel
theorem dX12_workParts_8 : decode cX12_workParts 8 = .ok (.if_icmp .eq 9, 3) := by decide +kernel
theorem dX12_workParts_11 : decode cX12_workParts 11 = .ok (.aload_n 0, 1) := by decide +kernel
theorem dX12_workParts_12 : decode cX12_workParts 12 = .ok (.iload_n 1, 1) := by decide +kernel
theorem dX12_workParts_13 : decode cX12_workParts 13 = .ok (.invokevirtual 634, 3) := by decide +kernel
theorem dX12_workParts_16 : decode cX12_workParts 16 = .ok (.ireturn, 1) := by decide +kernel
theorem dX12_workParts_17 : decode cX12_workParts 17 = .ok (.iload_n 1, 1) := by decide +kernel
theorem dX12_workParts_18 : decode cX12_workParts 18 = .ok (.iconst 1, 1) := by decide +kernel
theorem dX12_workParts_19 : decode cX12_workParts 19 = .ok (.iadd, 1) := by decide +kernel
theorem dX12_workParts_20 : decode cX12_workParts 20 = .ok (.istore_n 2, 1) := by decide +kernel
theorem dX12_workParts_21 : decode cX12_workParts 21 = .ok (.iconst 1, 1) := by decide +kernel
theorem dX12_workParts_22 : decode cX12_workParts 22 = .ok (.istore_n 3, 1) := by decide +kernel
theorem dX12_workParts_23 : decode cX12_workParts 23 = .ok (.iload_n 3, 1) := by decide +kernel
theorem dX12_workParts_24 : decode cX12_workParts 24 = .ok (.ifCond .eq 55, 3) := by decide +kernel
theorem dX12_workParts_27 : decode cX12_workParts 27 = .ok (.aload_n 0, 1) := by decide +kernel
theorem dX12_workParts_28 : decode cX12_workParts 28 = .ok (.getfield 557, 3) := by decide +kernel
theorem dX12_workParts_31 : decode cX12_workParts 31 = .ok (.ifCond .eq 48, 3) := by decide +kernel
theorem dX12_workParts_34 : decode cX12_workParts 34 = .ok (.aload_n 0, 1) := by decide +kernel
theorem dX12_workParts_35 : decode cX12_workParts 35 = .ok (.iload_n 2, 1) := by decide +kernel
theorem dX12_workParts_36 : decode cX12_workParts 36 = .ok (.invokevirtual 634, 3) := by decide +kernel
theorem dX12_workParts_39 : decode cX12_workParts 39 = .ok (.istore 4, 2) := by decide +kernel
theorem dX12_workParts_41 : decode cX12_workParts 41 = .ok (.iload 4, 2) := by decide +kernel
theorem dX12_workParts_43 : decode cX12_workParts 43 = .ok (.ifCond .le 6, 3) := by decide +kernel
theorem dX12_workParts_46 : decode cX12_workParts 46 = .ok (.iload 4, 2) := by decide +kernel
theorem dX12_workParts_48 : decode cX12_workParts 48 = .ok (.ireturn, 1) := by decide +kernel
theorem dX12_workParts_49 : decode cX12_workParts 49 = .ok (.aload_n 0, 1) := by decide +kernel
theorem dX12_workParts_50 : decode cX12_workParts 50 = .ok (.iload_n 2, 1) := by decide +kernel
theorem dX12_workParts_51 : decode cX12_workParts 51 = .ok (.iconst 1, 1) := by decide +kernel
theorem dX12_workParts_52 : decode cX12_workParts 52 = .ok (.invokevirtual 470, 3) := by decide +kernel
theorem dX12_workParts_55 : decode cX12_workParts 55 = .ok (.istore_n 2, 1) := by decide +kernel
theorem dX12_workParts_56 : decode cX12_workParts 56 = .ok (.aload_n 0, 1) := by decide +kernel
theorem dX12_workParts_57 : decode cX12_workParts 57 = .ok (.getfield 44, 3) := by decide +kernel
theorem dX12_workParts_60 : decode cX12_workParts 60 = .ok (.iload_n 2, 1) := by decide +kernel
theorem dX12_workParts_61 : decode cX12_workParts 61 = .ok (.iaload, 1) := by decide +kernel
theorem dX12_workParts_62 : decode cX12_workParts 62 = .ok (.bipush 59, 2) := by decide +kernel
theorem dX12_workParts_64 : decode cX12_workParts 64 = .ok (.if_icmp .ne 7, 3) := by decide +kernel
theorem dX12_workParts_67 : decode cX12_workParts 67 = .ok (.iconst 1, 1) := by decide +kernel
theorem dX12_workParts_68 : decode cX12_workParts 68 = .ok (.goto 4, 3) := by decide +kernel
theorem dX12_workParts_71 : decode cX12_workParts 71 = .ok (.iconst 0, 1) := by decide +kernel
theorem dX12_workParts_72 : decode cX12_workParts 72 = .ok (.istore_n 3, 1) := by decide +kernel
theorem dX12_workParts_73 : decode cX12_workParts 73 = .ok (.iinc 2 1, 3) := by decide +kernel
theorem dX12_workParts_76 : decode cX12_workParts 76 = .ok (.goto (-53), 3) := by decide +kernel
theorem dX12_workParts_79 : decode cX12_workParts 79 = .ok (.iconst 0, 1) := by decide +kernel
theorem dX12_workParts_80 : decode cX12_workParts 80 = .ok (.ireturn, 1) := by decide +kernel
theorem dX12_workEach_0 : decode cX12_workEach 0 = .ok (.aload_n 0, 1) := by decide +kernel
theorem dX12_workEach_1 : decode cX12_workEach 1 = .ok (.getfield 44, 3) := by decide +kernel
theorem dX12_workEach_4 : decode cX12_workEach 4 = .ok (.iload_n 1, 1) := by decide +kernel
theorem dX12_workEach_5 : decode cX12_workEach 5 = .ok (.iaload, 1) := by decide +kernel
theorem dX12_workEach_6 : decode cX12_workEach 6 = .ok (.istore_n 2, 1) := by decide +kernel
theorem dX12_workEach_7 : decode cX12_workEach 7 = .ok (.iload_n 2, 1) := by decide +kernel
theorem dX12_workEach_8 : decode cX12_workEach 8 = .ok (.bipush 123, 2) := by decide +kernel
theorem dX12_workEach_10 : decode cX12_workEach 10 = .ok (.if_icmp .ne 9, 3) := by decide +kernel
theorem dX12_workEach_13 : decode cX12_workEach 13 = .ok (.aload_n 0, 1) := by decide +kernel
theorem dX12_workEach_14 : decode cX12_workEach 14 = .ok (.iload_n 1, 1) := by decide +kernel
theorem dX12_workEach_15 : decode cX12_workEach 15 = .ok (.invokevirtual 637, 3) := by decide +kernel
theorem dX12_workEach_18 : decode cX12_workEach 18 = .ok (.ireturn, 1) := by decide +kernel
theorem dX12_workEach_19 : decode cX12_workEach 19 = .ok (.aload_n 0, 1) := by decide +kernel
theorem dX12_workEach_20 : decode cX12_workEach 20 = .ok (.iload_n 1, 1) := by decide +kernel
theorem dX12_workEach_21 : decode cX12_workEach 21 = .ok (.iconst 2, 1) := by decide +kernel
theorem dX12_workEach_22 : decode cX12_workEach 22 = .ok (.iadd, 1) := by decide +kernel
theorem dX12_workEach_23 : decode cX12_workEach 23 = .ok (.bipush 47, 2) := by decide +kernel
theorem dX12_workEach_25 : decode cX12_workEach 25 = .ok (.invokevirtual 310, 3) := by decide +kernel
theorem dX12_workEach_28 : decode cX12_workEach 28 = .ok (.aload_n 0, 1) := by decide +kernel
theorem dX12_workEach_29 : decode cX12_workEach 29 = .ok (.getfield 268, 3) := by decide +kernel
theorem dX12_workEach_32 : decode cX12_workEach 32 = .ok (.iconst 1, 1) := by decide +kernel
theorem dX12_workEach_33 : decode cX12_workEach 33 = .ok (.iadd, 1) := by decide +kernel
theorem dX12_workEach_34 : decode cX12_workEach 34 = .ok (.istore_n 3, 1) := by decide +kernel
theorem dX12_workEach_35 : decode cX12_workEach 35 = .ok (.aload_n 0, 1) := by decide +kernel
theorem dX12_workEach_36 : decode cX12_workEach 36 = .ok (.sipush 429, 3) := by decide +kernel
theorem dX12_workEach_39 : decode cX12_workEach 39 = .ok (.iconst 0, 1) := by decide +kernel
theorem dX12_workEach_40 : decode cX12_workEach 40 = .ok (.invokevirtual 292, 3) := by decide +kernel
theorem dX12_workEach_43 : decode cX12_workEach 43 = .ok (.iload_n 2, 1) := by decide +kernel
theorem dX12_workEach_44 : decode cX12_workEach 44 = .ok (.bipush 103, 2) := by decide +kernel
theorem dX12_workEach_46 : decode cX12_workEach 46 = .ok (.if_icmp .ne 7, 3) := by decide +kernel
theorem dX12_workEach_49 : decode cX12_workEach 49 = .ok (.iconst 1, 1) := by decide +kernel
theorem dX12_workEach_50 : decode cX12_workEach 50 = .ok (.goto 4, 3) := by decide +kernel
theorem dX12_workEach_53 : decode cX12_workEach 53 = .ok (.iconst 0, 1) := by decide +kernel
theorem dX12_workEach_54 : decode cX12_workEach 54 = .ok (.if_icmp .ne 11, 3) := by decide +kernel
theorem dX12_workEach_57 : decode cX12_workEach 57 = .ok (.aload_n 0, 1) := by decide +kernel
theorem dX12_workEach_58 : decode cX12_workEach 58 = .ok (.iload_n 3, 1) := by decide +kernel
theorem dX12_workEach_59 : decode cX12_workEach 59 = .ok (.invokevirtual 637, 3) := by decide +kernel
theorem dX12_workEach_62 : decode cX12_workEach 62 = .ok (.goto 4, 3) := by decide +kernel
theorem dX12_workEach_65 : decode cX12_workEach 65 = .ok (.iconst 0, 1) := by decide +kernel
theorem dX12_workEach_66 : decode cX12_workEach 66 = .ok (.ireturn, 1) := by decide +kernel
theorem dX12_putRest_0 : decode cX12_putRest 0 = .ok (.iconst 0, 1) := by decide +kernel
theorem dX12_putRest_1 : decode cX12_putRest 1 = .ok (.istore_n 1, 1) := by decide +kernel
theorem dX12_putRest_2 : decode cX12_putRest 2 = .ok (.aload_n 0, 1) := by decide +kernel
theorem dX12_putRest_3 : decode cX12_putRest 3 = .ok (.getfield 545, 3) := by decide +kernel
theorem dX12_putRest_6 : decode cX12_putRest 6 = .ok (.aload_n 0, 1) := by decide +kernel
theorem dX12_putRest_7 : decode cX12_putRest 7 = .ok (.getfield 563, 3) := by decide +kernel
theorem dX12_putRest_10 : decode cX12_putRest 10 = .ok (.if_icmp .ge 40, 3) := by decide +kernel
theorem dX12_putRest_13 : decode cX12_putRest 13 = .ok (.iload_n 1, 1) := by decide +kernel
theorem dX12_putRest_14 : decode cX12_putRest 14 = .ok (.ifCond .ne 36, 3) := by decide +kernel
theorem dX12_putRest_17 : decode cX12_putRest 17 = .ok (.aload_n 0, 1) := by decide +kernel
theorem dX12_putRest_18 : decode cX12_putRest 18 = .ok (.iconst 0, 1) := by decide +kernel
theorem dX12_putRest_19 : decode cX12_putRest 19 = .ok (.aload_n 0, 1) := by decide +kernel
theorem dX12_putRest_20 : decode cX12_putRest 20 = .ok (.getfield 545, 3) := by decide +kernel
theorem dX12_putRest_23 : decode cX12_putRest 23 = .ok (.iadd, 1) := by decide +kernel
theorem dX12_putRest_24 : decode cX12_putRest 24 = .ok (.aload_n 0, 1) := by decide +kernel
theorem dX12_putRest_25 : decode cX12_putRest 25 = .ok (.getfield 26, 3) := by decide +kernel
theorem dX12_putRest_28 : decode cX12_putRest 28 = .ok (.aload_n 0, 1) := by decide +kernel
theorem dX12_putRest_29 : decode cX12_putRest 29 = .ok (.getfield 545, 3) := by decide +kernel
theorem dX12_putRest_32 : decode cX12_putRest 32 = .ok (.iaload, 1) := by decide +kernel
theorem dX12_putRest_33 : decode cX12_putRest 33 = .ok (.invokevirtual 539, 3) := by decide +kernel
theorem dX12_putRest_36 : decode cX12_putRest 36 = .ok (.istore_n 1, 1) := by decide +kernel
theorem dX12_putRest_37 : decode cX12_putRest 37 = .ok (.aload_n 0, 1) := by decide +kernel
theorem dX12_putRest_38 : decode cX12_putRest 38 = .ok (.dup, 1) := by decide +kernel
theorem dX12_putRest_39 : decode cX12_putRest 39 = .ok (.getfield 545, 3) := by decide +kernel
theorem dX12_putRest_42 : decode cX12_putRest 42 = .ok (.iconst 1, 1) := by decide +kernel
theorem dX12_putRest_43 : decode cX12_putRest 43 = .ok (.iadd, 1) := by decide +kernel
theorem dX12_putRest_44 : decode cX12_putRest 44 = .ok (.putfield 545, 3) := by decide +kernel
theorem dX12_putRest_47 : decode cX12_putRest 47 = .ok (.goto (-45), 3) := by decide +kernel
theorem dX12_putRest_50 : decode cX12_putRest 50 = .ok (.iload_n 1, 1) := by decide +kernel
theorem dX12_putRest_51 : decode cX12_putRest 51 = .ok (.ireturn, 1) := by decide +kernel
theorem dX12_workSteer_0 : decode cX12_workSteer 0 = .ok (.aload_n 0, 1) := by decide +kernel
theorem dX12_workSteer_1 : decode cX12_workSteer 1 = .ok (.getfield 44, 3) := by decide +kernel
theorem dX12_workSteer_4 : decode cX12_workSteer 4 = .ok (.iload_n 1, 1) := by decide +kernel
theorem dX12_workSteer_5 : decode cX12_workSteer 5 = .ok (.iaload, 1) := by decide +kernel
theorem dX12_workSteer_6 : decode cX12_workSteer 6 = .ok (.istore_n 2, 1) := by decide +kernel
theorem dX12_workSteer_7 : decode cX12_workSteer 7 = .ok (.iload_n 2, 1) := by decide +kernel
theorem dX12_workSteer_8 : decode cX12_workSteer 8 = .ok (.bipush 98, 2) := by decide +kernel
theorem dX12_workSteer_10 : decode cX12_workSteer 10 = .ok (.if_icmp .ne 9, 3) := by decide +kernel
theorem dX12_workSteer_13 : decode cX12_workSteer 13 = .ok (.aload_n 0, 1) := by decide +kernel
theorem dX12_workSteer_14 : decode cX12_workSteer 14 = .ok (.iload_n 1, 1) := by decide +kernel
theorem dX12_workSteer_15 : decode cX12_workSteer 15 = .ok (.invokevirtual 509, 3) := by decide +kernel
theorem dX12_workSteer_18 : decode cX12_workSteer 18 = .ok (.ireturn, 1) := by decide +kernel
theorem dX12_workSteer_19 : decode cX12_workSteer 19 = .ok (.iload_n 2, 1) := by decide +kernel
theorem dX12_workSteer_20 : decode cX12_workSteer 20 = .ok (.bipush 84, 2) := by decide +kernel
theorem dX12_workSteer_22 : decode cX12_workSteer 22 = .ok (.if_icmp .ne 27, 3) := by decide +kernel
theorem dX12_workSteer_25 : decode cX12_workSteer 25 = .ok (.aload_n 0, 1) := by decide +kernel
theorem dX12_workSteer_26 : decode cX12_workSteer 26 = .ok (.getfield 385, 3) := by decide +kernel
theorem dX12_workSteer_29 : decode cX12_workSteer 29 = .ok (.istore_n 3, 1) := by decide +kernel
theorem dX12_workSteer_30 : decode cX12_workSteer 30 = .ok (.aload_n 0, 1) := by decide +kernel
theorem dX12_workSteer_31 : decode cX12_workSteer 31 = .ok (.iconst 0, 1) := by decide +kernel
theorem dX12_workSteer_32 : decode cX12_workSteer 32 = .ok (.putfield 385, 3) := by decide +kernel
theorem dX12_workSteer_35 : decode cX12_workSteer 35 = .ok (.iload_n 3, 1) := by decide +kernel
theorem dX12_workSteer_36 : decode cX12_workSteer 36 = .ok (.ifCond .eq 11, 3) := by decide +kernel
theorem dX12_workSteer_39 : decode cX12_workSteer 39 = .ok (.aload_n 0, 1) := by decide +kernel
theorem dX12_workSteer_40 : decode cX12_workSteer 40 = .ok (.iload_n 1, 1) := by decide +kernel
theorem dX12_workSteer_41 : decode cX12_workSteer 41 = .ok (.invokevirtual 509, 3) := by decide +kernel
theorem dX12_workSteer_44 : decode cX12_workSteer 44 = .ok (.goto 4, 3) := by decide +kernel
theorem dX12_workSteer_47 : decode cX12_workSteer 47 = .ok (.iconst 0, 1) := by decide +kernel
theorem dX12_workSteer_48 : decode cX12_workSteer 48 = .ok (.ireturn, 1) := by decide +kernel
theorem dX12_workSteer_49 : decode cX12_workSteer 49 = .ok (.aload_n 0, 1) := by decide +kernel
theorem dX12_workSteer_50 : decode cX12_workSteer 50 = .ok (.invokevirtual 640, 3) := by decide +kernel
theorem dX12_workSteer_53 : decode cX12_workSteer 53 = .ok (.istore_n 3, 1) := by decide +kernel
theorem dX12_workSteer_54 : decode cX12_workSteer 54 = .ok (.iload_n 3, 1) := by decide +kernel
theorem dX12_workSteer_55 : decode cX12_workSteer 55 = .ok (.ifCond .le 5, 3) := by decide +kernel
theorem dX12_workSteer_58 : decode cX12_workSteer 58 = .ok (.iload_n 3, 1) := by decide +kernel
theorem dX12_workSteer_59 : decode cX12_workSteer 59 = .ok (.ireturn, 1) := by decide +kernel
theorem dX12_workSteer_60 : decode cX12_workSteer 60 = .ok (.iload_n 2, 1) := by decide +kernel
theorem dX12_workSteer_61 : decode cX12_workSteer 61 = .ok (.bipush 113, 2) := by decide +kernel
theorem dX12_workSteer_63 : decode cX12_workSteer 63 = .ok (.if_icmp .ne 13, 3) := by decide +kernel
theorem dX12_workSteer_66 : decode cX12_workSteer 66 = .ok (.aload_n 0, 1) := by decide +kernel
theorem dX12_workSteer_67 : decode cX12_workSteer 67 = .ok (.iconst 1, 1) := by decide +kernel
theorem dX12_workSteer_68 : decode cX12_workSteer 68 = .ok (.putfield 643, 3) := by decide +kernel
theorem dX12_workSteer_71 : decode cX12_workSteer 71 = .ok (.aload_n 0, 1) := by decide +kernel
theorem dX12_workSteer_72 : decode cX12_workSteer 72 = .ok (.invokevirtual 646, 3) := by decide +kernel
theorem dX12_workSteer_75 : decode cX12_workSteer 75 = .ok (.ireturn, 1) := by decide +kernel
theorem dX12_workSteer_76 : decode cX12_workSteer 76 = .ok (.aload_n 0, 1) := by decide +kernel
theorem dX12_workSteer_77 : decode cX12_workSteer 77 = .ok (.getfield 545, 3) := by decide +kernel
theorem dX12_workSteer_80 : decode cX12_workSteer 80 = .ok (.aload_n 0, 1) := by decide +kernel
theorem dX12_workSteer_81 : decode cX12_workSteer 81 = .ok (.getfield 563, 3) := by decide +kernel
theorem dX12_workSteer_84 : decode cX12_workSteer 84 = .ok (.if_icmp .ne 11, 3) := by decide +kernel
theorem dX12_workSteer_87 : decode cX12_workSteer 87 = .ok (.aload_n 0, 1) := by decide +kernel
theorem dX12_workSteer_88 : decode cX12_workSteer 88 = .ok (.iconst 1, 1) := by decide +kernel
theorem dX12_workSteer_89 : decode cX12_workSteer 89 = .ok (.putfield 643, 3) := by decide +kernel
theorem dX12_workSteer_92 : decode cX12_workSteer 92 = .ok (.goto 7, 3) := by decide +kernel
theorem dX12_workSteer_95 : decode cX12_workSteer 95 = .ok (.aload_n 0, 1) := by decide +kernel
theorem dX12_workSteer_96 : decode cX12_workSteer 96 = .ok (.invokevirtual 649, 3) := by decide +kernel
theorem dX12_workSteer_99 : decode cX12_workSteer 99 = .ok (.iconst 0, 1) := by decide +kernel
theorem dX12_workSteer_100 : decode cX12_workSteer 100 = .ok (.ireturn, 1) := by decide +kernel
theorem dX12_workOrder_0 : decode cX12_workOrder 0 = .ok (.aload_n 0, 1) := by decide +kernel
theorem dX12_workOrder_1 : decode cX12_workOrder 1 = .ok (.iload_n 1, 1) := by decide +kernel
theorem dX12_workOrder_2 : decode cX12_workOrder 2 = .ok (.iconst 0, 1) := by decide +kernel
theorem dX12_workOrder_3 : decode cX12_workOrder 3 = .ok (.invokevirtual 470, 3) := by decide +kernel
theorem dX12_workOrder_6 : decode cX12_workOrder 6 = .ok (.istore_n 2, 1) := by decide +kernel
theorem dX12_workOrder_7 : decode cX12_workOrder 7 = .ok (.aload_n 0, 1) := by decide +kernel
theorem dX12_workOrder_8 : decode cX12_workOrder 8 = .ok (.iload_n 2, 1) := by decide +kernel
theorem dX12_workOrder_9 : decode cX12_workOrder 9 = .ok (.aload_n 0, 1) := by decide +kernel
theorem dX12_workOrder_10 : decode cX12_workOrder 10 = .ok (.getfield 146, 3) := by decide +kernel
theorem dX12_workOrder_13 : decode cX12_workOrder 13 = .ok (.if_icmp .ge 9, 3) := by decide +kernel
theorem dX12_workOrder_16 : decode cX12_workOrder 16 = .ok (.iload_n 2, 1) := by decide +kernel
theorem dX12_workOrder_17 : decode cX12_workOrder 17 = .ok (.iconst 1, 1) := by decide +kernel
theorem dX12_workOrder_18 : decode cX12_workOrder 18 = .ok (.iadd, 1) := by decide +kernel
theorem dX12_workOrder_19 : decode cX12_workOrder 19 = .ok (.goto 7, 3) := by decide +kernel
theorem dX12_workOrder_22 : decode cX12_workOrder 22 = .ok (.aload_n 0, 1) := by decide +kernel
theorem dX12_workOrder_23 : decode cX12_workOrder 23 = .ok (.getfield 146, 3) := by decide +kernel
theorem dX12_workOrder_26 : decode cX12_workOrder 26 = .ok (.putfield 506, 3) := by decide +kernel
theorem dX12_workOrder_29 : decode cX12_workOrder 29 = .ok (.aload_n 0, 1) := by decide +kernel
theorem dX12_workOrder_30 : decode cX12_workOrder 30 = .ok (.iload_n 1, 1) := by decide +kernel
theorem dX12_workOrder_31 : decode cX12_workOrder 31 = .ok (.invokevirtual 625, 3) := by decide +kernel
theorem dX12_workOrder_34 : decode cX12_workOrder 34 = .ok (.istore_n 3, 1) := by decide +kernel
theorem dX12_workOrder_35 : decode cX12_workOrder 35 = .ok (.iload_n 3, 1) := by decide +kernel
theorem dX12_workOrder_36 : decode cX12_workOrder 36 = .ok (.ifCond .le 5, 3) := by decide +kernel
theorem dX12_workOrder_39 : decode cX12_workOrder 39 = .ok (.iload_n 3, 1) := by decide +kernel
theorem dX12_workOrder_40 : decode cX12_workOrder 40 = .ok (.ireturn, 1) := by decide +kernel
theorem dX12_workOrder_41 : decode cX12_workOrder 41 = .ok (.aload_n 0, 1) := by decide +kernel
theorem dX12_workOrder_42 : decode cX12_workOrder 42 = .ok (.getfield 218, 3) := by decide +kernel
theorem dX12_workOrder_45 : decode cX12_workOrder 45 = .ok (.istore 4, 2) := by decide +kernel
theorem dX12_workOrder_47 : decode cX12_workOrder 47 = .ok (.aload_n 0, 1) := by decide +kernel
theorem dX12_workOrder_48 : decode cX12_workOrder 48 = .ok (.iload_n 1, 1) := by decide +kernel
theorem dX12_workOrder_49 : decode cX12_workOrder 49 = .ok (.invokevirtual 628, 3) := by decide +kernel
theorem dX12_workOrder_52 : decode cX12_workOrder 52 = .ok (.ifCond .ne 5, 3) := by decide +kernel
theorem dX12_workOrder_55 : decode cX12_workOrder 55 = .ok (.iconst 0, 1) := by decide +kernel
theorem dX12_workOrder_56 : decode cX12_workOrder 56 = .ok (.ireturn, 1) := by decide +kernel
theorem dX12_workOrder_57 : decode cX12_workOrder 57 = .ok (.aload_n 0, 1) := by decide +kernel
theorem dX12_workOrder_58 : decode cX12_workOrder 58 = .ok (.getfield 44, 3) := by decide +kernel
theorem dX12_workOrder_61 : decode cX12_workOrder 61 = .ok (.iload 4, 2) := by decide +kernel
theorem dX12_workOrder_63 : decode cX12_workOrder 63 = .ok (.iaload, 1) := by decide +kernel
theorem dX12_workOrder_64 : decode cX12_workOrder 64 = .ok (.istore 5, 2) := by decide +kernel
theorem dX12_workOrder_66 : decode cX12_workOrder 66 = .ok (.iload 5, 2) := by decide +kernel
theorem dX12_workOrder_68 : decode cX12_workOrder 68 = .ok (.bipush 58, 2) := by decide +kernel
theorem dX12_workOrder_70 : decode cX12_workOrder 70 = .ok (.if_icmp .ne 5, 3) := by decide +kernel
theorem dX12_workOrder_73 : decode cX12_workOrder 73 = .ok (.iconst 0, 1) := by decide +kernel
theorem dX12_workOrder_74 : decode cX12_workOrder 74 = .ok (.ireturn, 1) := by decide +kernel
theorem dX12_workOrder_75 : decode cX12_workOrder 75 = .ok (.iload 5, 2) := by decide +kernel
theorem dX12_workOrder_77 : decode cX12_workOrder 77 = .ok (.bipush 113, 2) := by decide +kernel
theorem dX12_workOrder_79 : decode cX12_workOrder 79 = .ok (.if_icmp .eq 24, 3) := by decide +kernel
theorem dX12_workOrder_82 : decode cX12_workOrder 82 = .ok (.iload 5, 2) := by decide +kernel
theorem dX12_workOrder_84 : decode cX12_workOrder 84 = .ok (.bipush 98, 2) := by decide +kernel
theorem dX12_workOrder_86 : decode cX12_workOrder 86 = .ok (.if_icmp .eq 17, 3) := by decide +kernel
theorem dX12_workOrder_89 : decode cX12_workOrder 89 = .ok (.iload 5, 2) := by decide +kernel
theorem dX12_workOrder_91 : decode cX12_workOrder 91 = .ok (.bipush 84, 2) := by decide +kernel
theorem dX12_workOrder_93 : decode cX12_workOrder 93 = .ok (.if_icmp .eq 10, 3) := by decide +kernel
theorem dX12_workOrder_96 : decode cX12_workOrder 96 = .ok (.iload 5, 2) := by decide +kernel
theorem dX12_workOrder_98 : decode cX12_workOrder 98 = .ok (.bipush 78, 2) := by decide +kernel
theorem dX12_workOrder_100 : decode cX12_workOrder 100 = .ok (.if_icmp .ne 10, 3) := by decide +kernel
theorem dX12_workOrder_103 : decode cX12_workOrder 103 = .ok (.aload_n 0, 1) := by decide +kernel
theorem dX12_workOrder_104 : decode cX12_workOrder 104 = .ok (.iload 4, 2) := by decide +kernel
theorem dX12_workOrder_106 : decode cX12_workOrder 106 = .ok (.invokevirtual 652, 3) := by decide +kernel
theorem dX12_workOrder_109 : decode cX12_workOrder 109 = .ok (.ireturn, 1) := by decide +kernel
theorem dX12_workOrder_110 : decode cX12_workOrder 110 = .ok (.iload 5, 2) := by decide +kernel
theorem dX12_workOrder_112 : decode cX12_workOrder 112 = .ok (.bipush 103, 2) := by decide +kernel
theorem dX12_workOrder_114 : decode cX12_workOrder 114 = .ok (.if_icmp .eq 17, 3) := by decide +kernel
theorem dX12_workOrder_117 : decode cX12_workOrder 117 = .ok (.iload 5, 2) := by decide +kernel
theorem dX12_workOrder_119 : decode cX12_workOrder 119 = .ok (.bipush 71, 2) := by decide +kernel
theorem dX12_workOrder_121 : decode cX12_workOrder 121 = .ok (.if_icmp .eq 10, 3) := by decide +kernel
theorem dX12_workOrder_124 : decode cX12_workOrder 124 = .ok (.iload 5, 2) := by decide +kernel
theorem dX12_workOrder_126 : decode cX12_workOrder 126 = .ok (.bipush 123, 2) := by decide +kernel
theorem dX12_workOrder_128 : decode cX12_workOrder 128 = .ok (.if_icmp .ne 12, 3) := by decide +kernel
theorem dX12_workOrder_131 : decode cX12_workOrder 131 = .ok (.aload_n 0, 1) := by decide +kernel
theorem dX12_workOrder_132 : decode cX12_workOrder 132 = .ok (.iload 4, 2) := by decide +kernel
theorem dX12_workOrder_134 : decode cX12_workOrder 134 = .ok (.invokevirtual 655, 3) := by decide +kernel
theorem dX12_workOrder_137 : decode cX12_workOrder 137 = .ok (.goto 10, 3) := by decide +kernel
theorem dX12_workOrder_140 : decode cX12_workOrder 140 = .ok (.aload_n 0, 1) := by decide +kernel
theorem dX12_workOrder_141 : decode cX12_workOrder 141 = .ok (.iload_n 1, 1) := by decide +kernel
theorem dX12_workOrder_142 : decode cX12_workOrder 142 = .ok (.iload 4, 2) := by decide +kernel
theorem dX12_workOrder_144 : decode cX12_workOrder 144 = .ok (.invokevirtual 631, 3) := by decide +kernel
theorem dX12_workOrder_147 : decode cX12_workOrder 147 = .ok (.ireturn, 1) := by decide +kernel
theorem dX12_workLine_0 : decode cX12_workLine 0 = .ok (.iconst 0, 1) := by decide +kernel
theorem dX12_workLine_1 : decode cX12_workLine 1 = .ok (.istore_n 1, 1) := by decide +kernel
theorem dX12_workLine_2 : decode cX12_workLine 2 = .ok (.iconst 0, 1) := by decide +kernel
theorem dX12_workLine_3 : decode cX12_workLine 3 = .ok (.istore_n 2, 1) := by decide +kernel
theorem dX12_workLine_4 : decode cX12_workLine 4 = .ok (.iload_n 1, 1) := by decide +kernel
theorem dX12_workLine_5 : decode cX12_workLine 5 = .ok (.aload_n 0, 1) := by decide +kernel
theorem dX12_workLine_6 : decode cX12_workLine 6 = .ok (.getfield 146, 3) := by decide +kernel
theorem dX12_workLine_9 : decode cX12_workLine 9 = .ok (.if_icmp .ge 35, 3) := by decide +kernel
theorem dX12_workLine_12 : decode cX12_workLine 12 = .ok (.iload_n 2, 1) := by decide +kernel
theorem dX12_workLine_13 : decode cX12_workLine 13 = .ok (.ifCond .ne 31, 3) := by decide +kernel
theorem dX12_workLine_16 : decode cX12_workLine 16 = .ok (.aload_n 0, 1) := by decide +kernel
theorem dX12_workLine_17 : decode cX12_workLine 17 = .ok (.getfield 557, 3) := by decide +kernel
theorem dX12_workLine_20 : decode cX12_workLine 20 = .ok (.ifCond .eq 24, 3) := by decide +kernel
theorem dX12_workLine_23 : decode cX12_workLine 23 = .ok (.aload_n 0, 1) := by decide +kernel
theorem dX12_workLine_24 : decode cX12_workLine 24 = .ok (.getfield 643, 3) := by decide +kernel
theorem dX12_workLine_27 : decode cX12_workLine 27 = .ok (.ifCond .ne 17, 3) := by decide +kernel
theorem dX12_workLine_30 : decode cX12_workLine 30 = .ok (.aload_n 0, 1) := by decide +kernel
theorem dX12_workLine_31 : decode cX12_workLine 31 = .ok (.iload_n 1, 1) := by decide +kernel
theorem dX12_workLine_32 : decode cX12_workLine 32 = .ok (.invokevirtual 658, 3) := by decide +kernel
theorem dX12_workLine_35 : decode cX12_workLine 35 = .ok (.istore_n 2, 1) := by decide +kernel
theorem dX12_workLine_36 : decode cX12_workLine 36 = .ok (.aload_n 0, 1) := by decide +kernel
theorem dX12_workLine_37 : decode cX12_workLine 37 = .ok (.getfield 506, 3) := by decide +kernel
theorem dX12_workLine_40 : decode cX12_workLine 40 = .ok (.istore_n 1, 1) := by decide +kernel
theorem dX12_workLine_41 : decode cX12_workLine 41 = .ok (.goto (-37), 3) := by decide +kernel
theorem dX12_workLine_44 : decode cX12_workLine 44 = .ok (.iload_n 2, 1) := by decide +kernel
theorem dX12_workLine_45 : decode cX12_workLine 45 = .ok (.ifCond .gt 10, 3) := by decide +kernel
theorem dX12_workLine_48 : decode cX12_workLine 48 = .ok (.aload_n 0, 1) := by decide +kernel
theorem dX12_workLine_49 : decode cX12_workLine 49 = .ok (.getfield 643, 3) := by decide +kernel
theorem dX12_workLine_52 : decode cX12_workLine 52 = .ok (.ifCond .eq 7, 3) := by decide +kernel
theorem dX12_workLine_55 : decode cX12_workLine 55 = .ok (.iload_n 2, 1) := by decide +kernel
theorem dX12_workLine_56 : decode cX12_workLine 56 = .ok (.goto 7, 3) := by decide +kernel
theorem dX12_workLine_59 : decode cX12_workLine 59 = .ok (.aload_n 0, 1) := by decide +kernel
theorem dX12_workLine_60 : decode cX12_workLine 60 = .ok (.invokevirtual 640, 3) := by decide +kernel
theorem dX12_workLine_63 : decode cX12_workLine 63 = .ok (.ireturn, 1) := by decide +kernel
theorem dX12_emptyFile_0 : decode cX12_emptyFile 0 = .ok (.aload_n 0, 1) := by decide +kernel
theorem dX12_emptyFile_1 : decode cX12_emptyFile 1 = .ok (.getfield 44, 3) := by decide +kernel
theorem dX12_emptyFile_4 : decode cX12_emptyFile 4 = .ok (.iload_n 1, 1) := by decide +kernel
theorem dX12_emptyFile_5 : decode cX12_emptyFile 5 = .ok (.iaload, 1) := by decide +kernel
theorem dX12_emptyFile_6 : decode cX12_emptyFile 6 = .ok (.bipush 119, 2) := by decide +kernel
theorem dX12_emptyFile_8 : decode cX12_emptyFile 8 = .ok (.if_icmp .ne 20, 3) := by decide +kernel
theorem dX12_emptyFile_11 : decode cX12_emptyFile 11 = .ok (.aload_n 0, 1) := by decide +kernel
theorem dX12_emptyFile_12 : decode cX12_emptyFile 12 = .ok (.getfield 38, 3) := by decide +kernel
theorem dX12_emptyFile_15 : decode cX12_emptyFile 15 = .ok (.aload_n 0, 1) := by decide +kernel
theorem dX12_emptyFile_16 : decode cX12_emptyFile 16 = .ok (.getfield 44, 3) := by decide +kernel
theorem dX12_emptyFile_19 : decode cX12_emptyFile 19 = .ok (.iload_n 1, 1) := by decide +kernel
theorem dX12_emptyFile_20 : decode cX12_emptyFile 20 = .ok (.iconst 1, 1) := by decide +kernel
theorem dX12_emptyFile_21 : decode cX12_emptyFile 21 = .ok (.iadd, 1) := by decide +kernel
theorem dX12_emptyFile_22 : decode cX12_emptyFile 22 = .ok (.iaload, 1) := by decide +kernel
theorem dX12_emptyFile_23 : decode cX12_emptyFile 23 = .ok (.bipush 48, 2) := by decide +kernel
theorem dX12_emptyFile_25 : decode cX12_emptyFile 25 = .ok (.isub, 1) := by decide +kernel
theorem dX12_emptyFile_26 : decode cX12_emptyFile 26 = .ok (.iconst 0, 1) := by decide +kernel
theorem dX12_emptyFile_27 : decode cX12_emptyFile 27 = .ok (.iastore, 1) := by decide +kernel
theorem dX12_emptyFile_28 : decode cX12_emptyFile 28 = .ok (.return_, 1) := by decide +kernel
theorem dX12_emptyInner_0 : decode cX12_emptyInner 0 = .ok (.aload_n 0, 1) := by decide +kernel
theorem dX12_emptyInner_1 : decode cX12_emptyInner 1 = .ok (.iload_n 1, 1) := by decide +kernel
theorem dX12_emptyInner_2 : decode cX12_emptyInner 2 = .ok (.invokevirtual 458, 3) := by decide +kernel
theorem dX12_emptyInner_5 : decode cX12_emptyInner 5 = .ok (.aload_n 0, 1) := by decide +kernel
theorem dX12_emptyInner_6 : decode cX12_emptyInner 6 = .ok (.aload_n 0, 1) := by decide +kernel
theorem dX12_emptyInner_7 : decode cX12_emptyInner 7 = .ok (.getfield 218, 3) := by decide +kernel
theorem dX12_emptyInner_10 : decode cX12_emptyInner 10 = .ok (.invokevirtual 661, 3) := by decide +kernel
theorem dX12_emptyInner_13 : decode cX12_emptyInner 13 = .ok (.return_, 1) := by decide +kernel
theorem dX12_emptyParts_0 : decode cX12_emptyParts 0 = .ok (.aload_n 0, 1) := by decide +kernel
theorem dX12_emptyParts_1 : decode cX12_emptyParts 1 = .ok (.getfield 44, 3) := by decide +kernel
theorem dX12_emptyParts_4 : decode cX12_emptyParts 4 = .ok (.iload_n 1, 1) := by decide +kernel
theorem dX12_emptyParts_5 : decode cX12_emptyParts 5 = .ok (.iaload, 1) := by decide +kernel
theorem dX12_emptyParts_6 : decode cX12_emptyParts 6 = .ok (.bipush 123, 2) := by decide +kernel
theorem dX12_emptyParts_8 : decode cX12_emptyParts 8 = .ok (.if_icmp .ne 9, 3) := by decide +kernel
theorem dX12_emptyParts_11 : decode cX12_emptyParts 11 = .ok (.iload_n 1, 1) := by decide +kernel
theorem dX12_emptyParts_12 : decode cX12_emptyParts 12 = .ok (.iconst 1, 1) := by decide +kernel
theorem dX12_emptyParts_13 : decode cX12_emptyParts 13 = .ok (.iadd, 1) := by decide +kernel
theorem dX12_emptyParts_14 : decode cX12_emptyParts 14 = .ok (.goto 4, 3) := by decide +kernel
theorem dX12_emptyParts_17 : decode cX12_emptyParts 17 = .ok (.iload_n 1, 1) := by decide +kernel
theorem dX12_emptyParts_18 : decode cX12_emptyParts 18 = .ok (.istore_n 2, 1) := by decide +kernel
theorem dX12_emptyParts_19 : decode cX12_emptyParts 19 = .ok (.iconst 1, 1) := by decide +kernel
theorem dX12_emptyParts_20 : decode cX12_emptyParts 20 = .ok (.istore_n 3, 1) := by decide +kernel
theorem dX12_emptyParts_21 : decode cX12_emptyParts 21 = .ok (.iload_n 3, 1) := by decide +kernel
theorem dX12_emptyParts_22 : decode cX12_emptyParts 22 = .ok (.ifCond .eq 49, 3) := by decide +kernel
theorem dX12_emptyParts_25 : decode cX12_emptyParts 25 = .ok (.aload_n 0, 1) := by decide +kernel
theorem dX12_emptyParts_26 : decode cX12_emptyParts 26 = .ok (.iload_n 2, 1) := by decide +kernel
theorem dX12_emptyParts_27 : decode cX12_emptyParts 27 = .ok (.invokevirtual 664, 3) := by decide +kernel
theorem dX12_emptyParts_30 : decode cX12_emptyParts 30 = .ok (.aload_n 0, 1) := by decide +kernel
theorem dX12_emptyParts_31 : decode cX12_emptyParts 31 = .ok (.iload_n 2, 1) := by decide +kernel
theorem dX12_emptyParts_32 : decode cX12_emptyParts 32 = .ok (.iconst 1, 1) := by decide +kernel
theorem dX12_emptyParts_33 : decode cX12_emptyParts 33 = .ok (.invokevirtual 470, 3) := by decide +kernel
theorem dX12_emptyParts_36 : decode cX12_emptyParts 36 = .ok (.istore_n 2, 1) := by decide +kernel
theorem dX12_emptyParts_37 : decode cX12_emptyParts 37 = .ok (.aload_n 0, 1) := by decide +kernel
theorem dX12_emptyParts_38 : decode cX12_emptyParts 38 = .ok (.getfield 44, 3) := by decide +kernel
theorem dX12_emptyParts_41 : decode cX12_emptyParts 41 = .ok (.iload_n 1, 1) := by decide +kernel
theorem dX12_emptyParts_42 : decode cX12_emptyParts 42 = .ok (.iaload, 1) := by decide +kernel
theorem dX12_emptyParts_43 : decode cX12_emptyParts 43 = .ok (.bipush 123, 2) := by decide +kernel
theorem dX12_emptyParts_45 : decode cX12_emptyParts 45 = .ok (.if_icmp .ne 18, 3) := by decide +kernel
theorem dX12_emptyParts_48 : decode cX12_emptyParts 48 = .ok (.aload_n 0, 1) := by decide +kernel
theorem dX12_emptyParts_49 : decode cX12_emptyParts 49 = .ok (.getfield 44, 3) := by decide +kernel
theorem dX12_emptyParts_52 : decode cX12_emptyParts 52 = .ok (.iload_n 2, 1) := by decide +kernel
theorem dX12_emptyParts_53 : decode cX12_emptyParts 53 = .ok (.iaload, 1) := by decide +kernel
theorem dX12_emptyParts_54 : decode cX12_emptyParts 54 = .ok (.bipush 59, 2) := by decide +kernel
theorem dX12_emptyParts_56 : decode cX12_emptyParts 56 = .ok (.if_icmp .ne 7, 3) := by decide +kernel
theorem dX12_emptyParts_59 : decode cX12_emptyParts 59 = .ok (.iconst 1, 1) := by decide +kernel
theorem dX12_emptyParts_60 : decode cX12_emptyParts 60 = .ok (.goto 4, 3) := by decide +kernel
theorem dX12_emptyParts_63 : decode cX12_emptyParts 63 = .ok (.iconst 0, 1) := by decide +kernel
theorem dX12_emptyParts_64 : decode cX12_emptyParts 64 = .ok (.istore_n 3, 1) := by decide +kernel
theorem dX12_emptyParts_65 : decode cX12_emptyParts 65 = .ok (.iinc 2 1, 3) := by decide +kernel
theorem dX12_emptyParts_68 : decode cX12_emptyParts 68 = .ok (.goto (-47), 3) := by decide +kernel
theorem dX12_emptyParts_71 : decode cX12_emptyParts 71 = .ok (.return_, 1) := by decide +kernel
theorem dX12_emptyFiles_0 : decode cX12_emptyFiles 0 = .ok (.iconst 0, 1) := by decide +kernel
theorem dX12_emptyFiles_1 : decode cX12_emptyFiles 1 = .ok (.istore_n 1, 1) := by decide +kernel
theorem dX12_emptyFiles_2 : decode cX12_emptyFiles 2 = .ok (.iload_n 1, 1) := by decide +kernel
theorem dX12_emptyFiles_3 : decode cX12_emptyFiles 3 = .ok (.aload_n 0, 1) := by decide +kernel
theorem dX12_emptyFiles_4 : decode cX12_emptyFiles 4 = .ok (.getfield 146, 3) := by decide +kernel
theorem dX12_emptyFiles_7 : decode cX12_emptyFiles 7 = .ok (.if_icmp .ge 93, 3) := by decide +kernel
theorem dX12_emptyFiles_10 : decode cX12_emptyFiles 10 = .ok (.aload_n 0, 1) := by decide +kernel
theorem dX12_emptyFiles_11 : decode cX12_emptyFiles 11 = .ok (.iload_n 1, 1) := by decide +kernel
theorem dX12_emptyFiles_12 : decode cX12_emptyFiles 12 = .ok (.invokevirtual 458, 3) := by decide +kernel
theorem dX12_emptyFiles_15 : decode cX12_emptyFiles 15 = .ok (.aload_n 0, 1) := by decide +kernel
theorem dX12_emptyFiles_16 : decode cX12_emptyFiles 16 = .ok (.getfield 218, 3) := by decide +kernel
theorem dX12_emptyFiles_19 : decode cX12_emptyFiles 19 = .ok (.istore_n 2, 1) := by decide +kernel
theorem dX12_emptyFiles_20 : decode cX12_emptyFiles 20 = .ok (.aload_n 0, 1) := by decide +kernel
theorem dX12_emptyFiles_21 : decode cX12_emptyFiles 21 = .ok (.getfield 44, 3) := by decide +kernel
theorem dX12_emptyFiles_24 : decode cX12_emptyFiles 24 = .ok (.iload_n 2, 1) := by decide +kernel
theorem dX12_emptyFiles_25 : decode cX12_emptyFiles 25 = .ok (.iaload, 1) := by decide +kernel
theorem dX12_emptyFiles_26 : decode cX12_emptyFiles 26 = .ok (.bipush 103, 2) := by decide +kernel
theorem dX12_emptyFiles_28 : decode cX12_emptyFiles 28 = .ok (.if_icmp .eq 14, 3) := by decide +kernel
theorem dX12_emptyFiles_31 : decode cX12_emptyFiles 31 = .ok (.aload_n 0, 1) := by decide +kernel
theorem dX12_emptyFiles_32 : decode cX12_emptyFiles 32 = .ok (.getfield 44, 3) := by decide +kernel
theorem dX12_emptyFiles_35 : decode cX12_emptyFiles 35 = .ok (.iload_n 2, 1) := by decide +kernel
theorem dX12_emptyFiles_36 : decode cX12_emptyFiles 36 = .ok (.iaload, 1) := by decide +kernel
theorem dX12_emptyFiles_37 : decode cX12_emptyFiles 37 = .ok (.bipush 71, 2) := by decide +kernel
theorem dX12_emptyFiles_39 : decode cX12_emptyFiles 39 = .ok (.if_icmp .ne 25, 3) := by decide +kernel
theorem dX12_emptyFiles_42 : decode cX12_emptyFiles 42 = .ok (.aload_n 0, 1) := by decide +kernel
theorem dX12_emptyFiles_43 : decode cX12_emptyFiles 43 = .ok (.iload_n 2, 1) := by decide +kernel
theorem dX12_emptyFiles_44 : decode cX12_emptyFiles 44 = .ok (.iconst 2, 1) := by decide +kernel
theorem dX12_emptyFiles_45 : decode cX12_emptyFiles 45 = .ok (.iadd, 1) := by decide +kernel
theorem dX12_emptyFiles_46 : decode cX12_emptyFiles 46 = .ok (.bipush 47, 2) := by decide +kernel
theorem dX12_emptyFiles_48 : decode cX12_emptyFiles 48 = .ok (.invokevirtual 310, 3) := by decide +kernel
theorem dX12_emptyFiles_51 : decode cX12_emptyFiles 51 = .ok (.aload_n 0, 1) := by decide +kernel
theorem dX12_emptyFiles_52 : decode cX12_emptyFiles 52 = .ok (.aload_n 0, 1) := by decide +kernel
theorem dX12_emptyFiles_53 : decode cX12_emptyFiles 53 = .ok (.getfield 268, 3) := by decide +kernel
theorem dX12_emptyFiles_56 : decode cX12_emptyFiles 56 = .ok (.iconst 1, 1) := by decide +kernel
theorem dX12_emptyFiles_57 : decode cX12_emptyFiles 57 = .ok (.iadd, 1) := by decide +kernel
theorem dX12_emptyFiles_58 : decode cX12_emptyFiles 58 = .ok (.invokevirtual 667, 3) := by decide +kernel
theorem dX12_emptyFiles_61 : decode cX12_emptyFiles 61 = .ok (.goto 27, 3) := by decide +kernel
theorem dX12_emptyFiles_64 : decode cX12_emptyFiles 64 = .ok (.aload_n 0, 1) := by decide +kernel
theorem dX12_emptyFiles_65 : decode cX12_emptyFiles 65 = .ok (.getfield 44, 3) := by decide +kernel
theorem dX12_emptyFiles_68 : decode cX12_emptyFiles 68 = .ok (.iload_n 2, 1) := by decide +kernel
theorem dX12_emptyFiles_69 : decode cX12_emptyFiles 69 = .ok (.iaload, 1) := by decide +kernel
theorem dX12_emptyFiles_70 : decode cX12_emptyFiles 70 = .ok (.bipush 123, 2) := by decide +kernel
theorem dX12_emptyFiles_72 : decode cX12_emptyFiles 72 = .ok (.if_icmp .ne 11, 3) := by decide +kernel
theorem dX12_emptyFiles_75 : decode cX12_emptyFiles 75 = .ok (.aload_n 0, 1) := by decide +kernel
theorem dX12_emptyFiles_76 : decode cX12_emptyFiles 76 = .ok (.iload_n 2, 1) := by decide +kernel
theorem dX12_emptyFiles_77 : decode cX12_emptyFiles 77 = .ok (.invokevirtual 667, 3) := by decide +kernel
theorem dX12_emptyFiles_80 : decode cX12_emptyFiles 80 = .ok (.goto 8, 3) := by decide +kernel
theorem dX12_emptyFiles_83 : decode cX12_emptyFiles 83 = .ok (.aload_n 0, 1) := by decide +kernel
theorem dX12_emptyFiles_84 : decode cX12_emptyFiles 84 = .ok (.iload_n 2, 1) := by decide +kernel
theorem dX12_emptyFiles_85 : decode cX12_emptyFiles 85 = .ok (.invokevirtual 661, 3) := by decide +kernel
theorem dX12_emptyFiles_88 : decode cX12_emptyFiles 88 = .ok (.aload_n 0, 1) := by decide +kernel
theorem dX12_emptyFiles_89 : decode cX12_emptyFiles 89 = .ok (.iload_n 1, 1) := by decide +kernel
theorem dX12_emptyFiles_90 : decode cX12_emptyFiles 90 = .ok (.iconst 0, 1) := by decide +kernel
theorem dX12_emptyFiles_91 : decode cX12_emptyFiles 91 = .ok (.invokevirtual 470, 3) := by decide +kernel
theorem dX12_emptyFiles_94 : decode cX12_emptyFiles 94 = .ok (.iconst 1, 1) := by decide +kernel
theorem dX12_emptyFiles_95 : decode cX12_emptyFiles 95 = .ok (.iadd, 1) := by decide +kernel
theorem dX12_emptyFiles_96 : decode cX12_emptyFiles 96 = .ok (.istore_n 1, 1) := by decide +kernel
theorem dX12_emptyFiles_97 : decode cX12_emptyFiles 97 = .ok (.goto (-95), 3) := by decide +kernel
theorem dX12_emptyFiles_100 : decode cX12_emptyFiles 100 = .ok (.return_, 1) := by decide +kernel
theorem dX12_becomeNew_0 : decode cX12_becomeNew 0 = .ok (.aload_n 0, 1) := by decide +kernel
theorem dX12_becomeNew_1 : decode cX12_becomeNew 1 = .ok (.aload_n 0, 1) := by decide +kernel
theorem dX12_becomeNew_2 : decode cX12_becomeNew 2 = .ok (.getfield 536, 3) := by decide +kernel
theorem dX12_becomeNew_5 : decode cX12_becomeNew 5 = .ok (.putfield 124, 3) := by decide +kernel
theorem dX12_becomeNew_8 : decode cX12_becomeNew 8 = .ok (.iconst 0, 1) := by decide +kernel
theorem dX12_becomeNew_9 : decode cX12_becomeNew 9 = .ok (.istore_n 1, 1) := by decide +kernel
theorem dX12_becomeNew_10 : decode cX12_becomeNew 10 = .ok (.iload_n 1, 1) := by decide +kernel
theorem dX12_becomeNew_11 : decode cX12_becomeNew 11 = .ok (.aload_n 0, 1) := by decide +kernel
theorem dX12_becomeNew_12 : decode cX12_becomeNew 12 = .ok (.getfield 536, 3) := by decide +kernel
theorem dX12_becomeNew_15 : decode cX12_becomeNew 15 = .ok (.if_icmp .ge 32, 3) := by decide +kernel
theorem dX12_becomeNew_18 : decode cX12_becomeNew 18 = .ok (.aload_n 0, 1) := by decide +kernel
theorem dX12_becomeNew_19 : decode cX12_becomeNew 19 = .ok (.bipush 41, 2) := by decide +kernel
theorem dX12_becomeNew_21 : decode cX12_becomeNew 21 = .ok (.iload_n 1, 1) := by decide +kernel
theorem dX12_becomeNew_22 : decode cX12_becomeNew 22 = .ok (.iadd, 1) := by decide +kernel
theorem dX12_becomeNew_23 : decode cX12_becomeNew 23 = .ok (.iconst 0, 1) := by decide +kernel
theorem dX12_becomeNew_24 : decode cX12_becomeNew 24 = .ok (.iload_n 1, 1) := by decide +kernel
theorem dX12_becomeNew_25 : decode cX12_becomeNew 25 = .ok (.iadd, 1) := by decide +kernel
theorem dX12_becomeNew_26 : decode cX12_becomeNew 26 = .ok (.invokevirtual 127, 3) := by decide +kernel
theorem dX12_becomeNew_29 : decode cX12_becomeNew 29 = .ok (.aload_n 0, 1) := by decide +kernel
theorem dX12_becomeNew_30 : decode cX12_becomeNew 30 = .ok (.getfield 26, 3) := by decide +kernel
theorem dX12_becomeNew_33 : decode cX12_becomeNew 33 = .ok (.iload_n 1, 1) := by decide +kernel
theorem dX12_becomeNew_34 : decode cX12_becomeNew 34 = .ok (.aload_n 0, 1) := by decide +kernel
theorem dX12_becomeNew_35 : decode cX12_becomeNew 35 = .ok (.getfield 29, 3) := by decide +kernel
theorem dX12_becomeNew_38 : decode cX12_becomeNew 38 = .ok (.iload_n 1, 1) := by decide +kernel
theorem dX12_becomeNew_39 : decode cX12_becomeNew 39 = .ok (.iaload, 1) := by decide +kernel
theorem dX12_becomeNew_40 : decode cX12_becomeNew 40 = .ok (.iastore, 1) := by decide +kernel
theorem dX12_becomeNew_41 : decode cX12_becomeNew 41 = .ok (.iinc 1 1, 3) := by decide +kernel
theorem dX12_becomeNew_44 : decode cX12_becomeNew 44 = .ok (.goto (-34), 3) := by decide +kernel
theorem dX12_becomeNew_47 : decode cX12_becomeNew 47 = .ok (.iconst 0, 1) := by decide +kernel
theorem dX12_becomeNew_48 : decode cX12_becomeNew 48 = .ok (.istore_n 1, 1) := by decide +kernel
theorem dX12_becomeNew_49 : decode cX12_becomeNew 49 = .ok (.iload_n 1, 1) := by decide +kernel
theorem dX12_becomeNew_50 : decode cX12_becomeNew 50 = .ok (.iconst 5, 1) := by decide +kernel
theorem dX12_becomeNew_51 : decode cX12_becomeNew 51 = .ok (.if_icmp .ge 47, 3) := by decide +kernel
theorem dX12_becomeNew_54 : decode cX12_becomeNew 54 = .ok (.aload_n 0, 1) := by decide +kernel
theorem dX12_becomeNew_55 : decode cX12_becomeNew 55 = .ok (.getfield 35, 3) := by decide +kernel
theorem dX12_becomeNew_58 : decode cX12_becomeNew 58 = .ok (.iload_n 1, 1) := by decide +kernel
theorem dX12_becomeNew_59 : decode cX12_becomeNew 59 = .ok (.aload_n 0, 1) := by decide +kernel
theorem dX12_becomeNew_60 : decode cX12_becomeNew 60 = .ok (.getfield 35, 3) := by decide +kernel
theorem dX12_becomeNew_63 : decode cX12_becomeNew 63 = .ok (.iload_n 1, 1) := by decide +kernel
theorem dX12_becomeNew_64 : decode cX12_becomeNew 64 = .ok (.iaload, 1) := by decide +kernel
theorem dX12_becomeNew_65 : decode cX12_becomeNew 65 = .ok (.ifCond .lt 25, 3) := by decide +kernel
theorem dX12_becomeNew_68 : decode cX12_becomeNew 68 = .ok (.aload_n 0, 1) := by decide +kernel
theorem dX12_becomeNew_69 : decode cX12_becomeNew 69 = .ok (.aload_n 0, 1) := by decide +kernel
theorem dX12_becomeNew_70 : decode cX12_becomeNew 70 = .ok (.getfield 35, 3) := by decide +kernel
theorem dX12_becomeNew_73 : decode cX12_becomeNew 73 = .ok (.iload_n 1, 1) := by decide +kernel
theorem dX12_becomeNew_74 : decode cX12_becomeNew 74 = .ok (.iaload, 1) := by decide +kernel
theorem dX12_becomeNew_75 : decode cX12_becomeNew 75 = .ok (.invokevirtual 307, 3) := by decide +kernel
theorem dX12_becomeNew_78 : decode cX12_becomeNew 78 = .ok (.ifCond .le 12, 3) := by decide +kernel
theorem dX12_becomeNew_81 : decode cX12_becomeNew 81 = .ok (.aload_n 0, 1) := by decide +kernel
theorem dX12_becomeNew_82 : decode cX12_becomeNew 82 = .ok (.getfield 35, 3) := by decide +kernel
theorem dX12_becomeNew_85 : decode cX12_becomeNew 85 = .ok (.iload_n 1, 1) := by decide +kernel
theorem dX12_becomeNew_86 : decode cX12_becomeNew 86 = .ok (.iaload, 1) := by decide +kernel
theorem dX12_becomeNew_87 : decode cX12_becomeNew 87 = .ok (.goto 4, 3) := by decide +kernel
theorem dX12_becomeNew_90 : decode cX12_becomeNew 90 = .ok (.iconst (-1), 1) := by decide +kernel
theorem dX12_becomeNew_91 : decode cX12_becomeNew 91 = .ok (.iastore, 1) := by decide +kernel
theorem dX12_becomeNew_92 : decode cX12_becomeNew 92 = .ok (.iinc 1 1, 3) := by decide +kernel
theorem dX12_becomeNew_95 : decode cX12_becomeNew 95 = .ok (.goto (-46), 3) := by decide +kernel
theorem dX12_becomeNew_98 : decode cX12_becomeNew 98 = .ok (.aload_n 0, 1) := by decide +kernel
theorem dX12_becomeNew_99 : decode cX12_becomeNew 99 = .ok (.aload_n 0, 1) := by decide +kernel
theorem dX12_becomeNew_100 : decode cX12_becomeNew 100 = .ok (.getfield 124, 3) := by decide +kernel
theorem dX12_becomeNew_103 : decode cX12_becomeNew 103 = .ok (.putfield 295, 3) := by decide +kernel
theorem dX12_becomeNew_106 : decode cX12_becomeNew 106 = .ok (.return_, 1) := by decide +kernel
theorem dX12_playLines_0 : decode cX12_playLines 0 = .ok (.aload_n 0, 1) := by decide +kernel
theorem dX12_playLines_1 : decode cX12_playLines 1 = .ok (.dup, 1) := by decide +kernel
theorem dX12_playLines_2 : decode cX12_playLines 2 = .ok (.getfield 497, 3) := by decide +kernel
theorem dX12_playLines_5 : decode cX12_playLines 5 = .ok (.iconst 1, 1) := by decide +kernel
theorem dX12_playLines_6 : decode cX12_playLines 6 = .ok (.iadd, 1) := by decide +kernel
theorem dX12_playLines_7 : decode cX12_playLines 7 = .ok (.putfield 497, 3) := by decide +kernel
theorem dX12_playLines_10 : decode cX12_playLines 10 = .ok (.aload_n 0, 1) := by decide +kernel
theorem dX12_playLines_11 : decode cX12_playLines 11 = .ok (.iconst 0, 1) := by decide +kernel
theorem dX12_playLines_12 : decode cX12_playLines 12 = .ok (.putfield 618, 3) := by decide +kernel
theorem dX12_playLines_15 : decode cX12_playLines 15 = .ok (.aload_n 0, 1) := by decide +kernel
theorem dX12_playLines_16 : decode cX12_playLines 16 = .ok (.aload_n 0, 1) := by decide +kernel
theorem dX12_playLines_17 : decode cX12_playLines 17 = .ok (.getfield 124, 3) := by decide +kernel
theorem dX12_playLines_20 : decode cX12_playLines 20 = .ok (.putfield 563, 3) := by decide +kernel
theorem dX12_playLines_23 : decode cX12_playLines 23 = .ok (.aload_n 0, 1) := by decide +kernel
theorem dX12_playLines_24 : decode cX12_playLines 24 = .ok (.iconst 0, 1) := by decide +kernel
theorem dX12_playLines_25 : decode cX12_playLines 25 = .ok (.putfield 545, 3) := by decide +kernel
theorem dX12_playLines_28 : decode cX12_playLines 28 = .ok (.aload_n 0, 1) := by decide +kernel
theorem dX12_playLines_29 : decode cX12_playLines 29 = .ok (.iconst 0, 1) := by decide +kernel
theorem dX12_playLines_30 : decode cX12_playLines 30 = .ok (.putfield 536, 3) := by decide +kernel
theorem dX12_playLines_33 : decode cX12_playLines 33 = .ok (.aload_n 0, 1) := by decide +kernel
theorem dX12_playLines_34 : decode cX12_playLines 34 = .ok (.iconst 0, 1) := by decide +kernel
theorem dX12_playLines_35 : decode cX12_playLines 35 = .ok (.putfield 643, 3) := by decide +kernel
theorem dX12_playLines_38 : decode cX12_playLines 38 = .ok (.aload_n 0, 1) := by decide +kernel
theorem dX12_playLines_39 : decode cX12_playLines 39 = .ok (.iconst 0, 1) := by decide +kernel
theorem dX12_playLines_40 : decode cX12_playLines 40 = .ok (.putfield 554, 3) := by decide +kernel
theorem dX12_playLines_43 : decode cX12_playLines 43 = .ok (.iconst 0, 1) := by decide +kernel
theorem dX12_playLines_44 : decode cX12_playLines 44 = .ok (.istore_n 1, 1) := by decide +kernel
theorem dX12_playLines_45 : decode cX12_playLines 45 = .ok (.iload_n 1, 1) := by decide +kernel
theorem dX12_playLines_46 : decode cX12_playLines 46 = .ok (.bipush 60, 2) := by decide +kernel
theorem dX12_playLines_48 : decode cX12_playLines 48 = .ok (.if_icmp .ge 23, 3) := by decide +kernel
theorem dX12_playLines_51 : decode cX12_playLines 51 = .ok (.aload_n 0, 1) := by decide +kernel
theorem dX12_playLines_52 : decode cX12_playLines 52 = .ok (.getfield 90, 3) := by decide +kernel
theorem dX12_playLines_55 : decode cX12_playLines 55 = .ok (.iload_n 1, 1) := by decide +kernel
theorem dX12_playLines_56 : decode cX12_playLines 56 = .ok (.iconst 0, 1) := by decide +kernel
theorem dX12_playLines_57 : decode cX12_playLines 57 = .ok (.bastore, 1) := by decide +kernel
theorem dX12_playLines_58 : decode cX12_playLines 58 = .ok (.aload_n 0, 1) := by decide +kernel
theorem dX12_playLines_59 : decode cX12_playLines 59 = .ok (.getfield 93, 3) := by decide +kernel
theorem dX12_playLines_62 : decode cX12_playLines 62 = .ok (.iload_n 1, 1) := by decide +kernel
theorem dX12_playLines_63 : decode cX12_playLines 63 = .ok (.iconst 0, 1) := by decide +kernel
theorem dX12_playLines_64 : decode cX12_playLines 64 = .ok (.iastore, 1) := by decide +kernel
theorem dX12_playLines_65 : decode cX12_playLines 65 = .ok (.iinc 1 1, 3) := by decide +kernel
theorem dX12_playLines_68 : decode cX12_playLines 68 = .ok (.goto (-23), 3) := by decide +kernel
theorem dX12_playLines_71 : decode cX12_playLines 71 = .ok (.aload_n 0, 1) := by decide +kernel
theorem dX12_playLines_72 : decode cX12_playLines 72 = .ok (.invokevirtual 521, 3) := by decide +kernel
theorem dX12_playLines_75 : decode cX12_playLines 75 = .ok (.aload_n 0, 1) := by decide +kernel
theorem dX12_playLines_76 : decode cX12_playLines 76 = .ok (.invokevirtual 670, 3) := by decide +kernel
theorem dX12_playLines_79 : decode cX12_playLines 79 = .ok (.iconst 0, 1) := by decide +kernel
theorem dX12_playLines_80 : decode cX12_playLines 80 = .ok (.istore_n 1, 1) := by decide +kernel
theorem dX12_playLines_81 : decode cX12_playLines 81 = .ok (.aload_n 0, 1) := by decide +kernel
theorem dX12_playLines_82 : decode cX12_playLines 82 = .ok (.getfield 545, 3) := by decide +kernel
theorem dX12_playLines_85 : decode cX12_playLines 85 = .ok (.aload_n 0, 1) := by decide +kernel
theorem dX12_playLines_86 : decode cX12_playLines 86 = .ok (.getfield 563, 3) := by decide +kernel
theorem dX12_playLines_89 : decode cX12_playLines 89 = .ok (.if_icmp .ge 26, 3) := by decide +kernel
theorem dX12_playLines_92 : decode cX12_playLines 92 = .ok (.iload_n 1, 1) := by decide +kernel
theorem dX12_playLines_93 : decode cX12_playLines 93 = .ok (.ifCond .ne 22, 3) := by decide +kernel
theorem dX12_playLines_96 : decode cX12_playLines 96 = .ok (.aload_n 0, 1) := by decide +kernel
theorem dX12_playLines_97 : decode cX12_playLines 97 = .ok (.getfield 643, 3) := by decide +kernel
theorem dX12_playLines_100 : decode cX12_playLines 100 = .ok (.ifCond .ne 15, 3) := by decide +kernel
theorem dX12_playLines_103 : decode cX12_playLines 103 = .ok (.aload_n 0, 1) := by decide +kernel
theorem dX12_playLines_104 : decode cX12_playLines 104 = .ok (.invokevirtual 649, 3) := by decide +kernel
theorem dX12_playLines_107 : decode cX12_playLines 107 = .ok (.aload_n 0, 1) := by decide +kernel
theorem dX12_playLines_108 : decode cX12_playLines 108 = .ok (.invokevirtual 673, 3) := by decide +kernel
theorem dX12_playLines_111 : decode cX12_playLines 111 = .ok (.istore_n 1, 1) := by decide +kernel
theorem dX12_playLines_112 : decode cX12_playLines 112 = .ok (.goto (-31), 3) := by decide +kernel
theorem dX12_playLines_115 : decode cX12_playLines 115 = .ok (.aload_n 0, 1) := by decide +kernel
theorem dX12_playLines_116 : decode cX12_playLines 116 = .ok (.iload_n 1, 1) := by decide +kernel
theorem dX12_playLines_117 : decode cX12_playLines 117 = .ok (.putfield 518, 3) := by decide +kernel
theorem dX12_playLines_120 : decode cX12_playLines 120 = .ok (.iload_n 1, 1) := by decide +kernel
theorem dX12_playLines_121 : decode cX12_playLines 121 = .ok (.ifCond .le 9, 3) := by decide +kernel
theorem dX12_playLines_124 : decode cX12_playLines 124 = .ok (.aload_n 0, 1) := by decide +kernel
theorem dX12_playLines_125 : decode cX12_playLines 125 = .ok (.invokevirtual 527, 3) := by decide +kernel
theorem dX12_playLines_128 : decode cX12_playLines 128 = .ok (.iconst (-1), 1) := by decide +kernel
theorem dX12_playLines_129 : decode cX12_playLines 129 = .ok (.ireturn, 1) := by decide +kernel
theorem dX12_playLines_130 : decode cX12_playLines 130 = .ok (.aload_n 0, 1) := by decide +kernel
theorem dX12_playLines_131 : decode cX12_playLines 131 = .ok (.invokevirtual 676, 3) := by decide +kernel
theorem dX12_playLines_134 : decode cX12_playLines 134 = .ok (.aload_n 0, 1) := by decide +kernel
theorem dX12_playLines_135 : decode cX12_playLines 135 = .ok (.invokevirtual 533, 3) := by decide +kernel
theorem dX12_playLines_138 : decode cX12_playLines 138 = .ok (.aload_n 0, 1) := by decide +kernel
theorem dX12_playLines_139 : decode cX12_playLines 139 = .ok (.getfield 618, 3) := by decide +kernel
theorem dX12_playLines_142 : decode cX12_playLines 142 = .ok (.ireturn, 1) := by decide +kernel
theorem dX12_type_0 : decode cX12_type 0 = .ok (.aload_n 0, 1) := by decide +kernel
theorem dX12_type_1 : decode cX12_type 1 = .ok (.iload_n 1, 1) := by decide +kernel
theorem dX12_type_2 : decode cX12_type 2 = .ok (.bipush 32, 2) := by decide +kernel
theorem dX12_type_4 : decode cX12_type 4 = .ok (.if_icmp .lt 9, 3) := by decide +kernel
theorem dX12_type_7 : decode cX12_type 7 = .ok (.iload_n 1, 1) := by decide +kernel
theorem dX12_type_8 : decode cX12_type 8 = .ok (.bipush 126, 2) := by decide +kernel
theorem dX12_type_10 : decode cX12_type 10 = .ok (.if_icmp .le 7, 3) := by decide +kernel
theorem dX12_type_13 : decode cX12_type 13 = .ok (.iconst 1, 1) := by decide +kernel
theorem dX12_type_14 : decode cX12_type 14 = .ok (.goto 17, 3) := by decide +kernel
theorem dX12_type_17 : decode cX12_type 17 = .ok (.aload_n 0, 1) := by decide +kernel
theorem dX12_type_18 : decode cX12_type 18 = .ok (.getfield 143, 3) := by decide +kernel
theorem dX12_type_21 : decode cX12_type 21 = .ok (.bipush 60, 2) := by decide +kernel
theorem dX12_type_23 : decode cX12_type 23 = .ok (.if_icmp .ne 7, 3) := by decide +kernel
theorem dX12_type_26 : decode cX12_type 26 = .ok (.iconst 2, 1) := by decide +kernel
theorem dX12_type_27 : decode cX12_type 27 = .ok (.goto 4, 3) := by decide +kernel
theorem dX12_type_30 : decode cX12_type 30 = .ok (.iconst 0, 1) := by decide +kernel
theorem dX12_type_31 : decode cX12_type 31 = .ok (.putfield 105, 3) := by decide +kernel
theorem dX12_type_34 : decode cX12_type 34 = .ok (.aload_n 0, 1) := by decide +kernel
theorem dX12_type_35 : decode cX12_type 35 = .ok (.getfield 105, 3) := by decide +kernel
theorem dX12_type_38 : decode cX12_type 38 = .ok (.ifCond .le 5, 3) := by decide +kernel
theorem dX12_type_41 : decode cX12_type 41 = .ok (.iconst 0, 1) := by decide +kernel
theorem dX12_type_42 : decode cX12_type 42 = .ok (.ireturn, 1) := by decide +kernel
theorem dX12_type_43 : decode cX12_type 43 = .ok (.aload_n 0, 1) := by decide +kernel
theorem dX12_type_44 : decode cX12_type 44 = .ok (.getfield 7, 3) := by decide +kernel
theorem dX12_type_47 : decode cX12_type 47 = .ok (.aload_n 0, 1) := by decide +kernel
theorem dX12_type_48 : decode cX12_type 48 = .ok (.getfield 143, 3) := by decide +kernel
theorem dX12_type_51 : decode cX12_type 51 = .ok (.iload_n 1, 1) := by decide +kernel
theorem dX12_type_52 : decode cX12_type 52 = .ok (.iastore, 1) := by decide +kernel
theorem dX12_type_53 : decode cX12_type 53 = .ok (.aload_n 0, 1) := by decide +kernel
theorem dX12_type_54 : decode cX12_type 54 = .ok (.dup, 1) := by decide +kernel
theorem dX12_type_55 : decode cX12_type 55 = .ok (.getfield 143, 3) := by decide +kernel
theorem dX12_type_58 : decode cX12_type 58 = .ok (.iconst 1, 1) := by decide +kernel
theorem dX12_type_59 : decode cX12_type 59 = .ok (.iadd, 1) := by decide +kernel
theorem dX12_type_60 : decode cX12_type 60 = .ok (.putfield 143, 3) := by decide +kernel
theorem dX12_type_63 : decode cX12_type 63 = .ok (.aload_n 0, 1) := by decide +kernel
theorem dX12_type_64 : decode cX12_type 64 = .ok (.getfield 143, 3) := by decide +kernel
theorem dX12_type_67 : decode cX12_type 67 = .ok (.ireturn, 1) := by decide +kernel
theorem dX12_wipe_0 : decode cX12_wipe 0 = .ok (.aload_n 0, 1) := by decide +kernel
theorem dX12_wipe_1 : decode cX12_wipe 1 = .ok (.iconst 0, 1) := by decide +kernel
theorem dX12_wipe_2 : decode cX12_wipe 2 = .ok (.putfield 105, 3) := by decide +kernel
theorem dX12_wipe_5 : decode cX12_wipe 5 = .ok (.aload_n 0, 1) := by decide +kernel
theorem dX12_wipe_6 : decode cX12_wipe 6 = .ok (.getfield 143, 3) := by decide +kernel
theorem dX12_wipe_9 : decode cX12_wipe 9 = .ok (.istore_n 1, 1) := by decide +kernel
theorem dX12_wipe_10 : decode cX12_wipe 10 = .ok (.aload_n 0, 1) := by decide +kernel
theorem dX12_wipe_11 : decode cX12_wipe 11 = .ok (.iconst 0, 1) := by decide +kernel
theorem dX12_wipe_12 : decode cX12_wipe 12 = .ok (.putfield 143, 3) := by decide +kernel
theorem dX12_wipe_15 : decode cX12_wipe 15 = .ok (.iload_n 1, 1) := by decide +kernel
theorem dX12_wipe_16 : decode cX12_wipe 16 = .ok (.ireturn, 1) := by decide +kernel
theorem dX12_fault_0 : decode cX12_fault 0 = .ok (.aload_n 0, 1) := by decide +kernel
theorem dX12_fault_1 : decode cX12_fault 1 = .ok (.iconst 0, 1) := by decide +kernel
theorem dX12_fault_2 : decode cX12_fault 2 = .ok (.putfield 105, 3) := by decide +kernel
theorem dX12_fault_5 : decode cX12_fault 5 = .ok (.aload_n 0, 1) := by decide +kernel
theorem dX12_fault_6 : decode cX12_fault 6 = .ok (.invokevirtual 679, 3) := by decide +kernel
theorem dX12_fault_9 : decode cX12_fault 9 = .ok (.aload_n 0, 1) := by decide +kernel
theorem dX12_fault_10 : decode cX12_fault 10 = .ok (.invokevirtual 682, 3) := by decide +kernel
theorem dX12_fault_13 : decode cX12_fault 13 = .ok (.ireturn, 1) := by decide +kernel
theorem dX12_patternFault_0 : decode cX12_patternFault 0 = .ok (.aload_n 0, 1) := by decide +kernel
theorem dX12_patternFault_1 : decode cX12_patternFault 1 = .ok (.iconst 0, 1) := by decide +kernel
theorem dX12_patternFault_2 : decode cX12_patternFault 2 = .ok (.putfield 105, 3) := by decide +kernel
theorem dX12_patternFault_5 : decode cX12_patternFault 5 = .ok (.aload_n 0, 1) := by decide +kernel
theorem dX12_patternFault_6 : decode cX12_patternFault 6 = .ok (.invokevirtual 679, 3) := by decide +kernel
theorem dX12_patternFault_9 : decode cX12_patternFault 9 = .ok (.aload_n 0, 1) := by decide +kernel
theorem dX12_patternFault_10 : decode cX12_patternFault 10 = .ok (.invokevirtual 685, 3) := by decide +kernel
theorem dX12_patternFault_13 : decode cX12_patternFault 13 = .ok (.ireturn, 1) := by decide +kernel
theorem dX12_run_0 : decode cX12_run 0 = .ok (.aload_n 0, 1) := by decide +kernel
theorem dX12_run_1 : decode cX12_run 1 = .ok (.invokevirtual 679, 3) := by decide +kernel
theorem dX12_run_4 : decode cX12_run 4 = .ok (.aload_n 0, 1) := by decide +kernel
theorem dX12_run_5 : decode cX12_run 5 = .ok (.aload_n 0, 1) := by decide +kernel
theorem dX12_run_6 : decode cX12_run 6 = .ok (.invokevirtual 682, 3) := by decide +kernel
theorem dX12_run_9 : decode cX12_run 9 = .ok (.ifCond .lt 7, 3) := by decide +kernel
theorem dX12_run_12 : decode cX12_run 12 = .ok (.iconst 1, 1) := by decide +kernel
theorem dX12_run_13 : decode cX12_run 13 = .ok (.goto 4, 3) := by decide +kernel
theorem dX12_run_16 : decode cX12_run 16 = .ok (.iconst 0, 1) := by decide +kernel
theorem dX12_run_17 : decode cX12_run 17 = .ok (.putfield 105, 3) := by decide +kernel
theorem dX12_run_20 : decode cX12_run 20 = .ok (.aload_n 0, 1) := by decide +kernel
theorem dX12_run_21 : decode cX12_run 21 = .ok (.getfield 105, 3) := by decide +kernel
theorem dX12_run_24 : decode cX12_run 24 = .ok (.ifCond .le 7, 3) := by decide +kernel
theorem dX12_run_27 : decode cX12_run 27 = .ok (.iconst 0, 1) := by decide +kernel
theorem dX12_run_28 : decode cX12_run 28 = .ok (.goto 7, 3) := by decide +kernel
theorem dX12_run_31 : decode cX12_run 31 = .ok (.aload_n 0, 1) := by decide +kernel
theorem dX12_run_32 : decode cX12_run 32 = .ok (.invokevirtual 688, 3) := by decide +kernel
theorem dX12_run_35 : decode cX12_run 35 = .ok (.ireturn, 1) := by decide +kernel
theorem dX12_isFour_0 : decode cX12_isFour 0 = .ok (.iload_n 0, 1) := by decide +kernel
theorem dX12_isFour_1 : decode cX12_isFour 1 = .ok (.ifCond .lt 12, 3) := by decide +kernel
theorem dX12_isFour_4 : decode cX12_isFour 4 = .ok (.iload_n 0, 1) := by decide +kernel
theorem dX12_isFour_5 : decode cX12_isFour 5 = .ok (.iconst 4, 1) := by decide +kernel
theorem dX12_isFour_6 : decode cX12_isFour 6 = .ok (.if_icmp .ge 7, 3) := by decide +kernel
theorem dX12_isFour_9 : decode cX12_isFour 9 = .ok (.iconst 1, 1) := by decide +kernel
theorem dX12_isFour_10 : decode cX12_isFour 10 = .ok (.goto 4, 3) := by decide +kernel
theorem dX12_isFour_13 : decode cX12_isFour 13 = .ok (.iconst 0, 1) := by decide +kernel
theorem dX12_isFour_14 : decode cX12_isFour 14 = .ok (.ireturn, 1) := by decide +kernel
theorem dX12_keep_0 : decode cX12_keep 0 = .ok (.aload_n 0, 1) := by decide +kernel
theorem dX12_keep_1 : decode cX12_keep 1 = .ok (.invokevirtual 679, 3) := by decide +kernel
theorem dX12_keep_4 : decode cX12_keep 4 = .ok (.aload_n 0, 1) := by decide +kernel
theorem dX12_keep_5 : decode cX12_keep 5 = .ok (.iload_n 1, 1) := by decide +kernel
theorem dX12_keep_6 : decode cX12_keep 6 = .ok (.invokestatic 691, 3) := by decide +kernel
theorem dX12_keep_9 : decode cX12_keep 9 = .ok (.ifCond .ne 7, 3) := by decide +kernel
theorem dX12_keep_12 : decode cX12_keep 12 = .ok (.iconst 1, 1) := by decide +kernel
theorem dX12_keep_13 : decode cX12_keep 13 = .ok (.goto 15, 3) := by decide +kernel
theorem dX12_keep_16 : decode cX12_keep 16 = .ok (.aload_n 0, 1) := by decide +kernel
theorem dX12_keep_17 : decode cX12_keep 17 = .ok (.invokevirtual 682, 3) := by decide +kernel
theorem dX12_keep_20 : decode cX12_keep 20 = .ok (.ifCond .lt 7, 3) := by decide +kernel
theorem dX12_keep_23 : decode cX12_keep 23 = .ok (.iconst 2, 1) := by decide +kernel
theorem dX12_keep_24 : decode cX12_keep 24 = .ok (.goto 4, 3) := by decide +kernel
theorem dX12_keep_27 : decode cX12_keep 27 = .ok (.iconst 0, 1) := by decide +kernel
theorem dX12_keep_28 : decode cX12_keep 28 = .ok (.putfield 105, 3) := by decide +kernel
theorem dX12_keep_31 : decode cX12_keep 31 = .ok (.aload_n 0, 1) := by decide +kernel
theorem dX12_keep_32 : decode cX12_keep 32 = .ok (.getfield 105, 3) := by decide +kernel
theorem dX12_keep_35 : decode cX12_keep 35 = .ok (.ifCond .le 5, 3) := by decide +kernel
theorem dX12_keep_38 : decode cX12_keep 38 = .ok (.iconst 0, 1) := by decide +kernel
theorem dX12_keep_39 : decode cX12_keep 39 = .ok (.ireturn, 1) := by decide +kernel
theorem dX12_keep_40 : decode cX12_keep 40 = .ok (.iconst 0, 1) := by decide +kernel
theorem dX12_keep_41 : decode cX12_keep 41 = .ok (.istore_n 2, 1) := by decide +kernel
theorem dX12_keep_42 : decode cX12_keep 42 = .ok (.iload_n 2, 1) := by decide +kernel
theorem dX12_keep_43 : decode cX12_keep 43 = .ok (.aload_n 0, 1) := by decide +kernel
theorem dX12_keep_44 : decode cX12_keep 44 = .ok (.getfield 143, 3) := by decide +kernel
theorem dX12_keep_47 : decode cX12_keep 47 = .ok (.if_icmp .ge 26, 3) := by decide +kernel
theorem dX12_keep_50 : decode cX12_keep 50 = .ok (.aload_n 0, 1) := by decide +kernel
theorem dX12_keep_51 : decode cX12_keep 51 = .ok (.getfield 13, 3) := by decide +kernel
theorem dX12_keep_54 : decode cX12_keep 54 = .ok (.bipush 60, 2) := by decide +kernel
theorem dX12_keep_56 : decode cX12_keep 56 = .ok (.iload_n 1, 1) := by decide +kernel
theorem dX12_keep_57 : decode cX12_keep 57 = .ok (.imul, 1) := by decide +kernel
theorem dX12_keep_58 : decode cX12_keep 58 = .ok (.iload_n 2, 1) := by decide +kernel
theorem dX12_keep_59 : decode cX12_keep 59 = .ok (.iadd, 1) := by decide +kernel
theorem dX12_keep_60 : decode cX12_keep 60 = .ok (.aload_n 0, 1) := by decide +kernel
theorem dX12_keep_61 : decode cX12_keep 61 = .ok (.getfield 7, 3) := by decide +kernel
theorem dX12_keep_64 : decode cX12_keep 64 = .ok (.iload_n 2, 1) := by decide +kernel
theorem dX12_keep_65 : decode cX12_keep 65 = .ok (.iaload, 1) := by decide +kernel
theorem dX12_keep_66 : decode cX12_keep 66 = .ok (.iastore, 1) := by decide +kernel
theorem dX12_keep_67 : decode cX12_keep 67 = .ok (.iinc 2 1, 3) := by decide +kernel
theorem dX12_keep_70 : decode cX12_keep 70 = .ok (.goto (-28), 3) := by decide +kernel
theorem dX12_keep_73 : decode cX12_keep 73 = .ok (.aload_n 0, 1) := by decide +kernel
theorem dX12_keep_74 : decode cX12_keep 74 = .ok (.getfield 16, 3) := by decide +kernel
theorem dX12_keep_77 : decode cX12_keep 77 = .ok (.iload_n 1, 1) := by decide +kernel
theorem dX12_keep_78 : decode cX12_keep 78 = .ok (.aload_n 0, 1) := by decide +kernel
theorem dX12_keep_79 : decode cX12_keep 79 = .ok (.getfield 143, 3) := by decide +kernel
theorem dX12_keep_82 : decode cX12_keep 82 = .ok (.iastore, 1) := by decide +kernel
theorem dX12_keep_83 : decode cX12_keep 83 = .ok (.aload_n 0, 1) := by decide +kernel
theorem dX12_keep_84 : decode cX12_keep 84 = .ok (.getfield 19, 3) := by decide +kernel
theorem dX12_keep_87 : decode cX12_keep 87 = .ok (.iload_n 1, 1) := by decide +kernel
theorem dX12_keep_88 : decode cX12_keep 88 = .ok (.iconst 1, 1) := by decide +kernel
theorem dX12_keep_89 : decode cX12_keep 89 = .ok (.bastore, 1) := by decide +kernel
theorem dX12_keep_90 : decode cX12_keep 90 = .ok (.aload_n 0, 1) := by decide +kernel
theorem dX12_keep_91 : decode cX12_keep 91 = .ok (.getfield 143, 3) := by decide +kernel
theorem dX12_keep_94 : decode cX12_keep 94 = .ok (.ireturn, 1) := by decide +kernel
theorem dX12_play_0 : decode cX12_play 0 = .ok (.aload_n 0, 1) := by decide +kernel
theorem dX12_play_1 : decode cX12_play 1 = .ok (.iload_n 1, 1) := by decide +kernel
theorem dX12_play_2 : decode cX12_play 2 = .ok (.invokestatic 691, 3) := by decide +kernel
theorem dX12_play_5 : decode cX12_play 5 = .ok (.ifCond .ne 7, 3) := by decide +kernel
theorem dX12_play_8 : decode cX12_play 8 = .ok (.iconst 1, 1) := by decide +kernel
theorem dX12_play_9 : decode cX12_play 9 = .ok (.goto 17, 3) := by decide +kernel
theorem dX12_play_12 : decode cX12_play 12 = .ok (.aload_n 0, 1) := by decide +kernel
theorem dX12_play_13 : decode cX12_play 13 = .ok (.getfield 19, 3) := by decide +kernel
theorem dX12_play_16 : decode cX12_play 16 = .ok (.iload_n 1, 1) := by decide +kernel
theorem dX12_play_17 : decode cX12_play 17 = .ok (.baload, 1) := by decide +kernel
theorem dX12_play_18 : decode cX12_play 18 = .ok (.ifCond .ne 7, 3) := by decide +kernel
theorem dX12_play_21 : decode cX12_play 21 = .ok (.iconst 2, 1) := by decide +kernel
theorem dX12_play_22 : decode cX12_play 22 = .ok (.goto 4, 3) := by decide +kernel
theorem dX12_play_25 : decode cX12_play 25 = .ok (.iconst 0, 1) := by decide +kernel
theorem dX12_play_26 : decode cX12_play 26 = .ok (.putfield 105, 3) := by decide +kernel
theorem dX12_play_29 : decode cX12_play 29 = .ok (.aload_n 0, 1) := by decide +kernel
theorem dX12_play_30 : decode cX12_play 30 = .ok (.getfield 105, 3) := by decide +kernel
theorem dX12_play_33 : decode cX12_play 33 = .ok (.ifCond .le 5, 3) := by decide +kernel
theorem dX12_play_36 : decode cX12_play 36 = .ok (.iconst 0, 1) := by decide +kernel
theorem dX12_play_37 : decode cX12_play 37 = .ok (.ireturn, 1) := by decide +kernel
theorem dX12_play_38 : decode cX12_play 38 = .ok (.aload_n 0, 1) := by decide +kernel
theorem dX12_play_39 : decode cX12_play 39 = .ok (.iload_n 1, 1) := by decide +kernel
theorem dX12_play_40 : decode cX12_play 40 = .ok (.invokevirtual 694, 3) := by decide +kernel
theorem dX12_play_43 : decode cX12_play 43 = .ok (.aload_n 0, 1) := by decide +kernel
theorem dX12_play_44 : decode cX12_play 44 = .ok (.invokevirtual 688, 3) := by decide +kernel
theorem dX12_play_47 : decode cX12_play 47 = .ok (.ireturn, 1) := by decide +kernel
theorem dX12_stream_0 : decode cX12_stream 0 = .ok (.aload_n 0, 1) := by decide +kernel
theorem dX12_stream_1 : decode cX12_stream 1 = .ok (.iload_n 1, 1) := by decide +kernel
theorem dX12_stream_2 : decode cX12_stream 2 = .ok (.invokestatic 691, 3) := by decide +kernel
