theorem dX12_ordersFault_62 : decode cX12_ordersFault 62 = .ok (.if_icmp .ge 7, 3) := by decide +kernel
theorem dX12_ordersFault_65 : decode cX12_ordersFault 65 = .ok (.aload_n 0, 1) := by decide +kernel
theorem dX12_ordersFault_66 : decode cX12_ordersFault 66 = .ok (.invokevirtual 159, 3) := by decide +kernel
theorem dX12_ordersFault_69 : decode cX12_ordersFault 69 = .ok (.aload_n 0, 1) := by decide +kernel
theorem dX12_ordersFault_70 : decode cX12_ordersFault 70 = .ok (.getfield 156, 3) := by decide +kernel
theorem dX12_ordersFault_73 : decode cX12_ordersFault 73 = .ok (.ireturn, 1) := by decide +kernel
theorem dX12_patternsFault_0 : decode cX12_patternsFault 0 = .ok (.aload_n 0, 1) := by decide +kernel
theorem dX12_patternsFault_1 : decode cX12_patternsFault 1 = .ok (.iconst 0, 1) := by decide +kernel
theorem dX12_patternsFault_2 : decode cX12_patternsFault 2 = .ok (.putfield 149, 3) := by decide +kernel
theorem dX12_patternsFault_5 : decode cX12_patternsFault 5 = .ok (.aload_n 0, 1) := by decide +kernel
theorem dX12_patternsFault_6 : decode cX12_patternsFault 6 = .ok (.iconst (-1), 1) := by decide +kernel
theorem dX12_patternsFault_7 : decode cX12_patternsFault 7 = .ok (.putfield 156, 3) := by decide +kernel
theorem dX12_patternsFault_10 : decode cX12_patternsFault 10 = .ok (.aload_n 0, 1) := by decide +kernel
theorem dX12_patternsFault_11 : decode cX12_patternsFault 11 = .ok (.iconst 0, 1) := by decide +kernel
theorem dX12_patternsFault_12 : decode cX12_patternsFault 12 = .ok (.invokevirtual 197, 3) := by decide +kernel
theorem dX12_patternsFault_15 : decode cX12_patternsFault 15 = .ok (.aload_n 0, 1) := by decide +kernel
theorem dX12_patternsFault_16 : decode cX12_patternsFault 16 = .ok (.getfield 156, 3) := by decide +kernel
theorem dX12_patternsFault_19 : decode cX12_patternsFault 19 = .ok (.ifCond .ge 18, 3) := by decide +kernel
theorem dX12_patternsFault_22 : decode cX12_patternsFault 22 = .ok (.aload_n 0, 1) := by decide +kernel
theorem dX12_patternsFault_23 : decode cX12_patternsFault 23 = .ok (.getfield 149, 3) := by decide +kernel
theorem dX12_patternsFault_26 : decode cX12_patternsFault 26 = .ok (.aload_n 0, 1) := by decide +kernel
theorem dX12_patternsFault_27 : decode cX12_patternsFault 27 = .ok (.getfield 146, 3) := by decide +kernel
theorem dX12_patternsFault_30 : decode cX12_patternsFault 30 = .ok (.if_icmp .ge 7, 3) := by decide +kernel
theorem dX12_patternsFault_33 : decode cX12_patternsFault 33 = .ok (.aload_n 0, 1) := by decide +kernel
theorem dX12_patternsFault_34 : decode cX12_patternsFault 34 = .ok (.invokevirtual 159, 3) := by decide +kernel
theorem dX12_patternsFault_37 : decode cX12_patternsFault 37 = .ok (.aload_n 0, 1) := by decide +kernel
theorem dX12_patternsFault_38 : decode cX12_patternsFault 38 = .ok (.getfield 156, 3) := by decide +kernel
theorem dX12_patternsFault_41 : decode cX12_patternsFault 41 = .ok (.ireturn, 1) := by decide +kernel
theorem dX12_endOf_0 : decode cX12_endOf 0 = .ok (.aload_n 0, 1) := by decide +kernel
theorem dX12_endOf_1 : decode cX12_endOf 1 = .ok (.iload_n 1, 1) := by decide +kernel
theorem dX12_endOf_2 : decode cX12_endOf 2 = .ok (.putfield 149, 3) := by decide +kernel
theorem dX12_endOf_5 : decode cX12_endOf 5 = .ok (.aload_n 0, 1) := by decide +kernel
theorem dX12_endOf_6 : decode cX12_endOf 6 = .ok (.iconst (-1), 1) := by decide +kernel
theorem dX12_endOf_7 : decode cX12_endOf 7 = .ok (.putfield 156, 3) := by decide +kernel
theorem dX12_endOf_10 : decode cX12_endOf 10 = .ok (.iload_n 2, 1) := by decide +kernel
theorem dX12_endOf_11 : decode cX12_endOf 11 = .ok (.ifCond .eq 10, 3) := by decide +kernel
theorem dX12_endOf_14 : decode cX12_endOf 14 = .ok (.aload_n 0, 1) := by decide +kernel
theorem dX12_endOf_15 : decode cX12_endOf 15 = .ok (.invokevirtual 243, 3) := by decide +kernel
theorem dX12_endOf_18 : decode cX12_endOf 18 = .ok (.goto 7, 3) := by decide +kernel
theorem dX12_endOf_21 : decode cX12_endOf 21 = .ok (.aload_n 0, 1) := by decide +kernel
theorem dX12_endOf_22 : decode cX12_endOf 22 = .ok (.invokevirtual 249, 3) := by decide +kernel
theorem dX12_endOf_25 : decode cX12_endOf 25 = .ok (.aload_n 0, 1) := by decide +kernel
theorem dX12_endOf_26 : decode cX12_endOf 26 = .ok (.getfield 149, 3) := by decide +kernel
theorem dX12_endOf_29 : decode cX12_endOf 29 = .ok (.ireturn, 1) := by decide +kernel
theorem dX12_readWhere_0 : decode cX12_readWhere 0 = .ok (.aload_n 0, 1) := by decide +kernel
theorem dX12_readWhere_1 : decode cX12_readWhere 1 = .ok (.iload_n 1, 1) := by decide +kernel
theorem dX12_readWhere_2 : decode cX12_readWhere 2 = .ok (.putfield 149, 3) := by decide +kernel
theorem dX12_readWhere_5 : decode cX12_readWhere 5 = .ok (.aload_n 0, 1) := by decide +kernel
theorem dX12_readWhere_6 : decode cX12_readWhere 6 = .ok (.iconst (-1), 1) := by decide +kernel
theorem dX12_readWhere_7 : decode cX12_readWhere 7 = .ok (.putfield 156, 3) := by decide +kernel
theorem dX12_readWhere_10 : decode cX12_readWhere 10 = .ok (.aload_n 0, 1) := by decide +kernel
theorem dX12_readWhere_11 : decode cX12_readWhere 11 = .ok (.invokevirtual 236, 3) := by decide +kernel
theorem dX12_readWhere_14 : decode cX12_readWhere 14 = .ok (.return_, 1) := by decide +kernel
theorem dX12_numberAt_0 : decode cX12_numberAt 0 = .ok (.aload_n 0, 1) := by decide +kernel
theorem dX12_numberAt_1 : decode cX12_numberAt 1 = .ok (.getfield 44, 3) := by decide +kernel
theorem dX12_numberAt_4 : decode cX12_numberAt 4 = .ok (.iload_n 1, 1) := by decide +kernel
theorem dX12_numberAt_5 : decode cX12_numberAt 5 = .ok (.iaload, 1) := by decide +kernel
theorem dX12_numberAt_6 : decode cX12_numberAt 6 = .ok (.bipush 48, 2) := by decide +kernel
theorem dX12_numberAt_8 : decode cX12_numberAt 8 = .ok (.isub, 1) := by decide +kernel
theorem dX12_numberAt_9 : decode cX12_numberAt 9 = .ok (.istore_n 2, 1) := by decide +kernel
theorem dX12_numberAt_10 : decode cX12_numberAt 10 = .ok (.iload_n 1, 1) := by decide +kernel
theorem dX12_numberAt_11 : decode cX12_numberAt 11 = .ok (.iconst 1, 1) := by decide +kernel
theorem dX12_numberAt_12 : decode cX12_numberAt 12 = .ok (.iadd, 1) := by decide +kernel
theorem dX12_numberAt_13 : decode cX12_numberAt 13 = .ok (.aload_n 0, 1) := by decide +kernel
theorem dX12_numberAt_14 : decode cX12_numberAt 14 = .ok (.getfield 146, 3) := by decide +kernel
theorem dX12_numberAt_17 : decode cX12_numberAt 17 = .ok (.if_icmp .ge 36, 3) := by decide +kernel
theorem dX12_numberAt_20 : decode cX12_numberAt 20 = .ok (.aload_n 0, 1) := by decide +kernel
theorem dX12_numberAt_21 : decode cX12_numberAt 21 = .ok (.getfield 44, 3) := by decide +kernel
theorem dX12_numberAt_24 : decode cX12_numberAt 24 = .ok (.iload_n 1, 1) := by decide +kernel
theorem dX12_numberAt_25 : decode cX12_numberAt 25 = .ok (.iconst 1, 1) := by decide +kernel
theorem dX12_numberAt_26 : decode cX12_numberAt 26 = .ok (.iadd, 1) := by decide +kernel
theorem dX12_numberAt_27 : decode cX12_numberAt 27 = .ok (.iaload, 1) := by decide +kernel
theorem dX12_numberAt_28 : decode cX12_numberAt 28 = .ok (.invokestatic 152, 3) := by decide +kernel
theorem dX12_numberAt_31 : decode cX12_numberAt 31 = .ok (.ifCond .eq 22, 3) := by decide +kernel
theorem dX12_numberAt_34 : decode cX12_numberAt 34 = .ok (.bipush 10, 2) := by decide +kernel
theorem dX12_numberAt_36 : decode cX12_numberAt 36 = .ok (.iload_n 2, 1) := by decide +kernel
theorem dX12_numberAt_37 : decode cX12_numberAt 37 = .ok (.imul, 1) := by decide +kernel
theorem dX12_numberAt_38 : decode cX12_numberAt 38 = .ok (.aload_n 0, 1) := by decide +kernel
theorem dX12_numberAt_39 : decode cX12_numberAt 39 = .ok (.getfield 44, 3) := by decide +kernel
theorem dX12_numberAt_42 : decode cX12_numberAt 42 = .ok (.iload_n 1, 1) := by decide +kernel
theorem dX12_numberAt_43 : decode cX12_numberAt 43 = .ok (.iconst 1, 1) := by decide +kernel
theorem dX12_numberAt_44 : decode cX12_numberAt 44 = .ok (.iadd, 1) := by decide +kernel
theorem dX12_numberAt_45 : decode cX12_numberAt 45 = .ok (.iaload, 1) := by decide +kernel
theorem dX12_numberAt_46 : decode cX12_numberAt 46 = .ok (.iadd, 1) := by decide +kernel
theorem dX12_numberAt_47 : decode cX12_numberAt 47 = .ok (.bipush 48, 2) := by decide +kernel
theorem dX12_numberAt_49 : decode cX12_numberAt 49 = .ok (.isub, 1) := by decide +kernel
theorem dX12_numberAt_50 : decode cX12_numberAt 50 = .ok (.goto 4, 3) := by decide +kernel
theorem dX12_numberAt_53 : decode cX12_numberAt 53 = .ok (.iload_n 2, 1) := by decide +kernel
theorem dX12_numberAt_54 : decode cX12_numberAt 54 = .ok (.ireturn, 1) := by decide +kernel
theorem dX12_behindNumber_0 : decode cX12_behindNumber 0 = .ok (.iload_n 1, 1) := by decide +kernel
theorem dX12_behindNumber_1 : decode cX12_behindNumber 1 = .ok (.iconst 1, 1) := by decide +kernel
theorem dX12_behindNumber_2 : decode cX12_behindNumber 2 = .ok (.iadd, 1) := by decide +kernel
theorem dX12_behindNumber_3 : decode cX12_behindNumber 3 = .ok (.aload_n 0, 1) := by decide +kernel
theorem dX12_behindNumber_4 : decode cX12_behindNumber 4 = .ok (.getfield 146, 3) := by decide +kernel
theorem dX12_behindNumber_7 : decode cX12_behindNumber 7 = .ok (.if_icmp .ge 23, 3) := by decide +kernel
theorem dX12_behindNumber_10 : decode cX12_behindNumber 10 = .ok (.aload_n 0, 1) := by decide +kernel
theorem dX12_behindNumber_11 : decode cX12_behindNumber 11 = .ok (.getfield 44, 3) := by decide +kernel
theorem dX12_behindNumber_14 : decode cX12_behindNumber 14 = .ok (.iload_n 1, 1) := by decide +kernel
theorem dX12_behindNumber_15 : decode cX12_behindNumber 15 = .ok (.iconst 1, 1) := by decide +kernel
theorem dX12_behindNumber_16 : decode cX12_behindNumber 16 = .ok (.iadd, 1) := by decide +kernel
theorem dX12_behindNumber_17 : decode cX12_behindNumber 17 = .ok (.iaload, 1) := by decide +kernel
theorem dX12_behindNumber_18 : decode cX12_behindNumber 18 = .ok (.invokestatic 152, 3) := by decide +kernel
theorem dX12_behindNumber_21 : decode cX12_behindNumber 21 = .ok (.ifCond .eq 9, 3) := by decide +kernel
theorem dX12_behindNumber_24 : decode cX12_behindNumber 24 = .ok (.iload_n 1, 1) := by decide +kernel
theorem dX12_behindNumber_25 : decode cX12_behindNumber 25 = .ok (.iconst 2, 1) := by decide +kernel
theorem dX12_behindNumber_26 : decode cX12_behindNumber 26 = .ok (.iadd, 1) := by decide +kernel
theorem dX12_behindNumber_27 : decode cX12_behindNumber 27 = .ok (.goto 6, 3) := by decide +kernel
theorem dX12_behindNumber_30 : decode cX12_behindNumber 30 = .ok (.iload_n 1, 1) := by decide +kernel
theorem dX12_behindNumber_31 : decode cX12_behindNumber 31 = .ok (.iconst 1, 1) := by decide +kernel
theorem dX12_behindNumber_32 : decode cX12_behindNumber 32 = .ok (.iadd, 1) := by decide +kernel
theorem dX12_behindNumber_33 : decode cX12_behindNumber 33 = .ok (.ireturn, 1) := by decide +kernel
theorem dX12_element_0 : decode cX12_element 0 = .ok (.aload_n 0, 1) := by decide +kernel
theorem dX12_element_1 : decode cX12_element 1 = .ok (.getfield 47, 3) := by decide +kernel
theorem dX12_element_4 : decode cX12_element 4 = .ok (.aload_n 0, 1) := by decide +kernel
theorem dX12_element_5 : decode cX12_element 5 = .ok (.getfield 252, 3) := by decide +kernel
theorem dX12_element_8 : decode cX12_element 8 = .ok (.iload_n 1, 1) := by decide +kernel
theorem dX12_element_9 : decode cX12_element 9 = .ok (.iastore, 1) := by decide +kernel
theorem dX12_element_10 : decode cX12_element 10 = .ok (.aload_n 0, 1) := by decide +kernel
theorem dX12_element_11 : decode cX12_element 11 = .ok (.getfield 50, 3) := by decide +kernel
theorem dX12_element_14 : decode cX12_element 14 = .ok (.aload_n 0, 1) := by decide +kernel
theorem dX12_element_15 : decode cX12_element 15 = .ok (.getfield 252, 3) := by decide +kernel
theorem dX12_element_18 : decode cX12_element 18 = .ok (.iload_n 2, 1) := by decide +kernel
theorem dX12_element_19 : decode cX12_element 19 = .ok (.iastore, 1) := by decide +kernel
theorem dX12_element_20 : decode cX12_element 20 = .ok (.aload_n 0, 1) := by decide +kernel
theorem dX12_element_21 : decode cX12_element 21 = .ok (.dup, 1) := by decide +kernel
theorem dX12_element_22 : decode cX12_element 22 = .ok (.getfield 252, 3) := by decide +kernel
theorem dX12_element_25 : decode cX12_element 25 = .ok (.iconst 1, 1) := by decide +kernel
theorem dX12_element_26 : decode cX12_element 26 = .ok (.iadd, 1) := by decide +kernel
theorem dX12_element_27 : decode cX12_element 27 = .ok (.putfield 252, 3) := by decide +kernel
theorem dX12_element_30 : decode cX12_element 30 = .ok (.return_, 1) := by decide +kernel
theorem dX12_compile_0 : decode cX12_compile 0 = .ok (.iload_n 1, 1) := by decide +kernel
theorem dX12_compile_1 : decode cX12_compile 1 = .ok (.istore_n 3, 1) := by decide +kernel
theorem dX12_compile_2 : decode cX12_compile 2 = .ok (.iconst 0, 1) := by decide +kernel
theorem dX12_compile_3 : decode cX12_compile 3 = .ok (.istore 4, 2) := by decide +kernel
theorem dX12_compile_5 : decode cX12_compile 5 = .ok (.aload_n 0, 1) := by decide +kernel
theorem dX12_compile_6 : decode cX12_compile 6 = .ok (.iconst 0, 1) := by decide +kernel
theorem dX12_compile_7 : decode cX12_compile 7 = .ok (.putfield 252, 3) := by decide +kernel
theorem dX12_compile_10 : decode cX12_compile 10 = .ok (.aload_n 0, 1) := by decide +kernel
theorem dX12_compile_11 : decode cX12_compile 11 = .ok (.iconst 0, 1) := by decide +kernel
theorem dX12_compile_12 : decode cX12_compile 12 = .ok (.putfield 255, 3) := by decide +kernel
theorem dX12_compile_15 : decode cX12_compile 15 = .ok (.aload_n 0, 1) := by decide +kernel
theorem dX12_compile_16 : decode cX12_compile 16 = .ok (.iload_n 3, 1) := by decide +kernel
theorem dX12_compile_17 : decode cX12_compile 17 = .ok (.aload_n 0, 1) := by decide +kernel
theorem dX12_compile_18 : decode cX12_compile 18 = .ok (.getfield 146, 3) := by decide +kernel
theorem dX12_compile_21 : decode cX12_compile 21 = .ok (.if_icmp .ge 18, 3) := by decide +kernel
theorem dX12_compile_24 : decode cX12_compile 24 = .ok (.aload_n 0, 1) := by decide +kernel
theorem dX12_compile_25 : decode cX12_compile 25 = .ok (.getfield 44, 3) := by decide +kernel
theorem dX12_compile_28 : decode cX12_compile 28 = .ok (.iload_n 3, 1) := by decide +kernel
theorem dX12_compile_29 : decode cX12_compile 29 = .ok (.iaload, 1) := by decide +kernel
theorem dX12_compile_30 : decode cX12_compile 30 = .ok (.bipush 94, 2) := by decide +kernel
theorem dX12_compile_32 : decode cX12_compile 32 = .ok (.if_icmp .ne 7, 3) := by decide +kernel
theorem dX12_compile_35 : decode cX12_compile 35 = .ok (.iconst 1, 1) := by decide +kernel
theorem dX12_compile_36 : decode cX12_compile 36 = .ok (.goto 4, 3) := by decide +kernel
theorem dX12_compile_39 : decode cX12_compile 39 = .ok (.iconst 0, 1) := by decide +kernel
theorem dX12_compile_40 : decode cX12_compile 40 = .ok (.putfield 258, 3) := by decide +kernel
theorem dX12_compile_43 : decode cX12_compile 43 = .ok (.aload_n 0, 1) := by decide +kernel
theorem dX12_compile_44 : decode cX12_compile 44 = .ok (.iconst 0, 1) := by decide +kernel
theorem dX12_compile_45 : decode cX12_compile 45 = .ok (.putfield 262, 3) := by decide +kernel
theorem dX12_compile_48 : decode cX12_compile 48 = .ok (.iload_n 3, 1) := by decide +kernel
theorem dX12_compile_49 : decode cX12_compile 49 = .ok (.aload_n 0, 1) := by decide +kernel
theorem dX12_compile_50 : decode cX12_compile 50 = .ok (.getfield 258, 3) := by decide +kernel
theorem dX12_compile_53 : decode cX12_compile 53 = .ok (.ifCond .eq 7, 3) := by decide +kernel
theorem dX12_compile_56 : decode cX12_compile 56 = .ok (.iconst 1, 1) := by decide +kernel
theorem dX12_compile_57 : decode cX12_compile 57 = .ok (.goto 4, 3) := by decide +kernel
theorem dX12_compile_60 : decode cX12_compile 60 = .ok (.iconst 0, 1) := by decide +kernel
theorem dX12_compile_61 : decode cX12_compile 61 = .ok (.iadd, 1) := by decide +kernel
theorem dX12_compile_62 : decode cX12_compile 62 = .ok (.istore_n 3, 1) := by decide +kernel
theorem dX12_compile_63 : decode cX12_compile 63 = .ok (.iload_n 3, 1) := by decide +kernel
theorem dX12_compile_64 : decode cX12_compile 64 = .ok (.aload_n 0, 1) := by decide +kernel
theorem dX12_compile_65 : decode cX12_compile 65 = .ok (.getfield 146, 3) := by decide +kernel
theorem dX12_compile_68 : decode cX12_compile 68 = .ok (.if_icmp .ge 188, 3) := by decide +kernel
theorem dX12_compile_71 : decode cX12_compile 71 = .ok (.aload_n 0, 1) := by decide +kernel
theorem dX12_compile_72 : decode cX12_compile 72 = .ok (.getfield 44, 3) := by decide +kernel
theorem dX12_compile_75 : decode cX12_compile 75 = .ok (.iload_n 3, 1) := by decide +kernel
theorem dX12_compile_76 : decode cX12_compile 76 = .ok (.iaload, 1) := by decide +kernel
theorem dX12_compile_77 : decode cX12_compile 77 = .ok (.iload_n 2, 1) := by decide +kernel
theorem dX12_compile_78 : decode cX12_compile 78 = .ok (.if_icmp .eq 178, 3) := by decide +kernel
theorem dX12_compile_81 : decode cX12_compile 81 = .ok (.aload_n 0, 1) := by decide +kernel
theorem dX12_compile_82 : decode cX12_compile 82 = .ok (.getfield 44, 3) := by decide +kernel
theorem dX12_compile_85 : decode cX12_compile 85 = .ok (.iload_n 3, 1) := by decide +kernel
theorem dX12_compile_86 : decode cX12_compile 86 = .ok (.iaload, 1) := by decide +kernel
theorem dX12_compile_87 : decode cX12_compile 87 = .ok (.istore 5, 2) := by decide +kernel
theorem dX12_compile_89 : decode cX12_compile 89 = .ok (.iinc 3 1, 3) := by decide +kernel
theorem dX12_compile_92 : decode cX12_compile 92 = .ok (.iload 5, 2) := by decide +kernel
theorem dX12_compile_94 : decode cX12_compile 94 = .ok (.bipush 36, 2) := by decide +kernel
theorem dX12_compile_96 : decode cX12_compile 96 = .ok (.if_icmp .ne 11, 3) := by decide +kernel
theorem dX12_compile_99 : decode cX12_compile 99 = .ok (.aload_n 0, 1) := by decide +kernel
theorem dX12_compile_100 : decode cX12_compile 100 = .ok (.iconst 1, 1) := by decide +kernel
theorem dX12_compile_101 : decode cX12_compile 101 = .ok (.putfield 262, 3) := by decide +kernel
theorem dX12_compile_104 : decode cX12_compile 104 = .ok (.goto 149, 3) := by decide +kernel
theorem dX12_compile_107 : decode cX12_compile 107 = .ok (.iload 5, 2) := by decide +kernel
theorem dX12_compile_109 : decode cX12_compile 109 = .ok (.bipush 40, 2) := by decide +kernel
theorem dX12_compile_111 : decode cX12_compile 111 = .ok (.if_icmp .ne 16, 3) := by decide +kernel
theorem dX12_compile_114 : decode cX12_compile 114 = .ok (.iinc 4 1, 3) := by decide +kernel
theorem dX12_compile_117 : decode cX12_compile 117 = .ok (.aload_n 0, 1) := by decide +kernel
theorem dX12_compile_118 : decode cX12_compile 118 = .ok (.iconst 5, 1) := by decide +kernel
theorem dX12_compile_119 : decode cX12_compile 119 = .ok (.iload 4, 2) := by decide +kernel
theorem dX12_compile_121 : decode cX12_compile 121 = .ok (.invokevirtual 265, 3) := by decide +kernel
theorem dX12_compile_124 : decode cX12_compile 124 = .ok (.goto 129, 3) := by decide +kernel
theorem dX12_compile_127 : decode cX12_compile 127 = .ok (.iload 5, 2) := by decide +kernel
theorem dX12_compile_129 : decode cX12_compile 129 = .ok (.bipush 41, 2) := by decide +kernel
theorem dX12_compile_131 : decode cX12_compile 131 = .ok (.if_icmp .ne 14, 3) := by decide +kernel
theorem dX12_compile_134 : decode cX12_compile 134 = .ok (.aload_n 0, 1) := by decide +kernel
theorem dX12_compile_135 : decode cX12_compile 135 = .ok (.bipush 6, 2) := by decide +kernel
theorem dX12_compile_137 : decode cX12_compile 137 = .ok (.iload 4, 2) := by decide +kernel
theorem dX12_compile_139 : decode cX12_compile 139 = .ok (.invokevirtual 265, 3) := by decide +kernel
theorem dX12_compile_142 : decode cX12_compile 142 = .ok (.goto 111, 3) := by decide +kernel
theorem dX12_compile_145 : decode cX12_compile 145 = .ok (.iload 5, 2) := by decide +kernel
theorem dX12_compile_147 : decode cX12_compile 147 = .ok (.bipush 92, 2) := by decide +kernel
theorem dX12_compile_149 : decode cX12_compile 149 = .ok (.if_icmp .ne 24, 3) := by decide +kernel
theorem dX12_compile_152 : decode cX12_compile 152 = .ok (.aload_n 0, 1) := by decide +kernel
theorem dX12_compile_153 : decode cX12_compile 153 = .ok (.bipush 7, 2) := by decide +kernel
theorem dX12_compile_155 : decode cX12_compile 155 = .ok (.aload_n 0, 1) := by decide +kernel
theorem dX12_compile_156 : decode cX12_compile 156 = .ok (.getfield 44, 3) := by decide +kernel
theorem dX12_compile_159 : decode cX12_compile 159 = .ok (.iload_n 3, 1) := by decide +kernel
theorem dX12_compile_160 : decode cX12_compile 160 = .ok (.iaload, 1) := by decide +kernel
theorem dX12_compile_161 : decode cX12_compile 161 = .ok (.bipush 48, 2) := by decide +kernel
theorem dX12_compile_163 : decode cX12_compile 163 = .ok (.isub, 1) := by decide +kernel
theorem dX12_compile_164 : decode cX12_compile 164 = .ok (.invokevirtual 265, 3) := by decide +kernel
theorem dX12_compile_167 : decode cX12_compile 167 = .ok (.iinc 3 1, 3) := by decide +kernel
theorem dX12_compile_170 : decode cX12_compile 170 = .ok (.goto 83, 3) := by decide +kernel
theorem dX12_compile_173 : decode cX12_compile 173 = .ok (.iload 5, 2) := by decide +kernel
theorem dX12_compile_175 : decode cX12_compile 175 = .ok (.bipush 91, 2) := by decide +kernel
theorem dX12_compile_177 : decode cX12_compile 177 = .ok (.if_icmp .ne 32, 3) := by decide +kernel
theorem dX12_compile_180 : decode cX12_compile 180 = .ok (.aload_n 0, 1) := by decide +kernel
theorem dX12_compile_181 : decode cX12_compile 181 = .ok (.iconst 4, 1) := by decide +kernel
theorem dX12_compile_182 : decode cX12_compile 182 = .ok (.iload_n 3, 1) := by decide +kernel
theorem dX12_compile_183 : decode cX12_compile 183 = .ok (.invokevirtual 265, 3) := by decide +kernel
theorem dX12_compile_186 : decode cX12_compile 186 = .ok (.aload_n 0, 1) := by decide +kernel
theorem dX12_compile_187 : decode cX12_compile 187 = .ok (.getfield 44, 3) := by decide +kernel
theorem dX12_compile_190 : decode cX12_compile 190 = .ok (.iload_n 3, 1) := by decide +kernel
theorem dX12_compile_191 : decode cX12_compile 191 = .ok (.iaload, 1) := by decide +kernel
theorem dX12_compile_192 : decode cX12_compile 192 = .ok (.bipush 93, 2) := by decide +kernel
theorem dX12_compile_194 : decode cX12_compile 194 = .ok (.if_icmp .eq 9, 3) := by decide +kernel
theorem dX12_compile_197 : decode cX12_compile 197 = .ok (.iinc 3 1, 3) := by decide +kernel
theorem dX12_compile_200 : decode cX12_compile 200 = .ok (.goto (-14), 3) := by decide +kernel
theorem dX12_compile_203 : decode cX12_compile 203 = .ok (.iinc 3 1, 3) := by decide +kernel
theorem dX12_compile_206 : decode cX12_compile 206 = .ok (.goto 47, 3) := by decide +kernel
theorem dX12_compile_209 : decode cX12_compile 209 = .ok (.iload 5, 2) := by decide +kernel
theorem dX12_compile_211 : decode cX12_compile 211 = .ok (.bipush 42, 2) := by decide +kernel
theorem dX12_compile_213 : decode cX12_compile 213 = .ok (.if_icmp .ne 22, 3) := by decide +kernel
theorem dX12_compile_216 : decode cX12_compile 216 = .ok (.aload_n 0, 1) := by decide +kernel
theorem dX12_compile_217 : decode cX12_compile 217 = .ok (.iconst 3, 1) := by decide +kernel
theorem dX12_compile_218 : decode cX12_compile 218 = .ok (.iconst 0, 1) := by decide +kernel
theorem dX12_compile_219 : decode cX12_compile 219 = .ok (.invokevirtual 265, 3) := by decide +kernel
theorem dX12_compile_222 : decode cX12_compile 222 = .ok (.aload_n 0, 1) := by decide +kernel
theorem dX12_compile_223 : decode cX12_compile 223 = .ok (.dup, 1) := by decide +kernel
theorem dX12_compile_224 : decode cX12_compile 224 = .ok (.getfield 255, 3) := by decide +kernel
theorem dX12_compile_227 : decode cX12_compile 227 = .ok (.iconst 1, 1) := by decide +kernel
theorem dX12_compile_228 : decode cX12_compile 228 = .ok (.iadd, 1) := by decide +kernel
theorem dX12_compile_229 : decode cX12_compile 229 = .ok (.putfield 255, 3) := by decide +kernel
theorem dX12_compile_232 : decode cX12_compile 232 = .ok (.goto 21, 3) := by decide +kernel
theorem dX12_compile_235 : decode cX12_compile 235 = .ok (.aload_n 0, 1) := by decide +kernel
theorem dX12_compile_236 : decode cX12_compile 236 = .ok (.iload 5, 2) := by decide +kernel
theorem dX12_compile_238 : decode cX12_compile 238 = .ok (.bipush 46, 2) := by decide +kernel
theorem dX12_compile_240 : decode cX12_compile 240 = .ok (.if_icmp .ne 7, 3) := by decide +kernel
theorem dX12_compile_243 : decode cX12_compile 243 = .ok (.iconst 2, 1) := by decide +kernel
theorem dX12_compile_244 : decode cX12_compile 244 = .ok (.goto 4, 3) := by decide +kernel
theorem dX12_compile_247 : decode cX12_compile 247 = .ok (.iconst 1, 1) := by decide +kernel
theorem dX12_compile_248 : decode cX12_compile 248 = .ok (.iload 5, 2) := by decide +kernel
theorem dX12_compile_250 : decode cX12_compile 250 = .ok (.invokevirtual 265, 3) := by decide +kernel
theorem dX12_compile_253 : decode cX12_compile 253 = .ok (.goto (-190), 3) := by decide +kernel
theorem dX12_compile_256 : decode cX12_compile 256 = .ok (.aload_n 0, 1) := by decide +kernel
theorem dX12_compile_257 : decode cX12_compile 257 = .ok (.iload_n 3, 1) := by decide +kernel
theorem dX12_compile_258 : decode cX12_compile 258 = .ok (.putfield 268, 3) := by decide +kernel
theorem dX12_compile_261 : decode cX12_compile 261 = .ok (.return_, 1) := by decide +kernel
theorem dX12_isInClass_0 : decode cX12_isInClass 0 = .ok (.aload_n 0, 1) := by decide +kernel
theorem dX12_isInClass_1 : decode cX12_isInClass 1 = .ok (.getfield 44, 3) := by decide +kernel
theorem dX12_isInClass_4 : decode cX12_isInClass 4 = .ok (.iload_n 1, 1) := by decide +kernel
theorem dX12_isInClass_5 : decode cX12_isInClass 5 = .ok (.iaload, 1) := by decide +kernel
theorem dX12_isInClass_6 : decode cX12_isInClass 6 = .ok (.bipush 94, 2) := by decide +kernel
theorem dX12_isInClass_8 : decode cX12_isInClass 8 = .ok (.if_icmp .ne 7, 3) := by decide +kernel
theorem dX12_isInClass_11 : decode cX12_isInClass 11 = .ok (.iconst 1, 1) := by decide +kernel
theorem dX12_isInClass_12 : decode cX12_isInClass 12 = .ok (.goto 4, 3) := by decide +kernel
theorem dX12_isInClass_15 : decode cX12_isInClass 15 = .ok (.iconst 0, 1) := by decide +kernel
theorem dX12_isInClass_16 : decode cX12_isInClass 16 = .ok (.istore_n 3, 1) := by decide +kernel
theorem dX12_isInClass_17 : decode cX12_isInClass 17 = .ok (.iload_n 1, 1) := by decide +kernel
theorem dX12_isInClass_18 : decode cX12_isInClass 18 = .ok (.iload_n 3, 1) := by decide +kernel
theorem dX12_isInClass_19 : decode cX12_isInClass 19 = .ok (.ifCond .eq 7, 3) := by decide +kernel
theorem dX12_isInClass_22 : decode cX12_isInClass 22 = .ok (.iconst 1, 1) := by decide +kernel
theorem dX12_isInClass_23 : decode cX12_isInClass 23 = .ok (.goto 4, 3) := by decide +kernel
theorem dX12_isInClass_26 : decode cX12_isInClass 26 = .ok (.iconst 0, 1) := by decide +kernel
theorem dX12_isInClass_27 : decode cX12_isInClass 27 = .ok (.iadd, 1) := by decide +kernel
theorem dX12_isInClass_28 : decode cX12_isInClass 28 = .ok (.istore 4, 2) := by decide +kernel
theorem dX12_isInClass_30 : decode cX12_isInClass 30 = .ok (.iconst 0, 1) := by decide +kernel
theorem dX12_isInClass_31 : decode cX12_isInClass 31 = .ok (.istore 5, 2) := by decide +kernel
theorem dX12_isInClass_33 : decode cX12_isInClass 33 = .ok (.aload_n 0, 1) := by decide +kernel
theorem dX12_isInClass_34 : decode cX12_isInClass 34 = .ok (.getfield 44, 3) := by decide +kernel
theorem dX12_isInClass_37 : decode cX12_isInClass 37 = .ok (.iload 4, 2) := by decide +kernel
theorem dX12_isInClass_39 : decode cX12_isInClass 39 = .ok (.iaload, 1) := by decide +kernel
theorem dX12_isInClass_40 : decode cX12_isInClass 40 = .ok (.bipush 93, 2) := by decide +kernel
theorem dX12_isInClass_42 : decode cX12_isInClass 42 = .ok (.if_icmp .eq 32, 3) := by decide +kernel
theorem dX12_isInClass_45 : decode cX12_isInClass 45 = .ok (.iload 5, 2) := by decide +kernel
theorem dX12_isInClass_47 : decode cX12_isInClass 47 = .ok (.ifCond .ne 14, 3) := by decide +kernel
theorem dX12_isInClass_50 : decode cX12_isInClass 50 = .ok (.aload_n 0, 1) := by decide +kernel
theorem dX12_isInClass_51 : decode cX12_isInClass 51 = .ok (.getfield 44, 3) := by decide +kernel
theorem dX12_isInClass_54 : decode cX12_isInClass 54 = .ok (.iload 4, 2) := by decide +kernel
theorem dX12_isInClass_56 : decode cX12_isInClass 56 = .ok (.iaload, 1) := by decide +kernel
theorem dX12_isInClass_57 : decode cX12_isInClass 57 = .ok (.iload_n 2, 1) := by decide +kernel
theorem dX12_isInClass_58 : decode cX12_isInClass 58 = .ok (.if_icmp .ne 7, 3) := by decide +kernel
theorem dX12_isInClass_61 : decode cX12_isInClass 61 = .ok (.iconst 1, 1) := by decide +kernel
theorem dX12_isInClass_62 : decode cX12_isInClass 62 = .ok (.goto 4, 3) := by decide +kernel
theorem dX12_isInClass_65 : decode cX12_isInClass 65 = .ok (.iconst 0, 1) := by decide +kernel
theorem dX12_isInClass_66 : decode cX12_isInClass 66 = .ok (.istore 5, 2) := by decide +kernel
theorem dX12_isInClass_68 : decode cX12_isInClass 68 = .ok (.iinc 4 1, 3) := by decide +kernel
theorem dX12_isInClass_71 : decode cX12_isInClass 71 = .ok (.goto (-38), 3) := by decide +kernel
theorem dX12_isInClass_74 : decode cX12_isInClass 74 = .ok (.iload 5, 2) := by decide +kernel
theorem dX12_isInClass_76 : decode cX12_isInClass 76 = .ok (.iload_n 3, 1) := by decide +kernel
theorem dX12_isInClass_77 : decode cX12_isInClass 77 = .ok (.if_icmp .eq 7, 3) := by decide +kernel
theorem dX12_isInClass_80 : decode cX12_isInClass 80 = .ok (.iconst 1, 1) := by decide +kernel
theorem dX12_isInClass_81 : decode cX12_isInClass 81 = .ok (.goto 4, 3) := by decide +kernel
theorem dX12_isInClass_84 : decode cX12_isInClass 84 = .ok (.iconst 0, 1) := by decide +kernel
theorem dX12_isInClass_85 : decode cX12_isInClass 85 = .ok (.ireturn, 1) := by decide +kernel
theorem dX12_isBack_0 : decode cX12_isBack 0 = .ok (.aload_n 0, 1) := by decide +kernel
theorem dX12_isBack_1 : decode cX12_isBack 1 = .ok (.getfield 56, 3) := by decide +kernel
theorem dX12_isBack_4 : decode cX12_isBack 4 = .ok (.iload_n 3, 1) := by decide +kernel
theorem dX12_isBack_5 : decode cX12_isBack 5 = .ok (.iaload, 1) := by decide +kernel
theorem dX12_isBack_6 : decode cX12_isBack 6 = .ok (.aload_n 0, 1) := by decide +kernel
theorem dX12_isBack_7 : decode cX12_isBack 7 = .ok (.getfield 53, 3) := by decide +kernel
theorem dX12_isBack_10 : decode cX12_isBack 10 = .ok (.iload_n 3, 1) := by decide +kernel
theorem dX12_isBack_11 : decode cX12_isBack 11 = .ok (.iaload, 1) := by decide +kernel
theorem dX12_isBack_12 : decode cX12_isBack 12 = .ok (.isub, 1) := by decide +kernel
theorem dX12_isBack_13 : decode cX12_isBack 13 = .ok (.istore 4, 2) := by decide +kernel
theorem dX12_isBack_15 : decode cX12_isBack 15 = .ok (.iload_n 2, 1) := by decide +kernel
theorem dX12_isBack_16 : decode cX12_isBack 16 = .ok (.iload 4, 2) := by decide +kernel
theorem dX12_isBack_18 : decode cX12_isBack 18 = .ok (.iadd, 1) := by decide +kernel
theorem dX12_isBack_19 : decode cX12_isBack 19 = .ok (.aload_n 0, 1) := by decide +kernel
theorem dX12_isBack_20 : decode cX12_isBack 20 = .ok (.iload_n 1, 1) := by decide +kernel
theorem dX12_isBack_21 : decode cX12_isBack 21 = .ok (.invokevirtual 109, 3) := by decide +kernel
theorem dX12_isBack_24 : decode cX12_isBack 24 = .ok (.if_icmp .gt 7, 3) := by decide +kernel
theorem dX12_isBack_27 : decode cX12_isBack 27 = .ok (.iconst 1, 1) := by decide +kernel
theorem dX12_isBack_28 : decode cX12_isBack 28 = .ok (.goto 4, 3) := by decide +kernel
theorem dX12_isBack_31 : decode cX12_isBack 31 = .ok (.iconst 0, 1) := by decide +kernel
theorem dX12_isBack_32 : decode cX12_isBack 32 = .ok (.istore 5, 2) := by decide +kernel
theorem dX12_isBack_34 : decode cX12_isBack 34 = .ok (.iconst 0, 1) := by decide +kernel
theorem dX12_isBack_35 : decode cX12_isBack 35 = .ok (.istore 6, 2) := by decide +kernel
theorem dX12_isBack_37 : decode cX12_isBack 37 = .ok (.iload 6, 2) := by decide +kernel
theorem dX12_isBack_39 : decode cX12_isBack 39 = .ok (.iload 4, 2) := by decide +kernel
theorem dX12_isBack_41 : decode cX12_isBack 41 = .ok (.if_icmp .ge 47, 3) := by decide +kernel
theorem dX12_isBack_44 : decode cX12_isBack 44 = .ok (.iload 5, 2) := by decide +kernel
theorem dX12_isBack_46 : decode cX12_isBack 46 = .ok (.ifCond .eq 42, 3) := by decide +kernel
theorem dX12_isBack_49 : decode cX12_isBack 49 = .ok (.aload_n 0, 1) := by decide +kernel
theorem dX12_isBack_50 : decode cX12_isBack 50 = .ok (.iload_n 1, 1) := by decide +kernel
theorem dX12_isBack_51 : decode cX12_isBack 51 = .ok (.iload_n 2, 1) := by decide +kernel
theorem dX12_isBack_52 : decode cX12_isBack 52 = .ok (.iload 6, 2) := by decide +kernel
theorem dX12_isBack_54 : decode cX12_isBack 54 = .ok (.iadd, 1) := by decide +kernel
theorem dX12_isBack_55 : decode cX12_isBack 55 = .ok (.invokevirtual 113, 3) := by decide +kernel
theorem dX12_isBack_58 : decode cX12_isBack 58 = .ok (.aload_n 0, 1) := by decide +kernel
theorem dX12_isBack_59 : decode cX12_isBack 59 = .ok (.iload_n 1, 1) := by decide +kernel
theorem dX12_isBack_60 : decode cX12_isBack 60 = .ok (.aload_n 0, 1) := by decide +kernel
theorem dX12_isBack_61 : decode cX12_isBack 61 = .ok (.getfield 53, 3) := by decide +kernel
theorem dX12_isBack_64 : decode cX12_isBack 64 = .ok (.iload_n 3, 1) := by decide +kernel
theorem dX12_isBack_65 : decode cX12_isBack 65 = .ok (.iaload, 1) := by decide +kernel
theorem dX12_isBack_66 : decode cX12_isBack 66 = .ok (.iload 6, 2) := by decide +kernel
theorem dX12_isBack_68 : decode cX12_isBack 68 = .ok (.iadd, 1) := by decide +kernel
theorem dX12_isBack_69 : decode cX12_isBack 69 = .ok (.invokevirtual 113, 3) := by decide +kernel
theorem dX12_isBack_72 : decode cX12_isBack 72 = .ok (.if_icmp .ne 7, 3) := by decide +kernel
theorem dX12_isBack_75 : decode cX12_isBack 75 = .ok (.iconst 1, 1) := by decide +kernel
theorem dX12_isBack_76 : decode cX12_isBack 76 = .ok (.goto 4, 3) := by decide +kernel
theorem dX12_isBack_79 : decode cX12_isBack 79 = .ok (.iconst 0, 1) := by decide +kernel
theorem dX12_isBack_80 : decode cX12_isBack 80 = .ok (.istore 5, 2) := by decide +kernel
theorem dX12_isBack_82 : decode cX12_isBack 82 = .ok (.iinc 6 1, 3) := by decide +kernel
theorem dX12_isBack_85 : decode cX12_isBack 85 = .ok (.goto (-48), 3) := by decide +kernel
theorem dX12_isBack_88 : decode cX12_isBack 88 = .ok (.iload 5, 2) := by decide +kernel
theorem dX12_isBack_90 : decode cX12_isBack 90 = .ok (.ireturn, 1) := by decide +kernel
theorem dX12_fits_0 : decode cX12_fits 0 = .ok (.iload_n 2, 1) := by decide +kernel
theorem dX12_fits_1 : decode cX12_fits 1 = .ok (.istore 5, 2) := by decide +kernel
theorem dX12_fits_3 : decode cX12_fits 3 = .ok (.iconst 0, 1) := by decide +kernel
theorem dX12_fits_4 : decode cX12_fits 4 = .ok (.istore 6, 2) := by decide +kernel
theorem dX12_fits_6 : decode cX12_fits 6 = .ok (.aload_n 0, 1) := by decide +kernel
theorem dX12_fits_7 : decode cX12_fits 7 = .ok (.iload_n 1, 1) := by decide +kernel
theorem dX12_fits_8 : decode cX12_fits 8 = .ok (.invokevirtual 109, 3) := by decide +kernel
theorem dX12_fits_11 : decode cX12_fits 11 = .ok (.istore 7, 2) := by decide +kernel
theorem dX12_fits_13 : decode cX12_fits 13 = .ok (.iconst 0, 1) := by decide +kernel
theorem dX12_fits_14 : decode cX12_fits 14 = .ok (.istore 8, 2) := by decide +kernel
theorem dX12_fits_16 : decode cX12_fits 16 = .ok (.iload 8, 2) := by decide +kernel
theorem dX12_fits_18 : decode cX12_fits 18 = .ok (.aload_n 0, 1) := by decide +kernel
theorem dX12_fits_19 : decode cX12_fits 19 = .ok (.getfield 252, 3) := by decide +kernel
theorem dX12_fits_22 : decode cX12_fits 22 = .ok (.if_icmp .ge 241, 3) := by decide +kernel
theorem dX12_fits_25 : decode cX12_fits 25 = .ok (.aload_n 0, 1) := by decide +kernel
theorem dX12_fits_26 : decode cX12_fits 26 = .ok (.getfield 47, 3) := by decide +kernel
theorem dX12_fits_29 : decode cX12_fits 29 = .ok (.iload 8, 2) := by decide +kernel
theorem dX12_fits_31 : decode cX12_fits 31 = .ok (.iaload, 1) := by decide +kernel
theorem dX12_fits_32 : decode cX12_fits 32 = .ok (.istore 9, 2) := by decide +kernel
theorem dX12_fits_34 : decode cX12_fits 34 = .ok (.iload 9, 2) := by decide +kernel
theorem dX12_fits_36 : decode cX12_fits 36 = .ok (.iconst 5, 1) := by decide +kernel
theorem dX12_fits_37 : decode cX12_fits 37 = .ok (.if_icmp .ne 20, 3) := by decide +kernel
theorem dX12_fits_40 : decode cX12_fits 40 = .ok (.aload_n 0, 1) := by decide +kernel
theorem dX12_fits_41 : decode cX12_fits 41 = .ok (.getfield 53, 3) := by decide +kernel
theorem dX12_fits_44 : decode cX12_fits 44 = .ok (.aload_n 0, 1) := by decide +kernel
theorem dX12_fits_45 : decode cX12_fits 45 = .ok (.getfield 50, 3) := by decide +kernel
theorem dX12_fits_48 : decode cX12_fits 48 = .ok (.iload 8, 2) := by decide +kernel
theorem dX12_fits_50 : decode cX12_fits 50 = .ok (.iaload, 1) := by decide +kernel
theorem dX12_fits_51 : decode cX12_fits 51 = .ok (.iload 5, 2) := by decide +kernel
theorem dX12_fits_53 : decode cX12_fits 53 = .ok (.iastore, 1) := by decide +kernel
theorem dX12_fits_54 : decode cX12_fits 54 = .ok (.goto 194, 3) := by decide +kernel
theorem dX12_fits_57 : decode cX12_fits 57 = .ok (.iload 9, 2) := by decide +kernel
theorem dX12_fits_59 : decode cX12_fits 59 = .ok (.bipush 6, 2) := by decide +kernel
theorem dX12_fits_61 : decode cX12_fits 61 = .ok (.if_icmp .ne 20, 3) := by decide +kernel
theorem dX12_fits_64 : decode cX12_fits 64 = .ok (.aload_n 0, 1) := by decide +kernel
theorem dX12_fits_65 : decode cX12_fits 65 = .ok (.getfield 56, 3) := by decide +kernel
theorem dX12_fits_68 : decode cX12_fits 68 = .ok (.aload_n 0, 1) := by decide +kernel
theorem dX12_fits_69 : decode cX12_fits 69 = .ok (.getfield 50, 3) := by decide +kernel
theorem dX12_fits_72 : decode cX12_fits 72 = .ok (.iload 8, 2) := by decide +kernel
theorem dX12_fits_74 : decode cX12_fits 74 = .ok (.iaload, 1) := by decide +kernel
theorem dX12_fits_75 : decode cX12_fits 75 = .ok (.iload 5, 2) := by decide +kernel
theorem dX12_fits_77 : decode cX12_fits 77 = .ok (.iastore, 1) := by decide +kernel
theorem dX12_fits_78 : decode cX12_fits 78 = .ok (.goto 170, 3) := by decide +kernel
theorem dX12_fits_81 : decode cX12_fits 81 = .ok (.iload 9, 2) := by decide +kernel
theorem dX12_fits_83 : decode cX12_fits 83 = .ok (.iconst 3, 1) := by decide +kernel
theorem dX12_fits_84 : decode cX12_fits 84 = .ok (.if_icmp .ne 25, 3) := by decide +kernel
theorem dX12_fits_87 : decode cX12_fits 87 = .ok (.iload 5, 2) := by decide +kernel
theorem dX12_fits_89 : decode cX12_fits 89 = .ok (.iload 6, 2) := by decide +kernel
theorem dX12_fits_91 : decode cX12_fits 91 = .ok (.ifCond .ne 7, 3) := by decide +kernel
theorem dX12_fits_94 : decode cX12_fits 94 = .ok (.iload_n 3, 1) := by decide +kernel
theorem dX12_fits_95 : decode cX12_fits 95 = .ok (.goto 5, 3) := by decide +kernel
theorem dX12_fits_98 : decode cX12_fits 98 = .ok (.iload 4, 2) := by decide +kernel
theorem dX12_fits_100 : decode cX12_fits 100 = .ok (.iadd, 1) := by decide +kernel
theorem dX12_fits_101 : decode cX12_fits 101 = .ok (.istore 5, 2) := by decide +kernel
theorem dX12_fits_103 : decode cX12_fits 103 = .ok (.iinc 6 1, 3) := by decide +kernel
theorem dX12_fits_106 : decode cX12_fits 106 = .ok (.goto 142, 3) := by decide +kernel
theorem dX12_fits_109 : decode cX12_fits 109 = .ok (.iload 9, 2) := by decide +kernel
theorem dX12_fits_111 : decode cX12_fits 111 = .ok (.bipush 7, 2) := by decide +kernel
theorem dX12_fits_113 : decode cX12_fits 113 = .ok (.if_icmp .ne 55, 3) := by decide +kernel
theorem dX12_fits_116 : decode cX12_fits 116 = .ok (.aload_n 0, 1) := by decide +kernel
theorem dX12_fits_117 : decode cX12_fits 117 = .ok (.iload_n 1, 1) := by decide +kernel
theorem dX12_fits_118 : decode cX12_fits 118 = .ok (.iload 5, 2) := by decide +kernel
theorem dX12_fits_120 : decode cX12_fits 120 = .ok (.aload_n 0, 1) := by decide +kernel
theorem dX12_fits_121 : decode cX12_fits 121 = .ok (.getfield 50, 3) := by decide +kernel
theorem dX12_fits_124 : decode cX12_fits 124 = .ok (.iload 8, 2) := by decide +kernel
theorem dX12_fits_126 : decode cX12_fits 126 = .ok (.iaload, 1) := by decide +kernel
theorem dX12_fits_127 : decode cX12_fits 127 = .ok (.invokevirtual 271, 3) := by decide +kernel
theorem dX12_fits_130 : decode cX12_fits 130 = .ok (.ifCond .ne 5, 3) := by decide +kernel
theorem dX12_fits_133 : decode cX12_fits 133 = .ok (.iconst 0, 1) := by decide +kernel
theorem dX12_fits_134 : decode cX12_fits 134 = .ok (.ireturn, 1) := by decide +kernel
theorem dX12_fits_135 : decode cX12_fits 135 = .ok (.iload 5, 2) := by decide +kernel
theorem dX12_fits_137 : decode cX12_fits 137 = .ok (.aload_n 0, 1) := by decide +kernel
theorem dX12_fits_138 : decode cX12_fits 138 = .ok (.getfield 56, 3) := by decide +kernel
theorem dX12_fits_141 : decode cX12_fits 141 = .ok (.aload_n 0, 1) := by decide +kernel
theorem dX12_fits_142 : decode cX12_fits 142 = .ok (.getfield 50, 3) := by decide +kernel
theorem dX12_fits_145 : decode cX12_fits 145 = .ok (.iload 8, 2) := by decide +kernel
theorem dX12_fits_147 : decode cX12_fits 147 = .ok (.iaload, 1) := by decide +kernel
theorem dX12_fits_148 : decode cX12_fits 148 = .ok (.iaload, 1) := by decide +kernel
theorem dX12_fits_149 : decode cX12_fits 149 = .ok (.aload_n 0, 1) := by decide +kernel
theorem dX12_fits_150 : decode cX12_fits 150 = .ok (.getfield 53, 3) := by decide +kernel
theorem dX12_fits_153 : decode cX12_fits 153 = .ok (.aload_n 0, 1) := by decide +kernel
theorem dX12_fits_154 : decode cX12_fits 154 = .ok (.getfield 50, 3) := by decide +kernel
theorem dX12_fits_157 : decode cX12_fits 157 = .ok (.iload 8, 2) := by decide +kernel
theorem dX12_fits_159 : decode cX12_fits 159 = .ok (.iaload, 1) := by decide +kernel
theorem dX12_fits_160 : decode cX12_fits 160 = .ok (.iaload, 1) := by decide +kernel
theorem dX12_fits_161 : decode cX12_fits 161 = .ok (.isub, 1) := by decide +kernel
theorem dX12_fits_162 : decode cX12_fits 162 = .ok (.iadd, 1) := by decide +kernel
theorem dX12_fits_163 : decode cX12_fits 163 = .ok (.istore 5, 2) := by decide +kernel
theorem dX12_fits_165 : decode cX12_fits 165 = .ok (.goto 83, 3) := by decide +kernel
theorem dX12_fits_168 : decode cX12_fits 168 = .ok (.iload 5, 2) := by decide +kernel
theorem dX12_fits_170 : decode cX12_fits 170 = .ok (.iload 7, 2) := by decide +kernel
theorem dX12_fits_172 : decode cX12_fits 172 = .ok (.if_icmp .ge 63, 3) := by decide +kernel
theorem dX12_fits_175 : decode cX12_fits 175 = .ok (.iload 9, 2) := by decide +kernel
theorem dX12_fits_177 : decode cX12_fits 177 = .ok (.iconst 2, 1) := by decide +kernel
theorem dX12_fits_178 : decode cX12_fits 178 = .ok (.if_icmp .eq 53, 3) := by decide +kernel
theorem dX12_fits_181 : decode cX12_fits 181 = .ok (.iload 9, 2) := by decide +kernel
theorem dX12_fits_183 : decode cX12_fits 183 = .ok (.iconst 1, 1) := by decide +kernel
theorem dX12_fits_184 : decode cX12_fits 184 = .ok (.if_icmp .ne 20, 3) := by decide +kernel
theorem dX12_fits_187 : decode cX12_fits 187 = .ok (.aload_n 0, 1) := by decide +kernel
theorem dX12_fits_188 : decode cX12_fits 188 = .ok (.iload_n 1, 1) := by decide +kernel
theorem dX12_fits_189 : decode cX12_fits 189 = .ok (.iload 5, 2) := by decide +kernel
theorem dX12_fits_191 : decode cX12_fits 191 = .ok (.invokevirtual 113, 3) := by decide +kernel
theorem dX12_fits_194 : decode cX12_fits 194 = .ok (.aload_n 0, 1) := by decide +kernel
theorem dX12_fits_195 : decode cX12_fits 195 = .ok (.getfield 50, 3) := by decide +kernel
theorem dX12_fits_198 : decode cX12_fits 198 = .ok (.iload 8, 2) := by decide +kernel
theorem dX12_fits_200 : decode cX12_fits 200 = .ok (.iaload, 1) := by decide +kernel
theorem dX12_fits_201 : decode cX12_fits 201 = .ok (.if_icmp .eq 30, 3) := by decide +kernel
theorem dX12_fits_204 : decode cX12_fits 204 = .ok (.iload 9, 2) := by decide +kernel
theorem dX12_fits_206 : decode cX12_fits 206 = .ok (.iconst 4, 1) := by decide +kernel
theorem dX12_fits_207 : decode cX12_fits 207 = .ok (.if_icmp .ne 28, 3) := by decide +kernel
theorem dX12_fits_210 : decode cX12_fits 210 = .ok (.aload_n 0, 1) := by decide +kernel
theorem dX12_fits_211 : decode cX12_fits 211 = .ok (.aload_n 0, 1) := by decide +kernel
theorem dX12_fits_212 : decode cX12_fits 212 = .ok (.getfield 50, 3) := by decide +kernel
theorem dX12_fits_215 : decode cX12_fits 215 = .ok (.iload 8, 2) := by decide +kernel
theorem dX12_fits_217 : decode cX12_fits 217 = .ok (.iaload, 1) := by decide +kernel
theorem dX12_fits_218 : decode cX12_fits 218 = .ok (.aload_n 0, 1) := by decide +kernel
theorem dX12_fits_219 : decode cX12_fits 219 = .ok (.iload_n 1, 1) := by decide +kernel
theorem dX12_fits_220 : decode cX12_fits 220 = .ok (.iload 5, 2) := by decide +kernel
theorem dX12_fits_222 : decode cX12_fits 222 = .ok (.invokevirtual 113, 3) := by decide +kernel
theorem dX12_fits_225 : decode cX12_fits 225 = .ok (.invokevirtual 275, 3) := by decide +kernel
theorem dX12_fits_228 : decode cX12_fits 228 = .ok (.ifCond .eq 7, 3) := by decide +kernel
theorem dX12_fits_231 : decode cX12_fits 231 = .ok (.iconst 1, 1) := by decide +kernel
theorem dX12_fits_232 : decode cX12_fits 232 = .ok (.goto 4, 3) := by decide +kernel
theorem dX12_fits_235 : decode cX12_fits 235 = .ok (.iconst 0, 1) := by decide +kernel
theorem dX12_fits_236 : decode cX12_fits 236 = .ok (.istore 10, 2) := by decide +kernel
theorem dX12_fits_238 : decode cX12_fits 238 = .ok (.iload 10, 2) := by decide +kernel
theorem dX12_fits_240 : decode cX12_fits 240 = .ok (.ifCond .ne 5, 3) := by decide +kernel
theorem dX12_fits_243 : decode cX12_fits 243 = .ok (.iconst 0, 1) := by decide +kernel
theorem dX12_fits_244 : decode cX12_fits 244 = .ok (.ireturn, 1) := by decide +kernel
theorem dX12_fits_245 : decode cX12_fits 245 = .ok (.iinc 5 1, 3) := by decide +kernel
theorem dX12_fits_248 : decode cX12_fits 248 = .ok (.iload 5, 2) := by decide +kernel
theorem dX12_fits_250 : decode cX12_fits 250 = .ok (.iload 7, 2) := by decide +kernel
theorem dX12_fits_252 : decode cX12_fits 252 = .ok (.if_icmp .le 5, 3) := by decide +kernel
theorem dX12_fits_255 : decode cX12_fits 255 = .ok (.iconst 0, 1) := by decide +kernel
theorem dX12_fits_256 : decode cX12_fits 256 = .ok (.ireturn, 1) := by decide +kernel
theorem dX12_fits_257 : decode cX12_fits 257 = .ok (.iinc 8 1, 3) := by decide +kernel
theorem dX12_fits_260 : decode cX12_fits 260 = .ok (.goto (-244), 3) := by decide +kernel
theorem dX12_fits_263 : decode cX12_fits 263 = .ok (.aload_n 0, 1) := by decide +kernel
theorem dX12_fits_264 : decode cX12_fits 264 = .ok (.iload 5, 2) := by decide +kernel
theorem dX12_fits_266 : decode cX12_fits 266 = .ok (.putfield 279, 3) := by decide +kernel
theorem dX12_fits_269 : decode cX12_fits 269 = .ok (.aload_n 0, 1) := by decide +kernel
theorem dX12_fits_270 : decode cX12_fits 270 = .ok (.getfield 262, 3) := by decide +kernel
theorem dX12_fits_273 : decode cX12_fits 273 = .ok (.ifCond .eq 10, 3) := by decide +kernel
theorem dX12_fits_276 : decode cX12_fits 276 = .ok (.iload 5, 2) := by decide +kernel
theorem dX12_fits_278 : decode cX12_fits 278 = .ok (.iload 7, 2) := by decide +kernel
theorem dX12_fits_280 : decode cX12_fits 280 = .ok (.if_icmp .ne 7, 3) := by decide +kernel
theorem dX12_fits_283 : decode cX12_fits 283 = .ok (.iconst 1, 1) := by decide +kernel
theorem dX12_fits_284 : decode cX12_fits 284 = .ok (.goto 4, 3) := by decide +kernel
theorem dX12_fits_287 : decode cX12_fits 287 = .ok (.iconst 0, 1) := by decide +kernel
theorem dX12_fits_288 : decode cX12_fits 288 = .ok (.ireturn, 1) := by decide +kernel
theorem dX12_matches_0 : decode cX12_matches 0 = .ok (.aload_n 0, 1) := by decide +kernel
theorem dX12_matches_1 : decode cX12_matches 1 = .ok (.getfield 258, 3) := by decide +kernel
theorem dX12_matches_4 : decode cX12_matches 4 = .ok (.ifCond .eq 9, 3) := by decide +kernel
theorem dX12_matches_7 : decode cX12_matches 7 = .ok (.iload_n 2, 1) := by decide +kernel
theorem dX12_matches_8 : decode cX12_matches 8 = .ok (.ifCond .le 5, 3) := by decide +kernel
theorem dX12_matches_11 : decode cX12_matches 11 = .ok (.iconst 0, 1) := by decide +kernel
theorem dX12_matches_12 : decode cX12_matches 12 = .ok (.ireturn, 1) := by decide +kernel
theorem dX12_matches_13 : decode cX12_matches 13 = .ok (.aload_n 0, 1) := by decide +kernel
theorem dX12_matches_14 : decode cX12_matches 14 = .ok (.iload_n 1, 1) := by decide +kernel
theorem dX12_matches_15 : decode cX12_matches 15 = .ok (.invokevirtual 109, 3) := by decide +kernel
theorem dX12_matches_18 : decode cX12_matches 18 = .ok (.iload_n 2, 1) := by decide +kernel
theorem dX12_matches_19 : decode cX12_matches 19 = .ok (.isub, 1) := by decide +kernel
theorem dX12_matches_20 : decode cX12_matches 20 = .ok (.istore_n 3, 1) := by decide +kernel
theorem dX12_matches_21 : decode cX12_matches 21 = .ok (.aload_n 0, 1) := by decide +kernel
theorem dX12_matches_22 : decode cX12_matches 22 = .ok (.getfield 255, 3) := by decide +kernel
theorem dX12_matches_25 : decode cX12_matches 25 = .ok (.ifCond .le 7, 3) := by decide +kernel
theorem dX12_matches_28 : decode cX12_matches 28 = .ok (.iload_n 3, 1) := by decide +kernel
theorem dX12_matches_29 : decode cX12_matches 29 = .ok (.goto 4, 3) := by decide +kernel
theorem dX12_matches_32 : decode cX12_matches 32 = .ok (.iconst 0, 1) := by decide +kernel
theorem dX12_matches_33 : decode cX12_matches 33 = .ok (.istore 4, 2) := by decide +kernel
theorem dX12_matches_35 : decode cX12_matches 35 = .ok (.iload 4, 2) := by decide +kernel
theorem dX12_matches_37 : decode cX12_matches 37 = .ok (.ifCond .lt 53, 3) := by decide +kernel
theorem dX12_matches_40 : decode cX12_matches 40 = .ok (.aload_n 0, 1) := by decide +kernel
theorem dX12_matches_41 : decode cX12_matches 41 = .ok (.getfield 255, 3) := by decide +kernel
theorem dX12_matches_44 : decode cX12_matches 44 = .ok (.iconst 1, 1) := by decide +kernel
theorem dX12_matches_45 : decode cX12_matches 45 = .ok (.if_icmp .le 10, 3) := by decide +kernel
theorem dX12_matches_48 : decode cX12_matches 48 = .ok (.iload_n 3, 1) := by decide +kernel
theorem dX12_matches_49 : decode cX12_matches 49 = .ok (.iload 4, 2) := by decide +kernel
theorem dX12_matches_51 : decode cX12_matches 51 = .ok (.isub, 1) := by decide +kernel
theorem dX12_matches_52 : decode cX12_matches 52 = .ok (.goto 4, 3) := by decide +kernel
theorem dX12_matches_55 : decode cX12_matches 55 = .ok (.iconst 0, 1) := by decide +kernel
theorem dX12_matches_56 : decode cX12_matches 56 = .ok (.istore 5, 2) := by decide +kernel
theorem dX12_matches_58 : decode cX12_matches 58 = .ok (.iload 5, 2) := by decide +kernel
theorem dX12_matches_60 : decode cX12_matches 60 = .ok (.ifCond .lt 24, 3) := by decide +kernel
theorem dX12_matches_63 : decode cX12_matches 63 = .ok (.aload_n 0, 1) := by decide +kernel
theorem dX12_matches_64 : decode cX12_matches 64 = .ok (.iload_n 1, 1) := by decide +kernel
theorem dX12_matches_65 : decode cX12_matches 65 = .ok (.iload_n 2, 1) := by decide +kernel
theorem dX12_matches_66 : decode cX12_matches 66 = .ok (.iload 4, 2) := by decide +kernel
theorem dX12_matches_68 : decode cX12_matches 68 = .ok (.iload 5, 2) := by decide +kernel
theorem dX12_matches_70 : decode cX12_matches 70 = .ok (.invokevirtual 282, 3) := by decide +kernel
theorem dX12_matches_73 : decode cX12_matches 73 = .ok (.ifCond .eq 5, 3) := by decide +kernel
theorem dX12_matches_76 : decode cX12_matches 76 = .ok (.iconst 1, 1) := by decide +kernel
theorem dX12_matches_77 : decode cX12_matches 77 = .ok (.ireturn, 1) := by decide +kernel
theorem dX12_matches_78 : decode cX12_matches 78 = .ok (.iinc 5 (-1), 3) := by decide +kernel
theorem dX12_matches_81 : decode cX12_matches 81 = .ok (.goto (-23), 3) := by decide +kernel
theorem dX12_matches_84 : decode cX12_matches 84 = .ok (.iinc 4 (-1), 3) := by decide +kernel
theorem dX12_matches_87 : decode cX12_matches 87 = .ok (.goto (-52), 3) := by decide +kernel
theorem dX12_matches_90 : decode cX12_matches 90 = .ok (.iconst 0, 1) := by decide +kernel
theorem dX12_matches_91 : decode cX12_matches 91 = .ok (.ireturn, 1) := by decide +kernel
theorem dX12_finds_0 : decode cX12_finds 0 = .ok (.iload_n 2, 1) := by decide +kernel
theorem dX12_finds_1 : decode cX12_finds 1 = .ok (.istore_n 3, 1) := by decide +kernel
theorem dX12_finds_2 : decode cX12_finds 2 = .ok (.iload_n 3, 1) := by decide +kernel
theorem dX12_finds_3 : decode cX12_finds 3 = .ok (.aload_n 0, 1) := by decide +kernel
theorem dX12_finds_4 : decode cX12_finds 4 = .ok (.iload_n 1, 1) := by decide +kernel
theorem dX12_finds_5 : decode cX12_finds 5 = .ok (.invokevirtual 109, 3) := by decide +kernel
theorem dX12_finds_8 : decode cX12_finds 8 = .ok (.if_icmp .gt 25, 3) := by decide +kernel
theorem dX12_finds_11 : decode cX12_finds 11 = .ok (.aload_n 0, 1) := by decide +kernel
theorem dX12_finds_12 : decode cX12_finds 12 = .ok (.iload_n 1, 1) := by decide +kernel
theorem dX12_finds_13 : decode cX12_finds 13 = .ok (.iload_n 3, 1) := by decide +kernel
theorem dX12_finds_14 : decode cX12_finds 14 = .ok (.invokevirtual 286, 3) := by decide +kernel
theorem dX12_finds_17 : decode cX12_finds 17 = .ok (.ifCond .eq 10, 3) := by decide +kernel
theorem dX12_finds_20 : decode cX12_finds 20 = .ok (.aload_n 0, 1) := by decide +kernel
theorem dX12_finds_21 : decode cX12_finds 21 = .ok (.iload_n 3, 1) := by decide +kernel
theorem dX12_finds_22 : decode cX12_finds 22 = .ok (.putfield 289, 3) := by decide +kernel
theorem dX12_finds_25 : decode cX12_finds 25 = .ok (.iconst 1, 1) := by decide +kernel
theorem dX12_finds_26 : decode cX12_finds 26 = .ok (.ireturn, 1) := by decide +kernel
theorem dX12_finds_27 : decode cX12_finds 27 = .ok (.iinc 3 1, 3) := by decide +kernel
theorem dX12_finds_30 : decode cX12_finds 30 = .ok (.goto (-28), 3) := by decide +kernel
theorem dX12_finds_33 : decode cX12_finds 33 = .ok (.iconst 0, 1) := by decide +kernel
theorem dX12_finds_34 : decode cX12_finds 34 = .ok (.ireturn, 1) := by decide +kernel
theorem dX12_findsNext_0 : decode cX12_findsNext 0 = .ok (.aload_n 0, 1) := by decide +kernel
theorem dX12_findsNext_1 : decode cX12_findsNext 1 = .ok (.getfield 279, 3) := by decide +kernel
theorem dX12_findsNext_4 : decode cX12_findsNext 4 = .ok (.istore_n 2, 1) := by decide +kernel
theorem dX12_findsNext_5 : decode cX12_findsNext 5 = .ok (.aload_n 0, 1) := by decide +kernel
theorem dX12_findsNext_6 : decode cX12_findsNext 6 = .ok (.iload_n 1, 1) := by decide +kernel
theorem dX12_findsNext_7 : decode cX12_findsNext 7 = .ok (.iload_n 2, 1) := by decide +kernel
theorem dX12_findsNext_8 : decode cX12_findsNext 8 = .ok (.invokevirtual 286, 3) := by decide +kernel
theorem dX12_findsNext_11 : decode cX12_findsNext 11 = .ok (.ifCond .eq 18, 3) := by decide +kernel
theorem dX12_findsNext_14 : decode cX12_findsNext 14 = .ok (.aload_n 0, 1) := by decide +kernel
theorem dX12_findsNext_15 : decode cX12_findsNext 15 = .ok (.getfield 279, 3) := by decide +kernel
theorem dX12_findsNext_18 : decode cX12_findsNext 18 = .ok (.iload_n 2, 1) := by decide +kernel
theorem dX12_findsNext_19 : decode cX12_findsNext 19 = .ok (.if_icmp .le 10, 3) := by decide +kernel
theorem dX12_findsNext_22 : decode cX12_findsNext 22 = .ok (.aload_n 0, 1) := by decide +kernel
theorem dX12_findsNext_23 : decode cX12_findsNext 23 = .ok (.iload_n 2, 1) := by decide +kernel
theorem dX12_findsNext_24 : decode cX12_findsNext 24 = .ok (.putfield 289, 3) := by decide +kernel
theorem dX12_findsNext_27 : decode cX12_findsNext 27 = .ok (.iconst 1, 1) := by decide +kernel
theorem dX12_findsNext_28 : decode cX12_findsNext 28 = .ok (.ireturn, 1) := by decide +kernel
theorem dX12_findsNext_29 : decode cX12_findsNext 29 = .ok (.aload_n 0, 1) := by decide +kernel
theorem dX12_findsNext_30 : decode cX12_findsNext 30 = .ok (.iload_n 1, 1) := by decide +kernel
theorem dX12_findsNext_31 : decode cX12_findsNext 31 = .ok (.iload_n 2, 1) := by decide +kernel
theorem dX12_findsNext_32 : decode cX12_findsNext 32 = .ok (.iconst 1, 1) := by decide +kernel
theorem dX12_findsNext_33 : decode cX12_findsNext 33 = .ok (.iadd, 1) := by decide +kernel
theorem dX12_findsNext_34 : decode cX12_findsNext 34 = .ok (.invokevirtual 292, 3) := by decide +kernel
theorem dX12_findsNext_37 : decode cX12_findsNext 37 = .ok (.ireturn, 1) := by decide +kernel
theorem dX12_seek_0 : decode cX12_seek 0 = .ok (.iconst 1, 1) := by decide +kernel
theorem dX12_seek_1 : decode cX12_seek 1 = .ok (.istore_n 2, 1) := by decide +kernel
theorem dX12_seek_2 : decode cX12_seek 2 = .ok (.iload_n 2, 1) := by decide +kernel
theorem dX12_seek_3 : decode cX12_seek 3 = .ok (.aload_n 0, 1) := by decide +kernel
theorem dX12_seek_4 : decode cX12_seek 4 = .ok (.getfield 124, 3) := by decide +kernel
theorem dX12_seek_7 : decode cX12_seek 7 = .ok (.if_icmp .gt 68, 3) := by decide +kernel
theorem dX12_seek_10 : decode cX12_seek 10 = .ok (.iload_n 1, 1) := by decide +kernel
theorem dX12_seek_11 : decode cX12_seek 11 = .ok (.ifCond .eq 28, 3) := by decide +kernel
theorem dX12_seek_14 : decode cX12_seek 14 = .ok (.aload_n 0, 1) := by decide +kernel
theorem dX12_seek_15 : decode cX12_seek 15 = .ok (.getfield 295, 3) := by decide +kernel
theorem dX12_seek_18 : decode cX12_seek 18 = .ok (.iconst 1, 1) := by decide +kernel
theorem dX12_seek_19 : decode cX12_seek 19 = .ok (.isub, 1) := by decide +kernel
theorem dX12_seek_20 : decode cX12_seek 20 = .ok (.iload_n 2, 1) := by decide +kernel
theorem dX12_seek_21 : decode cX12_seek 21 = .ok (.isub, 1) := by decide +kernel
theorem dX12_seek_22 : decode cX12_seek 22 = .ok (.iconst 2, 1) := by decide +kernel
theorem dX12_seek_23 : decode cX12_seek 23 = .ok (.aload_n 0, 1) := by decide +kernel
theorem dX12_seek_24 : decode cX12_seek 24 = .ok (.getfield 124, 3) := by decide +kernel
theorem dX12_seek_27 : decode cX12_seek 27 = .ok (.imul, 1) := by decide +kernel
theorem dX12_seek_28 : decode cX12_seek 28 = .ok (.iadd, 1) := by decide +kernel
theorem dX12_seek_29 : decode cX12_seek 29 = .ok (.aload_n 0, 1) := by decide +kernel
theorem dX12_seek_30 : decode cX12_seek 30 = .ok (.getfield 124, 3) := by decide +kernel
theorem dX12_seek_33 : decode cX12_seek 33 = .ok (.irem, 1) := by decide +kernel
theorem dX12_seek_34 : decode cX12_seek 34 = .ok (.iconst 1, 1) := by decide +kernel
theorem dX12_seek_35 : decode cX12_seek 35 = .ok (.iadd, 1) := by decide +kernel
theorem dX12_seek_36 : decode cX12_seek 36 = .ok (.goto 18, 3) := by decide +kernel
theorem dX12_seek_39 : decode cX12_seek 39 = .ok (.aload_n 0, 1) := by decide +kernel
theorem dX12_seek_40 : decode cX12_seek 40 = .ok (.getfield 295, 3) := by decide +kernel
theorem dX12_seek_43 : decode cX12_seek 43 = .ok (.iconst 1, 1) := by decide +kernel
theorem dX12_seek_44 : decode cX12_seek 44 = .ok (.isub, 1) := by decide +kernel
theorem dX12_seek_45 : decode cX12_seek 45 = .ok (.iload_n 2, 1) := by decide +kernel
theorem dX12_seek_46 : decode cX12_seek 46 = .ok (.iadd, 1) := by decide +kernel
theorem dX12_seek_47 : decode cX12_seek 47 = .ok (.aload_n 0, 1) := by decide +kernel
theorem dX12_seek_48 : decode cX12_seek 48 = .ok (.getfield 124, 3) := by decide +kernel
theorem dX12_seek_51 : decode cX12_seek 51 = .ok (.irem, 1) := by decide +kernel
theorem dX12_seek_52 : decode cX12_seek 52 = .ok (.iconst 1, 1) := by decide +kernel
theorem dX12_seek_53 : decode cX12_seek 53 = .ok (.iadd, 1) := by decide +kernel
theorem dX12_seek_54 : decode cX12_seek 54 = .ok (.istore_n 3, 1) := by decide +kernel
theorem dX12_seek_55 : decode cX12_seek 55 = .ok (.aload_n 0, 1) := by decide +kernel
theorem dX12_seek_56 : decode cX12_seek 56 = .ok (.iload_n 3, 1) := by decide +kernel
theorem dX12_seek_57 : decode cX12_seek 57 = .ok (.invokestatic 298, 3) := by decide +kernel
theorem dX12_seek_60 : decode cX12_seek 60 = .ok (.iconst 0, 1) := by decide +kernel
theorem dX12_seek_61 : decode cX12_seek 61 = .ok (.invokevirtual 292, 3) := by decide +kernel
theorem dX12_seek_64 : decode cX12_seek 64 = .ok (.ifCond .eq 5, 3) := by decide +kernel
theorem dX12_seek_67 : decode cX12_seek 67 = .ok (.iload_n 3, 1) := by decide +kernel
theorem dX12_seek_68 : decode cX12_seek 68 = .ok (.ireturn, 1) := by decide +kernel
theorem dX12_seek_69 : decode cX12_seek 69 = .ok (.iinc 2 1, 3) := by decide +kernel
theorem dX12_seek_72 : decode cX12_seek 72 = .ok (.goto (-70), 3) := by decide +kernel
theorem dX12_seek_75 : decode cX12_seek 75 = .ok (.iconst 0, 1) := by decide +kernel
theorem dX12_seek_76 : decode cX12_seek 76 = .ok (.ireturn, 1) := by decide +kernel
theorem dX12_line_0 : decode cX12_line 0 = .ok (.iload_n 1, 1) := by decide +kernel
theorem dX12_line_1 : decode cX12_line 1 = .ok (.iconst 1, 1) := by decide +kernel
theorem dX12_line_2 : decode cX12_line 2 = .ok (.iadd, 1) := by decide +kernel
theorem dX12_line_3 : decode cX12_line 3 = .ok (.istore_n 2, 1) := by decide +kernel
theorem dX12_line_4 : decode cX12_line 4 = .ok (.aload_n 0, 1) := by decide +kernel
theorem dX12_line_5 : decode cX12_line 5 = .ok (.getfield 44, 3) := by decide +kernel
theorem dX12_line_8 : decode cX12_line 8 = .ok (.iload_n 1, 1) := by decide +kernel
theorem dX12_line_9 : decode cX12_line 9 = .ok (.iaload, 1) := by decide +kernel
theorem dX12_line_10 : decode cX12_line 10 = .ok (.istore_n 3, 1) := by decide +kernel
theorem dX12_line_11 : decode cX12_line 11 = .ok (.aload_n 0, 1) := by decide +kernel
theorem dX12_line_12 : decode cX12_line 12 = .ok (.getfield 295, 3) := by decide +kernel
theorem dX12_line_15 : decode cX12_line 15 = .ok (.istore 4, 2) := by decide +kernel
theorem dX12_line_17 : decode cX12_line 17 = .ok (.iload_n 3, 1) := by decide +kernel
theorem dX12_line_18 : decode cX12_line 18 = .ok (.invokestatic 152, 3) := by decide +kernel
theorem dX12_line_21 : decode cX12_line 21 = .ok (.ifCond .eq 19, 3) := by decide +kernel
theorem dX12_line_24 : decode cX12_line 24 = .ok (.aload_n 0, 1) := by decide +kernel
theorem dX12_line_25 : decode cX12_line 25 = .ok (.iload_n 1, 1) := by decide +kernel
theorem dX12_line_26 : decode cX12_line 26 = .ok (.invokevirtual 301, 3) := by decide +kernel
theorem dX12_line_29 : decode cX12_line 29 = .ok (.istore 4, 2) := by decide +kernel
theorem dX12_line_31 : decode cX12_line 31 = .ok (.aload_n 0, 1) := by decide +kernel
theorem dX12_line_32 : decode cX12_line 32 = .ok (.iload_n 1, 1) := by decide +kernel
theorem dX12_line_33 : decode cX12_line 33 = .ok (.invokevirtual 304, 3) := by decide +kernel
theorem dX12_line_36 : decode cX12_line 36 = .ok (.istore_n 2, 1) := by decide +kernel
theorem dX12_line_37 : decode cX12_line 37 = .ok (.goto 106, 3) := by decide +kernel
theorem dX12_line_40 : decode cX12_line 40 = .ok (.iload_n 3, 1) := by decide +kernel
theorem dX12_line_41 : decode cX12_line 41 = .ok (.bipush 36, 2) := by decide +kernel
theorem dX12_line_43 : decode cX12_line 43 = .ok (.if_icmp .ne 12, 3) := by decide +kernel
theorem dX12_line_46 : decode cX12_line 46 = .ok (.aload_n 0, 1) := by decide +kernel
theorem dX12_line_47 : decode cX12_line 47 = .ok (.getfield 124, 3) := by decide +kernel
theorem dX12_line_50 : decode cX12_line 50 = .ok (.istore 4, 2) := by decide +kernel
theorem dX12_line_52 : decode cX12_line 52 = .ok (.goto 91, 3) := by decide +kernel
theorem dX12_line_55 : decode cX12_line 55 = .ok (.iload_n 3, 1) := by decide +kernel
theorem dX12_line_56 : decode cX12_line 56 = .ok (.bipush 39, 2) := by decide +kernel
theorem dX12_line_58 : decode cX12_line 58 = .ok (.if_icmp .ne 41, 3) := by decide +kernel
theorem dX12_line_61 : decode cX12_line 61 = .ok (.aload_n 0, 1) := by decide +kernel
theorem dX12_line_62 : decode cX12_line 62 = .ok (.getfield 35, 3) := by decide +kernel
theorem dX12_line_65 : decode cX12_line 65 = .ok (.aload_n 0, 1) := by decide +kernel
theorem dX12_line_66 : decode cX12_line 66 = .ok (.getfield 44, 3) := by decide +kernel
theorem dX12_line_69 : decode cX12_line 69 = .ok (.iload_n 2, 1) := by decide +kernel
theorem dX12_line_70 : decode cX12_line 70 = .ok (.iaload, 1) := by decide +kernel
theorem dX12_line_71 : decode cX12_line 71 = .ok (.bipush 97, 2) := by decide +kernel
theorem dX12_line_73 : decode cX12_line 73 = .ok (.isub, 1) := by decide +kernel
theorem dX12_line_74 : decode cX12_line 74 = .ok (.iaload, 1) := by decide +kernel
theorem dX12_line_75 : decode cX12_line 75 = .ok (.istore 5, 2) := by decide +kernel
theorem dX12_line_77 : decode cX12_line 77 = .ok (.iinc 2 1, 3) := by decide +kernel
theorem dX12_line_80 : decode cX12_line 80 = .ok (.iload 5, 2) := by decide +kernel
theorem dX12_line_82 : decode cX12_line 82 = .ok (.ifCond .ge 6, 3) := by decide +kernel
theorem dX12_line_85 : decode cX12_line 85 = .ok (.bipush (-3), 2) := by decide +kernel
theorem dX12_line_87 : decode cX12_line 87 = .ok (.ireturn, 1) := by decide +kernel
theorem dX12_line_88 : decode cX12_line 88 = .ok (.aload_n 0, 1) := by decide +kernel
theorem dX12_line_89 : decode cX12_line 89 = .ok (.iload 5, 2) := by decide +kernel
theorem dX12_line_91 : decode cX12_line 91 = .ok (.invokevirtual 307, 3) := by decide +kernel
theorem dX12_line_94 : decode cX12_line 94 = .ok (.istore 4, 2) := by decide +kernel
theorem dX12_line_96 : decode cX12_line 96 = .ok (.goto 47, 3) := by decide +kernel
theorem dX12_line_99 : decode cX12_line 99 = .ok (.iload_n 3, 1) := by decide +kernel
theorem dX12_line_100 : decode cX12_line 100 = .ok (.bipush 46, 2) := by decide +kernel
theorem dX12_line_102 : decode cX12_line 102 = .ok (.if_icmp .eq 41, 3) := by decide +kernel
theorem dX12_line_105 : decode cX12_line 105 = .ok (.aload_n 0, 1) := by decide +kernel
theorem dX12_line_106 : decode cX12_line 106 = .ok (.iload_n 2, 1) := by decide +kernel
theorem dX12_line_107 : decode cX12_line 107 = .ok (.iload_n 3, 1) := by decide +kernel
theorem dX12_line_108 : decode cX12_line 108 = .ok (.invokevirtual 310, 3) := by decide +kernel
theorem dX12_line_111 : decode cX12_line 111 = .ok (.aload_n 0, 1) := by decide +kernel
theorem dX12_line_112 : decode cX12_line 112 = .ok (.getfield 268, 3) := by decide +kernel
theorem dX12_line_115 : decode cX12_line 115 = .ok (.iconst 1, 1) := by decide +kernel
theorem dX12_line_116 : decode cX12_line 116 = .ok (.iadd, 1) := by decide +kernel
theorem dX12_line_117 : decode cX12_line 117 = .ok (.istore_n 2, 1) := by decide +kernel
theorem dX12_line_118 : decode cX12_line 118 = .ok (.aload_n 0, 1) := by decide +kernel
theorem dX12_line_119 : decode cX12_line 119 = .ok (.iload_n 3, 1) := by decide +kernel
theorem dX12_line_120 : decode cX12_line 120 = .ok (.bipush 63, 2) := by decide +kernel
theorem dX12_line_122 : decode cX12_line 122 = .ok (.if_icmp .ne 7, 3) := by decide +kernel
theorem dX12_line_125 : decode cX12_line 125 = .ok (.iconst 1, 1) := by decide +kernel
theorem dX12_line_126 : decode cX12_line 126 = .ok (.goto 4, 3) := by decide +kernel
theorem dX12_line_129 : decode cX12_line 129 = .ok (.iconst 0, 1) := by decide +kernel
theorem dX12_line_130 : decode cX12_line 130 = .ok (.invokevirtual 313, 3) := by decide +kernel
theorem dX12_line_133 : decode cX12_line 133 = .ok (.istore 4, 2) := by decide +kernel
theorem dX12_line_135 : decode cX12_line 135 = .ok (.iload 4, 2) := by decide +kernel
theorem dX12_line_137 : decode cX12_line 137 = .ok (.ifCond .ne 6, 3) := by decide +kernel
theorem dX12_line_140 : decode cX12_line 140 = .ok (.bipush (-2), 2) := by decide +kernel
theorem dX12_line_142 : decode cX12_line 142 = .ok (.ireturn, 1) := by decide +kernel
theorem dX12_line_143 : decode cX12_line 143 = .ok (.iload_n 2, 1) := by decide +kernel
theorem dX12_line_144 : decode cX12_line 144 = .ok (.aload_n 0, 1) := by decide +kernel
theorem dX12_line_145 : decode cX12_line 145 = .ok (.getfield 146, 3) := by decide +kernel
theorem dX12_line_148 : decode cX12_line 148 = .ok (.if_icmp .ge 70, 3) := by decide +kernel
theorem dX12_line_151 : decode cX12_line 151 = .ok (.aload_n 0, 1) := by decide +kernel
theorem dX12_line_152 : decode cX12_line 152 = .ok (.getfield 44, 3) := by decide +kernel
theorem dX12_line_155 : decode cX12_line 155 = .ok (.iload_n 2, 1) := by decide +kernel
theorem dX12_line_156 : decode cX12_line 156 = .ok (.iaload, 1) := by decide +kernel
theorem dX12_line_157 : decode cX12_line 157 = .ok (.bipush 43, 2) := by decide +kernel
theorem dX12_line_159 : decode cX12_line 159 = .ok (.if_icmp .eq 14, 3) := by decide +kernel
theorem dX12_line_162 : decode cX12_line 162 = .ok (.aload_n 0, 1) := by decide +kernel
theorem dX12_line_163 : decode cX12_line 163 = .ok (.getfield 44, 3) := by decide +kernel
theorem dX12_line_166 : decode cX12_line 166 = .ok (.iload_n 2, 1) := by decide +kernel
theorem dX12_line_167 : decode cX12_line 167 = .ok (.iaload, 1) := by decide +kernel
theorem dX12_line_168 : decode cX12_line 168 = .ok (.bipush 45, 2) := by decide +kernel
theorem dX12_line_170 : decode cX12_line 170 = .ok (.if_icmp .ne 48, 3) := by decide +kernel
theorem dX12_line_173 : decode cX12_line 173 = .ok (.iload 4, 2) := by decide +kernel
theorem dX12_line_175 : decode cX12_line 175 = .ok (.aload_n 0, 1) := by decide +kernel
theorem dX12_line_176 : decode cX12_line 176 = .ok (.getfield 44, 3) := by decide +kernel
theorem dX12_line_179 : decode cX12_line 179 = .ok (.iload_n 2, 1) := by decide +kernel
theorem dX12_line_180 : decode cX12_line 180 = .ok (.iaload, 1) := by decide +kernel
theorem dX12_line_181 : decode cX12_line 181 = .ok (.bipush 43, 2) := by decide +kernel
theorem dX12_line_183 : decode cX12_line 183 = .ok (.if_icmp .ne 13, 3) := by decide +kernel
theorem dX12_line_186 : decode cX12_line 186 = .ok (.aload_n 0, 1) := by decide +kernel
theorem dX12_line_187 : decode cX12_line 187 = .ok (.iload_n 2, 1) := by decide +kernel
theorem dX12_line_188 : decode cX12_line 188 = .ok (.iconst 1, 1) := by decide +kernel
theorem dX12_line_189 : decode cX12_line 189 = .ok (.iadd, 1) := by decide +kernel
theorem dX12_line_190 : decode cX12_line 190 = .ok (.invokevirtual 301, 3) := by decide +kernel
theorem dX12_line_193 : decode cX12_line 193 = .ok (.goto 11, 3) := by decide +kernel
theorem dX12_line_196 : decode cX12_line 196 = .ok (.aload_n 0, 1) := by decide +kernel
theorem dX12_line_197 : decode cX12_line 197 = .ok (.iload_n 2, 1) := by decide +kernel
theorem dX12_line_198 : decode cX12_line 198 = .ok (.iconst 1, 1) := by decide +kernel
theorem dX12_line_199 : decode cX12_line 199 = .ok (.iadd, 1) := by decide +kernel
theorem dX12_line_200 : decode cX12_line 200 = .ok (.invokevirtual 301, 3) := by decide +kernel
theorem dX12_line_203 : decode cX12_line 203 = .ok (.ineg, 1) := by decide +kernel
theorem dX12_line_204 : decode cX12_line 204 = .ok (.iadd, 1) := by decide +kernel
theorem dX12_line_205 : decode cX12_line 205 = .ok (.istore 4, 2) := by decide +kernel
theorem dX12_line_207 : decode cX12_line 207 = .ok (.aload_n 0, 1) := by decide +kernel
theorem dX12_line_208 : decode cX12_line 208 = .ok (.iload_n 2, 1) := by decide +kernel
theorem dX12_line_209 : decode cX12_line 209 = .ok (.iconst 1, 1) := by decide +kernel
theorem dX12_line_210 : decode cX12_line 210 = .ok (.iadd, 1) := by decide +kernel
theorem dX12_line_211 : decode cX12_line 211 = .ok (.invokevirtual 304, 3) := by decide +kernel
theorem dX12_line_214 : decode cX12_line 214 = .ok (.istore_n 2, 1) := by decide +kernel
theorem dX12_line_215 : decode cX12_line 215 = .ok (.goto (-72), 3) := by decide +kernel
theorem dX12_line_218 : decode cX12_line 218 = .ok (.iload 4, 2) := by decide +kernel
theorem dX12_line_220 : decode cX12_line 220 = .ok (.ifCond .lt 12, 3) := by decide +kernel
theorem dX12_line_223 : decode cX12_line 223 = .ok (.iload 4, 2) := by decide +kernel
theorem dX12_line_225 : decode cX12_line 225 = .ok (.aload_n 0, 1) := by decide +kernel
theorem dX12_line_226 : decode cX12_line 226 = .ok (.getfield 124, 3) := by decide +kernel
theorem dX12_line_229 : decode cX12_line 229 = .ok (.if_icmp .le 7, 3) := by decide +kernel
theorem dX12_line_232 : decode cX12_line 232 = .ok (.iconst (-1), 1) := by decide +kernel
theorem dX12_line_233 : decode cX12_line 233 = .ok (.goto 5, 3) := by decide +kernel
theorem dX12_line_236 : decode cX12_line 236 = .ok (.iload 4, 2) := by decide +kernel
theorem dX12_line_238 : decode cX12_line 238 = .ok (.ireturn, 1) := by decide +kernel
theorem dX12_range_0 : decode cX12_range 0 = .ok (.aload_n 0, 1) := by decide +kernel
theorem dX12_range_1 : decode cX12_range 1 = .ok (.getfield 44, 3) := by decide +kernel
theorem dX12_range_4 : decode cX12_range 4 = .ok (.aload_n 0, 1) := by decide +kernel
theorem dX12_range_5 : decode cX12_range 5 = .ok (.getfield 218, 3) := by decide +kernel
theorem dX12_range_8 : decode cX12_range 8 = .ok (.iaload, 1) := by decide +kernel
theorem dX12_range_9 : decode cX12_range 9 = .ok (.istore_n 1, 1) := by decide +kernel
theorem dX12_range_10 : decode cX12_range 10 = .ok (.iload_n 1, 1) := by decide +kernel
theorem dX12_range_11 : decode cX12_range 11 = .ok (.bipush 103, 2) := by decide +kernel
theorem dX12_range_13 : decode cX12_range 13 = .ok (.if_icmp .eq 15, 3) := by decide +kernel
theorem dX12_range_16 : decode cX12_range 16 = .ok (.iload_n 1, 1) := by decide +kernel
theorem dX12_range_17 : decode cX12_range 17 = .ok (.bipush 71, 2) := by decide +kernel
theorem dX12_range_19 : decode cX12_range 19 = .ok (.if_icmp .eq 9, 3) := by decide +kernel
theorem dX12_range_22 : decode cX12_range 22 = .ok (.iload_n 1, 1) := by decide +kernel
theorem dX12_range_23 : decode cX12_range 23 = .ok (.bipush 119, 2) := by decide +kernel
theorem dX12_range_25 : decode cX12_range 25 = .ok (.if_icmp .ne 7, 3) := by decide +kernel
theorem dX12_range_28 : decode cX12_range 28 = .ok (.iconst 1, 1) := by decide +kernel
theorem dX12_range_29 : decode cX12_range 29 = .ok (.goto 4, 3) := by decide +kernel
theorem dX12_range_32 : decode cX12_range 32 = .ok (.iconst 0, 1) := by decide +kernel
theorem dX12_range_33 : decode cX12_range 33 = .ok (.istore_n 2, 1) := by decide +kernel
theorem dX12_range_34 : decode cX12_range 34 = .ok (.aload_n 0, 1) := by decide +kernel
theorem dX12_range_35 : decode cX12_range 35 = .ok (.getfield 203, 3) := by decide +kernel
theorem dX12_range_38 : decode cX12_range 38 = .ok (.iconst 1, 1) := by decide +kernel
theorem dX12_range_39 : decode cX12_range 39 = .ok (.if_icmp .eq 14, 3) := by decide +kernel
theorem dX12_range_42 : decode cX12_range 42 = .ok (.aload_n 0, 1) := by decide +kernel
theorem dX12_range_43 : decode cX12_range 43 = .ok (.getfield 203, 3) := by decide +kernel
theorem dX12_range_46 : decode cX12_range 46 = .ok (.ifCond .ne 37, 3) := by decide +kernel
theorem dX12_range_49 : decode cX12_range 49 = .ok (.iload_n 2, 1) := by decide +kernel
theorem dX12_range_50 : decode cX12_range 50 = .ok (.ifCond .eq 33, 3) := by decide +kernel
theorem dX12_range_53 : decode cX12_range 53 = .ok (.aload_n 0, 1) := by decide +kernel
theorem dX12_range_54 : decode cX12_range 54 = .ok (.iconst 1, 1) := by decide +kernel
theorem dX12_range_55 : decode cX12_range 55 = .ok (.putfield 317, 3) := by decide +kernel
theorem dX12_range_58 : decode cX12_range 58 = .ok (.aload_n 0, 1) := by decide +kernel
theorem dX12_range_59 : decode cX12_range 59 = .ok (.aload_n 0, 1) := by decide +kernel
theorem dX12_range_60 : decode cX12_range 60 = .ok (.getfield 124, 3) := by decide +kernel
theorem dX12_range_63 : decode cX12_range 63 = .ok (.putfield 320, 3) := by decide +kernel
theorem dX12_range_66 : decode cX12_range 66 = .ok (.aload_n 0, 1) := by decide +kernel
theorem dX12_range_67 : decode cX12_range 67 = .ok (.getfield 124, 3) := by decide +kernel
theorem dX12_range_70 : decode cX12_range 70 = .ok (.ifCond .ne 11, 3) := by decide +kernel
theorem dX12_range_73 : decode cX12_range 73 = .ok (.iload_n 2, 1) := by decide +kernel
theorem dX12_range_74 : decode cX12_range 74 = .ok (.ifCond .ne 7, 3) := by decide +kernel
theorem dX12_range_77 : decode cX12_range 77 = .ok (.iconst 1, 1) := by decide +kernel
theorem dX12_range_78 : decode cX12_range 78 = .ok (.goto 4, 3) := by decide +kernel
theorem dX12_range_81 : decode cX12_range 81 = .ok (.iconst 0, 1) := by decide +kernel
theorem dX12_range_82 : decode cX12_range 82 = .ok (.ireturn, 1) := by decide +kernel
theorem dX12_range_83 : decode cX12_range 83 = .ok (.aload_n 0, 1) := by decide +kernel
theorem dX12_range_84 : decode cX12_range 84 = .ok (.aload_n 0, 1) := by decide +kernel
theorem dX12_range_85 : decode cX12_range 85 = .ok (.getfield 295, 3) := by decide +kernel
theorem dX12_range_88 : decode cX12_range 88 = .ok (.putfield 317, 3) := by decide +kernel
theorem dX12_range_91 : decode cX12_range 91 = .ok (.aload_n 0, 1) := by decide +kernel
theorem dX12_range_92 : decode cX12_range 92 = .ok (.aload_n 0, 1) := by decide +kernel
theorem dX12_range_93 : decode cX12_range 93 = .ok (.getfield 295, 3) := by decide +kernel
theorem dX12_range_96 : decode cX12_range 96 = .ok (.putfield 320, 3) := by decide +kernel
theorem dX12_range_99 : decode cX12_range 99 = .ok (.aload_n 0, 1) := by decide +kernel
theorem dX12_range_100 : decode cX12_range 100 = .ok (.getfield 203, 3) := by decide +kernel
theorem dX12_range_103 : decode cX12_range 103 = .ok (.iconst 2, 1) := by decide +kernel
theorem dX12_range_104 : decode cX12_range 104 = .ok (.if_icmp .lt 36, 3) := by decide +kernel
theorem dX12_range_107 : decode cX12_range 107 = .ok (.aload_n 0, 1) := by decide +kernel
theorem dX12_range_108 : decode cX12_range 108 = .ok (.aload_n 0, 1) := by decide +kernel
theorem dX12_range_109 : decode cX12_range 109 = .ok (.aload_n 0, 1) := by decide +kernel
theorem dX12_range_110 : decode cX12_range 110 = .ok (.getfield 209, 3) := by decide +kernel
theorem dX12_range_113 : decode cX12_range 113 = .ok (.invokevirtual 323, 3) := by decide +kernel
theorem dX12_range_116 : decode cX12_range 116 = .ok (.putfield 317, 3) := by decide +kernel
theorem dX12_range_119 : decode cX12_range 119 = .ok (.aload_n 0, 1) := by decide +kernel
theorem dX12_range_120 : decode cX12_range 120 = .ok (.getfield 317, 3) := by decide +kernel
theorem dX12_range_123 : decode cX12_range 123 = .ok (.ifCond .ge 9, 3) := by decide +kernel
theorem dX12_range_126 : decode cX12_range 126 = .ok (.aload_n 0, 1) := by decide +kernel
theorem dX12_range_127 : decode cX12_range 127 = .ok (.getfield 317, 3) := by decide +kernel
theorem dX12_range_130 : decode cX12_range 130 = .ok (.ineg, 1) := by decide +kernel
theorem dX12_range_131 : decode cX12_range 131 = .ok (.ireturn, 1) := by decide +kernel
theorem dX12_range_132 : decode cX12_range 132 = .ok (.aload_n 0, 1) := by decide +kernel
theorem dX12_range_133 : decode cX12_range 133 = .ok (.aload_n 0, 1) := by decide +kernel
theorem dX12_range_134 : decode cX12_range 134 = .ok (.getfield 317, 3) := by decide +kernel
theorem dX12_range_137 : decode cX12_range 137 = .ok (.putfield 320, 3) := by decide +kernel
theorem dX12_range_140 : decode cX12_range 140 = .ok (.aload_n 0, 1) := by decide +kernel
theorem dX12_range_141 : decode cX12_range 141 = .ok (.getfield 203, 3) := by decide +kernel
theorem dX12_range_144 : decode cX12_range 144 = .ok (.iconst 3, 1) := by decide +kernel
theorem dX12_range_145 : decode cX12_range 145 = .ok (.if_icmp .ne 41, 3) := by decide +kernel
theorem dX12_range_148 : decode cX12_range 148 = .ok (.aload_n 0, 1) := by decide +kernel
theorem dX12_range_149 : decode cX12_range 149 = .ok (.aload_n 0, 1) := by decide +kernel
theorem dX12_range_150 : decode cX12_range 150 = .ok (.aload_n 0, 1) := by decide +kernel
theorem dX12_range_151 : decode cX12_range 151 = .ok (.getfield 215, 3) := by decide +kernel
theorem dX12_range_154 : decode cX12_range 154 = .ok (.invokevirtual 323, 3) := by decide +kernel
theorem dX12_range_157 : decode cX12_range 157 = .ok (.putfield 320, 3) := by decide +kernel
theorem dX12_range_160 : decode cX12_range 160 = .ok (.aload_n 0, 1) := by decide +kernel
theorem dX12_range_161 : decode cX12_range 161 = .ok (.getfield 320, 3) := by decide +kernel
theorem dX12_range_164 : decode cX12_range 164 = .ok (.ifCond .ge 9, 3) := by decide +kernel
theorem dX12_range_167 : decode cX12_range 167 = .ok (.aload_n 0, 1) := by decide +kernel
theorem dX12_range_168 : decode cX12_range 168 = .ok (.getfield 320, 3) := by decide +kernel
theorem dX12_range_171 : decode cX12_range 171 = .ok (.ineg, 1) := by decide +kernel
theorem dX12_range_172 : decode cX12_range 172 = .ok (.ireturn, 1) := by decide +kernel
theorem dX12_range_173 : decode cX12_range 173 = .ok (.aload_n 0, 1) := by decide +kernel
theorem dX12_range_174 : decode cX12_range 174 = .ok (.getfield 317, 3) := by decide +kernel
theorem dX12_range_177 : decode cX12_range 177 = .ok (.aload_n 0, 1) := by decide +kernel
theorem dX12_range_178 : decode cX12_range 178 = .ok (.getfield 320, 3) := by decide +kernel
theorem dX12_range_181 : decode cX12_range 181 = .ok (.if_icmp .le 5, 3) := by decide +kernel
theorem dX12_range_184 : decode cX12_range 184 = .ok (.iconst 1, 1) := by decide +kernel
theorem dX12_range_185 : decode cX12_range 185 = .ok (.ireturn, 1) := by decide +kernel
theorem dX12_range_186 : decode cX12_range 186 = .ok (.iload_n 1, 1) := by decide +kernel
theorem dX12_range_187 : decode cX12_range 187 = .ok (.bipush 97, 2) := by decide +kernel
theorem dX12_range_189 : decode cX12_range 189 = .ok (.if_icmp .eq 15, 3) := by decide +kernel
theorem dX12_range_192 : decode cX12_range 192 = .ok (.iload_n 1, 1) := by decide +kernel
theorem dX12_range_193 : decode cX12_range 193 = .ok (.bipush 114, 2) := by decide +kernel
theorem dX12_range_195 : decode cX12_range 195 = .ok (.if_icmp .eq 9, 3) := by decide +kernel
theorem dX12_range_198 : decode cX12_range 198 = .ok (.iload_n 1, 1) := by decide +kernel
theorem dX12_range_199 : decode cX12_range 199 = .ok (.bipush 117, 2) := by decide +kernel
theorem dX12_range_201 : decode cX12_range 201 = .ok (.if_icmp .ne 7, 3) := by decide +kernel
theorem dX12_range_204 : decode cX12_range 204 = .ok (.iconst 1, 1) := by decide +kernel
theorem dX12_range_205 : decode cX12_range 205 = .ok (.goto 4, 3) := by decide +kernel
theorem dX12_range_208 : decode cX12_range 208 = .ok (.iconst 0, 1) := by decide +kernel
theorem dX12_range_209 : decode cX12_range 209 = .ok (.istore_n 3, 1) := by decide +kernel
theorem dX12_range_210 : decode cX12_range 210 = .ok (.aload_n 0, 1) := by decide +kernel
theorem dX12_range_211 : decode cX12_range 211 = .ok (.getfield 317, 3) := by decide +kernel
theorem dX12_range_214 : decode cX12_range 214 = .ok (.ifCond .ne 19, 3) := by decide +kernel
theorem dX12_range_217 : decode cX12_range 217 = .ok (.iload_n 3, 1) := by decide +kernel
theorem dX12_range_218 : decode cX12_range 218 = .ok (.ifCond .eq 11, 3) := by decide +kernel
theorem dX12_range_221 : decode cX12_range 221 = .ok (.aload_n 0, 1) := by decide +kernel
theorem dX12_range_222 : decode cX12_range 222 = .ok (.getfield 203, 3) := by decide +kernel
theorem dX12_range_225 : decode cX12_range 225 = .ok (.iconst 3, 1) := by decide +kernel
theorem dX12_range_226 : decode cX12_range 226 = .ok (.if_icmp .ne 7, 3) := by decide +kernel
theorem dX12_range_229 : decode cX12_range 229 = .ok (.iconst 1, 1) := by decide +kernel
theorem dX12_range_230 : decode cX12_range 230 = .ok (.goto 4, 3) := by decide +kernel
theorem dX12_range_233 : decode cX12_range 233 = .ok (.iconst 0, 1) := by decide +kernel
theorem dX12_range_234 : decode cX12_range 234 = .ok (.ireturn, 1) := by decide +kernel
theorem dX12_rowsAt_0 : decode cX12_rowsAt 0 = .ok (.iconst 1, 1) := by decide +kernel
theorem dX12_rowsAt_1 : decode cX12_rowsAt 1 = .ok (.istore_n 2, 1) := by decide +kernel
theorem dX12_rowsAt_2 : decode cX12_rowsAt 2 = .ok (.iload_n 1, 1) := by decide +kernel
theorem dX12_rowsAt_3 : decode cX12_rowsAt 3 = .ok (.istore_n 3, 1) := by decide +kernel
theorem dX12_rowsAt_4 : decode cX12_rowsAt 4 = .ok (.iload_n 3, 1) := by decide +kernel
theorem dX12_rowsAt_5 : decode cX12_rowsAt 5 = .ok (.aload_n 0, 1) := by decide +kernel
theorem dX12_rowsAt_6 : decode cX12_rowsAt 6 = .ok (.getfield 146, 3) := by decide +kernel
theorem dX12_rowsAt_9 : decode cX12_rowsAt 9 = .ok (.if_icmp .ge 51, 3) := by decide +kernel
theorem dX12_rowsAt_12 : decode cX12_rowsAt 12 = .ok (.aload_n 0, 1) := by decide +kernel
theorem dX12_rowsAt_13 : decode cX12_rowsAt 13 = .ok (.getfield 44, 3) := by decide +kernel
theorem dX12_rowsAt_16 : decode cX12_rowsAt 16 = .ok (.iload_n 3, 1) := by decide +kernel
theorem dX12_rowsAt_17 : decode cX12_rowsAt 17 = .ok (.iaload, 1) := by decide +kernel
theorem dX12_rowsAt_18 : decode cX12_rowsAt 18 = .ok (.invokestatic 173, 3) := by decide +kernel
theorem dX12_rowsAt_21 : decode cX12_rowsAt 21 = .ok (.ifCond .ne 14, 3) := by decide +kernel
theorem dX12_rowsAt_24 : decode cX12_rowsAt 24 = .ok (.aload_n 0, 1) := by decide +kernel
theorem dX12_rowsAt_25 : decode cX12_rowsAt 25 = .ok (.getfield 44, 3) := by decide +kernel
theorem dX12_rowsAt_28 : decode cX12_rowsAt 28 = .ok (.iload_n 3, 1) := by decide +kernel
theorem dX12_rowsAt_29 : decode cX12_rowsAt 29 = .ok (.iaload, 1) := by decide +kernel
theorem dX12_rowsAt_30 : decode cX12_rowsAt 30 = .ok (.bipush 124, 2) := by decide +kernel
theorem dX12_rowsAt_32 : decode cX12_rowsAt 32 = .ok (.if_icmp .ne 28, 3) := by decide +kernel
theorem dX12_rowsAt_35 : decode cX12_rowsAt 35 = .ok (.iload_n 2, 1) := by decide +kernel
theorem dX12_rowsAt_36 : decode cX12_rowsAt 36 = .ok (.aload_n 0, 1) := by decide +kernel
theorem dX12_rowsAt_37 : decode cX12_rowsAt 37 = .ok (.getfield 44, 3) := by decide +kernel
theorem dX12_rowsAt_40 : decode cX12_rowsAt 40 = .ok (.iload_n 3, 1) := by decide +kernel
theorem dX12_rowsAt_41 : decode cX12_rowsAt 41 = .ok (.iaload, 1) := by decide +kernel
theorem dX12_rowsAt_42 : decode cX12_rowsAt 42 = .ok (.bipush 124, 2) := by decide +kernel
theorem dX12_rowsAt_44 : decode cX12_rowsAt 44 = .ok (.if_icmp .ne 7, 3) := by decide +kernel
theorem dX12_rowsAt_47 : decode cX12_rowsAt 47 = .ok (.iconst 1, 1) := by decide +kernel
theorem dX12_rowsAt_48 : decode cX12_rowsAt 48 = .ok (.goto 4, 3) := by decide +kernel
theorem dX12_rowsAt_51 : decode cX12_rowsAt 51 = .ok (.iconst 0, 1) := by decide +kernel
theorem dX12_rowsAt_52 : decode cX12_rowsAt 52 = .ok (.iadd, 1) := by decide +kernel
theorem dX12_rowsAt_53 : decode cX12_rowsAt 53 = .ok (.istore_n 2, 1) := by decide +kernel
theorem dX12_rowsAt_54 : decode cX12_rowsAt 54 = .ok (.iinc 3 1, 3) := by decide +kernel
theorem dX12_rowsAt_57 : decode cX12_rowsAt 57 = .ok (.goto (-53), 3) := by decide +kernel
theorem dX12_rowsAt_60 : decode cX12_rowsAt 60 = .ok (.iload_n 2, 1) := by decide +kernel
theorem dX12_rowsAt_61 : decode cX12_rowsAt 61 = .ok (.ireturn, 1) := by decide +kernel
theorem dX12_makeTold_0 : decode cX12_makeTold 0 = .ok (.iload_n 1, 1) := by decide +kernel
theorem dX12_makeTold_1 : decode cX12_makeTold 1 = .ok (.istore_n 2, 1) := by decide +kernel
theorem dX12_makeTold_2 : decode cX12_makeTold 2 = .ok (.aload_n 0, 1) := by decide +kernel
theorem dX12_makeTold_3 : decode cX12_makeTold 3 = .ok (.iconst 0, 1) := by decide +kernel
theorem dX12_makeTold_4 : decode cX12_makeTold 4 = .ok (.putfield 117, 3) := by decide +kernel
theorem dX12_makeTold_7 : decode cX12_makeTold 7 = .ok (.iload_n 2, 1) := by decide +kernel
theorem dX12_makeTold_8 : decode cX12_makeTold 8 = .ok (.aload_n 0, 1) := by decide +kernel
theorem dX12_makeTold_9 : decode cX12_makeTold 9 = .ok (.getfield 146, 3) := by decide +kernel
theorem dX12_makeTold_12 : decode cX12_makeTold 12 = .ok (.if_icmp .ge 31, 3) := by decide +kernel
theorem dX12_makeTold_15 : decode cX12_makeTold 15 = .ok (.aload_n 0, 1) := by decide +kernel
theorem dX12_makeTold_16 : decode cX12_makeTold 16 = .ok (.getfield 44, 3) := by decide +kernel
theorem dX12_makeTold_19 : decode cX12_makeTold 19 = .ok (.iload_n 2, 1) := by decide +kernel
theorem dX12_makeTold_20 : decode cX12_makeTold 20 = .ok (.iaload, 1) := by decide +kernel
theorem dX12_makeTold_21 : decode cX12_makeTold 21 = .ok (.invokestatic 173, 3) := by decide +kernel
theorem dX12_makeTold_24 : decode cX12_makeTold 24 = .ok (.ifCond .eq 19, 3) := by decide +kernel
theorem dX12_makeTold_27 : decode cX12_makeTold 27 = .ok (.aload_n 0, 1) := by decide +kernel
theorem dX12_makeTold_28 : decode cX12_makeTold 28 = .ok (.aload_n 0, 1) := by decide +kernel
theorem dX12_makeTold_29 : decode cX12_makeTold 29 = .ok (.getfield 44, 3) := by decide +kernel
theorem dX12_makeTold_32 : decode cX12_makeTold 32 = .ok (.iload_n 2, 1) := by decide +kernel
theorem dX12_makeTold_33 : decode cX12_makeTold 33 = .ok (.iaload, 1) := by decide +kernel
theorem dX12_makeTold_34 : decode cX12_makeTold 34 = .ok (.invokevirtual 120, 3) := by decide +kernel
theorem dX12_makeTold_37 : decode cX12_makeTold 37 = .ok (.iinc 2 1, 3) := by decide +kernel
theorem dX12_makeTold_40 : decode cX12_makeTold 40 = .ok (.goto (-33), 3) := by decide +kernel
theorem dX12_makeTold_43 : decode cX12_makeTold 43 = .ok (.iload_n 2, 1) := by decide +kernel
theorem dX12_makeTold_44 : decode cX12_makeTold 44 = .ok (.ireturn, 1) := by decide +kernel
theorem dX12_bringTold_0 : decode cX12_bringTold 0 = .ok (.iload_n 1, 1) := by decide +kernel
theorem dX12_bringTold_1 : decode cX12_bringTold 1 = .ok (.istore 4, 2) := by decide +kernel
theorem dX12_bringTold_3 : decode cX12_bringTold 3 = .ok (.iconst 0, 1) := by decide +kernel
theorem dX12_bringTold_4 : decode cX12_bringTold 4 = .ok (.istore 5, 2) := by decide +kernel
theorem dX12_bringTold_6 : decode cX12_bringTold 6 = .ok (.iload 5, 2) := by decide +kernel
theorem dX12_bringTold_8 : decode cX12_bringTold 8 = .ok (.iload_n 2, 1) := by decide +kernel
theorem dX12_bringTold_9 : decode cX12_bringTold 9 = .ok (.if_icmp .ge 38, 3) := by decide +kernel
theorem dX12_bringTold_12 : decode cX12_bringTold 12 = .ok (.aload_n 0, 1) := by decide +kernel
theorem dX12_bringTold_13 : decode cX12_bringTold 13 = .ok (.iload 4, 2) := by decide +kernel
theorem dX12_bringTold_15 : decode cX12_bringTold 15 = .ok (.invokevirtual 326, 3) := by decide +kernel
theorem dX12_bringTold_18 : decode cX12_bringTold 18 = .ok (.iconst 1, 1) := by decide +kernel
theorem dX12_bringTold_19 : decode cX12_bringTold 19 = .ok (.iadd, 1) := by decide +kernel
theorem dX12_bringTold_20 : decode cX12_bringTold 20 = .ok (.istore 4, 2) := by decide +kernel
theorem dX12_bringTold_22 : decode cX12_bringTold 22 = .ok (.aload_n 0, 1) := by decide +kernel
theorem dX12_bringTold_23 : decode cX12_bringTold 23 = .ok (.sipush 429, 3) := by decide +kernel
theorem dX12_bringTold_26 : decode cX12_bringTold 26 = .ok (.invokevirtual 329, 3) := by decide +kernel
theorem dX12_bringTold_29 : decode cX12_bringTold 29 = .ok (.pop, 1) := by decide +kernel
theorem dX12_bringTold_30 : decode cX12_bringTold 30 = .ok (.aload_n 0, 1) := by decide +kernel
theorem dX12_bringTold_31 : decode cX12_bringTold 31 = .ok (.sipush 429, 3) := by decide +kernel
theorem dX12_bringTold_34 : decode cX12_bringTold 34 = .ok (.iload_n 3, 1) := by decide +kernel
theorem dX12_bringTold_35 : decode cX12_bringTold 35 = .ok (.iload 5, 2) := by decide +kernel
theorem dX12_bringTold_37 : decode cX12_bringTold 37 = .ok (.iadd, 1) := by decide +kernel
theorem dX12_bringTold_38 : decode cX12_bringTold 38 = .ok (.invokevirtual 332, 3) := by decide +kernel
theorem dX12_bringTold_41 : decode cX12_bringTold 41 = .ok (.iinc 5 1, 3) := by decide +kernel
theorem dX12_bringTold_44 : decode cX12_bringTold 44 = .ok (.goto (-38), 3) := by decide +kernel
theorem dX12_bringTold_47 : decode cX12_bringTold 47 = .ok (.return_, 1) := by decide +kernel
theorem dX12_append_0 : decode cX12_append 0 = .ok (.aload_n 0, 1) := by decide +kernel
theorem dX12_append_1 : decode cX12_append 1 = .ok (.iload_n 1, 1) := by decide +kernel
theorem dX12_append_2 : decode cX12_append 2 = .ok (.invokevirtual 335, 3) := by decide +kernel
theorem dX12_append_5 : decode cX12_append 5 = .ok (.istore_n 3, 1) := by decide +kernel
theorem dX12_append_6 : decode cX12_append 6 = .ok (.aload_n 0, 1) := by decide +kernel
theorem dX12_append_7 : decode cX12_append 7 = .ok (.getfield 124, 3) := by decide +kernel
theorem dX12_append_10 : decode cX12_append 10 = .ok (.iload_n 3, 1) := by decide +kernel
theorem dX12_append_11 : decode cX12_append 11 = .ok (.iadd, 1) := by decide +kernel
theorem dX12_append_12 : decode cX12_append 12 = .ok (.bipush 40, 2) := by decide +kernel
theorem dX12_append_14 : decode cX12_append 14 = .ok (.if_icmp .le 5, 3) := by decide +kernel
theorem dX12_append_17 : decode cX12_append 17 = .ok (.iconst 4, 1) := by decide +kernel
theorem dX12_append_18 : decode cX12_append 18 = .ok (.ireturn, 1) := by decide +kernel
theorem dX12_append_19 : decode cX12_append 19 = .ok (.aload_n 0, 1) := by decide +kernel
theorem dX12_append_20 : decode cX12_append 20 = .ok (.iload_n 1, 1) := by decide +kernel
theorem dX12_append_21 : decode cX12_append 21 = .ok (.iload_n 3, 1) := by decide +kernel
theorem dX12_append_22 : decode cX12_append 22 = .ok (.iload_n 2, 1) := by decide +kernel
theorem dX12_append_23 : decode cX12_append 23 = .ok (.invokevirtual 338, 3) := by decide +kernel
theorem dX12_append_26 : decode cX12_append 26 = .ok (.aload_n 0, 1) := by decide +kernel
theorem dX12_append_27 : decode cX12_append 27 = .ok (.iload_n 2, 1) := by decide +kernel
theorem dX12_append_28 : decode cX12_append 28 = .ok (.iload_n 3, 1) := by decide +kernel
theorem dX12_append_29 : decode cX12_append 29 = .ok (.iadd, 1) := by decide +kernel
theorem dX12_append_30 : decode cX12_append 30 = .ok (.putfield 295, 3) := by decide +kernel
theorem dX12_append_33 : decode cX12_append 33 = .ok (.iconst 0, 1) := by decide +kernel
theorem dX12_append_34 : decode cX12_append 34 = .ok (.ireturn, 1) := by decide +kernel
theorem dX12_goAll_0 : decode cX12_goAll 0 = .ok (.aload_n 0, 1) := by decide +kernel
theorem dX12_goAll_1 : decode cX12_goAll 1 = .ok (.getfield 317, 3) := by decide +kernel
theorem dX12_goAll_4 : decode cX12_goAll 4 = .ok (.istore_n 1, 1) := by decide +kernel
theorem dX12_goAll_5 : decode cX12_goAll 5 = .ok (.iload_n 1, 1) := by decide +kernel
theorem dX12_goAll_6 : decode cX12_goAll 6 = .ok (.aload_n 0, 1) := by decide +kernel
theorem dX12_goAll_7 : decode cX12_goAll 7 = .ok (.getfield 320, 3) := by decide +kernel
theorem dX12_goAll_10 : decode cX12_goAll 10 = .ok (.if_icmp .gt 17, 3) := by decide +kernel
theorem dX12_goAll_13 : decode cX12_goAll 13 = .ok (.aload_n 0, 1) := by decide +kernel
theorem dX12_goAll_14 : decode cX12_goAll 14 = .ok (.aload_n 0, 1) := by decide +kernel
theorem dX12_goAll_15 : decode cX12_goAll 15 = .ok (.getfield 317, 3) := by decide +kernel
theorem dX12_goAll_18 : decode cX12_goAll 18 = .ok (.invokevirtual 342, 3) := by decide +kernel
theorem dX12_goAll_21 : decode cX12_goAll 21 = .ok (.iinc 1 1, 3) := by decide +kernel
theorem dX12_goAll_24 : decode cX12_goAll 24 = .ok (.goto (-19), 3) := by decide +kernel
theorem dX12_goAll_27 : decode cX12_goAll 27 = .ok (.return_, 1) := by decide +kernel
theorem dX12_change_0 : decode cX12_change 0 = .ok (.aload_n 0, 1) := by decide +kernel
theorem dX12_change_1 : decode cX12_change 1 = .ok (.iload_n 1, 1) := by decide +kernel
theorem dX12_change_2 : decode cX12_change 2 = .ok (.invokevirtual 335, 3) := by decide +kernel
theorem dX12_change_5 : decode cX12_change 5 = .ok (.istore_n 2, 1) := by decide +kernel
theorem dX12_change_6 : decode cX12_change 6 = .ok (.aload_n 0, 1) := by decide +kernel
theorem dX12_change_7 : decode cX12_change 7 = .ok (.getfield 124, 3) := by decide +kernel
theorem dX12_change_10 : decode cX12_change 10 = .ok (.aload_n 0, 1) := by decide +kernel
theorem dX12_change_11 : decode cX12_change 11 = .ok (.getfield 320, 3) := by decide +kernel
theorem dX12_change_14 : decode cX12_change 14 = .ok (.aload_n 0, 1) := by decide +kernel
theorem dX12_change_15 : decode cX12_change 15 = .ok (.getfield 317, 3) := by decide +kernel
theorem dX12_change_18 : decode cX12_change 18 = .ok (.isub, 1) := by decide +kernel
theorem dX12_change_19 : decode cX12_change 19 = .ok (.iconst 1, 1) := by decide +kernel
theorem dX12_change_20 : decode cX12_change 20 = .ok (.iadd, 1) := by decide +kernel
theorem dX12_change_21 : decode cX12_change 21 = .ok (.isub, 1) := by decide +kernel
theorem dX12_change_22 : decode cX12_change 22 = .ok (.iload_n 2, 1) := by decide +kernel
theorem dX12_change_23 : decode cX12_change 23 = .ok (.iadd, 1) := by decide +kernel
theorem dX12_change_24 : decode cX12_change 24 = .ok (.bipush 40, 2) := by decide +kernel
theorem dX12_change_26 : decode cX12_change 26 = .ok (.if_icmp .le 5, 3) := by decide +kernel
theorem dX12_change_29 : decode cX12_change 29 = .ok (.iconst 4, 1) := by decide +kernel
theorem dX12_change_30 : decode cX12_change 30 = .ok (.ireturn, 1) := by decide +kernel
theorem dX12_change_31 : decode cX12_change 31 = .ok (.aload_n 0, 1) := by decide +kernel
theorem dX12_change_32 : decode cX12_change 32 = .ok (.invokevirtual 345, 3) := by decide +kernel
theorem dX12_change_35 : decode cX12_change 35 = .ok (.aload_n 0, 1) := by decide +kernel
theorem dX12_change_36 : decode cX12_change 36 = .ok (.iload_n 1, 1) := by decide +kernel
theorem dX12_change_37 : decode cX12_change 37 = .ok (.iload_n 2, 1) := by decide +kernel
theorem dX12_change_38 : decode cX12_change 38 = .ok (.aload_n 0, 1) := by decide +kernel
theorem dX12_change_39 : decode cX12_change 39 = .ok (.getfield 317, 3) := by decide +kernel
theorem dX12_change_42 : decode cX12_change 42 = .ok (.iconst 1, 1) := by decide +kernel
theorem dX12_change_43 : decode cX12_change 43 = .ok (.isub, 1) := by decide +kernel
theorem dX12_change_44 : decode cX12_change 44 = .ok (.invokevirtual 338, 3) := by decide +kernel
theorem dX12_change_47 : decode cX12_change 47 = .ok (.aload_n 0, 1) := by decide +kernel
theorem dX12_change_48 : decode cX12_change 48 = .ok (.aload_n 0, 1) := by decide +kernel
theorem dX12_change_49 : decode cX12_change 49 = .ok (.getfield 317, 3) := by decide +kernel
theorem dX12_change_52 : decode cX12_change 52 = .ok (.iconst 1, 1) := by decide +kernel
theorem dX12_change_53 : decode cX12_change 53 = .ok (.isub, 1) := by decide +kernel
theorem dX12_change_54 : decode cX12_change 54 = .ok (.iload_n 2, 1) := by decide +kernel
theorem dX12_change_55 : decode cX12_change 55 = .ok (.iadd, 1) := by decide +kernel
theorem dX12_change_56 : decode cX12_change 56 = .ok (.putfield 295, 3) := by decide +kernel
theorem dX12_change_59 : decode cX12_change 59 = .ok (.iconst 0, 1) := by decide +kernel
theorem dX12_change_60 : decode cX12_change 60 = .ok (.ireturn, 1) := by decide +kernel
theorem dX12_delete_0 : decode cX12_delete 0 = .ok (.aload_n 0, 1) := by decide +kernel
theorem dX12_delete_1 : decode cX12_delete 1 = .ok (.invokevirtual 345, 3) := by decide +kernel
theorem dX12_delete_4 : decode cX12_delete 4 = .ok (.aload_n 0, 1) := by decide +kernel
theorem dX12_delete_5 : decode cX12_delete 5 = .ok (.aload_n 0, 1) := by decide +kernel
theorem dX12_delete_6 : decode cX12_delete 6 = .ok (.getfield 317, 3) := by decide +kernel
theorem dX12_delete_9 : decode cX12_delete 9 = .ok (.aload_n 0, 1) := by decide +kernel
theorem dX12_delete_10 : decode cX12_delete 10 = .ok (.getfield 124, 3) := by decide +kernel
theorem dX12_delete_13 : decode cX12_delete 13 = .ok (.if_icmp .gt 10, 3) := by decide +kernel
theorem dX12_delete_16 : decode cX12_delete 16 = .ok (.aload_n 0, 1) := by decide +kernel
theorem dX12_delete_17 : decode cX12_delete 17 = .ok (.getfield 317, 3) := by decide +kernel
theorem dX12_delete_20 : decode cX12_delete 20 = .ok (.goto 7, 3) := by decide +kernel
theorem dX12_delete_23 : decode cX12_delete 23 = .ok (.aload_n 0, 1) := by decide +kernel
theorem dX12_delete_24 : decode cX12_delete 24 = .ok (.getfield 124, 3) := by decide +kernel
theorem dX12_delete_27 : decode cX12_delete 27 = .ok (.putfield 295, 3) := by decide +kernel
theorem dX12_delete_30 : decode cX12_delete 30 = .ok (.iconst 0, 1) := by decide +kernel
theorem dX12_delete_31 : decode cX12_delete 31 = .ok (.ireturn, 1) := by decide +kernel
theorem dX12_join_0 : decode cX12_join 0 = .ok (.aload_n 0, 1) := by decide +kernel
theorem dX12_join_1 : decode cX12_join 1 = .ok (.getfield 317, 3) := by decide +kernel
theorem dX12_join_4 : decode cX12_join 4 = .ok (.aload_n 0, 1) := by decide +kernel
theorem dX12_join_5 : decode cX12_join 5 = .ok (.getfield 320, 3) := by decide +kernel
theorem dX12_join_8 : decode cX12_join 8 = .ok (.if_icmp .ne 16, 3) := by decide +kernel
theorem dX12_join_11 : decode cX12_join 11 = .ok (.aload_n 0, 1) := by decide +kernel
theorem dX12_join_12 : decode cX12_join 12 = .ok (.getfield 317, 3) := by decide +kernel
theorem dX12_join_15 : decode cX12_join 15 = .ok (.aload_n 0, 1) := by decide +kernel
theorem dX12_join_16 : decode cX12_join 16 = .ok (.getfield 124, 3) := by decide +kernel
theorem dX12_join_19 : decode cX12_join 19 = .ok (.if_icmp .ne 5, 3) := by decide +kernel
theorem dX12_join_22 : decode cX12_join 22 = .ok (.iconst 1, 1) := by decide +kernel
theorem dX12_join_23 : decode cX12_join 23 = .ok (.ireturn, 1) := by decide +kernel
theorem dX12_join_24 : decode cX12_join 24 = .ok (.aload_n 0, 1) := by decide +kernel
theorem dX12_join_25 : decode cX12_join 25 = .ok (.aload_n 0, 1) := by decide +kernel
theorem dX12_join_26 : decode cX12_join 26 = .ok (.getfield 317, 3) := by decide +kernel
theorem dX12_join_29 : decode cX12_join 29 = .ok (.aload_n 0, 1) := by decide +kernel
theorem dX12_join_30 : decode cX12_join 30 = .ok (.getfield 320, 3) := by decide +kernel
theorem dX12_join_33 : decode cX12_join 33 = .ok (.if_icmp .ne 12, 3) := by decide +kernel
theorem dX12_join_36 : decode cX12_join 36 = .ok (.aload_n 0, 1) := by decide +kernel
theorem dX12_join_37 : decode cX12_join 37 = .ok (.getfield 317, 3) := by decide +kernel
theorem dX12_join_40 : decode cX12_join 40 = .ok (.iconst 1, 1) := by decide +kernel
theorem dX12_join_41 : decode cX12_join 41 = .ok (.iadd, 1) := by decide +kernel
theorem dX12_join_42 : decode cX12_join 42 = .ok (.goto 7, 3) := by decide +kernel
theorem dX12_join_45 : decode cX12_join 45 = .ok (.aload_n 0, 1) := by decide +kernel
theorem dX12_join_46 : decode cX12_join 46 = .ok (.getfield 320, 3) := by decide +kernel
theorem dX12_join_49 : decode cX12_join 49 = .ok (.putfield 320, 3) := by decide +kernel
theorem dX12_join_52 : decode cX12_join 52 = .ok (.aload_n 0, 1) := by decide +kernel
theorem dX12_join_53 : decode cX12_join 53 = .ok (.iconst 0, 1) := by decide +kernel
theorem dX12_join_54 : decode cX12_join 54 = .ok (.putfield 117, 3) := by decide +kernel
theorem dX12_join_57 : decode cX12_join 57 = .ok (.aload_n 0, 1) := by decide +kernel
theorem dX12_join_58 : decode cX12_join 58 = .ok (.getfield 317, 3) := by decide +kernel
theorem dX12_join_61 : decode cX12_join 61 = .ok (.istore_n 1, 1) := by decide +kernel
theorem dX12_join_62 : decode cX12_join 62 = .ok (.iload_n 1, 1) := by decide +kernel
theorem dX12_join_63 : decode cX12_join 63 = .ok (.aload_n 0, 1) := by decide +kernel
theorem dX12_join_64 : decode cX12_join 64 = .ok (.getfield 320, 3) := by decide +kernel
theorem dX12_join_67 : decode cX12_join 67 = .ok (.if_icmp .gt 26, 3) := by decide +kernel
theorem dX12_join_70 : decode cX12_join 70 = .ok (.aload_n 0, 1) := by decide +kernel
theorem dX12_join_71 : decode cX12_join 71 = .ok (.iload_n 1, 1) := by decide +kernel
theorem dX12_join_72 : decode cX12_join 72 = .ok (.invokestatic 298, 3) := by decide +kernel
theorem dX12_join_75 : decode cX12_join 75 = .ok (.iconst 0, 1) := by decide +kernel
theorem dX12_join_76 : decode cX12_join 76 = .ok (.aload_n 0, 1) := by decide +kernel
theorem dX12_join_77 : decode cX12_join 77 = .ok (.iload_n 1, 1) := by decide +kernel
theorem dX12_join_78 : decode cX12_join 78 = .ok (.invokestatic 298, 3) := by decide +kernel
theorem dX12_join_81 : decode cX12_join 81 = .ok (.invokevirtual 109, 3) := by decide +kernel
theorem dX12_join_84 : decode cX12_join 84 = .ok (.invokevirtual 348, 3) := by decide +kernel
theorem dX12_join_87 : decode cX12_join 87 = .ok (.iinc 1 1, 3) := by decide +kernel
theorem dX12_join_90 : decode cX12_join 90 = .ok (.goto (-28), 3) := by decide +kernel
theorem dX12_join_93 : decode cX12_join 93 = .ok (.aload_n 0, 1) := by decide +kernel
theorem dX12_join_94 : decode cX12_join 94 = .ok (.aload_n 0, 1) := by decide +kernel
theorem dX12_join_95 : decode cX12_join 95 = .ok (.getfield 317, 3) := by decide +kernel
theorem dX12_join_98 : decode cX12_join 98 = .ok (.invokestatic 298, 3) := by decide +kernel
theorem dX12_join_101 : decode cX12_join 101 = .ok (.invokevirtual 329, 3) := by decide +kernel
theorem dX12_join_104 : decode cX12_join 104 = .ok (.ifCond .ne 5, 3) := by decide +kernel
theorem dX12_join_107 : decode cX12_join 107 = .ok (.iconst 4, 1) := by decide +kernel
theorem dX12_join_108 : decode cX12_join 108 = .ok (.ireturn, 1) := by decide +kernel
theorem dX12_join_109 : decode cX12_join 109 = .ok (.aload_n 0, 1) := by decide +kernel
theorem dX12_join_110 : decode cX12_join 110 = .ok (.getfield 317, 3) := by decide +kernel
theorem dX12_join_113 : decode cX12_join 113 = .ok (.istore_n 1, 1) := by decide +kernel
theorem dX12_join_114 : decode cX12_join 114 = .ok (.iload_n 1, 1) := by decide +kernel
theorem dX12_join_115 : decode cX12_join 115 = .ok (.aload_n 0, 1) := by decide +kernel
theorem dX12_join_116 : decode cX12_join 116 = .ok (.getfield 320, 3) := by decide +kernel
theorem dX12_join_119 : decode cX12_join 119 = .ok (.if_icmp .ge 19, 3) := by decide +kernel
theorem dX12_join_122 : decode cX12_join 122 = .ok (.aload_n 0, 1) := by decide +kernel
theorem dX12_join_123 : decode cX12_join 123 = .ok (.aload_n 0, 1) := by decide +kernel
theorem dX12_join_124 : decode cX12_join 124 = .ok (.getfield 317, 3) := by decide +kernel
theorem dX12_join_127 : decode cX12_join 127 = .ok (.iconst 1, 1) := by decide +kernel
theorem dX12_join_128 : decode cX12_join 128 = .ok (.iadd, 1) := by decide +kernel
theorem dX12_join_129 : decode cX12_join 129 = .ok (.invokevirtual 342, 3) := by decide +kernel
theorem dX12_join_132 : decode cX12_join 132 = .ok (.iinc 1 1, 3) := by decide +kernel
theorem dX12_join_135 : decode cX12_join 135 = .ok (.goto (-21), 3) := by decide +kernel
theorem dX12_join_138 : decode cX12_join 138 = .ok (.aload_n 0, 1) := by decide +kernel
theorem dX12_join_139 : decode cX12_join 139 = .ok (.aload_n 0, 1) := by decide +kernel
theorem dX12_join_140 : decode cX12_join 140 = .ok (.getfield 317, 3) := by decide +kernel
theorem dX12_join_143 : decode cX12_join 143 = .ok (.putfield 295, 3) := by decide +kernel
theorem dX12_join_146 : decode cX12_join 146 = .ok (.iconst 0, 1) := by decide +kernel
theorem dX12_join_147 : decode cX12_join 147 = .ok (.ireturn, 1) := by decide +kernel
theorem dX12_part_0 : decode cX12_part 0 = .ok (.aload_n 0, 1) := by decide +kernel
theorem dX12_part_1 : decode cX12_part 1 = .ok (.getfield 317, 3) := by decide +kernel
theorem dX12_part_4 : decode cX12_part 4 = .ok (.istore_n 2, 1) := by decide +kernel
theorem dX12_part_5 : decode cX12_part 5 = .ok (.aload_n 0, 1) := by decide +kernel
theorem dX12_part_6 : decode cX12_part 6 = .ok (.getfield 320, 3) := by decide +kernel
theorem dX12_part_9 : decode cX12_part 9 = .ok (.istore_n 3, 1) := by decide +kernel
theorem dX12_part_10 : decode cX12_part 10 = .ok (.iload_n 2, 1) := by decide +kernel
theorem dX12_part_11 : decode cX12_part 11 = .ok (.iload_n 3, 1) := by decide +kernel
theorem dX12_part_12 : decode cX12_part 12 = .ok (.if_icmp .gt 85, 3) := by decide +kernel
theorem dX12_part_15 : decode cX12_part 15 = .ok (.aload_n 0, 1) := by decide +kernel
theorem dX12_part_16 : decode cX12_part 16 = .ok (.iload_n 2, 1) := by decide +kernel
theorem dX12_part_17 : decode cX12_part 17 = .ok (.invokestatic 298, 3) := by decide +kernel
theorem dX12_part_20 : decode cX12_part 20 = .ok (.invokevirtual 109, 3) := by decide +kernel
theorem dX12_part_23 : decode cX12_part 23 = .ok (.iload_n 1, 1) := by decide +kernel
theorem dX12_part_24 : decode cX12_part 24 = .ok (.if_icmp .le 67, 3) := by decide +kernel
theorem dX12_part_27 : decode cX12_part 27 = .ok (.aload_n 0, 1) := by decide +kernel
theorem dX12_part_28 : decode cX12_part 28 = .ok (.getfield 124, 3) := by decide +kernel
theorem dX12_part_31 : decode cX12_part 31 = .ok (.bipush 40, 2) := by decide +kernel
theorem dX12_part_33 : decode cX12_part 33 = .ok (.if_icmp .ne 5, 3) := by decide +kernel
theorem dX12_part_36 : decode cX12_part 36 = .ok (.iconst 4, 1) := by decide +kernel
theorem dX12_part_37 : decode cX12_part 37 = .ok (.ireturn, 1) := by decide +kernel
theorem dX12_part_38 : decode cX12_part 38 = .ok (.aload_n 0, 1) := by decide +kernel
theorem dX12_part_39 : decode cX12_part 39 = .ok (.iconst 0, 1) := by decide +kernel
theorem dX12_part_40 : decode cX12_part 40 = .ok (.putfield 117, 3) := by decide +kernel
theorem dX12_part_43 : decode cX12_part 43 = .ok (.aload_n 0, 1) := by decide +kernel
theorem dX12_part_44 : decode cX12_part 44 = .ok (.iload_n 2, 1) := by decide +kernel
theorem dX12_part_45 : decode cX12_part 45 = .ok (.invokestatic 298, 3) := by decide +kernel
theorem dX12_part_48 : decode cX12_part 48 = .ok (.iload_n 1, 1) := by decide +kernel
theorem dX12_part_49 : decode cX12_part 49 = .ok (.aload_n 0, 1) := by decide +kernel
theorem dX12_part_50 : decode cX12_part 50 = .ok (.iload_n 2, 1) := by decide +kernel
theorem dX12_part_51 : decode cX12_part 51 = .ok (.invokestatic 298, 3) := by decide +kernel
theorem dX12_part_54 : decode cX12_part 54 = .ok (.invokevirtual 109, 3) := by decide +kernel
theorem dX12_part_57 : decode cX12_part 57 = .ok (.invokevirtual 348, 3) := by decide +kernel
theorem dX12_part_60 : decode cX12_part 60 = .ok (.aload_n 0, 1) := by decide +kernel
theorem dX12_part_61 : decode cX12_part 61 = .ok (.sipush 429, 3) := by decide +kernel
theorem dX12_part_64 : decode cX12_part 64 = .ok (.invokevirtual 329, 3) := by decide +kernel
theorem dX12_part_67 : decode cX12_part 67 = .ok (.pop, 1) := by decide +kernel
theorem dX12_part_68 : decode cX12_part 68 = .ok (.aload_n 0, 1) := by decide +kernel
theorem dX12_part_69 : decode cX12_part 69 = .ok (.sipush 429, 3) := by decide +kernel
theorem dX12_part_72 : decode cX12_part 72 = .ok (.iload_n 2, 1) := by decide +kernel
theorem dX12_part_73 : decode cX12_part 73 = .ok (.invokevirtual 332, 3) := by decide +kernel
theorem dX12_part_76 : decode cX12_part 76 = .ok (.aload_n 0, 1) := by decide +kernel
theorem dX12_part_77 : decode cX12_part 77 = .ok (.iload_n 2, 1) := by decide +kernel
theorem dX12_part_78 : decode cX12_part 78 = .ok (.invokestatic 298, 3) := by decide +kernel
theorem dX12_part_81 : decode cX12_part 81 = .ok (.iload_n 1, 1) := by decide +kernel
theorem dX12_part_82 : decode cX12_part 82 = .ok (.invokevirtual 351, 3) := by decide +kernel
theorem dX12_part_85 : decode cX12_part 85 = .ok (.iinc 2 1, 3) := by decide +kernel
theorem dX12_part_88 : decode cX12_part 88 = .ok (.iinc 3 1, 3) := by decide +kernel
theorem dX12_part_91 : decode cX12_part 91 = .ok (.iinc 2 1, 3) := by decide +kernel
theorem dX12_part_94 : decode cX12_part 94 = .ok (.goto (-84), 3) := by decide +kernel
theorem dX12_part_97 : decode cX12_part 97 = .ok (.aload_n 0, 1) := by decide +kernel
theorem dX12_part_98 : decode cX12_part 98 = .ok (.iload_n 3, 1) := by decide +kernel
theorem dX12_part_99 : decode cX12_part 99 = .ok (.putfield 295, 3) := by decide +kernel
theorem dX12_part_102 : decode cX12_part 102 = .ok (.iconst 0, 1) := by decide +kernel
theorem dX12_part_103 : decode cX12_part 103 = .ok (.ireturn, 1) := by decide +kernel
theorem dX12_lessAlike_0 : decode cX12_lessAlike 0 = .ok (.aload_n 0, 1) := by decide +kernel
theorem dX12_lessAlike_1 : decode cX12_lessAlike 1 = .ok (.getfield 317, 3) := by decide +kernel
theorem dX12_lessAlike_4 : decode cX12_lessAlike 4 = .ok (.istore_n 1, 1) := by decide +kernel
theorem dX12_lessAlike_5 : decode cX12_lessAlike 5 = .ok (.aload_n 0, 1) := by decide +kernel
theorem dX12_lessAlike_6 : decode cX12_lessAlike 6 = .ok (.getfield 317, 3) := by decide +kernel
theorem dX12_lessAlike_9 : decode cX12_lessAlike 9 = .ok (.iconst 1, 1) := by decide +kernel
theorem dX12_lessAlike_10 : decode cX12_lessAlike 10 = .ok (.iadd, 1) := by decide +kernel
theorem dX12_lessAlike_11 : decode cX12_lessAlike 11 = .ok (.istore_n 2, 1) := by decide +kernel
theorem dX12_lessAlike_12 : decode cX12_lessAlike 12 = .ok (.aload_n 0, 1) := by decide +kernel
theorem dX12_lessAlike_13 : decode cX12_lessAlike 13 = .ok (.getfield 320, 3) := by decide +kernel
theorem dX12_lessAlike_16 : decode cX12_lessAlike 16 = .ok (.istore_n 3, 1) := by decide +kernel
theorem dX12_lessAlike_17 : decode cX12_lessAlike 17 = .ok (.iload_n 2, 1) := by decide +kernel
theorem dX12_lessAlike_18 : decode cX12_lessAlike 18 = .ok (.iload_n 3, 1) := by decide +kernel
theorem dX12_lessAlike_19 : decode cX12_lessAlike 19 = .ok (.if_icmp .gt 37, 3) := by decide +kernel
theorem dX12_lessAlike_22 : decode cX12_lessAlike 22 = .ok (.aload_n 0, 1) := by decide +kernel
theorem dX12_lessAlike_23 : decode cX12_lessAlike 23 = .ok (.iload_n 2, 1) := by decide +kernel
theorem dX12_lessAlike_24 : decode cX12_lessAlike 24 = .ok (.invokestatic 298, 3) := by decide +kernel
theorem dX12_lessAlike_27 : decode cX12_lessAlike 27 = .ok (.iload_n 1, 1) := by decide +kernel
theorem dX12_lessAlike_28 : decode cX12_lessAlike 28 = .ok (.invokestatic 298, 3) := by decide +kernel
theorem dX12_lessAlike_31 : decode cX12_lessAlike 31 = .ok (.invokevirtual 354, 3) := by decide +kernel
theorem dX12_lessAlike_34 : decode cX12_lessAlike 34 = .ok (.ifCond .eq 14, 3) := by decide +kernel
theorem dX12_lessAlike_37 : decode cX12_lessAlike 37 = .ok (.aload_n 0, 1) := by decide +kernel
theorem dX12_lessAlike_38 : decode cX12_lessAlike 38 = .ok (.iload_n 2, 1) := by decide +kernel
theorem dX12_lessAlike_39 : decode cX12_lessAlike 39 = .ok (.invokevirtual 342, 3) := by decide +kernel
theorem dX12_lessAlike_42 : decode cX12_lessAlike 42 = .ok (.iinc 3 (-1), 3) := by decide +kernel
theorem dX12_lessAlike_45 : decode cX12_lessAlike 45 = .ok (.goto (-28), 3) := by decide +kernel
theorem dX12_lessAlike_48 : decode cX12_lessAlike 48 = .ok (.iload_n 2, 1) := by decide +kernel
theorem dX12_lessAlike_49 : decode cX12_lessAlike 49 = .ok (.istore_n 1, 1) := by decide +kernel
theorem dX12_lessAlike_50 : decode cX12_lessAlike 50 = .ok (.iinc 2 1, 3) := by decide +kernel
theorem dX12_lessAlike_53 : decode cX12_lessAlike 53 = .ok (.goto (-36), 3) := by decide +kernel
theorem dX12_lessAlike_56 : decode cX12_lessAlike 56 = .ok (.aload_n 0, 1) := by decide +kernel
theorem dX12_lessAlike_57 : decode cX12_lessAlike 57 = .ok (.iload_n 1, 1) := by decide +kernel
theorem dX12_lessAlike_58 : decode cX12_lessAlike 58 = .ok (.putfield 295, 3) := by decide +kernel
theorem dX12_lessAlike_61 : decode cX12_lessAlike 61 = .ok (.iconst 0, 1) := by decide +kernel
theorem dX12_lessAlike_62 : decode cX12_lessAlike 62 = .ok (.ireturn, 1) := by decide +kernel
theorem dX12_tells_0 : decode cX12_tells 0 = .ok (.aload_n 0, 1) := by decide +kernel
theorem dX12_tells_1 : decode cX12_tells 1 = .ok (.getfield 357, 3) := by decide +kernel
theorem dX12_tells_4 : decode cX12_tells 4 = .ok (.bipush 100, 2) := by decide +kernel
theorem dX12_tells_6 : decode cX12_tells 6 = .ok (.if_icmp .eq 18, 3) := by decide +kernel
theorem dX12_tells_9 : decode cX12_tells 9 = .ok (.aload_n 0, 1) := by decide +kernel
theorem dX12_tells_10 : decode cX12_tells 10 = .ok (.sipush 287, 3) := by decide +kernel
theorem dX12_tells_13 : decode cX12_tells 13 = .ok (.aload_n 0, 1) := by decide +kernel
theorem dX12_tells_14 : decode cX12_tells 14 = .ok (.getfield 357, 3) := by decide +kernel
theorem dX12_tells_17 : decode cX12_tells 17 = .ok (.iadd, 1) := by decide +kernel
theorem dX12_tells_18 : decode cX12_tells 18 = .ok (.invokevirtual 329, 3) := by decide +kernel
theorem dX12_tells_21 : decode cX12_tells 21 = .ok (.ifCond .ne 5, 3) := by decide +kernel
theorem dX12_tells_24 : decode cX12_tells 24 = .ok (.iconst 4, 1) := by decide +kernel
theorem dX12_tells_25 : decode cX12_tells 25 = .ok (.ireturn, 1) := by decide +kernel
theorem dX12_tells_26 : decode cX12_tells 26 = .ok (.aload_n 0, 1) := by decide +kernel
theorem dX12_tells_27 : decode cX12_tells 27 = .ok (.dup, 1) := by decide +kernel
theorem dX12_tells_28 : decode cX12_tells 28 = .ok (.getfield 357, 3) := by decide +kernel
theorem dX12_tells_31 : decode cX12_tells 31 = .ok (.iconst 1, 1) := by decide +kernel
theorem dX12_tells_32 : decode cX12_tells 32 = .ok (.iadd, 1) := by decide +kernel
theorem dX12_tells_33 : decode cX12_tells 33 = .ok (.putfield 357, 3) := by decide +kernel
theorem dX12_tells_36 : decode cX12_tells 36 = .ok (.iconst 0, 1) := by decide +kernel
theorem dX12_tells_37 : decode cX12_tells 37 = .ok (.ireturn, 1) := by decide +kernel
theorem dX12_print_0 : decode cX12_print 0 = .ok (.aload_n 0, 1) := by decide +kernel
theorem dX12_print_1 : decode cX12_print 1 = .ok (.getfield 317, 3) := by decide +kernel
theorem dX12_print_4 : decode cX12_print 4 = .ok (.istore_n 2, 1) := by decide +kernel
theorem dX12_print_5 : decode cX12_print 5 = .ok (.iload_n 2, 1) := by decide +kernel
theorem dX12_print_6 : decode cX12_print 6 = .ok (.aload_n 0, 1) := by decide +kernel
theorem dX12_print_7 : decode cX12_print 7 = .ok (.getfield 320, 3) := by decide +kernel
theorem dX12_print_10 : decode cX12_print 10 = .ok (.if_icmp .gt 55, 3) := by decide +kernel
theorem dX12_print_13 : decode cX12_print 13 = .ok (.aload_n 0, 1) := by decide +kernel
theorem dX12_print_14 : decode cX12_print 14 = .ok (.iconst 0, 1) := by decide +kernel
theorem dX12_print_15 : decode cX12_print 15 = .ok (.putfield 117, 3) := by decide +kernel
theorem dX12_print_18 : decode cX12_print 18 = .ok (.iload_n 1, 1) := by decide +kernel
theorem dX12_print_19 : decode cX12_print 19 = .ok (.ifCond .eq 14, 3) := by decide +kernel
theorem dX12_print_22 : decode cX12_print 22 = .ok (.aload_n 0, 1) := by decide +kernel
theorem dX12_print_23 : decode cX12_print 23 = .ok (.iload_n 2, 1) := by decide +kernel
theorem dX12_print_24 : decode cX12_print 24 = .ok (.invokevirtual 360, 3) := by decide +kernel
theorem dX12_print_27 : decode cX12_print 27 = .ok (.aload_n 0, 1) := by decide +kernel
theorem dX12_print_28 : decode cX12_print 28 = .ok (.bipush 32, 2) := by decide +kernel
theorem dX12_print_30 : decode cX12_print 30 = .ok (.invokevirtual 120, 3) := by decide +kernel
